noncomputable def hB (g0 g1 g2 g3 g4 g5 g6 g7 g8 g9 g10 g11 g12 g13 g14 g15 g16 g17 g18 g19 g20 g21 g22 g23 g24 g25 g26 : Int32) (a0 a1 a2 a3 a4 a5 a6 a7 a8 a9 a10 a11 a12 a13 a14 a15 a16 a17 a18 a19 a20 a21 a22 a23 : (Nat → Int32)) (b0 : (Nat → Int64)) (w0 : Int64) (c0 c1 : Value) : xH := [
  .inr (9, [.int g0, .int g1, .int g2, c0, c1, .ref 1, .int g3, .int g4, .int g5, .int g6, .int g7, .int g8, .int g9, .int g10, .long w0, .ref 2, .ref 3, .ref 4, .ref 5, .int g11, .int g12, .int g13, .ref 6, .ref 7, .int g14, .int g15, .ref 8, .ref 9, .ref 10, .int g16, .int g17, .int g18]),
  .inl (2, 1000, .inl a0),
  .inl (0, 11, .inl a1),
  .inl (0, 11, .inl a2),
  .inl (0, 176, .inl a3),
  .inl (0, 33, .inl a4),
  .inl (0, 3, .inl a5),
  .inl (0, 3, .inl a6),
  .inl (0, 6, .inl a7),
  .inl (0, 6, .inl a8),
  .inl (0, 5, .inl a9),
  .inr (8, [.int g19, .int g20, .int g21, .int g22, .int g23, .int g24, .int g25, .int g26, .ref 12, .ref 13, .ref 14, .ref 15, .ref 16, .ref 17, .ref 18, .ref 19, .ref 20, .ref 21, .ref 22, .ref 23, .ref 24, .ref 25, .ref 26]),
  .inl (0, 6, .inl a10),
  .inl (0, 5, .inl a11),
  .inl (0, 5, .inl a12),
  .inl (0, 5, .inl a13),
  .inl (0, 5, .inl a14),
  .inl (0, 16, .inl a15),
  .inl (0, 16, .inl a16),
  .inl (0, 16, .inl a17),
  .inl (0, 16, .inl a18),
  .inl (0, 6, .inl a19),
  .inl (0, 6, .inl a20),
  .inl (0, 6, .inl a21),
  .inl (1, 11, .inr (.inl b0)),
  .inl (0, 11, .inl a22),
  .inl (0, 11, .inl a23)]
noncomputable def L_hB_X9_feed_23 (p0 : Int32)  (f1 : Int32) (f2 : Int32) (f3 : Int32) (f4 : Int32) (f5 : Int32) (K : Int32 → (Nat → Int32) → Int32 → Option (Int32 × Int32 × (Nat → Int32) × Int32)) : Nat → Int32 → (Nat → Int32) → Int32 → Option (Int32 × Int32 × (Nat → Int32) × Int32)
  | 0, _, _, _ => none
  | n23 + 1, l6_23, ma0_23, mg3_23 => if (20 : Int32) ≤ l6_23 then K l6_23 ma0_23 mg3_23 else if (4 : Int32) ≤ l6_23 then if (8 : Int32) ≤ l6_23 then if (12 : Int32) ≤ l6_23 then if (16 : Int32) ≤ l6_23 then (xix mg3_23 1000 (L_hB_X9_feed_23 p0 f1 f2 f3 f4 f5 K n23 (l6_23 + (1 : Int32)) (upd ma0_23 mg3_23.toNatClampNeg (vp_nar .byte (f5 >>> (((24 : Int32) - ((8 : Int32) * (l6_23 - l6_23 / (4 : Int32) * (4 : Int32)))) &&& 31)).toInt8.toInt32)) (mg3_23 + (1 : Int32)))) else (xix mg3_23 1000 (L_hB_X9_feed_23 p0 f1 f2 f3 f4 f5 K n23 (l6_23 + (1 : Int32)) (upd ma0_23 mg3_23.toNatClampNeg (vp_nar .byte (f4 >>> (((24 : Int32) - ((8 : Int32) * (l6_23 - l6_23 / (4 : Int32) * (4 : Int32)))) &&& 31)).toInt8.toInt32)) (mg3_23 + (1 : Int32)))) else (xix mg3_23 1000 (L_hB_X9_feed_23 p0 f1 f2 f3 f4 f5 K n23 (l6_23 + (1 : Int32)) (upd ma0_23 mg3_23.toNatClampNeg (vp_nar .byte (f3 >>> (((24 : Int32) - ((8 : Int32) * (l6_23 - l6_23 / (4 : Int32) * (4 : Int32)))) &&& 31)).toInt8.toInt32)) (mg3_23 + (1 : Int32)))) else (xix mg3_23 1000 (L_hB_X9_feed_23 p0 f1 f2 f3 f4 f5 K n23 (l6_23 + (1 : Int32)) (upd ma0_23 mg3_23.toNatClampNeg (vp_nar .byte (f2 >>> (((24 : Int32) - ((8 : Int32) * (l6_23 - l6_23 / (4 : Int32) * (4 : Int32)))) &&& 31)).toInt8.toInt32)) (mg3_23 + (1 : Int32)))) else (xix mg3_23 1000 (L_hB_X9_feed_23 p0 f1 f2 f3 f4 f5 K n23 (l6_23 + (1 : Int32)) (upd ma0_23 mg3_23.toNatClampNeg (vp_nar .byte (f1 >>> (((24 : Int32) - ((8 : Int32) * (l6_23 - l6_23 / (4 : Int32) * (4 : Int32)))) &&& 31)).toInt8.toInt32)) (mg3_23 + (1 : Int32))))
noncomputable def e_hB_X9_feed (p0 : Int32) (p1 : Int32) (p2 : (Nat → Int32)) (x1 : Int32) (x2 : Int32) (x3 : Int32) (x4 : Int32) (x5 : Int32) : Option (Int32 × Int32 × (Nat → Int32) × Int32) :=
  if (p1 + (20 : Int32)) ≤ (1000 : Int32) then L_hB_X9_feed_23 (0 : Int32) x1 x2 x3 x4 x5 (fun l6_23 ma0_23 mg3_23 => some (mg3_23, (0 : Int32), ma0_23, mg3_23)) 200000 (0 : Int32) p2 p1 else some ((-1 : Int32), (0 : Int32), p2, p1)
set_option maxRecDepth 100000 in
set_option maxHeartbeats 4000000 in
theorem lp_hB_X9_feed_23 {g0 g1 g2 g4 g5 g6 g7 g8 g9 g10 g11 g12 g13 g14 g15 g16 g17 g18 g19 g20 g21 g22 g23 g24 g25 g26 : Int32} {a1 a2 a3 a4 a5 a6 a7 a8 a9 a10 a11 a12 a13 a14 a15 a16 a17 a18 a19 a20 a21 a22 a23 : (Nat → Int32)} {b0 : (Nat → Int64)} {w0 : Int64} {rv : Value} (d n0 : Nat) (f1 : Int32) (f2 : Int32) (f3 : Int32) (f4 : Int32) (f5 : Int32) (res : Int32 × Int32 × (Nat → Int32) × Int32) (K : Int32 → (Nat → Int32) → Int32 → Option (Int32 × Int32 × (Nat → Int32) × Int32)) (hK : ∀ (l6_23 : Int32) (ma0_23 : (Nat → Int32)) (mg3_23 : Int32), K l6_23 ma0_23 mg3_23 = some res → xW xks YX9_feed (d + 1) 0 0 n0 (xZ 0 0 n0 (some (.int res.1)) (hB res.2.1 g1 g2 res.2.2.2 g4 g5 g6 g7 g8 g9 g10 g11 g12 g13 g14 g15 g16 g17 g18 g19 g20 g21 g22 g23 g24 g25 g26 res.2.2.1 a1 a2 a3 a4 a5 a6 a7 a8 a9 a10 a11 a12 a13 a14 a15 a16 a17 a18 a19 a20 a21 a22 a23 b0 w0 (.ref 11) rv)) 0 0 117 [some (.ref 0), none, none, none, none, none, none, none] [] (hB g0 g1 g2 mg3_23 g4 g5 g6 g7 g8 g9 g10 g11 g12 g13 g14 g15 g16 g17 g18 g19 g20 g21 g22 g23 g24 g25 g26 ma0_23 a1 a2 a3 a4 a5 a6 a7 a8 a9 a10 a11 a12 a13 a14 a15 a16 a17 a18 a19 a20 a21 a22 a23 b0 w0 (.ref 11) rv)) : ∀ (n : Nat) (l6_23 : Int32) (ma0_23 : (Nat → Int32)) (mg3_23 : Int32), L_hB_X9_feed_23 g0 f1 f2 f3 f4 f5 K n l6_23 ma0_23 mg3_23 = some res → xW xks YX9_feed (d + 1) 0 0 n0 (xZ 0 0 n0 (some (.int res.1)) (hB res.2.1 g1 g2 res.2.2.2 g4 g5 g6 g7 g8 g9 g10 g11 g12 g13 g14 g15 g16 g17 g18 g19 g20 g21 g22 g23 g24 g25 g26 res.2.2.1 a1 a2 a3 a4 a5 a6 a7 a8 a9 a10 a11 a12 a13 a14 a15 a16 a17 a18 a19 a20 a21 a22 a23 b0 w0 (.ref 11) rv)) 0 0 23 [some (.ref 0), some (.int f1), some (.int f2), some (.int f3), some (.int f4), some (.int f5), some (.int l6_23), none] [] (hB g0 g1 g2 mg3_23 g4 g5 g6 g7 g8 g9 g10 g11 g12 g13 g14 g15 g16 g17 g18 g19 g20 g21 g22 g23 g24 g25 g26 ma0_23 a1 a2 a3 a4 a5 a6 a7 a8 a9 a10 a11 a12 a13 a14 a15 a16 a17 a18 a19 a20 a21 a22 a23 b0 w0 (.ref 11) rv) := by
  intro n
  induction n with
  | zero =>
    intro l6_23 ma0_23 mg3_23 h
    cases (show (none : Option (Int32 × Int32 × (Nat → Int32) × Int32)) = some res from h)
  | succ n23 ih23 =>
    intro l6_23 ma0_23 mg3_23 h
    unfold L_hB_X9_feed_23 at h
    refine x_iload dX9_feed_23 rfl ?_
    refine x_bipush (20 : Int32) dX9_feed_25 (by decide) ?_
    refine x_icmp_ge 117 dX9_feed_27 (by decide) (fun q => ?_) (fun q => ?_)
    · have h := xif_t q h
      refine x_weak (pl2 := [some (.ref 0), none, none, none, none, none, none, none]) ⟨rfl, trivial⟩ ?_
      exact hK l6_23 ma0_23 mg3_23 h
    · have h := xif_f q h
      refine x_iload dX9_feed_30 rfl ?_
      refine x_iconst (4 : Int32) dX9_feed_32 (by decide) ?_
      refine x_icmp_ge 40 dX9_feed_33 (by decide) (fun q => ?_) (fun q => ?_)
      · have h := xif_t q h
        refine x_iload dX9_feed_40 rfl ?_
        refine x_bipush (8 : Int32) dX9_feed_42 (by decide) ?_
        refine x_icmp_ge 51 dX9_feed_44 (by decide) (fun q => ?_) (fun q => ?_)
        · have h := xif_t q h
          refine x_iload dX9_feed_51 rfl ?_
          refine x_bipush (12 : Int32) dX9_feed_53 (by decide) ?_
          refine x_icmp_ge 62 dX9_feed_55 (by decide) (fun q => ?_) (fun q => ?_)
          · have h := xif_t q h
            refine x_iload dX9_feed_62 rfl ?_
            refine x_bipush (16 : Int32) dX9_feed_64 (by decide) ?_
            refine x_icmp_ge 74 dX9_feed_66 (by decide) (fun q => ?_) (fun q => ?_)
            · have h := xif_t q h
              refine x_iload dX9_feed_74 rfl ?_
              refine x_istore (pl' := [some (.ref 0), some (.int f1), some (.int f2), some (.int f3), some (.int f4), some (.int f5), some (.int l6_23), some (.int f5)]) dX9_feed_76 (by decide) rfl ?_
              refine x_aload_n dX9_feed_78 rfl ?_
              refine x_get fX9_13 dX9_feed_79 rfl rfl rfl ?_
              refine x_aload_n dX9_feed_82 rfl ?_
              refine x_get fX9_309 dX9_feed_83 rfl rfl rfl ?_
              refine x_iload dX9_feed_86 rfl ?_
              refine x_bipush (24 : Int32) dX9_feed_88 (by decide) ?_
              refine x_bipush (8 : Int32) dX9_feed_90 (by decide) ?_
              refine x_iload dX9_feed_92 rfl ?_
              refine x_iconst (4 : Int32) dX9_feed_94 (by decide) ?_
              refine x_irem dX9_feed_95 (by decide) ?_
              refine x_imul dX9_feed_96 ?_
              refine x_isub dX9_feed_97 ?_
              refine x_ishr dX9_feed_98 ?_
              refine x_i2b dX9_feed_99 ?_
              obtain ⟨q100, h⟩ := xix_of h
              refine x_bast (h2 := (hB g0 g1 g2 mg3_23 g4 g5 g6 g7 g8 g9 g10 g11 g12 g13 g14 g15 g16 g17 g18 g19 g20 g21 g22 g23 g24 g25 g26 (upd ma0_23 mg3_23.toNatClampNeg (vp_nar .byte (f5 >>> (((24 : Int32) - ((8 : Int32) * (l6_23 - l6_23 / (4 : Int32) * (4 : Int32)))) &&& 31)).toInt8.toInt32)) a1 a2 a3 a4 a5 a6 a7 a8 a9 a10 a11 a12 a13 a14 a15 a16 a17 a18 a19 a20 a21 a22 a23 b0 w0 (.ref 11) rv)) dX9_feed_100 rfl q100 rfl ?_
              refine x_aload_n dX9_feed_101 rfl ?_
              refine x_dup dX9_feed_102 rfl ?_
              refine x_get fX9_309 dX9_feed_103 rfl rfl rfl ?_
              refine x_iconst (1 : Int32) dX9_feed_106 (by decide) ?_
              refine x_iadd dX9_feed_107 ?_
              refine x_put (h2 := (hB g0 g1 g2 (mg3_23 + (1 : Int32)) g4 g5 g6 g7 g8 g9 g10 g11 g12 g13 g14 g15 g16 g17 g18 g19 g20 g21 g22 g23 g24 g25 g26 (upd ma0_23 mg3_23.toNatClampNeg (vp_nar .byte (f5 >>> (((24 : Int32) - ((8 : Int32) * (l6_23 - l6_23 / (4 : Int32) * (4 : Int32)))) &&& 31)).toInt8.toInt32)) a1 a2 a3 a4 a5 a6 a7 a8 a9 a10 a11 a12 a13 a14 a15 a16 a17 a18 a19 a20 a21 a22 a23 b0 w0 (.ref 11) rv)) fX9_309 dX9_feed_108 rfl rfl (Nat.le_of_ble_eq_true rfl : 6 + 1 ≤ _) (fun α => ⟨rfl, rfl⟩) rfl ?_
              refine x_iincK (1 : Int32) (pl' := [some (.ref 0), some (.int f1), some (.int f2), some (.int f3), some (.int f4), some (.int f5), some (.int (l6_23 + (1 : Int32))), some (.int f5)]) dX9_feed_111 rfl (by decide) (by decide) rfl ?_
              refine x_goto 23 dX9_feed_114 (by decide) ?_
              refine x_weak (pl2 := [some (.ref 0), some (.int f1), some (.int f2), some (.int f3), some (.int f4), some (.int f5), some (.int (l6_23 + (1 : Int32))), none]) ⟨rfl, rfl, rfl, rfl, rfl, rfl, rfl, trivial⟩ ?_
              exact ih23 (l6_23 + (1 : Int32)) (upd ma0_23 mg3_23.toNatClampNeg (vp_nar .byte (f5 >>> (((24 : Int32) - ((8 : Int32) * (l6_23 - l6_23 / (4 : Int32) * (4 : Int32)))) &&& 31)).toInt8.toInt32)) (mg3_23 + (1 : Int32)) h
            · have h := xif_f q h
              refine x_iload dX9_feed_69 rfl ?_
              refine x_goto 76 dX9_feed_71 (by decide) ?_
              refine x_istore (pl' := [some (.ref 0), some (.int f1), some (.int f2), some (.int f3), some (.int f4), some (.int f5), some (.int l6_23), some (.int f4)]) dX9_feed_76 (by decide) rfl ?_
              refine x_aload_n dX9_feed_78 rfl ?_
              refine x_get fX9_13 dX9_feed_79 rfl rfl rfl ?_
              refine x_aload_n dX9_feed_82 rfl ?_
              refine x_get fX9_309 dX9_feed_83 rfl rfl rfl ?_
              refine x_iload dX9_feed_86 rfl ?_
              refine x_bipush (24 : Int32) dX9_feed_88 (by decide) ?_
              refine x_bipush (8 : Int32) dX9_feed_90 (by decide) ?_
              refine x_iload dX9_feed_92 rfl ?_
              refine x_iconst (4 : Int32) dX9_feed_94 (by decide) ?_
              refine x_irem dX9_feed_95 (by decide) ?_
              refine x_imul dX9_feed_96 ?_
              refine x_isub dX9_feed_97 ?_
              refine x_ishr dX9_feed_98 ?_
              refine x_i2b dX9_feed_99 ?_
              obtain ⟨q100, h⟩ := xix_of h
              refine x_bast (h2 := (hB g0 g1 g2 mg3_23 g4 g5 g6 g7 g8 g9 g10 g11 g12 g13 g14 g15 g16 g17 g18 g19 g20 g21 g22 g23 g24 g25 g26 (upd ma0_23 mg3_23.toNatClampNeg (vp_nar .byte (f4 >>> (((24 : Int32) - ((8 : Int32) * (l6_23 - l6_23 / (4 : Int32) * (4 : Int32)))) &&& 31)).toInt8.toInt32)) a1 a2 a3 a4 a5 a6 a7 a8 a9 a10 a11 a12 a13 a14 a15 a16 a17 a18 a19 a20 a21 a22 a23 b0 w0 (.ref 11) rv)) dX9_feed_100 rfl q100 rfl ?_
              refine x_aload_n dX9_feed_101 rfl ?_
              refine x_dup dX9_feed_102 rfl ?_
              refine x_get fX9_309 dX9_feed_103 rfl rfl rfl ?_
              refine x_iconst (1 : Int32) dX9_feed_106 (by decide) ?_
              refine x_iadd dX9_feed_107 ?_
              refine x_put (h2 := (hB g0 g1 g2 (mg3_23 + (1 : Int32)) g4 g5 g6 g7 g8 g9 g10 g11 g12 g13 g14 g15 g16 g17 g18 g19 g20 g21 g22 g23 g24 g25 g26 (upd ma0_23 mg3_23.toNatClampNeg (vp_nar .byte (f4 >>> (((24 : Int32) - ((8 : Int32) * (l6_23 - l6_23 / (4 : Int32) * (4 : Int32)))) &&& 31)).toInt8.toInt32)) a1 a2 a3 a4 a5 a6 a7 a8 a9 a10 a11 a12 a13 a14 a15 a16 a17 a18 a19 a20 a21 a22 a23 b0 w0 (.ref 11) rv)) fX9_309 dX9_feed_108 rfl rfl (Nat.le_of_ble_eq_true rfl : 6 + 1 ≤ _) (fun α => ⟨rfl, rfl⟩) rfl ?_
              refine x_iincK (1 : Int32) (pl' := [some (.ref 0), some (.int f1), some (.int f2), some (.int f3), some (.int f4), some (.int f5), some (.int (l6_23 + (1 : Int32))), some (.int f4)]) dX9_feed_111 rfl (by decide) (by decide) rfl ?_
              refine x_goto 23 dX9_feed_114 (by decide) ?_
              refine x_weak (pl2 := [some (.ref 0), some (.int f1), some (.int f2), some (.int f3), some (.int f4), some (.int f5), some (.int (l6_23 + (1 : Int32))), none]) ⟨rfl, rfl, rfl, rfl, rfl, rfl, rfl, trivial⟩ ?_
              exact ih23 (l6_23 + (1 : Int32)) (upd ma0_23 mg3_23.toNatClampNeg (vp_nar .byte (f4 >>> (((24 : Int32) - ((8 : Int32) * (l6_23 - l6_23 / (4 : Int32) * (4 : Int32)))) &&& 31)).toInt8.toInt32)) (mg3_23 + (1 : Int32)) h
          · have h := xif_f q h
            refine x_iload_n dX9_feed_58 rfl ?_
            refine x_goto 76 dX9_feed_59 (by decide) ?_
            refine x_istore (pl' := [some (.ref 0), some (.int f1), some (.int f2), some (.int f3), some (.int f4), some (.int f5), some (.int l6_23), some (.int f3)]) dX9_feed_76 (by decide) rfl ?_
            refine x_aload_n dX9_feed_78 rfl ?_
            refine x_get fX9_13 dX9_feed_79 rfl rfl rfl ?_
            refine x_aload_n dX9_feed_82 rfl ?_
            refine x_get fX9_309 dX9_feed_83 rfl rfl rfl ?_
            refine x_iload dX9_feed_86 rfl ?_
            refine x_bipush (24 : Int32) dX9_feed_88 (by decide) ?_
            refine x_bipush (8 : Int32) dX9_feed_90 (by decide) ?_
            refine x_iload dX9_feed_92 rfl ?_
            refine x_iconst (4 : Int32) dX9_feed_94 (by decide) ?_
            refine x_irem dX9_feed_95 (by decide) ?_
            refine x_imul dX9_feed_96 ?_
            refine x_isub dX9_feed_97 ?_
            refine x_ishr dX9_feed_98 ?_
            refine x_i2b dX9_feed_99 ?_
            obtain ⟨q100, h⟩ := xix_of h
            refine x_bast (h2 := (hB g0 g1 g2 mg3_23 g4 g5 g6 g7 g8 g9 g10 g11 g12 g13 g14 g15 g16 g17 g18 g19 g20 g21 g22 g23 g24 g25 g26 (upd ma0_23 mg3_23.toNatClampNeg (vp_nar .byte (f3 >>> (((24 : Int32) - ((8 : Int32) * (l6_23 - l6_23 / (4 : Int32) * (4 : Int32)))) &&& 31)).toInt8.toInt32)) a1 a2 a3 a4 a5 a6 a7 a8 a9 a10 a11 a12 a13 a14 a15 a16 a17 a18 a19 a20 a21 a22 a23 b0 w0 (.ref 11) rv)) dX9_feed_100 rfl q100 rfl ?_
            refine x_aload_n dX9_feed_101 rfl ?_
            refine x_dup dX9_feed_102 rfl ?_
            refine x_get fX9_309 dX9_feed_103 rfl rfl rfl ?_
            refine x_iconst (1 : Int32) dX9_feed_106 (by decide) ?_
            refine x_iadd dX9_feed_107 ?_
            refine x_put (h2 := (hB g0 g1 g2 (mg3_23 + (1 : Int32)) g4 g5 g6 g7 g8 g9 g10 g11 g12 g13 g14 g15 g16 g17 g18 g19 g20 g21 g22 g23 g24 g25 g26 (upd ma0_23 mg3_23.toNatClampNeg (vp_nar .byte (f3 >>> (((24 : Int32) - ((8 : Int32) * (l6_23 - l6_23 / (4 : Int32) * (4 : Int32)))) &&& 31)).toInt8.toInt32)) a1 a2 a3 a4 a5 a6 a7 a8 a9 a10 a11 a12 a13 a14 a15 a16 a17 a18 a19 a20 a21 a22 a23 b0 w0 (.ref 11) rv)) fX9_309 dX9_feed_108 rfl rfl (Nat.le_of_ble_eq_true rfl : 6 + 1 ≤ _) (fun α => ⟨rfl, rfl⟩) rfl ?_
            refine x_iincK (1 : Int32) (pl' := [some (.ref 0), some (.int f1), some (.int f2), some (.int f3), some (.int f4), some (.int f5), some (.int (l6_23 + (1 : Int32))), some (.int f3)]) dX9_feed_111 rfl (by decide) (by decide) rfl ?_
            refine x_goto 23 dX9_feed_114 (by decide) ?_
            refine x_weak (pl2 := [some (.ref 0), some (.int f1), some (.int f2), some (.int f3), some (.int f4), some (.int f5), some (.int (l6_23 + (1 : Int32))), none]) ⟨rfl, rfl, rfl, rfl, rfl, rfl, rfl, trivial⟩ ?_
            exact ih23 (l6_23 + (1 : Int32)) (upd ma0_23 mg3_23.toNatClampNeg (vp_nar .byte (f3 >>> (((24 : Int32) - ((8 : Int32) * (l6_23 - l6_23 / (4 : Int32) * (4 : Int32)))) &&& 31)).toInt8.toInt32)) (mg3_23 + (1 : Int32)) h
        · have h := xif_f q h
          refine x_iload_n dX9_feed_47 rfl ?_
          refine x_goto 76 dX9_feed_48 (by decide) ?_
          refine x_istore (pl' := [some (.ref 0), some (.int f1), some (.int f2), some (.int f3), some (.int f4), some (.int f5), some (.int l6_23), some (.int f2)]) dX9_feed_76 (by decide) rfl ?_
          refine x_aload_n dX9_feed_78 rfl ?_
          refine x_get fX9_13 dX9_feed_79 rfl rfl rfl ?_
          refine x_aload_n dX9_feed_82 rfl ?_
          refine x_get fX9_309 dX9_feed_83 rfl rfl rfl ?_
          refine x_iload dX9_feed_86 rfl ?_
          refine x_bipush (24 : Int32) dX9_feed_88 (by decide) ?_
          refine x_bipush (8 : Int32) dX9_feed_90 (by decide) ?_
          refine x_iload dX9_feed_92 rfl ?_
          refine x_iconst (4 : Int32) dX9_feed_94 (by decide) ?_
          refine x_irem dX9_feed_95 (by decide) ?_
          refine x_imul dX9_feed_96 ?_
          refine x_isub dX9_feed_97 ?_
          refine x_ishr dX9_feed_98 ?_
          refine x_i2b dX9_feed_99 ?_
          obtain ⟨q100, h⟩ := xix_of h
          refine x_bast (h2 := (hB g0 g1 g2 mg3_23 g4 g5 g6 g7 g8 g9 g10 g11 g12 g13 g14 g15 g16 g17 g18 g19 g20 g21 g22 g23 g24 g25 g26 (upd ma0_23 mg3_23.toNatClampNeg (vp_nar .byte (f2 >>> (((24 : Int32) - ((8 : Int32) * (l6_23 - l6_23 / (4 : Int32) * (4 : Int32)))) &&& 31)).toInt8.toInt32)) a1 a2 a3 a4 a5 a6 a7 a8 a9 a10 a11 a12 a13 a14 a15 a16 a17 a18 a19 a20 a21 a22 a23 b0 w0 (.ref 11) rv)) dX9_feed_100 rfl q100 rfl ?_
          refine x_aload_n dX9_feed_101 rfl ?_
          refine x_dup dX9_feed_102 rfl ?_
          refine x_get fX9_309 dX9_feed_103 rfl rfl rfl ?_
          refine x_iconst (1 : Int32) dX9_feed_106 (by decide) ?_
          refine x_iadd dX9_feed_107 ?_
          refine x_put (h2 := (hB g0 g1 g2 (mg3_23 + (1 : Int32)) g4 g5 g6 g7 g8 g9 g10 g11 g12 g13 g14 g15 g16 g17 g18 g19 g20 g21 g22 g23 g24 g25 g26 (upd ma0_23 mg3_23.toNatClampNeg (vp_nar .byte (f2 >>> (((24 : Int32) - ((8 : Int32) * (l6_23 - l6_23 / (4 : Int32) * (4 : Int32)))) &&& 31)).toInt8.toInt32)) a1 a2 a3 a4 a5 a6 a7 a8 a9 a10 a11 a12 a13 a14 a15 a16 a17 a18 a19 a20 a21 a22 a23 b0 w0 (.ref 11) rv)) fX9_309 dX9_feed_108 rfl rfl (Nat.le_of_ble_eq_true rfl : 6 + 1 ≤ _) (fun α => ⟨rfl, rfl⟩) rfl ?_
          refine x_iincK (1 : Int32) (pl' := [some (.ref 0), some (.int f1), some (.int f2), some (.int f3), some (.int f4), some (.int f5), some (.int (l6_23 + (1 : Int32))), some (.int f2)]) dX9_feed_111 rfl (by decide) (by decide) rfl ?_
          refine x_goto 23 dX9_feed_114 (by decide) ?_
          refine x_weak (pl2 := [some (.ref 0), some (.int f1), some (.int f2), some (.int f3), some (.int f4), some (.int f5), some (.int (l6_23 + (1 : Int32))), none]) ⟨rfl, rfl, rfl, rfl, rfl, rfl, rfl, trivial⟩ ?_
          exact ih23 (l6_23 + (1 : Int32)) (upd ma0_23 mg3_23.toNatClampNeg (vp_nar .byte (f2 >>> (((24 : Int32) - ((8 : Int32) * (l6_23 - l6_23 / (4 : Int32) * (4 : Int32)))) &&& 31)).toInt8.toInt32)) (mg3_23 + (1 : Int32)) h
      · have h := xif_f q h
        refine x_iload_n dX9_feed_36 rfl ?_
        refine x_goto 76 dX9_feed_37 (by decide) ?_
        refine x_istore (pl' := [some (.ref 0), some (.int f1), some (.int f2), some (.int f3), some (.int f4), some (.int f5), some (.int l6_23), some (.int f1)]) dX9_feed_76 (by decide) rfl ?_
        refine x_aload_n dX9_feed_78 rfl ?_
        refine x_get fX9_13 dX9_feed_79 rfl rfl rfl ?_
        refine x_aload_n dX9_feed_82 rfl ?_
        refine x_get fX9_309 dX9_feed_83 rfl rfl rfl ?_
        refine x_iload dX9_feed_86 rfl ?_
        refine x_bipush (24 : Int32) dX9_feed_88 (by decide) ?_
        refine x_bipush (8 : Int32) dX9_feed_90 (by decide) ?_
        refine x_iload dX9_feed_92 rfl ?_
        refine x_iconst (4 : Int32) dX9_feed_94 (by decide) ?_
        refine x_irem dX9_feed_95 (by decide) ?_
        refine x_imul dX9_feed_96 ?_
        refine x_isub dX9_feed_97 ?_
        refine x_ishr dX9_feed_98 ?_
        refine x_i2b dX9_feed_99 ?_
        obtain ⟨q100, h⟩ := xix_of h
        refine x_bast (h2 := (hB g0 g1 g2 mg3_23 g4 g5 g6 g7 g8 g9 g10 g11 g12 g13 g14 g15 g16 g17 g18 g19 g20 g21 g22 g23 g24 g25 g26 (upd ma0_23 mg3_23.toNatClampNeg (vp_nar .byte (f1 >>> (((24 : Int32) - ((8 : Int32) * (l6_23 - l6_23 / (4 : Int32) * (4 : Int32)))) &&& 31)).toInt8.toInt32)) a1 a2 a3 a4 a5 a6 a7 a8 a9 a10 a11 a12 a13 a14 a15 a16 a17 a18 a19 a20 a21 a22 a23 b0 w0 (.ref 11) rv)) dX9_feed_100 rfl q100 rfl ?_
        refine x_aload_n dX9_feed_101 rfl ?_
        refine x_dup dX9_feed_102 rfl ?_
        refine x_get fX9_309 dX9_feed_103 rfl rfl rfl ?_
        refine x_iconst (1 : Int32) dX9_feed_106 (by decide) ?_
        refine x_iadd dX9_feed_107 ?_
        refine x_put (h2 := (hB g0 g1 g2 (mg3_23 + (1 : Int32)) g4 g5 g6 g7 g8 g9 g10 g11 g12 g13 g14 g15 g16 g17 g18 g19 g20 g21 g22 g23 g24 g25 g26 (upd ma0_23 mg3_23.toNatClampNeg (vp_nar .byte (f1 >>> (((24 : Int32) - ((8 : Int32) * (l6_23 - l6_23 / (4 : Int32) * (4 : Int32)))) &&& 31)).toInt8.toInt32)) a1 a2 a3 a4 a5 a6 a7 a8 a9 a10 a11 a12 a13 a14 a15 a16 a17 a18 a19 a20 a21 a22 a23 b0 w0 (.ref 11) rv)) fX9_309 dX9_feed_108 rfl rfl (Nat.le_of_ble_eq_true rfl : 6 + 1 ≤ _) (fun α => ⟨rfl, rfl⟩) rfl ?_
        refine x_iincK (1 : Int32) (pl' := [some (.ref 0), some (.int f1), some (.int f2), some (.int f3), some (.int f4), some (.int f5), some (.int (l6_23 + (1 : Int32))), some (.int f1)]) dX9_feed_111 rfl (by decide) (by decide) rfl ?_
        refine x_goto 23 dX9_feed_114 (by decide) ?_
        refine x_weak (pl2 := [some (.ref 0), some (.int f1), some (.int f2), some (.int f3), some (.int f4), some (.int f5), some (.int (l6_23 + (1 : Int32))), none]) ⟨rfl, rfl, rfl, rfl, rfl, rfl, rfl, trivial⟩ ?_
        exact ih23 (l6_23 + (1 : Int32)) (upd ma0_23 mg3_23.toNatClampNeg (vp_nar .byte (f1 >>> (((24 : Int32) - ((8 : Int32) * (l6_23 - l6_23 / (4 : Int32) * (4 : Int32)))) &&& 31)).toInt8.toInt32)) (mg3_23 + (1 : Int32)) h
set_option maxRecDepth 100000 in
set_option maxHeartbeats 4000000 in
theorem t_hB_X9_feed {g0 g1 g2 g3 g4 g5 g6 g7 g8 g9 g10 g11 g12 g13 g14 g15 g16 g17 g18 g19 g20 g21 g22 g23 g24 g25 g26 : Int32} {a0 a1 a2 a3 a4 a5 a6 a7 a8 a9 a10 a11 a12 a13 a14 a15 a16 a17 a18 a19 a20 a21 a22 a23 : (Nat → Int32)} {b0 : (Nat → Int64)} {w0 : Int64} {rv : Value} (x1 : Int32) (x2 : Int32) (x3 : Int32) (x4 : Int32) (x5 : Int32) (res : Int32 × Int32 × (Nat → Int32) × Int32) (h : e_hB_X9_feed g0 g3 a0 x1 x2 x3 x4 x5 = some res) (d : Nat) : xMet xks YX9_feed (d + 1) 0 0 [.ref 0, .int x1, .int x2, .int x3, .int x4, .int x5] (hB g0 g1 g2 g3 g4 g5 g6 g7 g8 g9 g10 g11 g12 g13 g14 g15 g16 g17 g18 g19 g20 g21 g22 g23 g24 g25 g26 a0 a1 a2 a3 a4 a5 a6 a7 a8 a9 a10 a11 a12 a13 a14 a15 a16 a17 a18 a19 a20 a21 a22 a23 b0 w0 (.ref 11) rv) (some (.int res.1)) (hB res.2.1 g1 g2 res.2.2.2 g4 g5 g6 g7 g8 g9 g10 g11 g12 g13 g14 g15 g16 g17 g18 g19 g20 g21 g22 g23 g24 g25 g26 res.2.2.1 a1 a2 a3 a4 a5 a6 a7 a8 a9 a10 a11 a12 a13 a14 a15 a16 a17 a18 a19 a20 a21 a22 a23 b0 w0 (.ref 11) rv) := by
  unfold e_hB_X9_feed at h
  refine xMet_of (pl := [some (.ref 0), some (.int x1), some (.int x2), some (.int x3), some (.int x4), some (.int x5), none, none]) (by decide) (Nat.le_of_ble_eq_true rfl) rfl (Nat.le_of_ble_eq_true rfl) ?_
  refine x_aload_n dX9_feed_0 rfl ?_
  refine x_iconst (0 : Int32) dX9_feed_1 (by decide) ?_
  refine x_put (h2 := (hB (0 : Int32) g1 g2 g3 g4 g5 g6 g7 g8 g9 g10 g11 g12 g13 g14 g15 g16 g17 g18 g19 g20 g21 g22 g23 g24 g25 g26 a0 a1 a2 a3 a4 a5 a6 a7 a8 a9 a10 a11 a12 a13 a14 a15 a16 a17 a18 a19 a20 a21 a22 a23 b0 w0 (.ref 11) rv)) fX9_45 dX9_feed_2 rfl rfl (Nat.le_of_ble_eq_true rfl : 0 + 1 ≤ _) (fun α => ⟨rfl, rfl⟩) rfl ?_
  refine x_aload_n dX9_feed_5 rfl ?_
  refine x_get fX9_309 dX9_feed_6 rfl rfl rfl ?_
  refine x_bipush (20 : Int32) dX9_feed_9 (by decide) ?_
  refine x_iadd dX9_feed_11 ?_
  refine x_sipush (1000 : Int32) dX9_feed_12 (by decide) ?_
  refine x_icmp_le 20 dX9_feed_15 (by decide) (fun q => ?_) (fun q => ?_)
  · have h := xif_t q h
    refine x_iconst (0 : Int32) dX9_feed_20 (by decide) ?_
    refine x_istore (pl' := [some (.ref 0), some (.int x1), some (.int x2), some (.int x3), some (.int x4), some (.int x5), some (.int (0 : Int32)), none]) dX9_feed_21 (by decide) rfl ?_
    refine x_weak (pl2 := [some (.ref 0), some (.int x1), some (.int x2), some (.int x3), some (.int x4), some (.int x5), some (.int (0 : Int32)), none]) ⟨rfl, rfl, rfl, rfl, rfl, rfl, rfl, trivial⟩ ?_
    refine lp_hB_X9_feed_23 d _ x1 x2 x3 x4 x5 res _ (fun l6_23 ma0_23 mg3_23 h => ?_) 200000 (0 : Int32) a0 g3 h
    refine x_aload_n dX9_feed_117 rfl ?_
    refine x_get fX9_309 dX9_feed_118 rfl rfl rfl ?_
    cases h
    exact x_iret2 dX9_feed_121 rfl rfl
  · have h := xif_f q h
    refine x_iconst (-1 : Int32) dX9_feed_18 (by decide) ?_
    cases h
    exact x_iret2 dX9_feed_19 rfl rfl
noncomputable def e_hB_X9_fault (p0 : Int32) (p1 : Int32)  : Option (Int32 × Int32) :=
  some (p1, (0 : Int32))
set_option maxRecDepth 100000 in
set_option maxHeartbeats 4000000 in
theorem t_hB_X9_fault {g0 g1 g2 g3 g4 g5 g6 g7 g8 g9 g10 g11 g12 g13 g14 g15 g16 g17 g18 g19 g20 g21 g22 g23 g24 g25 g26 : Int32} {a0 a1 a2 a3 a4 a5 a6 a7 a8 a9 a10 a11 a12 a13 a14 a15 a16 a17 a18 a19 a20 a21 a22 a23 : (Nat → Int32)} {b0 : (Nat → Int64)} {w0 : Int64} {rv : Value}  (res : Int32 × Int32) (h : e_hB_X9_fault g0 g9  = some res) (d : Nat) : xMet xks YX9_fault (d + 1) 0 0 [.ref 0] (hB g0 g1 g2 g3 g4 g5 g6 g7 g8 g9 g10 g11 g12 g13 g14 g15 g16 g17 g18 g19 g20 g21 g22 g23 g24 g25 g26 a0 a1 a2 a3 a4 a5 a6 a7 a8 a9 a10 a11 a12 a13 a14 a15 a16 a17 a18 a19 a20 a21 a22 a23 b0 w0 (.ref 11) rv) (some (.int res.1)) (hB res.2 g1 g2 g3 g4 g5 g6 g7 g8 g9 g10 g11 g12 g13 g14 g15 g16 g17 g18 g19 g20 g21 g22 g23 g24 g25 g26 a0 a1 a2 a3 a4 a5 a6 a7 a8 a9 a10 a11 a12 a13 a14 a15 a16 a17 a18 a19 a20 a21 a22 a23 b0 w0 (.ref 11) rv) := by
  unfold e_hB_X9_fault at h
  refine xMet_of (pl := [some (.ref 0)]) (by decide) (Nat.le_of_ble_eq_true rfl) rfl (Nat.le_of_ble_eq_true rfl) ?_
  refine x_aload_n dX9_fault_0 rfl ?_
  refine x_iconst (0 : Int32) dX9_fault_1 (by decide) ?_
  refine x_put (h2 := (hB (0 : Int32) g1 g2 g3 g4 g5 g6 g7 g8 g9 g10 g11 g12 g13 g14 g15 g16 g17 g18 g19 g20 g21 g22 g23 g24 g25 g26 a0 a1 a2 a3 a4 a5 a6 a7 a8 a9 a10 a11 a12 a13 a14 a15 a16 a17 a18 a19 a20 a21 a22 a23 b0 w0 (.ref 11) rv)) fX9_45 dX9_fault_2 rfl rfl (Nat.le_of_ble_eq_true rfl : 0 + 1 ≤ _) (fun α => ⟨rfl, rfl⟩) rfl ?_
  refine x_aload_n dX9_fault_5 rfl ?_
  refine x_get fX9_103 dX9_fault_6 rfl rfl rfl ?_
  cases h
  exact x_iret2 dX9_fault_9 rfl rfl
noncomputable def e_hB_X9_where (p0 : Int32) (p1 : Int32)  : Option (Int32 × Int32) :=
  some (p1, (0 : Int32))
set_option maxRecDepth 100000 in
set_option maxHeartbeats 4000000 in
theorem t_hB_X9_where {g0 g1 g2 g3 g4 g5 g6 g7 g8 g9 g10 g11 g12 g13 g14 g15 g16 g17 g18 g19 g20 g21 g22 g23 g24 g25 g26 : Int32} {a0 a1 a2 a3 a4 a5 a6 a7 a8 a9 a10 a11 a12 a13 a14 a15 a16 a17 a18 a19 a20 a21 a22 a23 : (Nat → Int32)} {b0 : (Nat → Int64)} {w0 : Int64} {rv : Value}  (res : Int32 × Int32) (h : e_hB_X9_where g0 g2  = some res) (d : Nat) : xMet xks YX9_where (d + 1) 0 0 [.ref 0] (hB g0 g1 g2 g3 g4 g5 g6 g7 g8 g9 g10 g11 g12 g13 g14 g15 g16 g17 g18 g19 g20 g21 g22 g23 g24 g25 g26 a0 a1 a2 a3 a4 a5 a6 a7 a8 a9 a10 a11 a12 a13 a14 a15 a16 a17 a18 a19 a20 a21 a22 a23 b0 w0 (.ref 11) rv) (some (.int res.1)) (hB res.2 g1 g2 g3 g4 g5 g6 g7 g8 g9 g10 g11 g12 g13 g14 g15 g16 g17 g18 g19 g20 g21 g22 g23 g24 g25 g26 a0 a1 a2 a3 a4 a5 a6 a7 a8 a9 a10 a11 a12 a13 a14 a15 a16 a17 a18 a19 a20 a21 a22 a23 b0 w0 (.ref 11) rv) := by
  unfold e_hB_X9_where at h
  refine xMet_of (pl := [some (.ref 0)]) (by decide) (Nat.le_of_ble_eq_true rfl) rfl (Nat.le_of_ble_eq_true rfl) ?_
  refine x_aload_n dX9_where_0 rfl ?_
  refine x_iconst (0 : Int32) dX9_where_1 (by decide) ?_
  refine x_put (h2 := (hB (0 : Int32) g1 g2 g3 g4 g5 g6 g7 g8 g9 g10 g11 g12 g13 g14 g15 g16 g17 g18 g19 g20 g21 g22 g23 g24 g25 g26 a0 a1 a2 a3 a4 a5 a6 a7 a8 a9 a10 a11 a12 a13 a14 a15 a16 a17 a18 a19 a20 a21 a22 a23 b0 w0 (.ref 11) rv)) fX9_45 dX9_where_2 rfl rfl (Nat.le_of_ble_eq_true rfl : 0 + 1 ≤ _) (fun α => ⟨rfl, rfl⟩) rfl ?_
  refine x_aload_n dX9_where_5 rfl ?_
  refine x_get fX9_9 dX9_where_6 rfl rfl rfl ?_
  cases h
  exact x_iret2 dX9_where_9 rfl rfl
noncomputable def e_hB_X9_isUmbrella (p0 : Int32) (x1 : Int32) : Option (Int32) :=
  if x1 < (0 : Int32) then some (0 : Int32) else if p0 ≤ x1 then some (0 : Int32) else some (1 : Int32)
set_option maxRecDepth 100000 in
set_option maxHeartbeats 4000000 in
theorem t_hB_X9_isUmbrella {g0 g1 g2 g3 g4 g5 g6 g7 g8 g9 g10 g11 g12 g13 g14 g15 g16 g17 g18 g19 g20 g21 g22 g23 g24 g25 g26 : Int32} {a0 a1 a2 a3 a4 a5 a6 a7 a8 a9 a10 a11 a12 a13 a14 a15 a16 a17 a18 a19 a20 a21 a22 a23 : (Nat → Int32)} {b0 : (Nat → Int64)} {w0 : Int64} {rv : Value} (x1 : Int32) (res : Int32) (h : e_hB_X9_isUmbrella g23 x1 = some res) (d : Nat) : xMet xks YX9_isUmbrella (d + 1) 0 0 [.ref 0, .int x1] (hB g0 g1 g2 g3 g4 g5 g6 g7 g8 g9 g10 g11 g12 g13 g14 g15 g16 g17 g18 g19 g20 g21 g22 g23 g24 g25 g26 a0 a1 a2 a3 a4 a5 a6 a7 a8 a9 a10 a11 a12 a13 a14 a15 a16 a17 a18 a19 a20 a21 a22 a23 b0 w0 (.ref 11) rv) (some (.int res)) (hB g0 g1 g2 g3 g4 g5 g6 g7 g8 g9 g10 g11 g12 g13 g14 g15 g16 g17 g18 g19 g20 g21 g22 g23 g24 g25 g26 a0 a1 a2 a3 a4 a5 a6 a7 a8 a9 a10 a11 a12 a13 a14 a15 a16 a17 a18 a19 a20 a21 a22 a23 b0 w0 (.ref 11) rv) := by
  unfold e_hB_X9_isUmbrella at h
  refine xMet_of (pl := [some (.ref 0), some (.int x1)]) (by decide) (Nat.le_of_ble_eq_true rfl) rfl (Nat.le_of_ble_eq_true rfl) ?_
  refine x_aload_n dX9_isUmbrella_0 rfl ?_
  refine x_get fX9_316 dX9_isUmbrella_1 rfl rfl rfl ?_
  refine x_ifnull dX9_isUmbrella_4 ?_
  refine x_iload_n dX9_isUmbrella_7 rfl ?_
  refine x_if_lt 26 dX9_isUmbrella_8 (by decide) (fun q => ?_) (fun q => ?_)
  · have h := xif_t q h
    refine x_iconst (0 : Int32) dX9_isUmbrella_26 (by decide) ?_
    cases h
    exact x_zret2 dX9_isUmbrella_27 rfl rfl rfl
  · have h := xif_f q h
    refine x_iload_n dX9_isUmbrella_11 rfl ?_
    refine x_aload_n dX9_isUmbrella_12 rfl ?_
    refine x_get fX9_316 dX9_isUmbrella_13 rfl rfl rfl ?_
    refine x_get fX9_194 dX9_isUmbrella_16 rfl rfl rfl ?_
    refine x_icmp_ge 26 dX9_isUmbrella_19 (by decide) (fun q => ?_) (fun q => ?_)
    · have h := xif_t q h
      refine x_iconst (0 : Int32) dX9_isUmbrella_26 (by decide) ?_
      cases h
      exact x_zret2 dX9_isUmbrella_27 rfl rfl rfl
    · have h := xif_f q h
      refine x_iconst (1 : Int32) dX9_isUmbrella_22 (by decide) ?_
      refine x_goto 27 dX9_isUmbrella_23 (by decide) ?_
      cases h
      exact x_zret2 dX9_isUmbrella_27 rfl rfl rfl
noncomputable def e_hB_X9_refused (p0 : Int32) (p1 : Int32) (x1 : Int32) : Option (Int32 × Int32 × Int32) :=
  some ((-1 : Int32), x1, (-1 : Int32))
set_option maxRecDepth 100000 in
set_option maxHeartbeats 4000000 in
theorem t_hB_X9_refused {g0 g1 g2 g3 g4 g5 g6 g7 g8 g9 g10 g11 g12 g13 g14 g15 g16 g17 g18 g19 g20 g21 g22 g23 g24 g25 g26 : Int32} {a0 a1 a2 a3 a4 a5 a6 a7 a8 a9 a10 a11 a12 a13 a14 a15 a16 a17 a18 a19 a20 a21 a22 a23 : (Nat → Int32)} {b0 : (Nat → Int64)} {w0 : Int64} {rv : Value} (x1 : Int32) (res : Int32 × Int32 × Int32) (h : e_hB_X9_refused g1 g2 x1 = some res) (d : Nat) : xMet xks YX9_refused (d + 1) 0 0 [.ref 0, .int x1] (hB g0 g1 g2 g3 g4 g5 g6 g7 g8 g9 g10 g11 g12 g13 g14 g15 g16 g17 g18 g19 g20 g21 g22 g23 g24 g25 g26 a0 a1 a2 a3 a4 a5 a6 a7 a8 a9 a10 a11 a12 a13 a14 a15 a16 a17 a18 a19 a20 a21 a22 a23 b0 w0 (.ref 11) rv) (some (.int res.1)) (hB g0 res.2.1 res.2.2 g3 g4 g5 g6 g7 g8 g9 g10 g11 g12 g13 g14 g15 g16 g17 g18 g19 g20 g21 g22 g23 g24 g25 g26 a0 a1 a2 a3 a4 a5 a6 a7 a8 a9 a10 a11 a12 a13 a14 a15 a16 a17 a18 a19 a20 a21 a22 a23 b0 w0 (.ref 11) rv) := by
  unfold e_hB_X9_refused at h
  refine xMet_of (pl := [some (.ref 0), some (.int x1)]) (by decide) (Nat.le_of_ble_eq_true rfl) rfl (Nat.le_of_ble_eq_true rfl) ?_
  refine x_aload_n dX9_refused_0 rfl ?_
  refine x_iload_n dX9_refused_1 rfl ?_
  refine x_put (h2 := (hB g0 x1 g2 g3 g4 g5 g6 g7 g8 g9 g10 g11 g12 g13 g14 g15 g16 g17 g18 g19 g20 g21 g22 g23 g24 g25 g26 a0 a1 a2 a3 a4 a5 a6 a7 a8 a9 a10 a11 a12 a13 a14 a15 a16 a17 a18 a19 a20 a21 a22 a23 b0 w0 (.ref 11) rv)) fX9_48 dX9_refused_2 rfl rfl (Nat.le_of_ble_eq_true rfl : 1 + 1 ≤ _) (fun α => ⟨rfl, rfl⟩) rfl ?_
  refine x_aload_n dX9_refused_5 rfl ?_
  refine x_iconst (-1 : Int32) dX9_refused_6 (by decide) ?_
  refine x_put (h2 := (hB g0 x1 (-1 : Int32) g3 g4 g5 g6 g7 g8 g9 g10 g11 g12 g13 g14 g15 g16 g17 g18 g19 g20 g21 g22 g23 g24 g25 g26 a0 a1 a2 a3 a4 a5 a6 a7 a8 a9 a10 a11 a12 a13 a14 a15 a16 a17 a18 a19 a20 a21 a22 a23 b0 w0 (.ref 11) rv)) fX9_9 dX9_refused_7 rfl rfl (Nat.le_of_ble_eq_true rfl : 2 + 1 ≤ _) (fun α => ⟨rfl, rfl⟩) rfl ?_
  refine x_iconst (-1 : Int32) dX9_refused_10 (by decide) ?_
  cases h
  exact x_iret2 dX9_refused_11 rfl rfl
noncomputable def e_hB_X9_in  (x0 : Int32) (x1 : Int32) (x2 : Int32) : Option (Int32) :=
  if x0 < x1 then some (0 : Int32) else if x2 < x0 then some (0 : Int32) else some (1 : Int32)
set_option maxRecDepth 100000 in
set_option maxHeartbeats 4000000 in
theorem t_hB_X9_in {g0 g1 g2 g3 g4 g5 g6 g7 g8 g9 g10 g11 g12 g13 g14 g15 g16 g17 g18 g19 g20 g21 g22 g23 g24 g25 g26 : Int32} {a0 a1 a2 a3 a4 a5 a6 a7 a8 a9 a10 a11 a12 a13 a14 a15 a16 a17 a18 a19 a20 a21 a22 a23 : (Nat → Int32)} {b0 : (Nat → Int64)} {w0 : Int64} {rv : Value} (x0 : Int32) (x1 : Int32) (x2 : Int32) (res : Int32) (h : e_hB_X9_in  x0 x1 x2 = some res) (d : Nat) : xMet xks YX9_in (d + 1) 0 0 [.int x0, .int x1, .int x2] (hB g0 g1 g2 g3 g4 g5 g6 g7 g8 g9 g10 g11 g12 g13 g14 g15 g16 g17 g18 g19 g20 g21 g22 g23 g24 g25 g26 a0 a1 a2 a3 a4 a5 a6 a7 a8 a9 a10 a11 a12 a13 a14 a15 a16 a17 a18 a19 a20 a21 a22 a23 b0 w0 (.ref 11) rv) (some (.int res)) (hB g0 g1 g2 g3 g4 g5 g6 g7 g8 g9 g10 g11 g12 g13 g14 g15 g16 g17 g18 g19 g20 g21 g22 g23 g24 g25 g26 a0 a1 a2 a3 a4 a5 a6 a7 a8 a9 a10 a11 a12 a13 a14 a15 a16 a17 a18 a19 a20 a21 a22 a23 b0 w0 (.ref 11) rv) := by
  unfold e_hB_X9_in at h
  refine xMet_of (pl := [some (.int x0), some (.int x1), some (.int x2)]) (by decide) (Nat.le_of_ble_eq_true rfl) rfl (Nat.le_of_ble_eq_true rfl) ?_
  refine x_iload_n dX9_in_0 rfl ?_
  refine x_iload_n dX9_in_1 rfl ?_
  refine x_icmp_lt 14 dX9_in_2 (by decide) (fun q => ?_) (fun q => ?_)
  · have h := xif_t q h
    refine x_iconst (0 : Int32) dX9_in_14 (by decide) ?_
    cases h
    exact x_zret2 dX9_in_15 rfl rfl rfl
  · have h := xif_f q h
    refine x_iload_n dX9_in_5 rfl ?_
    refine x_iload_n dX9_in_6 rfl ?_
    refine x_icmp_gt 14 dX9_in_7 (by decide) (fun q => ?_) (fun q => ?_)
    · have h := xif_t q h
      refine x_iconst (0 : Int32) dX9_in_14 (by decide) ?_
      cases h
      exact x_zret2 dX9_in_15 rfl rfl rfl
    · have h := xif_f q h
      refine x_iconst (1 : Int32) dX9_in_10 (by decide) ?_
      refine x_goto 15 dX9_in_11 (by decide) ?_
      cases h
      exact x_zret2 dX9_in_15 rfl rfl rfl
noncomputable def e_hB_X9_good (p0 : Int32) (p1 : Int32) (x1 : Int32) : Option (Int32 × Int32 × Int32) :=
  some (x1, (0 : Int32), (-1 : Int32))
set_option maxRecDepth 100000 in
set_option maxHeartbeats 4000000 in
theorem t_hB_X9_good {g0 g1 g2 g3 g4 g5 g6 g7 g8 g9 g10 g11 g12 g13 g14 g15 g16 g17 g18 g19 g20 g21 g22 g23 g24 g25 g26 : Int32} {a0 a1 a2 a3 a4 a5 a6 a7 a8 a9 a10 a11 a12 a13 a14 a15 a16 a17 a18 a19 a20 a21 a22 a23 : (Nat → Int32)} {b0 : (Nat → Int64)} {w0 : Int64} {rv : Value} (x1 : Int32) (res : Int32 × Int32 × Int32) (h : e_hB_X9_good g1 g2 x1 = some res) (d : Nat) : xMet xks YX9_good (d + 1) 0 0 [.ref 0, .int x1] (hB g0 g1 g2 g3 g4 g5 g6 g7 g8 g9 g10 g11 g12 g13 g14 g15 g16 g17 g18 g19 g20 g21 g22 g23 g24 g25 g26 a0 a1 a2 a3 a4 a5 a6 a7 a8 a9 a10 a11 a12 a13 a14 a15 a16 a17 a18 a19 a20 a21 a22 a23 b0 w0 (.ref 11) rv) (some (.int res.1)) (hB g0 res.2.1 res.2.2 g3 g4 g5 g6 g7 g8 g9 g10 g11 g12 g13 g14 g15 g16 g17 g18 g19 g20 g21 g22 g23 g24 g25 g26 a0 a1 a2 a3 a4 a5 a6 a7 a8 a9 a10 a11 a12 a13 a14 a15 a16 a17 a18 a19 a20 a21 a22 a23 b0 w0 (.ref 11) rv) := by
  unfold e_hB_X9_good at h
  refine xMet_of (pl := [some (.ref 0), some (.int x1)]) (by decide) (Nat.le_of_ble_eq_true rfl) rfl (Nat.le_of_ble_eq_true rfl) ?_
  refine x_aload_n dX9_good_0 rfl ?_
  refine x_iconst (0 : Int32) dX9_good_1 (by decide) ?_
  refine x_put (h2 := (hB g0 (0 : Int32) g2 g3 g4 g5 g6 g7 g8 g9 g10 g11 g12 g13 g14 g15 g16 g17 g18 g19 g20 g21 g22 g23 g24 g25 g26 a0 a1 a2 a3 a4 a5 a6 a7 a8 a9 a10 a11 a12 a13 a14 a15 a16 a17 a18 a19 a20 a21 a22 a23 b0 w0 (.ref 11) rv)) fX9_48 dX9_good_2 rfl rfl (Nat.le_of_ble_eq_true rfl : 1 + 1 ≤ _) (fun α => ⟨rfl, rfl⟩) rfl ?_
  refine x_aload_n dX9_good_5 rfl ?_
  refine x_iconst (-1 : Int32) dX9_good_6 (by decide) ?_
  refine x_put (h2 := (hB g0 (0 : Int32) (-1 : Int32) g3 g4 g5 g6 g7 g8 g9 g10 g11 g12 g13 g14 g15 g16 g17 g18 g19 g20 g21 g22 g23 g24 g25 g26 a0 a1 a2 a3 a4 a5 a6 a7 a8 a9 a10 a11 a12 a13 a14 a15 a16 a17 a18 a19 a20 a21 a22 a23 b0 w0 (.ref 11) rv)) fX9_9 dX9_good_7 rfl rfl (Nat.le_of_ble_eq_true rfl : 2 + 1 ≤ _) (fun α => ⟨rfl, rfl⟩) rfl ?_
  refine x_iload_n dX9_good_10 rfl ?_
  cases h
  exact x_iret2 dX9_good_11 rfl rfl
noncomputable def e_hB_X9_umbrella (p0 : Int32) (p1 : Int32) (p2 : Int32) (p3 : Int32) (p4 : (Nat → Int32)) (p5 : (Nat → Int32)) (p6 : (Nat → Int32)) (p7 : (Nat → Int32)) (x1 : Int32) (x2 : Int32) : Option (Int32 × Int32 × Int32 × Int32) :=
  ((e_hB_X9_isUmbrella p1 x1).bind fun z7 => if z7 = (0 : Int32) then ((e_hB_X9_refused p2 p3 (1 : Int32)).bind fun z24 => some (z24.1, (0 : Int32), z24.2.1, z24.2.2)) else ((e_hB_X9_in x2 (0 : Int32) (4 : Int32)).bind fun z16 => if z16 = (0 : Int32) then ((e_hB_X9_refused p2 p3 (1 : Int32)).bind fun z24 => some (z24.1, (0 : Int32), z24.2.1, z24.2.2)) else if x2.toInt < 0 ∨ 3 < x2.toInt then (xix ((5 : Int32) + x1) 11 ((e_hB_X9_good p2 p3 (p4 ((5 : Int32) + x1).toNatClampNeg)).bind fun z124 => some (z124.1, (0 : Int32), z124.2.1, z124.2.2))) else if x2 = (0 : Int32) then (xix x1 5 ((e_hB_X9_good p2 p3 (p5 x1.toNatClampNeg)).bind fun z70 => some (z70.1, (0 : Int32), z70.2.1, z70.2.2))) else if x2 = (1 : Int32) then (xix x1 5 ((e_hB_X9_good p2 p3 (p6 x1.toNatClampNeg)).bind fun z84 => some (z84.1, (0 : Int32), z84.2.1, z84.2.2))) else if x2 = (2 : Int32) then (xix x1 5 ((e_hB_X9_good p2 p3 (p7 x1.toNatClampNeg)).bind fun z98 => some (z98.1, (0 : Int32), z98.2.1, z98.2.2))) else if x2 = (3 : Int32) then (xix ((0 : Int32) + x1) 11 ((e_hB_X9_good p2 p3 (p4 ((0 : Int32) + x1).toNatClampNeg)).bind fun z111 => some (z111.1, (0 : Int32), z111.2.1, z111.2.2))) else none))
set_option maxRecDepth 100000 in
set_option maxHeartbeats 4000000 in
theorem t_hB_X9_umbrella {g0 g1 g2 g3 g4 g5 g6 g7 g8 g9 g10 g11 g12 g13 g14 g15 g16 g17 g18 g19 g20 g21 g22 g23 g24 g25 g26 : Int32} {a0 a1 a2 a3 a4 a5 a6 a7 a8 a9 a10 a11 a12 a13 a14 a15 a16 a17 a18 a19 a20 a21 a22 a23 : (Nat → Int32)} {b0 : (Nat → Int64)} {w0 : Int64} {rv : Value} (x1 : Int32) (x2 : Int32) (res : Int32 × Int32 × Int32 × Int32) (h : e_hB_X9_umbrella g0 g23 g1 g2 a1 a11 a12 a13 x1 x2 = some res) (d : Nat) : xMet xks YX9_umbrella (d + 2) 0 0 [.ref 0, .int x1, .int x2] (hB g0 g1 g2 g3 g4 g5 g6 g7 g8 g9 g10 g11 g12 g13 g14 g15 g16 g17 g18 g19 g20 g21 g22 g23 g24 g25 g26 a0 a1 a2 a3 a4 a5 a6 a7 a8 a9 a10 a11 a12 a13 a14 a15 a16 a17 a18 a19 a20 a21 a22 a23 b0 w0 (.ref 11) rv) (some (.int res.1)) (hB res.2.1 res.2.2.1 res.2.2.2 g3 g4 g5 g6 g7 g8 g9 g10 g11 g12 g13 g14 g15 g16 g17 g18 g19 g20 g21 g22 g23 g24 g25 g26 a0 a1 a2 a3 a4 a5 a6 a7 a8 a9 a10 a11 a12 a13 a14 a15 a16 a17 a18 a19 a20 a21 a22 a23 b0 w0 (.ref 11) rv) := by
  unfold e_hB_X9_umbrella at h
  refine xMet_of (pl := [some (.ref 0), some (.int x1), some (.int x2)]) (by decide) (Nat.le_of_ble_eq_true rfl) rfl (Nat.le_of_ble_eq_true rfl) ?_
  refine x_aload_n dX9_umbrella_0 rfl ?_
  refine x_iconst (0 : Int32) dX9_umbrella_1 (by decide) ?_
  refine x_put (h2 := (hB (0 : Int32) g1 g2 g3 g4 g5 g6 g7 g8 g9 g10 g11 g12 g13 g14 g15 g16 g17 g18 g19 g20 g21 g22 g23 g24 g25 g26 a0 a1 a2 a3 a4 a5 a6 a7 a8 a9 a10 a11 a12 a13 a14 a15 a16 a17 a18 a19 a20 a21 a22 a23 b0 w0 (.ref 11) rv)) fX9_45 dX9_umbrella_2 rfl rfl (Nat.le_of_ble_eq_true rfl : 0 + 1 ≤ _) (fun α => ⟨rfl, rfl⟩) rfl ?_
  refine x_aload_n dX9_umbrella_5 rfl ?_
  refine x_iload_n dX9_umbrella_6 rfl ?_
  obtain ⟨z7, y7, h⟩ := xbind h
  refine x_callV (t_hB_X9_isUmbrella x1 z7 y7 (d + 0)) kX9_359 dX9_umbrella_7 rfl rfl rfl rfl rfl (Nat.le_of_ble_eq_true rfl) (Nat.le_of_ble_eq_true rfl) rfl rfl (Or.inl rfl) ?_
  refine x_if_eq 22 dX9_umbrella_10 (by decide) (fun q => ?_) (fun q => ?_)
  · have h := xif_t q h
    refine x_aload_n dX9_umbrella_22 rfl ?_
    refine x_iconst (1 : Int32) dX9_umbrella_23 (by decide) ?_
    obtain ⟨z24, y24, h⟩ := xbind h
    refine x_callV (t_hB_X9_refused (1 : Int32) z24 y24 (d + 0)) kX9_51 dX9_umbrella_24 rfl rfl rfl rfl rfl (Nat.le_of_ble_eq_true rfl) (Nat.le_of_ble_eq_true rfl) rfl rfl (Or.inl rfl) ?_
    cases h
    exact x_iret2 dX9_umbrella_27 rfl rfl
  · have h := xif_f q h
    refine x_iload_n dX9_umbrella_13 rfl ?_
    refine x_iconst (0 : Int32) dX9_umbrella_14 (by decide) ?_
    refine x_iconst (4 : Int32) dX9_umbrella_15 (by decide) ?_
    obtain ⟨z16, y16, h⟩ := xbind h
    refine x_callS (t_hB_X9_in x2 (0 : Int32) (4 : Int32) z16 y16 (d + 0)) kX9_124 dX9_umbrella_16 rfl rfl (Nat.le_of_ble_eq_true rfl) (Nat.le_of_ble_eq_true rfl) rfl rfl (Or.inl rfl) ?_
    refine x_if_ne 28 dX9_umbrella_19 (by decide) (fun q => ?_) (fun q => ?_)
    · have h := xif_f q h
      refine x_iload_n dX9_umbrella_28 rfl ?_
      by_cases q : x2.toInt < 0 ∨ 3 < x2.toInt
      · have h := xif_t q h
        refine x_tableOut 115 dX9_umbrella_29 q (by decide) ?_
        refine x_aload_n dX9_umbrella_115 rfl ?_
        refine x_aload_n dX9_umbrella_116 rfl ?_
        refine x_get fX9_17 dX9_umbrella_117 rfl rfl rfl ?_
        refine x_iconst (5 : Int32) dX9_umbrella_120 (by decide) ?_
        refine x_iload_n dX9_umbrella_121 rfl ?_
        refine x_iadd dX9_umbrella_122 ?_
        obtain ⟨q123, h⟩ := xix_of h
        refine x_iald dX9_umbrella_123 rfl q123 ?_
        obtain ⟨z124, y124, h⟩ := xbind h
        refine x_callV (t_hB_X9_good (a1 ((5 : Int32) + x1).toNatClampNeg) z124 y124 (d + 0)) kX9_55 dX9_umbrella_124 rfl rfl rfl rfl rfl (Nat.le_of_ble_eq_true rfl) (Nat.le_of_ble_eq_true rfl) rfl rfl (Or.inl rfl) ?_
        cases h
        exact x_iret2 dX9_umbrella_127 rfl rfl
      · have h := xif_f q h
        by_cases q : x2 = (0 : Int32)
        · have h := xif_t q h
          refine x_tableK 60 q dX9_umbrella_29 (by decide) (by decide) rfl (by decide) ?_
          refine x_aload_n dX9_umbrella_60 rfl ?_
          refine x_aload_n dX9_umbrella_61 rfl ?_
          refine x_get fX9_316 dX9_umbrella_62 rfl rfl rfl ?_
          refine x_get fX9_270 dX9_umbrella_65 rfl rfl rfl ?_
          refine x_iload_n dX9_umbrella_68 rfl ?_
          obtain ⟨q69, h⟩ := xix_of h
          refine x_iald dX9_umbrella_69 rfl q69 ?_
          obtain ⟨z70, y70, h⟩ := xbind h
          refine x_callV (t_hB_X9_good (a11 x1.toNatClampNeg) z70 y70 (d + 0)) kX9_55 dX9_umbrella_70 rfl rfl rfl rfl rfl (Nat.le_of_ble_eq_true rfl) (Nat.le_of_ble_eq_true rfl) rfl rfl (Or.inl rfl) ?_
          cases h
          exact x_iret2 dX9_umbrella_73 rfl rfl
        · have h := xif_f q h
          by_cases q : x2 = (1 : Int32)
          · have h := xif_t q h
            refine x_tableK 74 q dX9_umbrella_29 (by decide) (by decide) rfl (by decide) ?_
            refine x_aload_n dX9_umbrella_74 rfl ?_
            refine x_aload_n dX9_umbrella_75 rfl ?_
            refine x_get fX9_316 dX9_umbrella_76 rfl rfl rfl ?_
            refine x_get fX9_273 dX9_umbrella_79 rfl rfl rfl ?_
            refine x_iload_n dX9_umbrella_82 rfl ?_
            obtain ⟨q83, h⟩ := xix_of h
            refine x_iald dX9_umbrella_83 rfl q83 ?_
            obtain ⟨z84, y84, h⟩ := xbind h
            refine x_callV (t_hB_X9_good (a12 x1.toNatClampNeg) z84 y84 (d + 0)) kX9_55 dX9_umbrella_84 rfl rfl rfl rfl rfl (Nat.le_of_ble_eq_true rfl) (Nat.le_of_ble_eq_true rfl) rfl rfl (Or.inl rfl) ?_
            cases h
            exact x_iret2 dX9_umbrella_87 rfl rfl
          · have h := xif_f q h
            by_cases q : x2 = (2 : Int32)
            · have h := xif_t q h
              refine x_tableK 88 q dX9_umbrella_29 (by decide) (by decide) rfl (by decide) ?_
              refine x_aload_n dX9_umbrella_88 rfl ?_
              refine x_aload_n dX9_umbrella_89 rfl ?_
              refine x_get fX9_316 dX9_umbrella_90 rfl rfl rfl ?_
              refine x_get fX9_275 dX9_umbrella_93 rfl rfl rfl ?_
              refine x_iload_n dX9_umbrella_96 rfl ?_
              obtain ⟨q97, h⟩ := xix_of h
              refine x_iald dX9_umbrella_97 rfl q97 ?_
              obtain ⟨z98, y98, h⟩ := xbind h
              refine x_callV (t_hB_X9_good (a13 x1.toNatClampNeg) z98 y98 (d + 0)) kX9_55 dX9_umbrella_98 rfl rfl rfl rfl rfl (Nat.le_of_ble_eq_true rfl) (Nat.le_of_ble_eq_true rfl) rfl rfl (Or.inl rfl) ?_
              cases h
              exact x_iret2 dX9_umbrella_101 rfl rfl
            · have h := xif_f q h
              by_cases q : x2 = (3 : Int32)
              · have h := xif_t q h
                refine x_tableK 102 q dX9_umbrella_29 (by decide) (by decide) rfl (by decide) ?_
                refine x_aload_n dX9_umbrella_102 rfl ?_
                refine x_aload_n dX9_umbrella_103 rfl ?_
                refine x_get fX9_17 dX9_umbrella_104 rfl rfl rfl ?_
                refine x_iconst (0 : Int32) dX9_umbrella_107 (by decide) ?_
                refine x_iload_n dX9_umbrella_108 rfl ?_
                refine x_iadd dX9_umbrella_109 ?_
                obtain ⟨q110, h⟩ := xix_of h
                refine x_iald dX9_umbrella_110 rfl q110 ?_
                obtain ⟨z111, y111, h⟩ := xbind h
                refine x_callV (t_hB_X9_good (a1 ((0 : Int32) + x1).toNatClampNeg) z111 y111 (d + 0)) kX9_55 dX9_umbrella_111 rfl rfl rfl rfl rfl (Nat.le_of_ble_eq_true rfl) (Nat.le_of_ble_eq_true rfl) rfl rfl (Or.inl rfl) ?_
                cases h
                exact x_iret2 dX9_umbrella_114 rfl rfl
              · have h := xif_f q h
                cases h
    · have h := xif_t q h
      refine x_aload_n dX9_umbrella_22 rfl ?_
      refine x_iconst (1 : Int32) dX9_umbrella_23 (by decide) ?_
      obtain ⟨z24, y24, h⟩ := xbind h
      refine x_callV (t_hB_X9_refused (1 : Int32) z24 y24 (d + 0)) kX9_51 dX9_umbrella_24 rfl rfl rfl rfl rfl (Nat.le_of_ble_eq_true rfl) (Nat.le_of_ble_eq_true rfl) rfl rfl (Or.inl rfl) ?_
      cases h
      exact x_iret2 dX9_umbrella_27 rfl rfl
noncomputable def e_hB_X9_isPerson (p0 : Int32) (x1 : Int32) : Option (Int32) :=
  if x1 < (0 : Int32) then some (0 : Int32) else if p0 ≤ x1 then some (0 : Int32) else some (1 : Int32)
set_option maxRecDepth 100000 in
set_option maxHeartbeats 4000000 in
theorem t_hB_X9_isPerson {g0 g1 g2 g3 g4 g5 g6 g7 g8 g9 g10 g11 g12 g13 g14 g15 g16 g17 g18 g19 g20 g21 g22 g23 g24 g25 g26 : Int32} {a0 a1 a2 a3 a4 a5 a6 a7 a8 a9 a10 a11 a12 a13 a14 a15 a16 a17 a18 a19 a20 a21 a22 a23 : (Nat → Int32)} {b0 : (Nat → Int64)} {w0 : Int64} {rv : Value} (x1 : Int32) (res : Int32) (h : e_hB_X9_isPerson g22 x1 = some res) (d : Nat) : xMet xks YX9_isPerson (d + 1) 0 0 [.ref 0, .int x1] (hB g0 g1 g2 g3 g4 g5 g6 g7 g8 g9 g10 g11 g12 g13 g14 g15 g16 g17 g18 g19 g20 g21 g22 g23 g24 g25 g26 a0 a1 a2 a3 a4 a5 a6 a7 a8 a9 a10 a11 a12 a13 a14 a15 a16 a17 a18 a19 a20 a21 a22 a23 b0 w0 (.ref 11) rv) (some (.int res)) (hB g0 g1 g2 g3 g4 g5 g6 g7 g8 g9 g10 g11 g12 g13 g14 g15 g16 g17 g18 g19 g20 g21 g22 g23 g24 g25 g26 a0 a1 a2 a3 a4 a5 a6 a7 a8 a9 a10 a11 a12 a13 a14 a15 a16 a17 a18 a19 a20 a21 a22 a23 b0 w0 (.ref 11) rv) := by
  unfold e_hB_X9_isPerson at h
  refine xMet_of (pl := [some (.ref 0), some (.int x1)]) (by decide) (Nat.le_of_ble_eq_true rfl) rfl (Nat.le_of_ble_eq_true rfl) ?_
  refine x_aload_n dX9_isPerson_0 rfl ?_
  refine x_get fX9_316 dX9_isPerson_1 rfl rfl rfl ?_
  refine x_ifnull dX9_isPerson_4 ?_
  refine x_iload_n dX9_isPerson_7 rfl ?_
  refine x_if_lt 26 dX9_isPerson_8 (by decide) (fun q => ?_) (fun q => ?_)
  · have h := xif_t q h
    refine x_iconst (0 : Int32) dX9_isPerson_26 (by decide) ?_
    cases h
    exact x_zret2 dX9_isPerson_27 rfl rfl rfl
  · have h := xif_f q h
    refine x_iload_n dX9_isPerson_11 rfl ?_
    refine x_aload_n dX9_isPerson_12 rfl ?_
    refine x_get fX9_316 dX9_isPerson_13 rfl rfl rfl ?_
    refine x_get fX9_191 dX9_isPerson_16 rfl rfl rfl ?_
    refine x_icmp_ge 26 dX9_isPerson_19 (by decide) (fun q => ?_) (fun q => ?_)
    · have h := xif_t q h
      refine x_iconst (0 : Int32) dX9_isPerson_26 (by decide) ?_
      cases h
      exact x_zret2 dX9_isPerson_27 rfl rfl rfl
    · have h := xif_f q h
      refine x_iconst (1 : Int32) dX9_isPerson_22 (by decide) ?_
      refine x_goto 27 dX9_isPerson_23 (by decide) ?_
      cases h
      exact x_zret2 dX9_isPerson_27 rfl rfl rfl
noncomputable def L_hB_X9_landsIn_5 (p0 : Int32) (p1 : (Nat → Int32)) (p2 : (Nat → Int32))  (f2 : Int32) (K : Int32 → Int32 → Option (Int32)) : Nat → Int32 → Int32 → Option (Int32)
  | 0, _, _ => none
  | n5 + 1, l3_5, l4_5 => if p0 ≤ l4_5 then K l3_5 l4_5 else (xix ((5 : Int32) + l4_5) 11 (if (p1 ((5 : Int32) + l4_5).toNatClampNeg) = f2 then (xix l4_5 5 (L_hB_X9_landsIn_5 p0 p1 p2 f2 K n5 (l3_5 + (p2 l4_5.toNatClampNeg)) (l4_5 + (1 : Int32)))) else L_hB_X9_landsIn_5 p0 p1 p2 f2 K n5 (l3_5 + (0 : Int32)) (l4_5 + (1 : Int32))))
noncomputable def e_hB_X9_landsIn (p0 : Int32) (p1 : (Nat → Int32)) (p2 : (Nat → Int32)) (x2 : Int32) : Option (Int32) :=
  L_hB_X9_landsIn_5 p0 p1 p2 x2 (fun l3_5 l4_5 => some l3_5) 200000 (0 : Int32) (0 : Int32)
set_option maxRecDepth 100000 in
set_option maxHeartbeats 4000000 in
theorem lp_hB_X9_landsIn_5 {g0 g1 g2 g3 g4 g5 g6 g7 g8 g9 g10 g11 g12 g13 g14 g15 g16 g17 g18 g19 g20 g21 g22 g23 g24 g25 g26 : Int32} {a0 a1 a2 a3 a4 a5 a6 a7 a8 a9 a10 a11 a12 a13 a14 a15 a16 a17 a18 a19 a20 a21 a22 a23 : (Nat → Int32)} {b0 : (Nat → Int64)} {w0 : Int64} {rv : Value} (d n0 : Nat) (f2 : Int32) (res : Int32) (K : Int32 → Int32 → Option (Int32)) (hK : ∀ (l3_5 : Int32) (l4_5 : Int32), K l3_5 l4_5 = some res → xW xks YX9_landsIn (d + 1) 0 0 n0 (xZ 0 0 n0 (some (.int res)) (hB g0 g1 g2 g3 g4 g5 g6 g7 g8 g9 g10 g11 g12 g13 g14 g15 g16 g17 g18 g19 g20 g21 g22 g23 g24 g25 g26 a0 a1 a2 a3 a4 a5 a6 a7 a8 a9 a10 a11 a12 a13 a14 a15 a16 a17 a18 a19 a20 a21 a22 a23 b0 w0 (.ref 11) rv)) 0 0 50 [none, none, none, some (.int l3_5), none] [] (hB g0 g1 g2 g3 g4 g5 g6 g7 g8 g9 g10 g11 g12 g13 g14 g15 g16 g17 g18 g19 g20 g21 g22 g23 g24 g25 g26 a0 a1 a2 a3 a4 a5 a6 a7 a8 a9 a10 a11 a12 a13 a14 a15 a16 a17 a18 a19 a20 a21 a22 a23 b0 w0 (.ref 11) rv)) : ∀ (n : Nat) (l3_5 : Int32) (l4_5 : Int32), L_hB_X9_landsIn_5 g23 a1 a12 f2 K n l3_5 l4_5 = some res → xW xks YX9_landsIn (d + 1) 0 0 n0 (xZ 0 0 n0 (some (.int res)) (hB g0 g1 g2 g3 g4 g5 g6 g7 g8 g9 g10 g11 g12 g13 g14 g15 g16 g17 g18 g19 g20 g21 g22 g23 g24 g25 g26 a0 a1 a2 a3 a4 a5 a6 a7 a8 a9 a10 a11 a12 a13 a14 a15 a16 a17 a18 a19 a20 a21 a22 a23 b0 w0 (.ref 11) rv)) 0 0 5 [some (.ref 0), some (.ref 2), some (.int f2), some (.int l3_5), some (.int l4_5)] [] (hB g0 g1 g2 g3 g4 g5 g6 g7 g8 g9 g10 g11 g12 g13 g14 g15 g16 g17 g18 g19 g20 g21 g22 g23 g24 g25 g26 a0 a1 a2 a3 a4 a5 a6 a7 a8 a9 a10 a11 a12 a13 a14 a15 a16 a17 a18 a19 a20 a21 a22 a23 b0 w0 (.ref 11) rv) := by
  intro n
  induction n with
  | zero =>
    intro l3_5 l4_5 h
    cases (show (none : Option (Int32)) = some res from h)
  | succ n5 ih5 =>
    intro l3_5 l4_5 h
    unfold L_hB_X9_landsIn_5 at h
    refine x_iload dX9_landsIn_5 rfl ?_
    refine x_aload_n dX9_landsIn_7 rfl ?_
    refine x_get fX9_316 dX9_landsIn_8 rfl rfl rfl ?_
    refine x_get fX9_194 dX9_landsIn_11 rfl rfl rfl ?_
    refine x_icmp_ge 50 dX9_landsIn_14 (by decide) (fun q => ?_) (fun q => ?_)
    · have h := xif_t q h
      refine x_weak (pl2 := [none, none, none, some (.int l3_5), none]) ⟨rfl, trivial⟩ ?_
      exact hK l3_5 l4_5 h
    · have h := xif_f q h
      refine x_iload_n dX9_landsIn_17 rfl ?_
      refine x_aload_n dX9_landsIn_18 rfl ?_
      refine x_iconst (5 : Int32) dX9_landsIn_19 (by decide) ?_
      refine x_iload dX9_landsIn_20 rfl ?_
      refine x_iadd dX9_landsIn_22 ?_
      obtain ⟨q23, h⟩ := xix_of h
      refine x_iald dX9_landsIn_23 rfl q23 ?_
      refine x_iload_n dX9_landsIn_24 rfl ?_
      refine x_icmp_ne 41 dX9_landsIn_25 (by decide) (fun q => ?_) (fun q => ?_)
      · have h := xif_f q h
        refine x_iconst (0 : Int32) dX9_landsIn_41 (by decide) ?_
        refine x_iadd dX9_landsIn_42 ?_
        refine x_istore_n (pl' := [some (.ref 0), some (.ref 2), some (.int f2), some (.int (l3_5 + (0 : Int32))), some (.int l4_5)]) dX9_landsIn_43 (by decide) rfl ?_
        refine x_iincK (1 : Int32) (pl' := [some (.ref 0), some (.ref 2), some (.int f2), some (.int (l3_5 + (0 : Int32))), some (.int (l4_5 + (1 : Int32)))]) dX9_landsIn_44 rfl (by decide) (by decide) rfl ?_
        refine x_goto 5 dX9_landsIn_47 (by decide) ?_
        refine x_weak (pl2 := [some (.ref 0), some (.ref 2), some (.int f2), some (.int (l3_5 + (0 : Int32))), some (.int (l4_5 + (1 : Int32)))]) ⟨rfl, rfl, rfl, rfl, rfl, trivial⟩ ?_
        exact ih5 (l3_5 + (0 : Int32)) (l4_5 + (1 : Int32)) h
      · have h := xif_t q h
        refine x_aload_n dX9_landsIn_28 rfl ?_
        refine x_get fX9_316 dX9_landsIn_29 rfl rfl rfl ?_
        refine x_get fX9_273 dX9_landsIn_32 rfl rfl rfl ?_
        refine x_iload dX9_landsIn_35 rfl ?_
        obtain ⟨q37, h⟩ := xix_of h
        refine x_iald dX9_landsIn_37 rfl q37 ?_
        refine x_goto 42 dX9_landsIn_38 (by decide) ?_
        refine x_iadd dX9_landsIn_42 ?_
        refine x_istore_n (pl' := [some (.ref 0), some (.ref 2), some (.int f2), some (.int (l3_5 + (a12 l4_5.toNatClampNeg))), some (.int l4_5)]) dX9_landsIn_43 (by decide) rfl ?_
        refine x_iincK (1 : Int32) (pl' := [some (.ref 0), some (.ref 2), some (.int f2), some (.int (l3_5 + (a12 l4_5.toNatClampNeg))), some (.int (l4_5 + (1 : Int32)))]) dX9_landsIn_44 rfl (by decide) (by decide) rfl ?_
        refine x_goto 5 dX9_landsIn_47 (by decide) ?_
        refine x_weak (pl2 := [some (.ref 0), some (.ref 2), some (.int f2), some (.int (l3_5 + (a12 l4_5.toNatClampNeg))), some (.int (l4_5 + (1 : Int32)))]) ⟨rfl, rfl, rfl, rfl, rfl, trivial⟩ ?_
        exact ih5 (l3_5 + (a12 l4_5.toNatClampNeg)) (l4_5 + (1 : Int32)) h
set_option maxRecDepth 100000 in
set_option maxHeartbeats 4000000 in
theorem t_hB_X9_landsIn {g0 g1 g2 g3 g4 g5 g6 g7 g8 g9 g10 g11 g12 g13 g14 g15 g16 g17 g18 g19 g20 g21 g22 g23 g24 g25 g26 : Int32} {a0 a1 a2 a3 a4 a5 a6 a7 a8 a9 a10 a11 a12 a13 a14 a15 a16 a17 a18 a19 a20 a21 a22 a23 : (Nat → Int32)} {b0 : (Nat → Int64)} {w0 : Int64} {rv : Value} (x2 : Int32) (res : Int32) (h : e_hB_X9_landsIn g23 a1 a12 x2 = some res) (d : Nat) : xMet xks YX9_landsIn (d + 1) 0 0 [.ref 0, .ref 2, .int x2] (hB g0 g1 g2 g3 g4 g5 g6 g7 g8 g9 g10 g11 g12 g13 g14 g15 g16 g17 g18 g19 g20 g21 g22 g23 g24 g25 g26 a0 a1 a2 a3 a4 a5 a6 a7 a8 a9 a10 a11 a12 a13 a14 a15 a16 a17 a18 a19 a20 a21 a22 a23 b0 w0 (.ref 11) rv) (some (.int res)) (hB g0 g1 g2 g3 g4 g5 g6 g7 g8 g9 g10 g11 g12 g13 g14 g15 g16 g17 g18 g19 g20 g21 g22 g23 g24 g25 g26 a0 a1 a2 a3 a4 a5 a6 a7 a8 a9 a10 a11 a12 a13 a14 a15 a16 a17 a18 a19 a20 a21 a22 a23 b0 w0 (.ref 11) rv) := by
  unfold e_hB_X9_landsIn at h
  refine xMet_of (pl := [some (.ref 0), some (.ref 2), some (.int x2), none, none]) (by decide) (Nat.le_of_ble_eq_true rfl) rfl (Nat.le_of_ble_eq_true rfl) ?_
  refine x_iconst (0 : Int32) dX9_landsIn_0 (by decide) ?_
  refine x_istore_n (pl' := [some (.ref 0), some (.ref 2), some (.int x2), some (.int (0 : Int32)), none]) dX9_landsIn_1 (by decide) rfl ?_
  refine x_iconst (0 : Int32) dX9_landsIn_2 (by decide) ?_
  refine x_istore (pl' := [some (.ref 0), some (.ref 2), some (.int x2), some (.int (0 : Int32)), some (.int (0 : Int32))]) dX9_landsIn_3 (by decide) rfl ?_
  refine x_weak (pl2 := [some (.ref 0), some (.ref 2), some (.int x2), some (.int (0 : Int32)), some (.int (0 : Int32))]) ⟨rfl, rfl, rfl, rfl, rfl, trivial⟩ ?_
  refine lp_hB_X9_landsIn_5 d _ x2 res _ (fun l3_5 l4_5 h => ?_) 200000 (0 : Int32) (0 : Int32) h
  refine x_iload_n dX9_landsIn_50 rfl ?_
  cases h
  exact x_iret2 dX9_landsIn_51 rfl rfl
noncomputable def L_hB_X9_hadBy_5 (p0 : Int32) (p1 : (Nat → Int32))  (f2 : Int32) (K : Int32 → Int32 → Option (Int32)) : Nat → Int32 → Int32 → Option (Int32)
  | 0, _, _ => none
  | n5 + 1, l3_5, l4_5 => if p0 ≤ l4_5 then K l3_5 l4_5 else (xix ((0 : Int32) + l4_5) 11 (if (p1 ((0 : Int32) + l4_5).toNatClampNeg) = f2 then L_hB_X9_hadBy_5 p0 p1 f2 K n5 (l3_5 ||| ((1 : Int32) <<< (l4_5 &&& 31))) (l4_5 + (1 : Int32)) else L_hB_X9_hadBy_5 p0 p1 f2 K n5 (l3_5 ||| (0 : Int32)) (l4_5 + (1 : Int32))))
noncomputable def e_hB_X9_hadBy (p0 : Int32) (p1 : (Nat → Int32)) (x2 : Int32) : Option (Int32) :=
  L_hB_X9_hadBy_5 p0 p1 x2 (fun l3_5 l4_5 => some l3_5) 200000 (0 : Int32) (0 : Int32)
set_option maxRecDepth 100000 in
set_option maxHeartbeats 4000000 in
theorem lp_hB_X9_hadBy_5 {g0 g1 g2 g3 g4 g5 g6 g7 g8 g9 g10 g11 g12 g13 g14 g15 g16 g17 g18 g19 g20 g21 g22 g23 g24 g25 g26 : Int32} {a0 a1 a2 a3 a4 a5 a6 a7 a8 a9 a10 a11 a12 a13 a14 a15 a16 a17 a18 a19 a20 a21 a22 a23 : (Nat → Int32)} {b0 : (Nat → Int64)} {w0 : Int64} {rv : Value} (d n0 : Nat) (f2 : Int32) (res : Int32) (K : Int32 → Int32 → Option (Int32)) (hK : ∀ (l3_5 : Int32) (l4_5 : Int32), K l3_5 l4_5 = some res → xW xks YX9_hadBy (d + 1) 0 0 n0 (xZ 0 0 n0 (some (.int res)) (hB g0 g1 g2 g3 g4 g5 g6 g7 g8 g9 g10 g11 g12 g13 g14 g15 g16 g17 g18 g19 g20 g21 g22 g23 g24 g25 g26 a0 a1 a2 a3 a4 a5 a6 a7 a8 a9 a10 a11 a12 a13 a14 a15 a16 a17 a18 a19 a20 a21 a22 a23 b0 w0 (.ref 11) rv)) 0 0 44 [none, none, none, some (.int l3_5), none] [] (hB g0 g1 g2 g3 g4 g5 g6 g7 g8 g9 g10 g11 g12 g13 g14 g15 g16 g17 g18 g19 g20 g21 g22 g23 g24 g25 g26 a0 a1 a2 a3 a4 a5 a6 a7 a8 a9 a10 a11 a12 a13 a14 a15 a16 a17 a18 a19 a20 a21 a22 a23 b0 w0 (.ref 11) rv)) : ∀ (n : Nat) (l3_5 : Int32) (l4_5 : Int32), L_hB_X9_hadBy_5 g23 a1 f2 K n l3_5 l4_5 = some res → xW xks YX9_hadBy (d + 1) 0 0 n0 (xZ 0 0 n0 (some (.int res)) (hB g0 g1 g2 g3 g4 g5 g6 g7 g8 g9 g10 g11 g12 g13 g14 g15 g16 g17 g18 g19 g20 g21 g22 g23 g24 g25 g26 a0 a1 a2 a3 a4 a5 a6 a7 a8 a9 a10 a11 a12 a13 a14 a15 a16 a17 a18 a19 a20 a21 a22 a23 b0 w0 (.ref 11) rv)) 0 0 5 [some (.ref 0), some (.ref 2), some (.int f2), some (.int l3_5), some (.int l4_5)] [] (hB g0 g1 g2 g3 g4 g5 g6 g7 g8 g9 g10 g11 g12 g13 g14 g15 g16 g17 g18 g19 g20 g21 g22 g23 g24 g25 g26 a0 a1 a2 a3 a4 a5 a6 a7 a8 a9 a10 a11 a12 a13 a14 a15 a16 a17 a18 a19 a20 a21 a22 a23 b0 w0 (.ref 11) rv) := by
  intro n
  induction n with
  | zero =>
    intro l3_5 l4_5 h
    cases (show (none : Option (Int32)) = some res from h)
  | succ n5 ih5 =>
    intro l3_5 l4_5 h
    unfold L_hB_X9_hadBy_5 at h
    refine x_iload dX9_hadBy_5 rfl ?_
    refine x_aload_n dX9_hadBy_7 rfl ?_
    refine x_get fX9_316 dX9_hadBy_8 rfl rfl rfl ?_
    refine x_get fX9_194 dX9_hadBy_11 rfl rfl rfl ?_
    refine x_icmp_ge 44 dX9_hadBy_14 (by decide) (fun q => ?_) (fun q => ?_)
    · have h := xif_t q h
      refine x_weak (pl2 := [none, none, none, some (.int l3_5), none]) ⟨rfl, trivial⟩ ?_
      exact hK l3_5 l4_5 h
    · have h := xif_f q h
      refine x_iload_n dX9_hadBy_17 rfl ?_
      refine x_aload_n dX9_hadBy_18 rfl ?_
      refine x_iconst (0 : Int32) dX9_hadBy_19 (by decide) ?_
      refine x_iload dX9_hadBy_20 rfl ?_
      refine x_iadd dX9_hadBy_22 ?_
      obtain ⟨q23, h⟩ := xix_of h
      refine x_iald dX9_hadBy_23 rfl q23 ?_
      refine x_iload_n dX9_hadBy_24 rfl ?_
      refine x_icmp_ne 35 dX9_hadBy_25 (by decide) (fun q => ?_) (fun q => ?_)
      · have h := xif_f q h
        refine x_iconst (0 : Int32) dX9_hadBy_35 (by decide) ?_
        refine x_ior dX9_hadBy_36 ?_
        refine x_istore_n (pl' := [some (.ref 0), some (.ref 2), some (.int f2), some (.int (l3_5 ||| (0 : Int32))), some (.int l4_5)]) dX9_hadBy_37 (by decide) rfl ?_
        refine x_iincK (1 : Int32) (pl' := [some (.ref 0), some (.ref 2), some (.int f2), some (.int (l3_5 ||| (0 : Int32))), some (.int (l4_5 + (1 : Int32)))]) dX9_hadBy_38 rfl (by decide) (by decide) rfl ?_
        refine x_goto 5 dX9_hadBy_41 (by decide) ?_
        refine x_weak (pl2 := [some (.ref 0), some (.ref 2), some (.int f2), some (.int (l3_5 ||| (0 : Int32))), some (.int (l4_5 + (1 : Int32)))]) ⟨rfl, rfl, rfl, rfl, rfl, trivial⟩ ?_
        exact ih5 (l3_5 ||| (0 : Int32)) (l4_5 + (1 : Int32)) h
      · have h := xif_t q h
        refine x_iconst (1 : Int32) dX9_hadBy_28 (by decide) ?_
        refine x_iload dX9_hadBy_29 rfl ?_
        refine x_ishl dX9_hadBy_31 ?_
        refine x_goto 36 dX9_hadBy_32 (by decide) ?_
        refine x_ior dX9_hadBy_36 ?_
        refine x_istore_n (pl' := [some (.ref 0), some (.ref 2), some (.int f2), some (.int (l3_5 ||| ((1 : Int32) <<< (l4_5 &&& 31)))), some (.int l4_5)]) dX9_hadBy_37 (by decide) rfl ?_
        refine x_iincK (1 : Int32) (pl' := [some (.ref 0), some (.ref 2), some (.int f2), some (.int (l3_5 ||| ((1 : Int32) <<< (l4_5 &&& 31)))), some (.int (l4_5 + (1 : Int32)))]) dX9_hadBy_38 rfl (by decide) (by decide) rfl ?_
        refine x_goto 5 dX9_hadBy_41 (by decide) ?_
        refine x_weak (pl2 := [some (.ref 0), some (.ref 2), some (.int f2), some (.int (l3_5 ||| ((1 : Int32) <<< (l4_5 &&& 31)))), some (.int (l4_5 + (1 : Int32)))]) ⟨rfl, rfl, rfl, rfl, rfl, trivial⟩ ?_
        exact ih5 (l3_5 ||| ((1 : Int32) <<< (l4_5 &&& 31))) (l4_5 + (1 : Int32)) h
set_option maxRecDepth 100000 in
set_option maxHeartbeats 4000000 in
theorem t_hB_X9_hadBy {g0 g1 g2 g3 g4 g5 g6 g7 g8 g9 g10 g11 g12 g13 g14 g15 g16 g17 g18 g19 g20 g21 g22 g23 g24 g25 g26 : Int32} {a0 a1 a2 a3 a4 a5 a6 a7 a8 a9 a10 a11 a12 a13 a14 a15 a16 a17 a18 a19 a20 a21 a22 a23 : (Nat → Int32)} {b0 : (Nat → Int64)} {w0 : Int64} {rv : Value} (x2 : Int32) (res : Int32) (h : e_hB_X9_hadBy g23 a1 x2 = some res) (d : Nat) : xMet xks YX9_hadBy (d + 1) 0 0 [.ref 0, .ref 2, .int x2] (hB g0 g1 g2 g3 g4 g5 g6 g7 g8 g9 g10 g11 g12 g13 g14 g15 g16 g17 g18 g19 g20 g21 g22 g23 g24 g25 g26 a0 a1 a2 a3 a4 a5 a6 a7 a8 a9 a10 a11 a12 a13 a14 a15 a16 a17 a18 a19 a20 a21 a22 a23 b0 w0 (.ref 11) rv) (some (.int res)) (hB g0 g1 g2 g3 g4 g5 g6 g7 g8 g9 g10 g11 g12 g13 g14 g15 g16 g17 g18 g19 g20 g21 g22 g23 g24 g25 g26 a0 a1 a2 a3 a4 a5 a6 a7 a8 a9 a10 a11 a12 a13 a14 a15 a16 a17 a18 a19 a20 a21 a22 a23 b0 w0 (.ref 11) rv) := by
  unfold e_hB_X9_hadBy at h
  refine xMet_of (pl := [some (.ref 0), some (.ref 2), some (.int x2), none, none]) (by decide) (Nat.le_of_ble_eq_true rfl) rfl (Nat.le_of_ble_eq_true rfl) ?_
  refine x_iconst (0 : Int32) dX9_hadBy_0 (by decide) ?_
  refine x_istore_n (pl' := [some (.ref 0), some (.ref 2), some (.int x2), some (.int (0 : Int32)), none]) dX9_hadBy_1 (by decide) rfl ?_
  refine x_iconst (0 : Int32) dX9_hadBy_2 (by decide) ?_
  refine x_istore (pl' := [some (.ref 0), some (.ref 2), some (.int x2), some (.int (0 : Int32)), some (.int (0 : Int32))]) dX9_hadBy_3 (by decide) rfl ?_
  refine x_weak (pl2 := [some (.ref 0), some (.ref 2), some (.int x2), some (.int (0 : Int32)), some (.int (0 : Int32))]) ⟨rfl, rfl, rfl, rfl, rfl, trivial⟩ ?_
  refine lp_hB_X9_hadBy_5 d _ x2 res _ (fun l3_5 l4_5 h => ?_) 200000 (0 : Int32) (0 : Int32) h
  refine x_iload_n dX9_hadBy_44 rfl ?_
  cases h
  exact x_iret2 dX9_hadBy_45 rfl rfl
noncomputable def e_hB_X9_person (p0 : Int32) (p1 : Int32) (p2 : Int32) (p3 : Int32) (p4 : Int32) (p5 : (Nat → Int32)) (p6 : (Nat → Int32)) (p7 : (Nat → Int32)) (x1 : Int32) (x2 : Int32) : Option (Int32 × Int32 × Int32 × Int32) :=
  ((e_hB_X9_isPerson p1 x1).bind fun z7 => if z7 = (0 : Int32) then ((e_hB_X9_refused p2 p3 (1 : Int32)).bind fun z24 => some (z24.1, (0 : Int32), z24.2.1, z24.2.2)) else ((e_hB_X9_in x2 (0 : Int32) (2 : Int32)).bind fun z16 => if z16 = (0 : Int32) then ((e_hB_X9_refused p2 p3 (1 : Int32)).bind fun z24 => some (z24.1, (0 : Int32), z24.2.1, z24.2.2)) else if x2 = (0 : Int32) then (xix x1 6 (((e_hB_X9_good p2 p3 (p7 x1.toNatClampNeg)).bind fun z71 => some (z71.1, (0 : Int32), z71.2.1, z71.2.2)))) else if x2 = (1 : Int32) then ((e_hB_X9_hadBy p4 p5 x1).bind fun z56 => ((e_hB_X9_good p2 p3 z56).bind fun z71 => some (z71.1, (0 : Int32), z71.2.1, z71.2.2))) else ((e_hB_X9_landsIn p4 p5 p6 x1).bind fun z68 => (e_hB_X9_good p2 p3 z68).bind fun z71 => some (z71.1, (0 : Int32), z71.2.1, z71.2.2))))
set_option maxRecDepth 100000 in
set_option maxHeartbeats 4000000 in
theorem t_hB_X9_person {g0 g1 g2 g3 g4 g5 g6 g7 g8 g9 g10 g11 g12 g13 g14 g15 g16 g17 g18 g19 g20 g21 g22 g23 g24 g25 g26 : Int32} {a0 a1 a2 a3 a4 a5 a6 a7 a8 a9 a10 a11 a12 a13 a14 a15 a16 a17 a18 a19 a20 a21 a22 a23 : (Nat → Int32)} {b0 : (Nat → Int64)} {w0 : Int64} {rv : Value} (x1 : Int32) (x2 : Int32) (res : Int32 × Int32 × Int32 × Int32) (h : e_hB_X9_person g0 g22 g1 g2 g23 a1 a12 a10 x1 x2 = some res) (d : Nat) : xMet xks YX9_person (d + 2) 0 0 [.ref 0, .int x1, .int x2] (hB g0 g1 g2 g3 g4 g5 g6 g7 g8 g9 g10 g11 g12 g13 g14 g15 g16 g17 g18 g19 g20 g21 g22 g23 g24 g25 g26 a0 a1 a2 a3 a4 a5 a6 a7 a8 a9 a10 a11 a12 a13 a14 a15 a16 a17 a18 a19 a20 a21 a22 a23 b0 w0 (.ref 11) rv) (some (.int res.1)) (hB res.2.1 res.2.2.1 res.2.2.2 g3 g4 g5 g6 g7 g8 g9 g10 g11 g12 g13 g14 g15 g16 g17 g18 g19 g20 g21 g22 g23 g24 g25 g26 a0 a1 a2 a3 a4 a5 a6 a7 a8 a9 a10 a11 a12 a13 a14 a15 a16 a17 a18 a19 a20 a21 a22 a23 b0 w0 (.ref 11) rv) := by
  unfold e_hB_X9_person at h
  refine xMet_of (pl := [some (.ref 0), some (.int x1), some (.int x2)]) (by decide) (Nat.le_of_ble_eq_true rfl) rfl (Nat.le_of_ble_eq_true rfl) ?_
  refine x_aload_n dX9_person_0 rfl ?_
  refine x_iconst (0 : Int32) dX9_person_1 (by decide) ?_
  refine x_put (h2 := (hB (0 : Int32) g1 g2 g3 g4 g5 g6 g7 g8 g9 g10 g11 g12 g13 g14 g15 g16 g17 g18 g19 g20 g21 g22 g23 g24 g25 g26 a0 a1 a2 a3 a4 a5 a6 a7 a8 a9 a10 a11 a12 a13 a14 a15 a16 a17 a18 a19 a20 a21 a22 a23 b0 w0 (.ref 11) rv)) fX9_45 dX9_person_2 rfl rfl (Nat.le_of_ble_eq_true rfl : 0 + 1 ≤ _) (fun α => ⟨rfl, rfl⟩) rfl ?_
  refine x_aload_n dX9_person_5 rfl ?_
  refine x_iload_n dX9_person_6 rfl ?_
  obtain ⟨z7, y7, h⟩ := xbind h
  refine x_callV (t_hB_X9_isPerson x1 z7 y7 (d + 0)) kX9_362 dX9_person_7 rfl rfl rfl rfl rfl (Nat.le_of_ble_eq_true rfl) (Nat.le_of_ble_eq_true rfl) rfl rfl (Or.inl rfl) ?_
  refine x_if_eq 22 dX9_person_10 (by decide) (fun q => ?_) (fun q => ?_)
  · have h := xif_t q h
    refine x_aload_n dX9_person_22 rfl ?_
    refine x_iconst (1 : Int32) dX9_person_23 (by decide) ?_
    obtain ⟨z24, y24, h⟩ := xbind h
    refine x_callV (t_hB_X9_refused (1 : Int32) z24 y24 (d + 0)) kX9_51 dX9_person_24 rfl rfl rfl rfl rfl (Nat.le_of_ble_eq_true rfl) (Nat.le_of_ble_eq_true rfl) rfl rfl (Or.inl rfl) ?_
    cases h
    exact x_iret2 dX9_person_27 rfl rfl
  · have h := xif_f q h
    refine x_iload_n dX9_person_13 rfl ?_
    refine x_iconst (0 : Int32) dX9_person_14 (by decide) ?_
    refine x_iconst (2 : Int32) dX9_person_15 (by decide) ?_
    obtain ⟨z16, y16, h⟩ := xbind h
    refine x_callS (t_hB_X9_in x2 (0 : Int32) (2 : Int32) z16 y16 (d + 0)) kX9_124 dX9_person_16 rfl rfl (Nat.le_of_ble_eq_true rfl) (Nat.le_of_ble_eq_true rfl) rfl rfl (Or.inl rfl) ?_
    refine x_if_ne 28 dX9_person_19 (by decide) (fun q => ?_) (fun q => ?_)
    · have h := xif_f q h
      refine x_aload_n dX9_person_28 rfl ?_
      refine x_iload_n dX9_person_29 rfl ?_
      refine x_if_ne 45 dX9_person_30 (by decide) (fun q => ?_) (fun q => ?_)
      · have h := xif_f q h
        refine x_iload_n dX9_person_45 rfl ?_
        refine x_iconst (1 : Int32) dX9_person_46 (by decide) ?_
        refine x_icmp_ne 62 dX9_person_47 (by decide) (fun q => ?_) (fun q => ?_)
        · have h := xif_f q h
          refine x_aload_n dX9_person_62 rfl ?_
          refine x_aload_n dX9_person_63 rfl ?_
          refine x_get fX9_17 dX9_person_64 rfl rfl rfl ?_
          refine x_iload_n dX9_person_67 rfl ?_
          obtain ⟨z68, y68, h⟩ := xbind h
          refine x_callV (t_hB_X9_landsIn x1 z68 y68 (d + 0)) kX9_365 dX9_person_68 rfl rfl rfl rfl rfl (Nat.le_of_ble_eq_true rfl) (Nat.le_of_ble_eq_true rfl) rfl rfl (Or.inl rfl) ?_
          obtain ⟨z71, y71, h⟩ := xbind h
          refine x_callV (t_hB_X9_good z68 z71 y71 (d + 0)) kX9_55 dX9_person_71 rfl rfl rfl rfl rfl (Nat.le_of_ble_eq_true rfl) (Nat.le_of_ble_eq_true rfl) rfl rfl (Or.inl rfl) ?_
          cases h
          exact x_iret2 dX9_person_74 rfl rfl
        · have h := xif_t q h
          refine x_aload_n dX9_person_50 rfl ?_
          refine x_aload_n dX9_person_51 rfl ?_
          refine x_get fX9_17 dX9_person_52 rfl rfl rfl ?_
          refine x_iload_n dX9_person_55 rfl ?_
          obtain ⟨z56, y56, h⟩ := xbind h
          refine x_callV (t_hB_X9_hadBy x1 z56 y56 (d + 0)) kX9_338 dX9_person_56 rfl rfl rfl rfl rfl (Nat.le_of_ble_eq_true rfl) (Nat.le_of_ble_eq_true rfl) rfl rfl (Or.inl rfl) ?_
          refine x_goto 71 dX9_person_59 (by decide) ?_
          obtain ⟨z71, y71, h⟩ := xbind h
          refine x_callV (t_hB_X9_good z56 z71 y71 (d + 0)) kX9_55 dX9_person_71 rfl rfl rfl rfl rfl (Nat.le_of_ble_eq_true rfl) (Nat.le_of_ble_eq_true rfl) rfl rfl (Or.inl rfl) ?_
          cases h
          exact x_iret2 dX9_person_74 rfl rfl
      · have h := xif_t q h
        refine x_aload_n dX9_person_33 rfl ?_
        refine x_get fX9_316 dX9_person_34 rfl rfl rfl ?_
        refine x_get fX9_251 dX9_person_37 rfl rfl rfl ?_
        refine x_iload_n dX9_person_40 rfl ?_
        obtain ⟨q41, h⟩ := xix_of h
        refine x_iald dX9_person_41 rfl q41 ?_
        refine x_goto 71 dX9_person_42 (by decide) ?_
        obtain ⟨z71, y71, h⟩ := xbind h
        refine x_callV (t_hB_X9_good (a10 x1.toNatClampNeg) z71 y71 (d + 0)) kX9_55 dX9_person_71 rfl rfl rfl rfl rfl (Nat.le_of_ble_eq_true rfl) (Nat.le_of_ble_eq_true rfl) rfl rfl (Or.inl rfl) ?_
        cases h
        exact x_iret2 dX9_person_74 rfl rfl
    · have h := xif_t q h
      refine x_aload_n dX9_person_22 rfl ?_
      refine x_iconst (1 : Int32) dX9_person_23 (by decide) ?_
      obtain ⟨z24, y24, h⟩ := xbind h
      refine x_callV (t_hB_X9_refused (1 : Int32) z24 y24 (d + 0)) kX9_51 dX9_person_24 rfl rfl rfl rfl rfl (Nat.le_of_ble_eq_true rfl) (Nat.le_of_ble_eq_true rfl) rfl rfl (Or.inl rfl) ?_
      cases h
      exact x_iret2 dX9_person_27 rfl rfl
noncomputable def e_hB_X8_areAlike (p0 : (Nat → Int32)) (p1 : (Nat → Int32)) (x1 : Int32) (x2 : Int32) : Option (Int32) :=
  if x1 = x2 then some (0 : Int32) else (xix x1 5 (xix x2 5 (if (p0 x1.toNatClampNeg) = (p0 x2.toNatClampNeg) then (xix x1 5 (xix x2 5 (if (p1 x1.toNatClampNeg) = (p1 x2.toNatClampNeg) then some (1 : Int32) else some (0 : Int32)))) else some (0 : Int32))))
set_option maxRecDepth 100000 in
set_option maxHeartbeats 4000000 in
theorem t_hB_X8_areAlike {g0 g1 g2 g3 g4 g5 g6 g7 g8 g9 g10 g11 g12 g13 g14 g15 g16 g17 g18 g19 g20 g21 g22 g23 g24 g25 g26 : Int32} {a0 a1 a2 a3 a4 a5 a6 a7 a8 a9 a10 a11 a12 a13 a14 a15 a16 a17 a18 a19 a20 a21 a22 a23 : (Nat → Int32)} {b0 : (Nat → Int64)} {w0 : Int64} {rv : Value} (x1 : Int32) (x2 : Int32) (res : Int32) (h : e_hB_X8_areAlike a11 a13 x1 x2 = some res) (d : Nat) : xMet xks YX8_areAlike (d + 1) 0 0 [.ref 11, .int x1, .int x2] (hB g0 g1 g2 g3 g4 g5 g6 g7 g8 g9 g10 g11 g12 g13 g14 g15 g16 g17 g18 g19 g20 g21 g22 g23 g24 g25 g26 a0 a1 a2 a3 a4 a5 a6 a7 a8 a9 a10 a11 a12 a13 a14 a15 a16 a17 a18 a19 a20 a21 a22 a23 b0 w0 (.ref 11) rv) (some (.int res)) (hB g0 g1 g2 g3 g4 g5 g6 g7 g8 g9 g10 g11 g12 g13 g14 g15 g16 g17 g18 g19 g20 g21 g22 g23 g24 g25 g26 a0 a1 a2 a3 a4 a5 a6 a7 a8 a9 a10 a11 a12 a13 a14 a15 a16 a17 a18 a19 a20 a21 a22 a23 b0 w0 (.ref 11) rv) := by
  unfold e_hB_X8_areAlike at h
  refine xMet_of (pl := [some (.ref 11), some (.int x1), some (.int x2)]) (by decide) (Nat.le_of_ble_eq_true rfl) rfl (Nat.le_of_ble_eq_true rfl) ?_
  refine x_iload_n dX8_areAlike_0 rfl ?_
  refine x_iload_n dX8_areAlike_1 rfl ?_
  refine x_icmp_eq 39 dX8_areAlike_2 (by decide) (fun q => ?_) (fun q => ?_)
  · have h := xif_t q h
    refine x_iconst (0 : Int32) dX8_areAlike_39 (by decide) ?_
    cases h
    exact x_zret2 dX8_areAlike_40 rfl rfl rfl
  · have h := xif_f q h
    refine x_aload_n dX8_areAlike_5 rfl ?_
    refine x_get fX8_15 dX8_areAlike_6 rfl rfl rfl ?_
    refine x_iload_n dX8_areAlike_9 rfl ?_
    obtain ⟨q10, h⟩ := xix_of h
    refine x_iald dX8_areAlike_10 rfl q10 ?_
    refine x_aload_n dX8_areAlike_11 rfl ?_
    refine x_get fX8_15 dX8_areAlike_12 rfl rfl rfl ?_
    refine x_iload_n dX8_areAlike_15 rfl ?_
    obtain ⟨q16, h⟩ := xix_of h
    refine x_iald dX8_areAlike_16 rfl q16 ?_
    refine x_icmp_ne 39 dX8_areAlike_17 (by decide) (fun q => ?_) (fun q => ?_)
    · have h := xif_f q h
      refine x_iconst (0 : Int32) dX8_areAlike_39 (by decide) ?_
      cases h
      exact x_zret2 dX8_areAlike_40 rfl rfl rfl
    · have h := xif_t q h
      refine x_aload_n dX8_areAlike_20 rfl ?_
      refine x_get fX8_21 dX8_areAlike_21 rfl rfl rfl ?_
      refine x_iload_n dX8_areAlike_24 rfl ?_
      obtain ⟨q25, h⟩ := xix_of h
      refine x_iald dX8_areAlike_25 rfl q25 ?_
      refine x_aload_n dX8_areAlike_26 rfl ?_
      refine x_get fX8_21 dX8_areAlike_27 rfl rfl rfl ?_
      refine x_iload_n dX8_areAlike_30 rfl ?_
      obtain ⟨q31, h⟩ := xix_of h
      refine x_iald dX8_areAlike_31 rfl q31 ?_
      refine x_icmp_ne 39 dX8_areAlike_32 (by decide) (fun q => ?_) (fun q => ?_)
      · have h := xif_f q h
        refine x_iconst (0 : Int32) dX8_areAlike_39 (by decide) ?_
        cases h
        exact x_zret2 dX8_areAlike_40 rfl rfl rfl
      · have h := xif_t q h
        refine x_iconst (1 : Int32) dX8_areAlike_35 (by decide) ?_
        refine x_goto 40 dX8_areAlike_36 (by decide) ?_
        cases h
        exact x_zret2 dX8_areAlike_40 rfl rfl rfl
noncomputable def L_hB_X9_alike_23 (p0 : Int32) (p1 : Int32) (p2 : Int32) (p3 : Int32) (p4 : (Nat → Int32)) (p5 : (Nat → Int32))  (f1 : Int32) (K : Int32 → Int32 → Option (Int32 × Int32 × Int32 × Int32)) : Nat → Int32 → Int32 → Option (Int32 × Int32 × Int32 × Int32)
  | 0, _, _ => none
  | n23 + 1, l2_23, l3_23 => if p1 ≤ l3_23 then K l2_23 l3_23 else ((e_hB_X8_areAlike p4 p5 f1 l3_23).bind fun z41 => if z41 = (0 : Int32) then L_hB_X9_alike_23 p0 p1 p2 p3 p4 p5 f1 K n23 (l2_23 ||| (0 : Int32)) (l3_23 + (1 : Int32)) else L_hB_X9_alike_23 p0 p1 p2 p3 p4 p5 f1 K n23 (l2_23 ||| ((1 : Int32) <<< (l3_23 &&& 31))) (l3_23 + (1 : Int32)))
noncomputable def e_hB_X9_alike (p0 : Int32) (p1 : Int32) (p2 : Int32) (p3 : Int32) (p4 : (Nat → Int32)) (p5 : (Nat → Int32)) (x1 : Int32) : Option (Int32 × Int32 × Int32 × Int32) :=
  ((e_hB_X9_isUmbrella p1 x1).bind fun z7 => if z7 = (0 : Int32) then ((e_hB_X9_refused p2 p3 (1 : Int32)).bind fun z15 => some (z15.1, (0 : Int32), z15.2.1, z15.2.2)) else L_hB_X9_alike_23 (0 : Int32) p1 p2 p3 p4 p5 x1 (fun l2_23 l3_23 => ((e_hB_X9_good p2 p3 l2_23).bind fun z64 => some (z64.1, (0 : Int32), z64.2.1, z64.2.2))) 200000 (0 : Int32) (0 : Int32))
set_option maxRecDepth 100000 in
set_option maxHeartbeats 4000000 in
theorem lp_hB_X9_alike_23 {g0 g1 g2 g3 g4 g5 g6 g7 g8 g9 g10 g11 g12 g13 g14 g15 g16 g17 g18 g19 g20 g21 g22 g23 g24 g25 g26 : Int32} {a0 a1 a2 a3 a4 a5 a6 a7 a8 a9 a10 a11 a12 a13 a14 a15 a16 a17 a18 a19 a20 a21 a22 a23 : (Nat → Int32)} {b0 : (Nat → Int64)} {w0 : Int64} {rv : Value} (d n0 : Nat) (f1 : Int32) (res : Int32 × Int32 × Int32 × Int32) (K : Int32 → Int32 → Option (Int32 × Int32 × Int32 × Int32)) (hK : ∀ (l2_23 : Int32) (l3_23 : Int32), K l2_23 l3_23 = some res → xW xks YX9_alike (d + 2) 0 0 n0 (xZ 0 0 n0 (some (.int res.1)) (hB res.2.1 res.2.2.1 res.2.2.2 g3 g4 g5 g6 g7 g8 g9 g10 g11 g12 g13 g14 g15 g16 g17 g18 g19 g20 g21 g22 g23 g24 g25 g26 a0 a1 a2 a3 a4 a5 a6 a7 a8 a9 a10 a11 a12 a13 a14 a15 a16 a17 a18 a19 a20 a21 a22 a23 b0 w0 (.ref 11) rv)) 0 0 62 [some (.ref 0), none, some (.int l2_23), none] [] (hB g0 g1 g2 g3 g4 g5 g6 g7 g8 g9 g10 g11 g12 g13 g14 g15 g16 g17 g18 g19 g20 g21 g22 g23 g24 g25 g26 a0 a1 a2 a3 a4 a5 a6 a7 a8 a9 a10 a11 a12 a13 a14 a15 a16 a17 a18 a19 a20 a21 a22 a23 b0 w0 (.ref 11) rv)) : ∀ (n : Nat) (l2_23 : Int32) (l3_23 : Int32), L_hB_X9_alike_23 g0 g23 g1 g2 a11 a13 f1 K n l2_23 l3_23 = some res → xW xks YX9_alike (d + 2) 0 0 n0 (xZ 0 0 n0 (some (.int res.1)) (hB res.2.1 res.2.2.1 res.2.2.2 g3 g4 g5 g6 g7 g8 g9 g10 g11 g12 g13 g14 g15 g16 g17 g18 g19 g20 g21 g22 g23 g24 g25 g26 a0 a1 a2 a3 a4 a5 a6 a7 a8 a9 a10 a11 a12 a13 a14 a15 a16 a17 a18 a19 a20 a21 a22 a23 b0 w0 (.ref 11) rv)) 0 0 23 [some (.ref 0), some (.int f1), some (.int l2_23), some (.int l3_23)] [] (hB g0 g1 g2 g3 g4 g5 g6 g7 g8 g9 g10 g11 g12 g13 g14 g15 g16 g17 g18 g19 g20 g21 g22 g23 g24 g25 g26 a0 a1 a2 a3 a4 a5 a6 a7 a8 a9 a10 a11 a12 a13 a14 a15 a16 a17 a18 a19 a20 a21 a22 a23 b0 w0 (.ref 11) rv) := by
  intro n
  induction n with
  | zero =>
    intro l2_23 l3_23 h
    cases (show (none : Option (Int32 × Int32 × Int32 × Int32)) = some res from h)
  | succ n23 ih23 =>
    intro l2_23 l3_23 h
    unfold L_hB_X9_alike_23 at h
    refine x_iload_n dX9_alike_23 rfl ?_
    refine x_aload_n dX9_alike_24 rfl ?_
    refine x_get fX9_316 dX9_alike_25 rfl rfl rfl ?_
    refine x_get fX9_194 dX9_alike_28 rfl rfl rfl ?_
    refine x_icmp_ge 62 dX9_alike_31 (by decide) (fun q => ?_) (fun q => ?_)
    · have h := xif_t q h
      refine x_weak (pl2 := [some (.ref 0), none, some (.int l2_23), none]) ⟨rfl, rfl, trivial⟩ ?_
      exact hK l2_23 l3_23 h
    · have h := xif_f q h
      refine x_iload_n dX9_alike_34 rfl ?_
      refine x_aload_n dX9_alike_35 rfl ?_
      refine x_get fX9_316 dX9_alike_36 rfl rfl rfl ?_
      refine x_iload_n dX9_alike_39 rfl ?_
      refine x_iload_n dX9_alike_40 rfl ?_
      obtain ⟨z41, y41, h⟩ := xbind h
      refine x_callV (t_hB_X8_areAlike f1 l3_23 z41 y41 (d + 0)) kX9_368 dX9_alike_41 rfl rfl rfl rfl rfl (Nat.le_of_ble_eq_true rfl) (Nat.le_of_ble_eq_true rfl) rfl rfl (Or.inl rfl) ?_
      refine x_if_eq 53 dX9_alike_44 (by decide) (fun q => ?_) (fun q => ?_)
      · have h := xif_t q h
        refine x_iconst (0 : Int32) dX9_alike_53 (by decide) ?_
        refine x_ior dX9_alike_54 ?_
        refine x_istore_n (pl' := [some (.ref 0), some (.int f1), some (.int (l2_23 ||| (0 : Int32))), some (.int l3_23)]) dX9_alike_55 (by decide) rfl ?_
        refine x_iincK (1 : Int32) (pl' := [some (.ref 0), some (.int f1), some (.int (l2_23 ||| (0 : Int32))), some (.int (l3_23 + (1 : Int32)))]) dX9_alike_56 rfl (by decide) (by decide) rfl ?_
        refine x_goto 23 dX9_alike_59 (by decide) ?_
        refine x_weak (pl2 := [some (.ref 0), some (.int f1), some (.int (l2_23 ||| (0 : Int32))), some (.int (l3_23 + (1 : Int32)))]) ⟨rfl, rfl, rfl, rfl, trivial⟩ ?_
        exact ih23 (l2_23 ||| (0 : Int32)) (l3_23 + (1 : Int32)) h
      · have h := xif_f q h
        refine x_iconst (1 : Int32) dX9_alike_47 (by decide) ?_
        refine x_iload_n dX9_alike_48 rfl ?_
        refine x_ishl dX9_alike_49 ?_
        refine x_goto 54 dX9_alike_50 (by decide) ?_
        refine x_ior dX9_alike_54 ?_
        refine x_istore_n (pl' := [some (.ref 0), some (.int f1), some (.int (l2_23 ||| ((1 : Int32) <<< (l3_23 &&& 31)))), some (.int l3_23)]) dX9_alike_55 (by decide) rfl ?_
        refine x_iincK (1 : Int32) (pl' := [some (.ref 0), some (.int f1), some (.int (l2_23 ||| ((1 : Int32) <<< (l3_23 &&& 31)))), some (.int (l3_23 + (1 : Int32)))]) dX9_alike_56 rfl (by decide) (by decide) rfl ?_
        refine x_goto 23 dX9_alike_59 (by decide) ?_
        refine x_weak (pl2 := [some (.ref 0), some (.int f1), some (.int (l2_23 ||| ((1 : Int32) <<< (l3_23 &&& 31)))), some (.int (l3_23 + (1 : Int32)))]) ⟨rfl, rfl, rfl, rfl, trivial⟩ ?_
        exact ih23 (l2_23 ||| ((1 : Int32) <<< (l3_23 &&& 31))) (l3_23 + (1 : Int32)) h
set_option maxRecDepth 100000 in
set_option maxHeartbeats 4000000 in
theorem t_hB_X9_alike {g0 g1 g2 g3 g4 g5 g6 g7 g8 g9 g10 g11 g12 g13 g14 g15 g16 g17 g18 g19 g20 g21 g22 g23 g24 g25 g26 : Int32} {a0 a1 a2 a3 a4 a5 a6 a7 a8 a9 a10 a11 a12 a13 a14 a15 a16 a17 a18 a19 a20 a21 a22 a23 : (Nat → Int32)} {b0 : (Nat → Int64)} {w0 : Int64} {rv : Value} (x1 : Int32) (res : Int32 × Int32 × Int32 × Int32) (h : e_hB_X9_alike g0 g23 g1 g2 a11 a13 x1 = some res) (d : Nat) : xMet xks YX9_alike (d + 2) 0 0 [.ref 0, .int x1] (hB g0 g1 g2 g3 g4 g5 g6 g7 g8 g9 g10 g11 g12 g13 g14 g15 g16 g17 g18 g19 g20 g21 g22 g23 g24 g25 g26 a0 a1 a2 a3 a4 a5 a6 a7 a8 a9 a10 a11 a12 a13 a14 a15 a16 a17 a18 a19 a20 a21 a22 a23 b0 w0 (.ref 11) rv) (some (.int res.1)) (hB res.2.1 res.2.2.1 res.2.2.2 g3 g4 g5 g6 g7 g8 g9 g10 g11 g12 g13 g14 g15 g16 g17 g18 g19 g20 g21 g22 g23 g24 g25 g26 a0 a1 a2 a3 a4 a5 a6 a7 a8 a9 a10 a11 a12 a13 a14 a15 a16 a17 a18 a19 a20 a21 a22 a23 b0 w0 (.ref 11) rv) := by
  unfold e_hB_X9_alike at h
  refine xMet_of (pl := [some (.ref 0), some (.int x1), none, none]) (by decide) (Nat.le_of_ble_eq_true rfl) rfl (Nat.le_of_ble_eq_true rfl) ?_
  refine x_aload_n dX9_alike_0 rfl ?_
  refine x_iconst (0 : Int32) dX9_alike_1 (by decide) ?_
  refine x_put (h2 := (hB (0 : Int32) g1 g2 g3 g4 g5 g6 g7 g8 g9 g10 g11 g12 g13 g14 g15 g16 g17 g18 g19 g20 g21 g22 g23 g24 g25 g26 a0 a1 a2 a3 a4 a5 a6 a7 a8 a9 a10 a11 a12 a13 a14 a15 a16 a17 a18 a19 a20 a21 a22 a23 b0 w0 (.ref 11) rv)) fX9_45 dX9_alike_2 rfl rfl (Nat.le_of_ble_eq_true rfl : 0 + 1 ≤ _) (fun α => ⟨rfl, rfl⟩) rfl ?_
  refine x_aload_n dX9_alike_5 rfl ?_
  refine x_iload_n dX9_alike_6 rfl ?_
  obtain ⟨z7, y7, h⟩ := xbind h
  refine x_callV (t_hB_X9_isUmbrella x1 z7 y7 (d + 0)) kX9_359 dX9_alike_7 rfl rfl rfl rfl rfl (Nat.le_of_ble_eq_true rfl) (Nat.le_of_ble_eq_true rfl) rfl rfl (Or.inl rfl) ?_
  refine x_if_ne 19 dX9_alike_10 (by decide) (fun q => ?_) (fun q => ?_)
  · have h := xif_f q h
    refine x_iconst (0 : Int32) dX9_alike_19 (by decide) ?_
    refine x_istore_n (pl' := [some (.ref 0), some (.int x1), some (.int (0 : Int32)), none]) dX9_alike_20 (by decide) rfl ?_
    refine x_iconst (0 : Int32) dX9_alike_21 (by decide) ?_
    refine x_istore_n (pl' := [some (.ref 0), some (.int x1), some (.int (0 : Int32)), some (.int (0 : Int32))]) dX9_alike_22 (by decide) rfl ?_
    refine x_weak (pl2 := [some (.ref 0), some (.int x1), some (.int (0 : Int32)), some (.int (0 : Int32))]) ⟨rfl, rfl, rfl, rfl, trivial⟩ ?_
    refine lp_hB_X9_alike_23 d _ x1 res _ (fun l2_23 l3_23 h => ?_) 200000 (0 : Int32) (0 : Int32) h
    refine x_aload_n dX9_alike_62 rfl ?_
    refine x_iload_n dX9_alike_63 rfl ?_
    obtain ⟨z64, y64, h⟩ := xbind h
    refine x_callV (t_hB_X9_good l2_23 z64 y64 (d + 0)) kX9_55 dX9_alike_64 rfl rfl rfl rfl rfl (Nat.le_of_ble_eq_true rfl) (Nat.le_of_ble_eq_true rfl) rfl rfl (Or.inl rfl) ?_
    cases h
    exact x_iret2 dX9_alike_67 rfl rfl
  · have h := xif_t q h
    refine x_aload_n dX9_alike_13 rfl ?_
    refine x_iconst (1 : Int32) dX9_alike_14 (by decide) ?_
    obtain ⟨z15, y15, h⟩ := xbind h
    refine x_callV (t_hB_X9_refused (1 : Int32) z15 y15 (d + 0)) kX9_51 dX9_alike_15 rfl rfl rfl rfl rfl (Nat.le_of_ble_eq_true rfl) (Nat.le_of_ble_eq_true rfl) rfl rfl (Or.inl rfl) ?_
    cases h
    exact x_iret2 dX9_alike_18 rfl rfl
noncomputable def L_hB_X9_rightIn_4 (p0 : Int32) (p1 : (Nat → Int32))   (K : Int32 → Int32 → Option (Int32)) : Nat → Int32 → Int32 → Option (Int32)
  | 0, _, _ => none
  | n4 + 1, l2_4, l3_4 => if p0 ≤ l3_4 then K l2_4 l3_4 else (xix ((5 : Int32) + l3_4) 11 (if (p1 ((5 : Int32) + l3_4).toNatClampNeg) = (-2 : Int32) then L_hB_X9_rightIn_4 p0 p1  K n4 (l2_4 ||| (0 : Int32)) (l3_4 + (1 : Int32)) else (xix ((5 : Int32) + l3_4) 11 (xix ((0 : Int32) + l3_4) 11 (if (p1 ((5 : Int32) + l3_4).toNatClampNeg) = (p1 ((0 : Int32) + l3_4).toNatClampNeg) then L_hB_X9_rightIn_4 p0 p1  K n4 (l2_4 ||| ((1 : Int32) <<< (l3_4 &&& 31))) (l3_4 + (1 : Int32)) else L_hB_X9_rightIn_4 p0 p1  K n4 (l2_4 ||| (0 : Int32)) (l3_4 + (1 : Int32)))))))
noncomputable def e_hB_X9_rightIn (p0 : Int32) (p1 : (Nat → Int32))  : Option (Int32) :=
  L_hB_X9_rightIn_4 p0 p1  (fun l2_4 l3_4 => some l2_4) 200000 (0 : Int32) (0 : Int32)
set_option maxRecDepth 100000 in
set_option maxHeartbeats 4000000 in
theorem lp_hB_X9_rightIn_4 {g0 g1 g2 g3 g4 g5 g6 g7 g8 g9 g10 g11 g12 g13 g14 g15 g16 g17 g18 g19 g20 g21 g22 g23 g24 g25 g26 : Int32} {a0 a1 a2 a3 a4 a5 a6 a7 a8 a9 a10 a11 a12 a13 a14 a15 a16 a17 a18 a19 a20 a21 a22 a23 : (Nat → Int32)} {b0 : (Nat → Int64)} {w0 : Int64} {rv : Value} (d n0 : Nat)  (res : Int32) (K : Int32 → Int32 → Option (Int32)) (hK : ∀ (l2_4 : Int32) (l3_4 : Int32), K l2_4 l3_4 = some res → xW xks YX9_rightIn (d + 1) 0 0 n0 (xZ 0 0 n0 (some (.int res)) (hB g0 g1 g2 g3 g4 g5 g6 g7 g8 g9 g10 g11 g12 g13 g14 g15 g16 g17 g18 g19 g20 g21 g22 g23 g24 g25 g26 a0 a1 a2 a3 a4 a5 a6 a7 a8 a9 a10 a11 a12 a13 a14 a15 a16 a17 a18 a19 a20 a21 a22 a23 b0 w0 (.ref 11) rv)) 0 0 54 [none, none, some (.int l2_4), none] [] (hB g0 g1 g2 g3 g4 g5 g6 g7 g8 g9 g10 g11 g12 g13 g14 g15 g16 g17 g18 g19 g20 g21 g22 g23 g24 g25 g26 a0 a1 a2 a3 a4 a5 a6 a7 a8 a9 a10 a11 a12 a13 a14 a15 a16 a17 a18 a19 a20 a21 a22 a23 b0 w0 (.ref 11) rv)) : ∀ (n : Nat) (l2_4 : Int32) (l3_4 : Int32), L_hB_X9_rightIn_4 g23 a1  K n l2_4 l3_4 = some res → xW xks YX9_rightIn (d + 1) 0 0 n0 (xZ 0 0 n0 (some (.int res)) (hB g0 g1 g2 g3 g4 g5 g6 g7 g8 g9 g10 g11 g12 g13 g14 g15 g16 g17 g18 g19 g20 g21 g22 g23 g24 g25 g26 a0 a1 a2 a3 a4 a5 a6 a7 a8 a9 a10 a11 a12 a13 a14 a15 a16 a17 a18 a19 a20 a21 a22 a23 b0 w0 (.ref 11) rv)) 0 0 4 [some (.ref 0), some (.ref 2), some (.int l2_4), some (.int l3_4)] [] (hB g0 g1 g2 g3 g4 g5 g6 g7 g8 g9 g10 g11 g12 g13 g14 g15 g16 g17 g18 g19 g20 g21 g22 g23 g24 g25 g26 a0 a1 a2 a3 a4 a5 a6 a7 a8 a9 a10 a11 a12 a13 a14 a15 a16 a17 a18 a19 a20 a21 a22 a23 b0 w0 (.ref 11) rv) := by
  intro n
  induction n with
  | zero =>
    intro l2_4 l3_4 h
    cases (show (none : Option (Int32)) = some res from h)
  | succ n4 ih4 =>
    intro l2_4 l3_4 h
    unfold L_hB_X9_rightIn_4 at h
    refine x_iload_n dX9_rightIn_4 rfl ?_
    refine x_aload_n dX9_rightIn_5 rfl ?_
    refine x_get fX9_316 dX9_rightIn_6 rfl rfl rfl ?_
    refine x_get fX9_194 dX9_rightIn_9 rfl rfl rfl ?_
    refine x_icmp_ge 54 dX9_rightIn_12 (by decide) (fun q => ?_) (fun q => ?_)
    · have h := xif_t q h
      refine x_weak (pl2 := [none, none, some (.int l2_4), none]) ⟨rfl, trivial⟩ ?_
      exact hK l2_4 l3_4 h
    · have h := xif_f q h
      refine x_iload_n dX9_rightIn_15 rfl ?_
      refine x_aload_n dX9_rightIn_16 rfl ?_
      refine x_iconst (5 : Int32) dX9_rightIn_17 (by decide) ?_
      refine x_iload_n dX9_rightIn_18 rfl ?_
      refine x_iadd dX9_rightIn_19 ?_
      obtain ⟨q20, h⟩ := xix_of h
      refine x_iald dX9_rightIn_20 rfl q20 ?_
      refine x_bipush (-2 : Int32) dX9_rightIn_21 (by decide) ?_
      refine x_icmp_eq 45 dX9_rightIn_23 (by decide) (fun q => ?_) (fun q => ?_)
      · have h := xif_t q h
        refine x_iconst (0 : Int32) dX9_rightIn_45 (by decide) ?_
        refine x_ior dX9_rightIn_46 ?_
        refine x_istore_n (pl' := [some (.ref 0), some (.ref 2), some (.int (l2_4 ||| (0 : Int32))), some (.int l3_4)]) dX9_rightIn_47 (by decide) rfl ?_
        refine x_iincK (1 : Int32) (pl' := [some (.ref 0), some (.ref 2), some (.int (l2_4 ||| (0 : Int32))), some (.int (l3_4 + (1 : Int32)))]) dX9_rightIn_48 rfl (by decide) (by decide) rfl ?_
        refine x_goto 4 dX9_rightIn_51 (by decide) ?_
        refine x_weak (pl2 := [some (.ref 0), some (.ref 2), some (.int (l2_4 ||| (0 : Int32))), some (.int (l3_4 + (1 : Int32)))]) ⟨rfl, rfl, rfl, rfl, trivial⟩ ?_
        exact ih4 (l2_4 ||| (0 : Int32)) (l3_4 + (1 : Int32)) h
      · have h := xif_f q h
        refine x_aload_n dX9_rightIn_26 rfl ?_
        refine x_iconst (5 : Int32) dX9_rightIn_27 (by decide) ?_
        refine x_iload_n dX9_rightIn_28 rfl ?_
        refine x_iadd dX9_rightIn_29 ?_
        obtain ⟨q30, h⟩ := xix_of h
        refine x_iald dX9_rightIn_30 rfl q30 ?_
        refine x_aload_n dX9_rightIn_31 rfl ?_
        refine x_iconst (0 : Int32) dX9_rightIn_32 (by decide) ?_
        refine x_iload_n dX9_rightIn_33 rfl ?_
        refine x_iadd dX9_rightIn_34 ?_
        obtain ⟨q35, h⟩ := xix_of h
        refine x_iald dX9_rightIn_35 rfl q35 ?_
        refine x_icmp_ne 45 dX9_rightIn_36 (by decide) (fun q => ?_) (fun q => ?_)
        · have h := xif_f q h
          refine x_iconst (0 : Int32) dX9_rightIn_45 (by decide) ?_
          refine x_ior dX9_rightIn_46 ?_
          refine x_istore_n (pl' := [some (.ref 0), some (.ref 2), some (.int (l2_4 ||| (0 : Int32))), some (.int l3_4)]) dX9_rightIn_47 (by decide) rfl ?_
          refine x_iincK (1 : Int32) (pl' := [some (.ref 0), some (.ref 2), some (.int (l2_4 ||| (0 : Int32))), some (.int (l3_4 + (1 : Int32)))]) dX9_rightIn_48 rfl (by decide) (by decide) rfl ?_
          refine x_goto 4 dX9_rightIn_51 (by decide) ?_
          refine x_weak (pl2 := [some (.ref 0), some (.ref 2), some (.int (l2_4 ||| (0 : Int32))), some (.int (l3_4 + (1 : Int32)))]) ⟨rfl, rfl, rfl, rfl, trivial⟩ ?_
          exact ih4 (l2_4 ||| (0 : Int32)) (l3_4 + (1 : Int32)) h
        · have h := xif_t q h
          refine x_iconst (1 : Int32) dX9_rightIn_39 (by decide) ?_
          refine x_iload_n dX9_rightIn_40 rfl ?_
          refine x_ishl dX9_rightIn_41 ?_
          refine x_goto 46 dX9_rightIn_42 (by decide) ?_
          refine x_ior dX9_rightIn_46 ?_
          refine x_istore_n (pl' := [some (.ref 0), some (.ref 2), some (.int (l2_4 ||| ((1 : Int32) <<< (l3_4 &&& 31)))), some (.int l3_4)]) dX9_rightIn_47 (by decide) rfl ?_
          refine x_iincK (1 : Int32) (pl' := [some (.ref 0), some (.ref 2), some (.int (l2_4 ||| ((1 : Int32) <<< (l3_4 &&& 31)))), some (.int (l3_4 + (1 : Int32)))]) dX9_rightIn_48 rfl (by decide) (by decide) rfl ?_
          refine x_goto 4 dX9_rightIn_51 (by decide) ?_
          refine x_weak (pl2 := [some (.ref 0), some (.ref 2), some (.int (l2_4 ||| ((1 : Int32) <<< (l3_4 &&& 31)))), some (.int (l3_4 + (1 : Int32)))]) ⟨rfl, rfl, rfl, rfl, trivial⟩ ?_
          exact ih4 (l2_4 ||| ((1 : Int32) <<< (l3_4 &&& 31))) (l3_4 + (1 : Int32)) h
set_option maxRecDepth 100000 in
set_option maxHeartbeats 4000000 in
theorem t_hB_X9_rightIn {g0 g1 g2 g3 g4 g5 g6 g7 g8 g9 g10 g11 g12 g13 g14 g15 g16 g17 g18 g19 g20 g21 g22 g23 g24 g25 g26 : Int32} {a0 a1 a2 a3 a4 a5 a6 a7 a8 a9 a10 a11 a12 a13 a14 a15 a16 a17 a18 a19 a20 a21 a22 a23 : (Nat → Int32)} {b0 : (Nat → Int64)} {w0 : Int64} {rv : Value}  (res : Int32) (h : e_hB_X9_rightIn g23 a1  = some res) (d : Nat) : xMet xks YX9_rightIn (d + 1) 0 0 [.ref 0, .ref 2] (hB g0 g1 g2 g3 g4 g5 g6 g7 g8 g9 g10 g11 g12 g13 g14 g15 g16 g17 g18 g19 g20 g21 g22 g23 g24 g25 g26 a0 a1 a2 a3 a4 a5 a6 a7 a8 a9 a10 a11 a12 a13 a14 a15 a16 a17 a18 a19 a20 a21 a22 a23 b0 w0 (.ref 11) rv) (some (.int res)) (hB g0 g1 g2 g3 g4 g5 g6 g7 g8 g9 g10 g11 g12 g13 g14 g15 g16 g17 g18 g19 g20 g21 g22 g23 g24 g25 g26 a0 a1 a2 a3 a4 a5 a6 a7 a8 a9 a10 a11 a12 a13 a14 a15 a16 a17 a18 a19 a20 a21 a22 a23 b0 w0 (.ref 11) rv) := by
  unfold e_hB_X9_rightIn at h
  refine xMet_of (pl := [some (.ref 0), some (.ref 2), none, none]) (by decide) (Nat.le_of_ble_eq_true rfl) rfl (Nat.le_of_ble_eq_true rfl) ?_
  refine x_iconst (0 : Int32) dX9_rightIn_0 (by decide) ?_
  refine x_istore_n (pl' := [some (.ref 0), some (.ref 2), some (.int (0 : Int32)), none]) dX9_rightIn_1 (by decide) rfl ?_
  refine x_iconst (0 : Int32) dX9_rightIn_2 (by decide) ?_
  refine x_istore_n (pl' := [some (.ref 0), some (.ref 2), some (.int (0 : Int32)), some (.int (0 : Int32))]) dX9_rightIn_3 (by decide) rfl ?_
  refine x_weak (pl2 := [some (.ref 0), some (.ref 2), some (.int (0 : Int32)), some (.int (0 : Int32))]) ⟨rfl, rfl, rfl, rfl, trivial⟩ ?_
  refine lp_hB_X9_rightIn_4 d _  res _ (fun l2_4 l3_4 h => ?_) 200000 (0 : Int32) (0 : Int32) h
  refine x_iload_n dX9_rightIn_54 rfl ?_
  cases h
  exact x_iret2 dX9_rightIn_55 rfl rfl
noncomputable def e_hB_X9_right (p0 : Int32) (p1 : Int32) (p2 : (Nat → Int32)) (p3 : Int32) (p4 : Int32)  : Option (Int32 × Int32 × Int32 × Int32) :=
  ((e_hB_X9_rightIn p1 p2).bind fun z26 => (e_hB_X9_good p3 p4 z26).bind fun z29 => some (z29.1, (0 : Int32), z29.2.1, z29.2.2))
set_option maxRecDepth 100000 in
set_option maxHeartbeats 4000000 in
theorem t_hB_X9_right {g0 g1 g2 g3 g4 g5 g6 g7 g8 g9 g10 g11 g12 g13 g14 g15 g16 g17 g18 g19 g20 g21 g22 g23 g24 g25 g26 : Int32} {a0 a1 a2 a3 a4 a5 a6 a7 a8 a9 a10 a11 a12 a13 a14 a15 a16 a17 a18 a19 a20 a21 a22 a23 : (Nat → Int32)} {b0 : (Nat → Int64)} {w0 : Int64} {rv : Value}  (res : Int32 × Int32 × Int32 × Int32) (h : e_hB_X9_right g0 g23 a1 g1 g2  = some res) (d : Nat) : xMet xks YX9_right (d + 2) 0 0 [.ref 0] (hB g0 g1 g2 g3 g4 g5 g6 g7 g8 g9 g10 g11 g12 g13 g14 g15 g16 g17 g18 g19 g20 g21 g22 g23 g24 g25 g26 a0 a1 a2 a3 a4 a5 a6 a7 a8 a9 a10 a11 a12 a13 a14 a15 a16 a17 a18 a19 a20 a21 a22 a23 b0 w0 (.ref 11) rv) (some (.int res.1)) (hB res.2.1 res.2.2.1 res.2.2.2 g3 g4 g5 g6 g7 g8 g9 g10 g11 g12 g13 g14 g15 g16 g17 g18 g19 g20 g21 g22 g23 g24 g25 g26 a0 a1 a2 a3 a4 a5 a6 a7 a8 a9 a10 a11 a12 a13 a14 a15 a16 a17 a18 a19 a20 a21 a22 a23 b0 w0 (.ref 11) rv) := by
  unfold e_hB_X9_right at h
  refine xMet_of (pl := [some (.ref 0)]) (by decide) (Nat.le_of_ble_eq_true rfl) rfl (Nat.le_of_ble_eq_true rfl) ?_
  refine x_aload_n dX9_right_0 rfl ?_
  refine x_iconst (0 : Int32) dX9_right_1 (by decide) ?_
  refine x_put (h2 := (hB (0 : Int32) g1 g2 g3 g4 g5 g6 g7 g8 g9 g10 g11 g12 g13 g14 g15 g16 g17 g18 g19 g20 g21 g22 g23 g24 g25 g26 a0 a1 a2 a3 a4 a5 a6 a7 a8 a9 a10 a11 a12 a13 a14 a15 a16 a17 a18 a19 a20 a21 a22 a23 b0 w0 (.ref 11) rv)) fX9_45 dX9_right_2 rfl rfl (Nat.le_of_ble_eq_true rfl : 0 + 1 ≤ _) (fun α => ⟨rfl, rfl⟩) rfl ?_
  refine x_aload_n dX9_right_5 rfl ?_
  refine x_get fX9_316 dX9_right_6 rfl rfl rfl ?_
  refine x_ifnonnull 20 dX9_right_9 (by decide) ?_
  refine x_aload_n dX9_right_20 rfl ?_
  refine x_aload_n dX9_right_21 rfl ?_
  refine x_aload_n dX9_right_22 rfl ?_
  refine x_get fX9_17 dX9_right_23 rfl rfl rfl ?_
  obtain ⟨z26, y26, h⟩ := xbind h
  refine x_callV (t_hB_X9_rightIn  z26 y26 (d + 0)) kX9_372 dX9_right_26 rfl rfl rfl rfl rfl (Nat.le_of_ble_eq_true rfl) (Nat.le_of_ble_eq_true rfl) rfl rfl (Or.inl rfl) ?_
  obtain ⟨z29, y29, h⟩ := xbind h
  refine x_callV (t_hB_X9_good z26 z29 y29 (d + 0)) kX9_55 dX9_right_29 rfl rfl rfl rfl rfl (Nat.le_of_ble_eq_true rfl) (Nat.le_of_ble_eq_true rfl) rfl rfl (Or.inl rfl) ?_
  cases h
  exact x_iret2 dX9_right_32 rfl rfl
noncomputable def L_hB_X9_richest_25 (p0 : Int32) (p1 : Int32) (p2 : Int32) (p3 : Int32) (p4 : Int32) (p5 : (Nat → Int32)) (p6 : (Nat → Int32))   (K : Int32 → Int32 → Int32 → Option (Int32 × Int32 × Int32 × Int32)) : Nat → Int32 → Int32 → Int32 → Option (Int32 × Int32 × Int32 × Int32)
  | 0, _, _, _ => none
  | n25 + 1, l1_25, l2_25, l3_25 => if p1 ≤ l3_25 then K l1_25 l2_25 l3_25 else ((e_hB_X9_landsIn p4 p5 p6 l3_25).bind fun z42 => if l2_25 < z42 then ((e_hB_X9_landsIn p4 p5 p6 l3_25).bind fun z58 => L_hB_X9_richest_25 p0 p1 p2 p3 p4 p5 p6  K n25 l3_25 z58 (l3_25 + (1 : Int32))) else L_hB_X9_richest_25 p0 p1 p2 p3 p4 p5 p6  K n25 l1_25 l2_25 (l3_25 + (1 : Int32)))
noncomputable def e_hB_X9_richest (p0 : Int32) (p1 : Int32) (p2 : Int32) (p3 : Int32) (p4 : Int32) (p5 : (Nat → Int32)) (p6 : (Nat → Int32))  : Option (Int32 × Int32 × Int32 × Int32) :=
  L_hB_X9_richest_25 (0 : Int32) p1 p2 p3 p4 p5 p6  (fun l1_25 l2_25 l3_25 => ((e_hB_X9_good p2 p3 l1_25).bind fun z72 => some (z72.1, (0 : Int32), z72.2.1, z72.2.2))) 200000 (-2 : Int32) (0 : Int32) (0 : Int32)
set_option maxRecDepth 100000 in
set_option maxHeartbeats 4000000 in
theorem lp_hB_X9_richest_25 {g0 g1 g2 g3 g4 g5 g6 g7 g8 g9 g10 g11 g12 g13 g14 g15 g16 g17 g18 g19 g20 g21 g22 g23 g24 g25 g26 : Int32} {a0 a1 a2 a3 a4 a5 a6 a7 a8 a9 a10 a11 a12 a13 a14 a15 a16 a17 a18 a19 a20 a21 a22 a23 : (Nat → Int32)} {b0 : (Nat → Int64)} {w0 : Int64} {rv : Value} (d n0 : Nat)  (res : Int32 × Int32 × Int32 × Int32) (K : Int32 → Int32 → Int32 → Option (Int32 × Int32 × Int32 × Int32)) (hK : ∀ (l1_25 : Int32) (l2_25 : Int32) (l3_25 : Int32), K l1_25 l2_25 l3_25 = some res → xW xks YX9_richest (d + 2) 0 0 n0 (xZ 0 0 n0 (some (.int res.1)) (hB res.2.1 res.2.2.1 res.2.2.2 g3 g4 g5 g6 g7 g8 g9 g10 g11 g12 g13 g14 g15 g16 g17 g18 g19 g20 g21 g22 g23 g24 g25 g26 a0 a1 a2 a3 a4 a5 a6 a7 a8 a9 a10 a11 a12 a13 a14 a15 a16 a17 a18 a19 a20 a21 a22 a23 b0 w0 (.ref 11) rv)) 0 0 70 [some (.ref 0), some (.int l1_25), none, none] [] (hB g0 g1 g2 g3 g4 g5 g6 g7 g8 g9 g10 g11 g12 g13 g14 g15 g16 g17 g18 g19 g20 g21 g22 g23 g24 g25 g26 a0 a1 a2 a3 a4 a5 a6 a7 a8 a9 a10 a11 a12 a13 a14 a15 a16 a17 a18 a19 a20 a21 a22 a23 b0 w0 (.ref 11) rv)) : ∀ (n : Nat) (l1_25 : Int32) (l2_25 : Int32) (l3_25 : Int32), L_hB_X9_richest_25 g0 g22 g1 g2 g23 a1 a12  K n l1_25 l2_25 l3_25 = some res → xW xks YX9_richest (d + 2) 0 0 n0 (xZ 0 0 n0 (some (.int res.1)) (hB res.2.1 res.2.2.1 res.2.2.2 g3 g4 g5 g6 g7 g8 g9 g10 g11 g12 g13 g14 g15 g16 g17 g18 g19 g20 g21 g22 g23 g24 g25 g26 a0 a1 a2 a3 a4 a5 a6 a7 a8 a9 a10 a11 a12 a13 a14 a15 a16 a17 a18 a19 a20 a21 a22 a23 b0 w0 (.ref 11) rv)) 0 0 25 [some (.ref 0), some (.int l1_25), some (.int l2_25), some (.int l3_25)] [] (hB g0 g1 g2 g3 g4 g5 g6 g7 g8 g9 g10 g11 g12 g13 g14 g15 g16 g17 g18 g19 g20 g21 g22 g23 g24 g25 g26 a0 a1 a2 a3 a4 a5 a6 a7 a8 a9 a10 a11 a12 a13 a14 a15 a16 a17 a18 a19 a20 a21 a22 a23 b0 w0 (.ref 11) rv) := by
  intro n
  induction n with
  | zero =>
    intro l1_25 l2_25 l3_25 h
    cases (show (none : Option (Int32 × Int32 × Int32 × Int32)) = some res from h)
  | succ n25 ih25 =>
    intro l1_25 l2_25 l3_25 h
    unfold L_hB_X9_richest_25 at h
    refine x_iload_n dX9_richest_25 rfl ?_
    refine x_aload_n dX9_richest_26 rfl ?_
    refine x_get fX9_316 dX9_richest_27 rfl rfl rfl ?_
    refine x_get fX9_191 dX9_richest_30 rfl rfl rfl ?_
    refine x_icmp_ge 70 dX9_richest_33 (by decide) (fun q => ?_) (fun q => ?_)
    · have h := xif_t q h
      refine x_weak (pl2 := [some (.ref 0), some (.int l1_25), none, none]) ⟨rfl, rfl, trivial⟩ ?_
      exact hK l1_25 l2_25 l3_25 h
    · have h := xif_f q h
      refine x_aload_n dX9_richest_36 rfl ?_
      refine x_aload_n dX9_richest_37 rfl ?_
      refine x_get fX9_17 dX9_richest_38 rfl rfl rfl ?_
      refine x_iload_n dX9_richest_41 rfl ?_
      obtain ⟨z42, y42, h⟩ := xbind h
      refine x_callV (t_hB_X9_landsIn l3_25 z42 y42 (d + 0)) kX9_365 dX9_richest_42 rfl rfl rfl rfl rfl (Nat.le_of_ble_eq_true rfl) (Nat.le_of_ble_eq_true rfl) rfl rfl (Or.inl rfl) ?_
      refine x_iload_n dX9_richest_45 rfl ?_
      refine x_icmp_gt 52 dX9_richest_46 (by decide) (fun q => ?_) (fun q => ?_)
      · have h := xif_t q h
        refine x_aload_n dX9_richest_52 rfl ?_
        refine x_aload_n dX9_richest_53 rfl ?_
        refine x_get fX9_17 dX9_richest_54 rfl rfl rfl ?_
        refine x_iload_n dX9_richest_57 rfl ?_
        obtain ⟨z58, y58, h⟩ := xbind h
        refine x_callV (t_hB_X9_landsIn l3_25 z58 y58 (d + 0)) kX9_365 dX9_richest_58 rfl rfl rfl rfl rfl (Nat.le_of_ble_eq_true rfl) (Nat.le_of_ble_eq_true rfl) rfl rfl (Or.inl rfl) ?_
        refine x_istore_n (pl' := [some (.ref 0), some (.int l1_25), some (.int z58), some (.int l3_25)]) dX9_richest_61 (by decide) rfl ?_
        refine x_iload_n dX9_richest_62 rfl ?_
        refine x_istore_n (pl' := [some (.ref 0), some (.int l3_25), some (.int z58), some (.int l3_25)]) dX9_richest_63 (by decide) rfl ?_
        refine x_iincK (1 : Int32) (pl' := [some (.ref 0), some (.int l3_25), some (.int z58), some (.int (l3_25 + (1 : Int32)))]) dX9_richest_64 rfl (by decide) (by decide) rfl ?_
        refine x_goto 25 dX9_richest_67 (by decide) ?_
        refine x_weak (pl2 := [some (.ref 0), some (.int l3_25), some (.int z58), some (.int (l3_25 + (1 : Int32)))]) ⟨rfl, rfl, rfl, rfl, trivial⟩ ?_
        exact ih25 l3_25 z58 (l3_25 + (1 : Int32)) h
      · have h := xif_f q h
        refine x_goto 64 dX9_richest_49 (by decide) ?_
        refine x_iincK (1 : Int32) (pl' := [some (.ref 0), some (.int l1_25), some (.int l2_25), some (.int (l3_25 + (1 : Int32)))]) dX9_richest_64 rfl (by decide) (by decide) rfl ?_
        refine x_goto 25 dX9_richest_67 (by decide) ?_
        refine x_weak (pl2 := [some (.ref 0), some (.int l1_25), some (.int l2_25), some (.int (l3_25 + (1 : Int32)))]) ⟨rfl, rfl, rfl, rfl, trivial⟩ ?_
        exact ih25 l1_25 l2_25 (l3_25 + (1 : Int32)) h
set_option maxRecDepth 100000 in
set_option maxHeartbeats 4000000 in
theorem t_hB_X9_richest {g0 g1 g2 g3 g4 g5 g6 g7 g8 g9 g10 g11 g12 g13 g14 g15 g16 g17 g18 g19 g20 g21 g22 g23 g24 g25 g26 : Int32} {a0 a1 a2 a3 a4 a5 a6 a7 a8 a9 a10 a11 a12 a13 a14 a15 a16 a17 a18 a19 a20 a21 a22 a23 : (Nat → Int32)} {b0 : (Nat → Int64)} {w0 : Int64} {rv : Value}  (res : Int32 × Int32 × Int32 × Int32) (h : e_hB_X9_richest g0 g22 g1 g2 g23 a1 a12  = some res) (d : Nat) : xMet xks YX9_richest (d + 2) 0 0 [.ref 0] (hB g0 g1 g2 g3 g4 g5 g6 g7 g8 g9 g10 g11 g12 g13 g14 g15 g16 g17 g18 g19 g20 g21 g22 g23 g24 g25 g26 a0 a1 a2 a3 a4 a5 a6 a7 a8 a9 a10 a11 a12 a13 a14 a15 a16 a17 a18 a19 a20 a21 a22 a23 b0 w0 (.ref 11) rv) (some (.int res.1)) (hB res.2.1 res.2.2.1 res.2.2.2 g3 g4 g5 g6 g7 g8 g9 g10 g11 g12 g13 g14 g15 g16 g17 g18 g19 g20 g21 g22 g23 g24 g25 g26 a0 a1 a2 a3 a4 a5 a6 a7 a8 a9 a10 a11 a12 a13 a14 a15 a16 a17 a18 a19 a20 a21 a22 a23 b0 w0 (.ref 11) rv) := by
  unfold e_hB_X9_richest at h
  refine xMet_of (pl := [some (.ref 0), none, none, none]) (by decide) (Nat.le_of_ble_eq_true rfl) rfl (Nat.le_of_ble_eq_true rfl) ?_
  refine x_aload_n dX9_richest_0 rfl ?_
  refine x_iconst (0 : Int32) dX9_richest_1 (by decide) ?_
  refine x_put (h2 := (hB (0 : Int32) g1 g2 g3 g4 g5 g6 g7 g8 g9 g10 g11 g12 g13 g14 g15 g16 g17 g18 g19 g20 g21 g22 g23 g24 g25 g26 a0 a1 a2 a3 a4 a5 a6 a7 a8 a9 a10 a11 a12 a13 a14 a15 a16 a17 a18 a19 a20 a21 a22 a23 b0 w0 (.ref 11) rv)) fX9_45 dX9_richest_2 rfl rfl (Nat.le_of_ble_eq_true rfl : 0 + 1 ≤ _) (fun α => ⟨rfl, rfl⟩) rfl ?_
  refine x_aload_n dX9_richest_5 rfl ?_
  refine x_get fX9_316 dX9_richest_6 rfl rfl rfl ?_
  refine x_ifnonnull 18 dX9_richest_9 (by decide) ?_
  refine x_bipush (-2 : Int32) dX9_richest_18 (by decide) ?_
  refine x_istore_n (pl' := [some (.ref 0), some (.int (-2 : Int32)), none, none]) dX9_richest_20 (by decide) rfl ?_
  refine x_iconst (0 : Int32) dX9_richest_21 (by decide) ?_
  refine x_istore_n (pl' := [some (.ref 0), some (.int (-2 : Int32)), some (.int (0 : Int32)), none]) dX9_richest_22 (by decide) rfl ?_
  refine x_iconst (0 : Int32) dX9_richest_23 (by decide) ?_
  refine x_istore_n (pl' := [some (.ref 0), some (.int (-2 : Int32)), some (.int (0 : Int32)), some (.int (0 : Int32))]) dX9_richest_24 (by decide) rfl ?_
  refine x_weak (pl2 := [some (.ref 0), some (.int (-2 : Int32)), some (.int (0 : Int32)), some (.int (0 : Int32))]) ⟨rfl, rfl, rfl, rfl, trivial⟩ ?_
  refine lp_hB_X9_richest_25 d _  res _ (fun l1_25 l2_25 l3_25 h => ?_) 200000 (-2 : Int32) (0 : Int32) (0 : Int32) h
  refine x_aload_n dX9_richest_70 rfl ?_
  refine x_iload_n dX9_richest_71 rfl ?_
  obtain ⟨z72, y72, h⟩ := xbind h
  refine x_callV (t_hB_X9_good l1_25 z72 y72 (d + 0)) kX9_55 dX9_richest_72 rfl rfl rfl rfl rfl (Nat.le_of_ble_eq_true rfl) (Nat.le_of_ble_eq_true rfl) rfl rfl (Or.inl rfl) ?_
  cases h
  exact x_iret2 dX9_richest_75 rfl rfl
noncomputable def e_hB_X9_isChild (p0 : (Nat → Int32)) (x1 : Int32) : Option (Int32) :=
  (xix x1 6 (if (p0 x1.toNatClampNeg) = (1 : Int32) then some (1 : Int32) else some (0 : Int32)))
set_option maxRecDepth 100000 in
set_option maxHeartbeats 4000000 in
theorem t_hB_X9_isChild {g0 g1 g2 g3 g4 g5 g6 g7 g8 g9 g10 g11 g12 g13 g14 g15 g16 g17 g18 g19 g20 g21 g22 g23 g24 g25 g26 : Int32} {a0 a1 a2 a3 a4 a5 a6 a7 a8 a9 a10 a11 a12 a13 a14 a15 a16 a17 a18 a19 a20 a21 a22 a23 : (Nat → Int32)} {b0 : (Nat → Int64)} {w0 : Int64} {rv : Value} (x1 : Int32) (res : Int32) (h : e_hB_X9_isChild a10 x1 = some res) (d : Nat) : xMet xks YX9_isChild (d + 1) 0 0 [.ref 0, .int x1] (hB g0 g1 g2 g3 g4 g5 g6 g7 g8 g9 g10 g11 g12 g13 g14 g15 g16 g17 g18 g19 g20 g21 g22 g23 g24 g25 g26 a0 a1 a2 a3 a4 a5 a6 a7 a8 a9 a10 a11 a12 a13 a14 a15 a16 a17 a18 a19 a20 a21 a22 a23 b0 w0 (.ref 11) rv) (some (.int res)) (hB g0 g1 g2 g3 g4 g5 g6 g7 g8 g9 g10 g11 g12 g13 g14 g15 g16 g17 g18 g19 g20 g21 g22 g23 g24 g25 g26 a0 a1 a2 a3 a4 a5 a6 a7 a8 a9 a10 a11 a12 a13 a14 a15 a16 a17 a18 a19 a20 a21 a22 a23 b0 w0 (.ref 11) rv) := by
  unfold e_hB_X9_isChild at h
  refine xMet_of (pl := [some (.ref 0), some (.int x1)]) (by decide) (Nat.le_of_ble_eq_true rfl) rfl (Nat.le_of_ble_eq_true rfl) ?_
  refine x_aload_n dX9_isChild_0 rfl ?_
  refine x_get fX9_316 dX9_isChild_1 rfl rfl rfl ?_
  refine x_get fX9_251 dX9_isChild_4 rfl rfl rfl ?_
  refine x_iload_n dX9_isChild_7 rfl ?_
  obtain ⟨q8, h⟩ := xix_of h
  refine x_iald dX9_isChild_8 rfl q8 ?_
  refine x_iconst (1 : Int32) dX9_isChild_9 (by decide) ?_
  refine x_icmp_ne 17 dX9_isChild_10 (by decide) (fun q => ?_) (fun q => ?_)
  · have h := xif_f q h
    refine x_iconst (0 : Int32) dX9_isChild_17 (by decide) ?_
    cases h
    exact x_zret2 dX9_isChild_18 rfl rfl rfl
  · have h := xif_t q h
    refine x_iconst (1 : Int32) dX9_isChild_13 (by decide) ?_
    refine x_goto 18 dX9_isChild_14 (by decide) ?_
    cases h
    exact x_zret2 dX9_isChild_18 rfl rfl rfl
noncomputable def L_hB_X9_starts_7 (p1 : Int32) (p2 : (Nat → Int32)) (p3 : (Nat → Int32)) (p4 : (Nat → Int32))   (K : Int32 → (Nat → Int32) → Option ((Nat → Int32))) : Nat → Int32 → (Nat → Int32) → Option ((Nat → Int32))
  | 0, _, _ => none
  | n7 + 1, l2_7, ma2_7 => if (5 : Int32) ≤ l2_7 then K l2_7 ma2_7 else if p1 ≤ l2_7 then (xix ((0 : Int32) + l2_7) 11 (if (-2 : Int32) = (-2 : Int32) then (xix ((5 : Int32) + l2_7) 11 (L_hB_X9_starts_7 p1 p2 p3 p4  K n7 (l2_7 + (1 : Int32)) (upd (upd ma2_7 ((0 : Int32) + l2_7).toNatClampNeg (-2 : Int32)) ((5 : Int32) + l2_7).toNatClampNeg (-2 : Int32)))) else (xix l2_7 5 (if (p2 l2_7.toNatClampNeg) = (2 : Int32) then (xix ((5 : Int32) + l2_7) 11 (L_hB_X9_starts_7 p1 p2 p3 p4  K n7 (l2_7 + (1 : Int32)) (upd (upd ma2_7 ((0 : Int32) + l2_7).toNatClampNeg (-2 : Int32)) ((5 : Int32) + l2_7).toNatClampNeg (-2 : Int32)))) else ((e_hB_X9_isChild p3 (-2 : Int32)).bind fun z69 => if z69 = (0 : Int32) then (xix ((5 : Int32) + l2_7) 11 (L_hB_X9_starts_7 p1 p2 p3 p4  K n7 (l2_7 + (1 : Int32)) (upd (upd ma2_7 ((0 : Int32) + l2_7).toNatClampNeg (-2 : Int32)) ((5 : Int32) + l2_7).toNatClampNeg (-2 : Int32)))) else (xix ((5 : Int32) + l2_7) 11 (L_hB_X9_starts_7 p1 p2 p3 p4  K n7 (l2_7 + (1 : Int32)) (upd (upd ma2_7 ((0 : Int32) + l2_7).toNatClampNeg (-2 : Int32)) ((5 : Int32) + l2_7).toNatClampNeg (-2 : Int32))))))))) else (xix l2_7 5 ((xix ((0 : Int32) + l2_7) 11 (if (p4 l2_7.toNatClampNeg) = (-2 : Int32) then (xix ((5 : Int32) + l2_7) 11 (L_hB_X9_starts_7 p1 p2 p3 p4  K n7 (l2_7 + (1 : Int32)) (upd (upd ma2_7 ((0 : Int32) + l2_7).toNatClampNeg (p4 l2_7.toNatClampNeg)) ((5 : Int32) + l2_7).toNatClampNeg (-2 : Int32)))) else (xix l2_7 5 (if (p2 l2_7.toNatClampNeg) = (2 : Int32) then (xix ((5 : Int32) + l2_7) 11 (L_hB_X9_starts_7 p1 p2 p3 p4  K n7 (l2_7 + (1 : Int32)) (upd (upd ma2_7 ((0 : Int32) + l2_7).toNatClampNeg (p4 l2_7.toNatClampNeg)) ((5 : Int32) + l2_7).toNatClampNeg (-2 : Int32)))) else ((e_hB_X9_isChild p3 (p4 l2_7.toNatClampNeg)).bind fun z69 => if z69 = (0 : Int32) then (xix ((5 : Int32) + l2_7) 11 (L_hB_X9_starts_7 p1 p2 p3 p4  K n7 (l2_7 + (1 : Int32)) (upd (upd ma2_7 ((0 : Int32) + l2_7).toNatClampNeg (p4 l2_7.toNatClampNeg)) ((5 : Int32) + l2_7).toNatClampNeg (p4 l2_7.toNatClampNeg)))) else (xix ((5 : Int32) + l2_7) 11 (L_hB_X9_starts_7 p1 p2 p3 p4  K n7 (l2_7 + (1 : Int32)) (upd (upd ma2_7 ((0 : Int32) + l2_7).toNatClampNeg (p4 l2_7.toNatClampNeg)) ((5 : Int32) + l2_7).toNatClampNeg (-2 : Int32)))))))))))
noncomputable def e_hB_X9_starts (p0 : (Nat → Int32)) (p1 : Int32) (p2 : (Nat → Int32)) (p3 : (Nat → Int32)) (p4 : (Nat → Int32))  : Option ((Nat → Int32)) :=
  L_hB_X9_starts_7 p1 p2 p3 p4  (fun l2_7 ma2_7 => some ma2_7) 200000 (0 : Int32) (upd p0 (10 : Int32).toNatClampNeg (0 : Int32))
set_option maxRecDepth 100000 in
set_option maxHeartbeats 4000000 in
theorem lp_hB_X9_starts_7 {g0 g1 g2 g3 g4 g5 g6 g7 g8 g9 g10 g11 g12 g13 g14 g15 g16 g17 g18 g19 g20 g21 g22 g23 g24 g25 g26 : Int32} {a0 a1 a3 a4 a5 a6 a7 a8 a9 a10 a11 a12 a13 a14 a15 a16 a17 a18 a19 a20 a21 a22 a23 : (Nat → Int32)} {b0 : (Nat → Int64)} {w0 : Int64} {rv : Value} (d n0 : Nat)  (res : (Nat → Int32)) (K : Int32 → (Nat → Int32) → Option ((Nat → Int32))) (hK : ∀ (l2_7 : Int32) (ma2_7 : (Nat → Int32)), K l2_7 ma2_7 = some res → xW xks YX9_starts (d + 2) 0 0 n0 (xZ 0 0 n0 none (hB g0 g1 g2 g3 g4 g5 g6 g7 g8 g9 g10 g11 g12 g13 g14 g15 g16 g17 g18 g19 g20 g21 g22 g23 g24 g25 g26 a0 a1 res a3 a4 a5 a6 a7 a8 a9 a10 a11 a12 a13 a14 a15 a16 a17 a18 a19 a20 a21 a22 a23 b0 w0 (.ref 11) rv)) 0 0 88 [none, none, none, none] [] (hB g0 g1 g2 g3 g4 g5 g6 g7 g8 g9 g10 g11 g12 g13 g14 g15 g16 g17 g18 g19 g20 g21 g22 g23 g24 g25 g26 a0 a1 ma2_7 a3 a4 a5 a6 a7 a8 a9 a10 a11 a12 a13 a14 a15 a16 a17 a18 a19 a20 a21 a22 a23 b0 w0 (.ref 11) rv)) : ∀ (n : Nat) (l2_7 : Int32) (ma2_7 : (Nat → Int32)), L_hB_X9_starts_7 g23 a11 a10 a14  K n l2_7 ma2_7 = some res → xW xks YX9_starts (d + 2) 0 0 n0 (xZ 0 0 n0 none (hB g0 g1 g2 g3 g4 g5 g6 g7 g8 g9 g10 g11 g12 g13 g14 g15 g16 g17 g18 g19 g20 g21 g22 g23 g24 g25 g26 a0 a1 res a3 a4 a5 a6 a7 a8 a9 a10 a11 a12 a13 a14 a15 a16 a17 a18 a19 a20 a21 a22 a23 b0 w0 (.ref 11) rv)) 0 0 7 [some (.ref 0), some (.ref 3), some (.int l2_7), none] [] (hB g0 g1 g2 g3 g4 g5 g6 g7 g8 g9 g10 g11 g12 g13 g14 g15 g16 g17 g18 g19 g20 g21 g22 g23 g24 g25 g26 a0 a1 ma2_7 a3 a4 a5 a6 a7 a8 a9 a10 a11 a12 a13 a14 a15 a16 a17 a18 a19 a20 a21 a22 a23 b0 w0 (.ref 11) rv) := by
  intro n
  induction n with
  | zero =>
    intro l2_7 ma2_7 h
    cases (show (none : Option ((Nat → Int32))) = some res from h)
  | succ n7 ih7 =>
    intro l2_7 ma2_7 h
    unfold L_hB_X9_starts_7 at h
    refine x_iload_n dX9_starts_7 rfl ?_
    refine x_iconst (5 : Int32) dX9_starts_8 (by decide) ?_
    refine x_icmp_ge 88 dX9_starts_9 (by decide) (fun q => ?_) (fun q => ?_)
    · have h := xif_t q h
      refine x_weak (pl2 := [none, none, none, none]) trivial ?_
      exact hK l2_7 ma2_7 h
    · have h := xif_f q h
      refine x_iload_n dX9_starts_12 rfl ?_
      refine x_aload_n dX9_starts_13 rfl ?_
      refine x_get fX9_316 dX9_starts_14 rfl rfl rfl ?_
      refine x_get fX9_194 dX9_starts_17 rfl rfl rfl ?_
      refine x_icmp_ge 35 dX9_starts_20 (by decide) (fun q => ?_) (fun q => ?_)
      · have h := xif_t q h
        refine x_bipush (-2 : Int32) dX9_starts_35 (by decide) ?_
        refine x_istore_n (pl' := [some (.ref 0), some (.ref 3), some (.int l2_7), some (.int (-2 : Int32))]) dX9_starts_37 (by decide) rfl ?_
        refine x_aload_n dX9_starts_38 rfl ?_
        refine x_iconst (0 : Int32) dX9_starts_39 (by decide) ?_
        refine x_iload_n dX9_starts_40 rfl ?_
        refine x_iadd dX9_starts_41 ?_
        refine x_iload_n dX9_starts_42 rfl ?_
        obtain ⟨q43, h⟩ := xix_of h
        refine x_iast (h2 := (hB g0 g1 g2 g3 g4 g5 g6 g7 g8 g9 g10 g11 g12 g13 g14 g15 g16 g17 g18 g19 g20 g21 g22 g23 g24 g25 g26 a0 a1 (upd ma2_7 ((0 : Int32) + l2_7).toNatClampNeg (-2 : Int32)) a3 a4 a5 a6 a7 a8 a9 a10 a11 a12 a13 a14 a15 a16 a17 a18 a19 a20 a21 a22 a23 b0 w0 (.ref 11) rv)) dX9_starts_43 rfl q43 rfl ?_
        refine x_aload_n dX9_starts_44 rfl ?_
        refine x_iconst (5 : Int32) dX9_starts_45 (by decide) ?_
        refine x_iload_n dX9_starts_46 rfl ?_
        refine x_iadd dX9_starts_47 ?_
        refine x_iload_n dX9_starts_48 rfl ?_
        refine x_bipush (-2 : Int32) dX9_starts_49 (by decide) ?_
        refine x_icmp_eq 75 dX9_starts_51 (by decide) (fun q => ?_) (fun q => ?_)
        · have h := xif_t q h
          refine x_bipush (-2 : Int32) dX9_starts_75 (by decide) ?_
          refine x_goto 81 dX9_starts_77 (by decide) ?_
          obtain ⟨q81, h⟩ := xix_of h
          refine x_iast (h2 := (hB g0 g1 g2 g3 g4 g5 g6 g7 g8 g9 g10 g11 g12 g13 g14 g15 g16 g17 g18 g19 g20 g21 g22 g23 g24 g25 g26 a0 a1 (upd (upd ma2_7 ((0 : Int32) + l2_7).toNatClampNeg (-2 : Int32)) ((5 : Int32) + l2_7).toNatClampNeg (-2 : Int32)) a3 a4 a5 a6 a7 a8 a9 a10 a11 a12 a13 a14 a15 a16 a17 a18 a19 a20 a21 a22 a23 b0 w0 (.ref 11) rv)) dX9_starts_81 rfl q81 rfl ?_
          refine x_iincK (1 : Int32) (pl' := [some (.ref 0), some (.ref 3), some (.int (l2_7 + (1 : Int32))), some (.int (-2 : Int32))]) dX9_starts_82 rfl (by decide) (by decide) rfl ?_
          refine x_goto 7 dX9_starts_85 (by decide) ?_
          refine x_weak (pl2 := [some (.ref 0), some (.ref 3), some (.int (l2_7 + (1 : Int32))), none]) ⟨rfl, rfl, rfl, trivial⟩ ?_
          exact ih7 (l2_7 + (1 : Int32)) (upd (upd ma2_7 ((0 : Int32) + l2_7).toNatClampNeg (-2 : Int32)) ((5 : Int32) + l2_7).toNatClampNeg (-2 : Int32)) h
        · have h := xif_f q h
          refine x_aload_n dX9_starts_54 rfl ?_
          refine x_get fX9_316 dX9_starts_55 rfl rfl rfl ?_
          refine x_get fX9_270 dX9_starts_58 rfl rfl rfl ?_
          refine x_iload_n dX9_starts_61 rfl ?_
          obtain ⟨q62, h⟩ := xix_of h
          refine x_iald dX9_starts_62 rfl q62 ?_
          refine x_iconst (2 : Int32) dX9_starts_63 (by decide) ?_
          refine x_icmp_eq 75 dX9_starts_64 (by decide) (fun q => ?_) (fun q => ?_)
          · have h := xif_t q h
            refine x_bipush (-2 : Int32) dX9_starts_75 (by decide) ?_
            refine x_goto 81 dX9_starts_77 (by decide) ?_
            obtain ⟨q81, h⟩ := xix_of h
            refine x_iast (h2 := (hB g0 g1 g2 g3 g4 g5 g6 g7 g8 g9 g10 g11 g12 g13 g14 g15 g16 g17 g18 g19 g20 g21 g22 g23 g24 g25 g26 a0 a1 (upd (upd ma2_7 ((0 : Int32) + l2_7).toNatClampNeg (-2 : Int32)) ((5 : Int32) + l2_7).toNatClampNeg (-2 : Int32)) a3 a4 a5 a6 a7 a8 a9 a10 a11 a12 a13 a14 a15 a16 a17 a18 a19 a20 a21 a22 a23 b0 w0 (.ref 11) rv)) dX9_starts_81 rfl q81 rfl ?_
            refine x_iincK (1 : Int32) (pl' := [some (.ref 0), some (.ref 3), some (.int (l2_7 + (1 : Int32))), some (.int (-2 : Int32))]) dX9_starts_82 rfl (by decide) (by decide) rfl ?_
            refine x_goto 7 dX9_starts_85 (by decide) ?_
            refine x_weak (pl2 := [some (.ref 0), some (.ref 3), some (.int (l2_7 + (1 : Int32))), none]) ⟨rfl, rfl, rfl, trivial⟩ ?_
            exact ih7 (l2_7 + (1 : Int32)) (upd (upd ma2_7 ((0 : Int32) + l2_7).toNatClampNeg (-2 : Int32)) ((5 : Int32) + l2_7).toNatClampNeg (-2 : Int32)) h
          · have h := xif_f q h
            refine x_aload_n dX9_starts_67 rfl ?_
            refine x_iload_n dX9_starts_68 rfl ?_
            obtain ⟨z69, y69, h⟩ := xbind h
            refine x_callV (t_hB_X9_isChild (-2 : Int32) z69 y69 (d + 0)) kX9_328 dX9_starts_69 rfl rfl rfl rfl rfl (Nat.le_of_ble_eq_true rfl) (Nat.le_of_ble_eq_true rfl) rfl rfl (Or.inl rfl) ?_
            refine x_if_eq 80 dX9_starts_72 (by decide) (fun q => ?_) (fun q => ?_)
            · have h := xif_t q h
              refine x_iload_n dX9_starts_80 rfl ?_
              obtain ⟨q81, h⟩ := xix_of h
              refine x_iast (h2 := (hB g0 g1 g2 g3 g4 g5 g6 g7 g8 g9 g10 g11 g12 g13 g14 g15 g16 g17 g18 g19 g20 g21 g22 g23 g24 g25 g26 a0 a1 (upd (upd ma2_7 ((0 : Int32) + l2_7).toNatClampNeg (-2 : Int32)) ((5 : Int32) + l2_7).toNatClampNeg (-2 : Int32)) a3 a4 a5 a6 a7 a8 a9 a10 a11 a12 a13 a14 a15 a16 a17 a18 a19 a20 a21 a22 a23 b0 w0 (.ref 11) rv)) dX9_starts_81 rfl q81 rfl ?_
              refine x_iincK (1 : Int32) (pl' := [some (.ref 0), some (.ref 3), some (.int (l2_7 + (1 : Int32))), some (.int (-2 : Int32))]) dX9_starts_82 rfl (by decide) (by decide) rfl ?_
              refine x_goto 7 dX9_starts_85 (by decide) ?_
              refine x_weak (pl2 := [some (.ref 0), some (.ref 3), some (.int (l2_7 + (1 : Int32))), none]) ⟨rfl, rfl, rfl, trivial⟩ ?_
              exact ih7 (l2_7 + (1 : Int32)) (upd (upd ma2_7 ((0 : Int32) + l2_7).toNatClampNeg (-2 : Int32)) ((5 : Int32) + l2_7).toNatClampNeg (-2 : Int32)) h
            · have h := xif_f q h
              refine x_bipush (-2 : Int32) dX9_starts_75 (by decide) ?_
              refine x_goto 81 dX9_starts_77 (by decide) ?_
              obtain ⟨q81, h⟩ := xix_of h
              refine x_iast (h2 := (hB g0 g1 g2 g3 g4 g5 g6 g7 g8 g9 g10 g11 g12 g13 g14 g15 g16 g17 g18 g19 g20 g21 g22 g23 g24 g25 g26 a0 a1 (upd (upd ma2_7 ((0 : Int32) + l2_7).toNatClampNeg (-2 : Int32)) ((5 : Int32) + l2_7).toNatClampNeg (-2 : Int32)) a3 a4 a5 a6 a7 a8 a9 a10 a11 a12 a13 a14 a15 a16 a17 a18 a19 a20 a21 a22 a23 b0 w0 (.ref 11) rv)) dX9_starts_81 rfl q81 rfl ?_
              refine x_iincK (1 : Int32) (pl' := [some (.ref 0), some (.ref 3), some (.int (l2_7 + (1 : Int32))), some (.int (-2 : Int32))]) dX9_starts_82 rfl (by decide) (by decide) rfl ?_
              refine x_goto 7 dX9_starts_85 (by decide) ?_
              refine x_weak (pl2 := [some (.ref 0), some (.ref 3), some (.int (l2_7 + (1 : Int32))), none]) ⟨rfl, rfl, rfl, trivial⟩ ?_
              exact ih7 (l2_7 + (1 : Int32)) (upd (upd ma2_7 ((0 : Int32) + l2_7).toNatClampNeg (-2 : Int32)) ((5 : Int32) + l2_7).toNatClampNeg (-2 : Int32)) h
      · have h := xif_f q h
        refine x_aload_n dX9_starts_23 rfl ?_
        refine x_get fX9_316 dX9_starts_24 rfl rfl rfl ?_
        refine x_get fX9_277 dX9_starts_27 rfl rfl rfl ?_
        refine x_iload_n dX9_starts_30 rfl ?_
        obtain ⟨q31, h⟩ := xix_of h
        refine x_iald dX9_starts_31 rfl q31 ?_
        refine x_goto 37 dX9_starts_32 (by decide) ?_
        refine x_istore_n (pl' := [some (.ref 0), some (.ref 3), some (.int l2_7), some (.int (a14 l2_7.toNatClampNeg))]) dX9_starts_37 (by decide) rfl ?_
        refine x_aload_n dX9_starts_38 rfl ?_
        refine x_iconst (0 : Int32) dX9_starts_39 (by decide) ?_
        refine x_iload_n dX9_starts_40 rfl ?_
        refine x_iadd dX9_starts_41 ?_
        refine x_iload_n dX9_starts_42 rfl ?_
        obtain ⟨q43, h⟩ := xix_of h
        refine x_iast (h2 := (hB g0 g1 g2 g3 g4 g5 g6 g7 g8 g9 g10 g11 g12 g13 g14 g15 g16 g17 g18 g19 g20 g21 g22 g23 g24 g25 g26 a0 a1 (upd ma2_7 ((0 : Int32) + l2_7).toNatClampNeg (a14 l2_7.toNatClampNeg)) a3 a4 a5 a6 a7 a8 a9 a10 a11 a12 a13 a14 a15 a16 a17 a18 a19 a20 a21 a22 a23 b0 w0 (.ref 11) rv)) dX9_starts_43 rfl q43 rfl ?_
        refine x_aload_n dX9_starts_44 rfl ?_
        refine x_iconst (5 : Int32) dX9_starts_45 (by decide) ?_
        refine x_iload_n dX9_starts_46 rfl ?_
        refine x_iadd dX9_starts_47 ?_
        refine x_iload_n dX9_starts_48 rfl ?_
        refine x_bipush (-2 : Int32) dX9_starts_49 (by decide) ?_
        refine x_icmp_eq 75 dX9_starts_51 (by decide) (fun q => ?_) (fun q => ?_)
        · have h := xif_t q h
          refine x_bipush (-2 : Int32) dX9_starts_75 (by decide) ?_
          refine x_goto 81 dX9_starts_77 (by decide) ?_
          obtain ⟨q81, h⟩ := xix_of h
          refine x_iast (h2 := (hB g0 g1 g2 g3 g4 g5 g6 g7 g8 g9 g10 g11 g12 g13 g14 g15 g16 g17 g18 g19 g20 g21 g22 g23 g24 g25 g26 a0 a1 (upd (upd ma2_7 ((0 : Int32) + l2_7).toNatClampNeg (a14 l2_7.toNatClampNeg)) ((5 : Int32) + l2_7).toNatClampNeg (-2 : Int32)) a3 a4 a5 a6 a7 a8 a9 a10 a11 a12 a13 a14 a15 a16 a17 a18 a19 a20 a21 a22 a23 b0 w0 (.ref 11) rv)) dX9_starts_81 rfl q81 rfl ?_
          refine x_iincK (1 : Int32) (pl' := [some (.ref 0), some (.ref 3), some (.int (l2_7 + (1 : Int32))), some (.int (a14 l2_7.toNatClampNeg))]) dX9_starts_82 rfl (by decide) (by decide) rfl ?_
          refine x_goto 7 dX9_starts_85 (by decide) ?_
          refine x_weak (pl2 := [some (.ref 0), some (.ref 3), some (.int (l2_7 + (1 : Int32))), none]) ⟨rfl, rfl, rfl, trivial⟩ ?_
          exact ih7 (l2_7 + (1 : Int32)) (upd (upd ma2_7 ((0 : Int32) + l2_7).toNatClampNeg (a14 l2_7.toNatClampNeg)) ((5 : Int32) + l2_7).toNatClampNeg (-2 : Int32)) h
        · have h := xif_f q h
          refine x_aload_n dX9_starts_54 rfl ?_
          refine x_get fX9_316 dX9_starts_55 rfl rfl rfl ?_
          refine x_get fX9_270 dX9_starts_58 rfl rfl rfl ?_
          refine x_iload_n dX9_starts_61 rfl ?_
          obtain ⟨q62, h⟩ := xix_of h
          refine x_iald dX9_starts_62 rfl q62 ?_
          refine x_iconst (2 : Int32) dX9_starts_63 (by decide) ?_
          refine x_icmp_eq 75 dX9_starts_64 (by decide) (fun q => ?_) (fun q => ?_)
          · have h := xif_t q h
            refine x_bipush (-2 : Int32) dX9_starts_75 (by decide) ?_
            refine x_goto 81 dX9_starts_77 (by decide) ?_
            obtain ⟨q81, h⟩ := xix_of h
            refine x_iast (h2 := (hB g0 g1 g2 g3 g4 g5 g6 g7 g8 g9 g10 g11 g12 g13 g14 g15 g16 g17 g18 g19 g20 g21 g22 g23 g24 g25 g26 a0 a1 (upd (upd ma2_7 ((0 : Int32) + l2_7).toNatClampNeg (a14 l2_7.toNatClampNeg)) ((5 : Int32) + l2_7).toNatClampNeg (-2 : Int32)) a3 a4 a5 a6 a7 a8 a9 a10 a11 a12 a13 a14 a15 a16 a17 a18 a19 a20 a21 a22 a23 b0 w0 (.ref 11) rv)) dX9_starts_81 rfl q81 rfl ?_
            refine x_iincK (1 : Int32) (pl' := [some (.ref 0), some (.ref 3), some (.int (l2_7 + (1 : Int32))), some (.int (a14 l2_7.toNatClampNeg))]) dX9_starts_82 rfl (by decide) (by decide) rfl ?_
            refine x_goto 7 dX9_starts_85 (by decide) ?_
            refine x_weak (pl2 := [some (.ref 0), some (.ref 3), some (.int (l2_7 + (1 : Int32))), none]) ⟨rfl, rfl, rfl, trivial⟩ ?_
            exact ih7 (l2_7 + (1 : Int32)) (upd (upd ma2_7 ((0 : Int32) + l2_7).toNatClampNeg (a14 l2_7.toNatClampNeg)) ((5 : Int32) + l2_7).toNatClampNeg (-2 : Int32)) h
          · have h := xif_f q h
            refine x_aload_n dX9_starts_67 rfl ?_
            refine x_iload_n dX9_starts_68 rfl ?_
            obtain ⟨z69, y69, h⟩ := xbind h
            refine x_callV (t_hB_X9_isChild (a14 l2_7.toNatClampNeg) z69 y69 (d + 0)) kX9_328 dX9_starts_69 rfl rfl rfl rfl rfl (Nat.le_of_ble_eq_true rfl) (Nat.le_of_ble_eq_true rfl) rfl rfl (Or.inl rfl) ?_
            refine x_if_eq 80 dX9_starts_72 (by decide) (fun q => ?_) (fun q => ?_)
            · have h := xif_t q h
              refine x_iload_n dX9_starts_80 rfl ?_
              obtain ⟨q81, h⟩ := xix_of h
              refine x_iast (h2 := (hB g0 g1 g2 g3 g4 g5 g6 g7 g8 g9 g10 g11 g12 g13 g14 g15 g16 g17 g18 g19 g20 g21 g22 g23 g24 g25 g26 a0 a1 (upd (upd ma2_7 ((0 : Int32) + l2_7).toNatClampNeg (a14 l2_7.toNatClampNeg)) ((5 : Int32) + l2_7).toNatClampNeg (a14 l2_7.toNatClampNeg)) a3 a4 a5 a6 a7 a8 a9 a10 a11 a12 a13 a14 a15 a16 a17 a18 a19 a20 a21 a22 a23 b0 w0 (.ref 11) rv)) dX9_starts_81 rfl q81 rfl ?_
              refine x_iincK (1 : Int32) (pl' := [some (.ref 0), some (.ref 3), some (.int (l2_7 + (1 : Int32))), some (.int (a14 l2_7.toNatClampNeg))]) dX9_starts_82 rfl (by decide) (by decide) rfl ?_
              refine x_goto 7 dX9_starts_85 (by decide) ?_
              refine x_weak (pl2 := [some (.ref 0), some (.ref 3), some (.int (l2_7 + (1 : Int32))), none]) ⟨rfl, rfl, rfl, trivial⟩ ?_
              exact ih7 (l2_7 + (1 : Int32)) (upd (upd ma2_7 ((0 : Int32) + l2_7).toNatClampNeg (a14 l2_7.toNatClampNeg)) ((5 : Int32) + l2_7).toNatClampNeg (a14 l2_7.toNatClampNeg)) h
            · have h := xif_f q h
              refine x_bipush (-2 : Int32) dX9_starts_75 (by decide) ?_
              refine x_goto 81 dX9_starts_77 (by decide) ?_
              obtain ⟨q81, h⟩ := xix_of h
              refine x_iast (h2 := (hB g0 g1 g2 g3 g4 g5 g6 g7 g8 g9 g10 g11 g12 g13 g14 g15 g16 g17 g18 g19 g20 g21 g22 g23 g24 g25 g26 a0 a1 (upd (upd ma2_7 ((0 : Int32) + l2_7).toNatClampNeg (a14 l2_7.toNatClampNeg)) ((5 : Int32) + l2_7).toNatClampNeg (-2 : Int32)) a3 a4 a5 a6 a7 a8 a9 a10 a11 a12 a13 a14 a15 a16 a17 a18 a19 a20 a21 a22 a23 b0 w0 (.ref 11) rv)) dX9_starts_81 rfl q81 rfl ?_
              refine x_iincK (1 : Int32) (pl' := [some (.ref 0), some (.ref 3), some (.int (l2_7 + (1 : Int32))), some (.int (a14 l2_7.toNatClampNeg))]) dX9_starts_82 rfl (by decide) (by decide) rfl ?_
              refine x_goto 7 dX9_starts_85 (by decide) ?_
              refine x_weak (pl2 := [some (.ref 0), some (.ref 3), some (.int (l2_7 + (1 : Int32))), none]) ⟨rfl, rfl, rfl, trivial⟩ ?_
              exact ih7 (l2_7 + (1 : Int32)) (upd (upd ma2_7 ((0 : Int32) + l2_7).toNatClampNeg (a14 l2_7.toNatClampNeg)) ((5 : Int32) + l2_7).toNatClampNeg (-2 : Int32)) h
set_option maxRecDepth 100000 in
set_option maxHeartbeats 4000000 in
theorem t_hB_X9_starts {g0 g1 g2 g3 g4 g5 g6 g7 g8 g9 g10 g11 g12 g13 g14 g15 g16 g17 g18 g19 g20 g21 g22 g23 g24 g25 g26 : Int32} {a0 a1 a2 a3 a4 a5 a6 a7 a8 a9 a10 a11 a12 a13 a14 a15 a16 a17 a18 a19 a20 a21 a22 a23 : (Nat → Int32)} {b0 : (Nat → Int64)} {w0 : Int64} {rv : Value}  (res : (Nat → Int32)) (h : e_hB_X9_starts a2 g23 a11 a10 a14  = some res) (d : Nat) : xMet xks YX9_starts (d + 2) 0 0 [.ref 0, .ref 3] (hB g0 g1 g2 g3 g4 g5 g6 g7 g8 g9 g10 g11 g12 g13 g14 g15 g16 g17 g18 g19 g20 g21 g22 g23 g24 g25 g26 a0 a1 a2 a3 a4 a5 a6 a7 a8 a9 a10 a11 a12 a13 a14 a15 a16 a17 a18 a19 a20 a21 a22 a23 b0 w0 (.ref 11) rv) none (hB g0 g1 g2 g3 g4 g5 g6 g7 g8 g9 g10 g11 g12 g13 g14 g15 g16 g17 g18 g19 g20 g21 g22 g23 g24 g25 g26 a0 a1 res a3 a4 a5 a6 a7 a8 a9 a10 a11 a12 a13 a14 a15 a16 a17 a18 a19 a20 a21 a22 a23 b0 w0 (.ref 11) rv) := by
  unfold e_hB_X9_starts at h
  refine xMet_of (pl := [some (.ref 0), some (.ref 3), none, none]) (by decide) (Nat.le_of_ble_eq_true rfl) rfl (Nat.le_of_ble_eq_true rfl) ?_
  refine x_aload_n dX9_starts_0 rfl ?_
  refine x_bipush (10 : Int32) dX9_starts_1 (by decide) ?_
  refine x_iconst (0 : Int32) dX9_starts_3 (by decide) ?_
  refine x_iast (h2 := (hB g0 g1 g2 g3 g4 g5 g6 g7 g8 g9 g10 g11 g12 g13 g14 g15 g16 g17 g18 g19 g20 g21 g22 g23 g24 g25 g26 a0 a1 (upd a2 (10 : Int32).toNatClampNeg (0 : Int32)) a3 a4 a5 a6 a7 a8 a9 a10 a11 a12 a13 a14 a15 a16 a17 a18 a19 a20 a21 a22 a23 b0 w0 (.ref 11) rv)) dX9_starts_4 rfl (show vp_in _ _ from (by decide : ¬ ((10 : Int32) < 0 ∨ 11 ≤ (10 : Int32).toNatClampNeg))) rfl ?_
  refine x_iconst (0 : Int32) dX9_starts_5 (by decide) ?_
  refine x_istore_n (pl' := [some (.ref 0), some (.ref 3), some (.int (0 : Int32)), none]) dX9_starts_6 (by decide) rfl ?_
  refine x_weak (pl2 := [some (.ref 0), some (.ref 3), some (.int (0 : Int32)), none]) ⟨rfl, rfl, rfl, trivial⟩ ?_
  refine lp_hB_X9_starts_7 d _  res _ (fun l2_7 ma2_7 h => ?_) 200000 (0 : Int32) (upd a2 (10 : Int32).toNatClampNeg (0 : Int32)) h
  cases h
  exact x_vret2 dX9_starts_88 rfl rfl
noncomputable def e_hB_X9_changes (p0 : (Nat → Int32)) (x1 : Int32) (x2 : Int32) : Option ((Nat → Int32)) :=
  (xix ((0 : Int32) + x1) 11 (xix ((0 : Int32) + x2) 11 (xix ((0 : Int32) + x1) 11 (xix ((0 : Int32) + x2) 11 (some (upd (upd p0 ((0 : Int32) + x1).toNatClampNeg (p0 ((0 : Int32) + x2).toNatClampNeg)) ((0 : Int32) + x2).toNatClampNeg (p0 ((0 : Int32) + x1).toNatClampNeg)))))))
set_option maxRecDepth 100000 in
set_option maxHeartbeats 4000000 in
theorem t_hB_X9_changes {g0 g1 g2 g3 g4 g5 g6 g7 g8 g9 g10 g11 g12 g13 g14 g15 g16 g17 g18 g19 g20 g21 g22 g23 g24 g25 g26 : Int32} {a0 a1 a2 a3 a4 a5 a6 a7 a8 a9 a10 a11 a12 a13 a14 a15 a16 a17 a18 a19 a20 a21 a22 a23 : (Nat → Int32)} {b0 : (Nat → Int64)} {w0 : Int64} {rv : Value} (x1 : Int32) (x2 : Int32) (res : (Nat → Int32)) (h : e_hB_X9_changes a2 x1 x2 = some res) (d : Nat) : xMet xks YX9_changes (d + 1) 0 0 [.ref 3, .int x1, .int x2] (hB g0 g1 g2 g3 g4 g5 g6 g7 g8 g9 g10 g11 g12 g13 g14 g15 g16 g17 g18 g19 g20 g21 g22 g23 g24 g25 g26 a0 a1 a2 a3 a4 a5 a6 a7 a8 a9 a10 a11 a12 a13 a14 a15 a16 a17 a18 a19 a20 a21 a22 a23 b0 w0 (.ref 11) rv) none (hB g0 g1 g2 g3 g4 g5 g6 g7 g8 g9 g10 g11 g12 g13 g14 g15 g16 g17 g18 g19 g20 g21 g22 g23 g24 g25 g26 a0 a1 res a3 a4 a5 a6 a7 a8 a9 a10 a11 a12 a13 a14 a15 a16 a17 a18 a19 a20 a21 a22 a23 b0 w0 (.ref 11) rv) := by
  unfold e_hB_X9_changes at h
  refine xMet_of (pl := [some (.ref 3), some (.int x1), some (.int x2), none]) (by decide) (Nat.le_of_ble_eq_true rfl) rfl (Nat.le_of_ble_eq_true rfl) ?_
  refine x_aload_n dX9_changes_0 rfl ?_
  refine x_iconst (0 : Int32) dX9_changes_1 (by decide) ?_
  refine x_iload_n dX9_changes_2 rfl ?_
  refine x_iadd dX9_changes_3 ?_
  obtain ⟨q4, h⟩ := xix_of h
  refine x_iald dX9_changes_4 rfl q4 ?_
  refine x_istore_n (pl' := [some (.ref 3), some (.int x1), some (.int x2), some (.int (a2 ((0 : Int32) + x1).toNatClampNeg))]) dX9_changes_5 (by decide) rfl ?_
  refine x_aload_n dX9_changes_6 rfl ?_
  refine x_iconst (0 : Int32) dX9_changes_7 (by decide) ?_
  refine x_iload_n dX9_changes_8 rfl ?_
  refine x_iadd dX9_changes_9 ?_
  refine x_aload_n dX9_changes_10 rfl ?_
  refine x_iconst (0 : Int32) dX9_changes_11 (by decide) ?_
  refine x_iload_n dX9_changes_12 rfl ?_
  refine x_iadd dX9_changes_13 ?_
  obtain ⟨q14, h⟩ := xix_of h
  refine x_iald dX9_changes_14 rfl q14 ?_
  obtain ⟨q15, h⟩ := xix_of h
  refine x_iast (h2 := (hB g0 g1 g2 g3 g4 g5 g6 g7 g8 g9 g10 g11 g12 g13 g14 g15 g16 g17 g18 g19 g20 g21 g22 g23 g24 g25 g26 a0 a1 (upd a2 ((0 : Int32) + x1).toNatClampNeg (a2 ((0 : Int32) + x2).toNatClampNeg)) a3 a4 a5 a6 a7 a8 a9 a10 a11 a12 a13 a14 a15 a16 a17 a18 a19 a20 a21 a22 a23 b0 w0 (.ref 11) rv)) dX9_changes_15 rfl q15 rfl ?_
  refine x_aload_n dX9_changes_16 rfl ?_
  refine x_iconst (0 : Int32) dX9_changes_17 (by decide) ?_
  refine x_iload_n dX9_changes_18 rfl ?_
  refine x_iadd dX9_changes_19 ?_
  refine x_iload_n dX9_changes_20 rfl ?_
  obtain ⟨q21, h⟩ := xix_of h
  refine x_iast (h2 := (hB g0 g1 g2 g3 g4 g5 g6 g7 g8 g9 g10 g11 g12 g13 g14 g15 g16 g17 g18 g19 g20 g21 g22 g23 g24 g25 g26 a0 a1 (upd (upd a2 ((0 : Int32) + x1).toNatClampNeg (a2 ((0 : Int32) + x2).toNatClampNeg)) ((0 : Int32) + x2).toNatClampNeg (a2 ((0 : Int32) + x1).toNatClampNeg)) a3 a4 a5 a6 a7 a8 a9 a10 a11 a12 a13 a14 a15 a16 a17 a18 a19 a20 a21 a22 a23 b0 w0 (.ref 11) rv)) dX9_changes_21 rfl q21 rfl ?_
  cases h
  exact x_vret2 dX9_changes_22 rfl rfl
noncomputable def L_hB_X9_happens_4 (p0 : Int32) (p1 : (Nat → Int32)) (p2 : (Nat → Int32)) (p3 : (Nat → Int32)) (p4 : (Nat → Int32))  (f1 : Int32) (K : Int32 → Int32 → (Nat → Int32) → Option (Int32 × (Nat → Int32))) : Nat → Int32 → Int32 → (Nat → Int32) → Option (Int32 × (Nat → Int32))
  | 0, _, _, _ => none
  | n4 + 1, l2_4, l3_4, ma2_4 => if p0 ≤ l3_4 then K l2_4 l3_4 ma2_4 else (xix l3_4 16 (if (p1 l3_4.toNatClampNeg) = f1 then (xix l3_4 16 (xix l3_4 16 (if (p3 l3_4.toNatClampNeg).toInt < 0 ∨ 2 < (p3 l3_4.toNatClampNeg).toInt then L_hB_X9_happens_4 p0 p1 p2 p3 p4 f1 K n4 (1 : Int32) (l3_4 + (1 : Int32)) ma2_4 else if (p3 l3_4.toNatClampNeg) = (0 : Int32) then (xix l3_4 16 (xix ((0 : Int32) + (p2 l3_4.toNatClampNeg)) 11 (L_hB_X9_happens_4 p0 p1 p2 p3 p4 f1 K n4 l2_4 (l3_4 + (1 : Int32)) (upd ma2_4 ((0 : Int32) + (p2 l3_4.toNatClampNeg)).toNatClampNeg (p4 l3_4.toNatClampNeg))))) else if (p3 l3_4.toNatClampNeg) = (1 : Int32) then (xix ((0 : Int32) + (p2 l3_4.toNatClampNeg)) 11 (L_hB_X9_happens_4 p0 p1 p2 p3 p4 f1 K n4 l2_4 (l3_4 + (1 : Int32)) (upd ma2_4 ((0 : Int32) + (p2 l3_4.toNatClampNeg)).toNatClampNeg (-2 : Int32)))) else if (p3 l3_4.toNatClampNeg) = (2 : Int32) then (xix l3_4 16 ((e_hB_X9_changes ma2_4 (p2 l3_4.toNatClampNeg) (p4 l3_4.toNatClampNeg)).bind fun z126 => L_hB_X9_happens_4 p0 p1 p2 p3 p4 f1 K n4 l2_4 (l3_4 + (1 : Int32)) z126)) else none))) else L_hB_X9_happens_4 p0 p1 p2 p3 p4 f1 K n4 l2_4 (l3_4 + (1 : Int32)) ma2_4))
noncomputable def e_hB_X9_happens (p0 : Int32) (p1 : (Nat → Int32)) (p2 : (Nat → Int32)) (p3 : (Nat → Int32)) (p4 : (Nat → Int32)) (p5 : (Nat → Int32)) (x1 : Int32) : Option (Int32 × (Nat → Int32)) :=
  L_hB_X9_happens_4 p0 p1 p2 p3 p4 x1 (fun l2_4 l3_4 ma2_4 => xbo l2_4 (some (l2_4, ma2_4))) 200000 (0 : Int32) (0 : Int32) p5
set_option maxRecDepth 100000 in
set_option maxHeartbeats 4000000 in
theorem lp_hB_X9_happens_4 {g0 g1 g2 g3 g4 g5 g6 g7 g8 g9 g10 g11 g12 g13 g14 g15 g16 g17 g18 g19 g20 g21 g22 g23 g24 g25 g26 : Int32} {a0 a1 a3 a4 a5 a6 a7 a8 a9 a10 a11 a12 a13 a14 a15 a16 a17 a18 a19 a20 a21 a22 a23 : (Nat → Int32)} {b0 : (Nat → Int64)} {w0 : Int64} {rv : Value} (d n0 : Nat) (f1 : Int32) (res : Int32 × (Nat → Int32)) (K : Int32 → Int32 → (Nat → Int32) → Option (Int32 × (Nat → Int32))) (hK : ∀ (l2_4 : Int32) (l3_4 : Int32) (ma2_4 : (Nat → Int32)), K l2_4 l3_4 ma2_4 = some res → xW xks YX9_happens (d + 2) 0 0 n0 (xZ 0 0 n0 (some (.int res.1)) (hB g0 g1 g2 g3 g4 g5 g6 g7 g8 g9 g10 g11 g12 g13 g14 g15 g16 g17 g18 g19 g20 g21 g22 g23 g24 g25 g26 a0 a1 res.2 a3 a4 a5 a6 a7 a8 a9 a10 a11 a12 a13 a14 a15 a16 a17 a18 a19 a20 a21 a22 a23 b0 w0 (.ref 11) rv)) 0 0 140 [none, none, some (.int l2_4), none, none] [] (hB g0 g1 g2 g3 g4 g5 g6 g7 g8 g9 g10 g11 g12 g13 g14 g15 g16 g17 g18 g19 g20 g21 g22 g23 g24 g25 g26 a0 a1 ma2_4 a3 a4 a5 a6 a7 a8 a9 a10 a11 a12 a13 a14 a15 a16 a17 a18 a19 a20 a21 a22 a23 b0 w0 (.ref 11) rv)) : ∀ (n : Nat) (l2_4 : Int32) (l3_4 : Int32) (ma2_4 : (Nat → Int32)), L_hB_X9_happens_4 g24 a18 a16 a15 a17 f1 K n l2_4 l3_4 ma2_4 = some res → xW xks YX9_happens (d + 2) 0 0 n0 (xZ 0 0 n0 (some (.int res.1)) (hB g0 g1 g2 g3 g4 g5 g6 g7 g8 g9 g10 g11 g12 g13 g14 g15 g16 g17 g18 g19 g20 g21 g22 g23 g24 g25 g26 a0 a1 res.2 a3 a4 a5 a6 a7 a8 a9 a10 a11 a12 a13 a14 a15 a16 a17 a18 a19 a20 a21 a22 a23 b0 w0 (.ref 11) rv)) 0 0 4 [some (.ref 0), some (.int f1), some (.int l2_4), some (.int l3_4), none] [] (hB g0 g1 g2 g3 g4 g5 g6 g7 g8 g9 g10 g11 g12 g13 g14 g15 g16 g17 g18 g19 g20 g21 g22 g23 g24 g25 g26 a0 a1 ma2_4 a3 a4 a5 a6 a7 a8 a9 a10 a11 a12 a13 a14 a15 a16 a17 a18 a19 a20 a21 a22 a23 b0 w0 (.ref 11) rv) := by
  intro n
  induction n with
  | zero =>
    intro l2_4 l3_4 ma2_4 h
    cases (show (none : Option (Int32 × (Nat → Int32))) = some res from h)
  | succ n4 ih4 =>
    intro l2_4 l3_4 ma2_4 h
    unfold L_hB_X9_happens_4 at h
    refine x_iload_n dX9_happens_4 rfl ?_
    refine x_aload_n dX9_happens_5 rfl ?_
    refine x_get fX9_316 dX9_happens_6 rfl rfl rfl ?_
    refine x_get fX9_279 dX9_happens_9 rfl rfl rfl ?_
    refine x_icmp_ge 140 dX9_happens_12 (by decide) (fun q => ?_) (fun q => ?_)
    · have h := xif_t q h
      refine x_weak (pl2 := [none, none, some (.int l2_4), none, none]) ⟨rfl, trivial⟩ ?_
      exact hK l2_4 l3_4 ma2_4 h
    · have h := xif_f q h
      refine x_aload_n dX9_happens_15 rfl ?_
      refine x_get fX9_316 dX9_happens_16 rfl rfl rfl ?_
      refine x_get fX9_282 dX9_happens_19 rfl rfl rfl ?_
      refine x_iload_n dX9_happens_22 rfl ?_
      obtain ⟨q23, h⟩ := xix_of h
      refine x_iald dX9_happens_23 rfl q23 ?_
      refine x_iload_n dX9_happens_24 rfl ?_
      refine x_icmp_eq 31 dX9_happens_25 (by decide) (fun q => ?_) (fun q => ?_)
      · have h := xif_t q h
        refine x_aload_n dX9_happens_31 rfl ?_
        refine x_get fX9_316 dX9_happens_32 rfl rfl rfl ?_
        refine x_get fX9_289 dX9_happens_35 rfl rfl rfl ?_
        refine x_iload_n dX9_happens_38 rfl ?_
        obtain ⟨q39, h⟩ := xix_of h
        refine x_iald dX9_happens_39 rfl q39 ?_
        refine x_istore (pl' := [some (.ref 0), some (.int f1), some (.int l2_4), some (.int l3_4), some (.int (a16 l3_4.toNatClampNeg))]) dX9_happens_40 (by decide) rfl ?_
        refine x_aload_n dX9_happens_42 rfl ?_
        refine x_get fX9_316 dX9_happens_43 rfl rfl rfl ?_
        refine x_get fX9_286 dX9_happens_46 rfl rfl rfl ?_
        refine x_iload_n dX9_happens_49 rfl ?_
        obtain ⟨q50, h⟩ := xix_of h
        refine x_iald dX9_happens_50 rfl q50 ?_
        by_cases q : (a15 l3_4.toNatClampNeg).toInt < 0 ∨ 2 < (a15 l3_4.toNatClampNeg).toInt
        · have h := xif_t q h
          refine x_tableOut 132 dX9_happens_51 q (by decide) ?_
          refine x_iconst (1 : Int32) dX9_happens_132 (by decide) ?_
          refine x_istore_n (pl' := [some (.ref 0), some (.int f1), some (.int (1 : Int32)), some (.int l3_4), some (.int (a16 l3_4.toNatClampNeg))]) dX9_happens_133 (by decide) rfl ?_
          refine x_iincK (1 : Int32) (pl' := [some (.ref 0), some (.int f1), some (.int (1 : Int32)), some (.int (l3_4 + (1 : Int32))), some (.int (a16 l3_4.toNatClampNeg))]) dX9_happens_134 rfl (by decide) (by decide) rfl ?_
          refine x_goto 4 dX9_happens_137 (by decide) ?_
          refine x_weak (pl2 := [some (.ref 0), some (.int f1), some (.int (1 : Int32)), some (.int (l3_4 + (1 : Int32))), none]) ⟨rfl, rfl, rfl, rfl, trivial⟩ ?_
          exact ih4 (1 : Int32) (l3_4 + (1 : Int32)) ma2_4 h
        · have h := xif_f q h
          by_cases q : (a15 l3_4.toNatClampNeg) = (0 : Int32)
          · have h := xif_t q h
            refine x_tableK 76 q dX9_happens_51 (by decide) (by decide) rfl (by decide) ?_
            refine x_aload_n dX9_happens_76 rfl ?_
            refine x_get fX9_21 dX9_happens_77 rfl rfl rfl ?_
            refine x_iconst (0 : Int32) dX9_happens_80 (by decide) ?_
            refine x_iload dX9_happens_81 rfl ?_
            refine x_iadd dX9_happens_83 ?_
            refine x_aload_n dX9_happens_84 rfl ?_
            refine x_get fX9_316 dX9_happens_85 rfl rfl rfl ?_
            refine x_get fX9_292 dX9_happens_88 rfl rfl rfl ?_
            refine x_iload_n dX9_happens_91 rfl ?_
            obtain ⟨q92, h⟩ := xix_of h
            refine x_iald dX9_happens_92 rfl q92 ?_
            obtain ⟨q93, h⟩ := xix_of h
            refine x_iast (h2 := (hB g0 g1 g2 g3 g4 g5 g6 g7 g8 g9 g10 g11 g12 g13 g14 g15 g16 g17 g18 g19 g20 g21 g22 g23 g24 g25 g26 a0 a1 (upd ma2_4 ((0 : Int32) + (a16 l3_4.toNatClampNeg)).toNatClampNeg (a17 l3_4.toNatClampNeg)) a3 a4 a5 a6 a7 a8 a9 a10 a11 a12 a13 a14 a15 a16 a17 a18 a19 a20 a21 a22 a23 b0 w0 (.ref 11) rv)) dX9_happens_93 rfl q93 rfl ?_
            refine x_goto 134 dX9_happens_94 (by decide) ?_
            refine x_iincK (1 : Int32) (pl' := [some (.ref 0), some (.int f1), some (.int l2_4), some (.int (l3_4 + (1 : Int32))), some (.int (a16 l3_4.toNatClampNeg))]) dX9_happens_134 rfl (by decide) (by decide) rfl ?_
            refine x_goto 4 dX9_happens_137 (by decide) ?_
            refine x_weak (pl2 := [some (.ref 0), some (.int f1), some (.int l2_4), some (.int (l3_4 + (1 : Int32))), none]) ⟨rfl, rfl, rfl, rfl, trivial⟩ ?_
            exact ih4 l2_4 (l3_4 + (1 : Int32)) (upd ma2_4 ((0 : Int32) + (a16 l3_4.toNatClampNeg)).toNatClampNeg (a17 l3_4.toNatClampNeg)) h
          · have h := xif_f q h
            by_cases q : (a15 l3_4.toNatClampNeg) = (1 : Int32)
            · have h := xif_t q h
              refine x_tableK 97 q dX9_happens_51 (by decide) (by decide) rfl (by decide) ?_
              refine x_aload_n dX9_happens_97 rfl ?_
              refine x_get fX9_21 dX9_happens_98 rfl rfl rfl ?_
              refine x_iconst (0 : Int32) dX9_happens_101 (by decide) ?_
              refine x_iload dX9_happens_102 rfl ?_
              refine x_iadd dX9_happens_104 ?_
              refine x_bipush (-2 : Int32) dX9_happens_105 (by decide) ?_
              obtain ⟨q107, h⟩ := xix_of h
              refine x_iast (h2 := (hB g0 g1 g2 g3 g4 g5 g6 g7 g8 g9 g10 g11 g12 g13 g14 g15 g16 g17 g18 g19 g20 g21 g22 g23 g24 g25 g26 a0 a1 (upd ma2_4 ((0 : Int32) + (a16 l3_4.toNatClampNeg)).toNatClampNeg (-2 : Int32)) a3 a4 a5 a6 a7 a8 a9 a10 a11 a12 a13 a14 a15 a16 a17 a18 a19 a20 a21 a22 a23 b0 w0 (.ref 11) rv)) dX9_happens_107 rfl q107 rfl ?_
              refine x_goto 134 dX9_happens_108 (by decide) ?_
              refine x_iincK (1 : Int32) (pl' := [some (.ref 0), some (.int f1), some (.int l2_4), some (.int (l3_4 + (1 : Int32))), some (.int (a16 l3_4.toNatClampNeg))]) dX9_happens_134 rfl (by decide) (by decide) rfl ?_
              refine x_goto 4 dX9_happens_137 (by decide) ?_
              refine x_weak (pl2 := [some (.ref 0), some (.int f1), some (.int l2_4), some (.int (l3_4 + (1 : Int32))), none]) ⟨rfl, rfl, rfl, rfl, trivial⟩ ?_
              exact ih4 l2_4 (l3_4 + (1 : Int32)) (upd ma2_4 ((0 : Int32) + (a16 l3_4.toNatClampNeg)).toNatClampNeg (-2 : Int32)) h
            · have h := xif_f q h
              by_cases q : (a15 l3_4.toNatClampNeg) = (2 : Int32)
              · have h := xif_t q h
                refine x_tableK 111 q dX9_happens_51 (by decide) (by decide) rfl (by decide) ?_
                refine x_aload_n dX9_happens_111 rfl ?_
                refine x_get fX9_21 dX9_happens_112 rfl rfl rfl ?_
                refine x_iload dX9_happens_115 rfl ?_
                refine x_aload_n dX9_happens_117 rfl ?_
                refine x_get fX9_316 dX9_happens_118 rfl rfl rfl ?_
                refine x_get fX9_292 dX9_happens_121 rfl rfl rfl ?_
                refine x_iload_n dX9_happens_124 rfl ?_
                obtain ⟨q125, h⟩ := xix_of h
                refine x_iald dX9_happens_125 rfl q125 ?_
                obtain ⟨z126, y126, h⟩ := xbind h
                refine x_callS (t_hB_X9_changes (a16 l3_4.toNatClampNeg) (a17 l3_4.toNatClampNeg) z126 y126 (d + 0)) kX9_345 dX9_happens_126 rfl rfl (Nat.le_of_ble_eq_true rfl) (Nat.le_of_ble_eq_true rfl) rfl rfl (Or.inl rfl) ?_
                refine x_goto 134 dX9_happens_129 (by decide) ?_
                refine x_iincK (1 : Int32) (pl' := [some (.ref 0), some (.int f1), some (.int l2_4), some (.int (l3_4 + (1 : Int32))), some (.int (a16 l3_4.toNatClampNeg))]) dX9_happens_134 rfl (by decide) (by decide) rfl ?_
                refine x_goto 4 dX9_happens_137 (by decide) ?_
                refine x_weak (pl2 := [some (.ref 0), some (.int f1), some (.int l2_4), some (.int (l3_4 + (1 : Int32))), none]) ⟨rfl, rfl, rfl, rfl, trivial⟩ ?_
                exact ih4 l2_4 (l3_4 + (1 : Int32)) z126 h
              · have h := xif_f q h
                cases h
      · have h := xif_f q h
        refine x_goto 134 dX9_happens_28 (by decide) ?_
        refine x_iincK (1 : Int32) (pl' := [some (.ref 0), some (.int f1), some (.int l2_4), some (.int (l3_4 + (1 : Int32))), none]) dX9_happens_134 rfl (by decide) (by decide) rfl ?_
        refine x_goto 4 dX9_happens_137 (by decide) ?_
        refine x_weak (pl2 := [some (.ref 0), some (.int f1), some (.int l2_4), some (.int (l3_4 + (1 : Int32))), none]) ⟨rfl, rfl, rfl, rfl, trivial⟩ ?_
        exact ih4 l2_4 (l3_4 + (1 : Int32)) ma2_4 h
set_option maxRecDepth 100000 in
set_option maxHeartbeats 4000000 in
theorem t_hB_X9_happens {g0 g1 g2 g3 g4 g5 g6 g7 g8 g9 g10 g11 g12 g13 g14 g15 g16 g17 g18 g19 g20 g21 g22 g23 g24 g25 g26 : Int32} {a0 a1 a2 a3 a4 a5 a6 a7 a8 a9 a10 a11 a12 a13 a14 a15 a16 a17 a18 a19 a20 a21 a22 a23 : (Nat → Int32)} {b0 : (Nat → Int64)} {w0 : Int64} {rv : Value} (x1 : Int32) (res : Int32 × (Nat → Int32)) (h : e_hB_X9_happens g24 a18 a16 a15 a17 a2 x1 = some res) (d : Nat) : xMet xks YX9_happens (d + 2) 0 0 [.ref 0, .int x1] (hB g0 g1 g2 g3 g4 g5 g6 g7 g8 g9 g10 g11 g12 g13 g14 g15 g16 g17 g18 g19 g20 g21 g22 g23 g24 g25 g26 a0 a1 a2 a3 a4 a5 a6 a7 a8 a9 a10 a11 a12 a13 a14 a15 a16 a17 a18 a19 a20 a21 a22 a23 b0 w0 (.ref 11) rv) (some (.int res.1)) (hB g0 g1 g2 g3 g4 g5 g6 g7 g8 g9 g10 g11 g12 g13 g14 g15 g16 g17 g18 g19 g20 g21 g22 g23 g24 g25 g26 a0 a1 res.2 a3 a4 a5 a6 a7 a8 a9 a10 a11 a12 a13 a14 a15 a16 a17 a18 a19 a20 a21 a22 a23 b0 w0 (.ref 11) rv) := by
  unfold e_hB_X9_happens at h
  refine xMet_of (pl := [some (.ref 0), some (.int x1), none, none, none]) (by decide) (Nat.le_of_ble_eq_true rfl) rfl (Nat.le_of_ble_eq_true rfl) ?_
  refine x_iconst (0 : Int32) dX9_happens_0 (by decide) ?_
  refine x_istore_n (pl' := [some (.ref 0), some (.int x1), some (.int (0 : Int32)), none, none]) dX9_happens_1 (by decide) rfl ?_
  refine x_iconst (0 : Int32) dX9_happens_2 (by decide) ?_
  refine x_istore_n (pl' := [some (.ref 0), some (.int x1), some (.int (0 : Int32)), some (.int (0 : Int32)), none]) dX9_happens_3 (by decide) rfl ?_
  refine x_weak (pl2 := [some (.ref 0), some (.int x1), some (.int (0 : Int32)), some (.int (0 : Int32)), none]) ⟨rfl, rfl, rfl, rfl, trivial⟩ ?_
  refine lp_hB_X9_happens_4 d _ x1 res _ (fun l2_4 l3_4 ma2_4 h => ?_) 200000 (0 : Int32) (0 : Int32) a2 h
  refine x_iload_n dX9_happens_140 rfl ?_
  obtain ⟨-, q141, h⟩ := xbo_of h
  cases h
  exact x_zret2 dX9_happens_141 rfl q141 rfl
set_option maxRecDepth 100000 in
set_option maxHeartbeats 4000000 in
theorem lp_hB_X9_hadBy_2_5 {g0 g1 g2 g3 g4 g5 g6 g7 g8 g9 g10 g11 g12 g13 g14 g15 g16 g17 g18 g19 g20 g21 g22 g23 g24 g25 g26 : Int32} {a0 a1 a2 a3 a4 a5 a6 a7 a8 a9 a10 a11 a12 a13 a14 a15 a16 a17 a18 a19 a20 a21 a22 a23 : (Nat → Int32)} {b0 : (Nat → Int64)} {w0 : Int64} {rv : Value} (d n0 : Nat) (f2 : Int32) (res : Int32) (K : Int32 → Int32 → Option (Int32)) (hK : ∀ (l3_5 : Int32) (l4_5 : Int32), K l3_5 l4_5 = some res → xW xks YX9_hadBy (d + 1) 0 0 n0 (xZ 0 0 n0 (some (.int res)) (hB g0 g1 g2 g3 g4 g5 g6 g7 g8 g9 g10 g11 g12 g13 g14 g15 g16 g17 g18 g19 g20 g21 g22 g23 g24 g25 g26 a0 a1 a2 a3 a4 a5 a6 a7 a8 a9 a10 a11 a12 a13 a14 a15 a16 a17 a18 a19 a20 a21 a22 a23 b0 w0 (.ref 11) rv)) 0 0 44 [none, none, none, some (.int l3_5), none] [] (hB g0 g1 g2 g3 g4 g5 g6 g7 g8 g9 g10 g11 g12 g13 g14 g15 g16 g17 g18 g19 g20 g21 g22 g23 g24 g25 g26 a0 a1 a2 a3 a4 a5 a6 a7 a8 a9 a10 a11 a12 a13 a14 a15 a16 a17 a18 a19 a20 a21 a22 a23 b0 w0 (.ref 11) rv)) : ∀ (n : Nat) (l3_5 : Int32) (l4_5 : Int32), L_hB_X9_hadBy_5 g23 a2 f2 K n l3_5 l4_5 = some res → xW xks YX9_hadBy (d + 1) 0 0 n0 (xZ 0 0 n0 (some (.int res)) (hB g0 g1 g2 g3 g4 g5 g6 g7 g8 g9 g10 g11 g12 g13 g14 g15 g16 g17 g18 g19 g20 g21 g22 g23 g24 g25 g26 a0 a1 a2 a3 a4 a5 a6 a7 a8 a9 a10 a11 a12 a13 a14 a15 a16 a17 a18 a19 a20 a21 a22 a23 b0 w0 (.ref 11) rv)) 0 0 5 [some (.ref 0), some (.ref 3), some (.int f2), some (.int l3_5), some (.int l4_5)] [] (hB g0 g1 g2 g3 g4 g5 g6 g7 g8 g9 g10 g11 g12 g13 g14 g15 g16 g17 g18 g19 g20 g21 g22 g23 g24 g25 g26 a0 a1 a2 a3 a4 a5 a6 a7 a8 a9 a10 a11 a12 a13 a14 a15 a16 a17 a18 a19 a20 a21 a22 a23 b0 w0 (.ref 11) rv) := by
  intro n
  induction n with
  | zero =>
    intro l3_5 l4_5 h
    cases (show (none : Option (Int32)) = some res from h)
  | succ n5 ih5 =>
    intro l3_5 l4_5 h
    unfold L_hB_X9_hadBy_5 at h
    refine x_iload dX9_hadBy_5 rfl ?_
    refine x_aload_n dX9_hadBy_7 rfl ?_
    refine x_get fX9_316 dX9_hadBy_8 rfl rfl rfl ?_
    refine x_get fX9_194 dX9_hadBy_11 rfl rfl rfl ?_
    refine x_icmp_ge 44 dX9_hadBy_14 (by decide) (fun q => ?_) (fun q => ?_)
    · have h := xif_t q h
      refine x_weak (pl2 := [none, none, none, some (.int l3_5), none]) ⟨rfl, trivial⟩ ?_
      exact hK l3_5 l4_5 h
    · have h := xif_f q h
      refine x_iload_n dX9_hadBy_17 rfl ?_
      refine x_aload_n dX9_hadBy_18 rfl ?_
      refine x_iconst (0 : Int32) dX9_hadBy_19 (by decide) ?_
      refine x_iload dX9_hadBy_20 rfl ?_
      refine x_iadd dX9_hadBy_22 ?_
      obtain ⟨q23, h⟩ := xix_of h
      refine x_iald dX9_hadBy_23 rfl q23 ?_
      refine x_iload_n dX9_hadBy_24 rfl ?_
      refine x_icmp_ne 35 dX9_hadBy_25 (by decide) (fun q => ?_) (fun q => ?_)
      · have h := xif_f q h
        refine x_iconst (0 : Int32) dX9_hadBy_35 (by decide) ?_
        refine x_ior dX9_hadBy_36 ?_
        refine x_istore_n (pl' := [some (.ref 0), some (.ref 3), some (.int f2), some (.int (l3_5 ||| (0 : Int32))), some (.int l4_5)]) dX9_hadBy_37 (by decide) rfl ?_
        refine x_iincK (1 : Int32) (pl' := [some (.ref 0), some (.ref 3), some (.int f2), some (.int (l3_5 ||| (0 : Int32))), some (.int (l4_5 + (1 : Int32)))]) dX9_hadBy_38 rfl (by decide) (by decide) rfl ?_
        refine x_goto 5 dX9_hadBy_41 (by decide) ?_
        refine x_weak (pl2 := [some (.ref 0), some (.ref 3), some (.int f2), some (.int (l3_5 ||| (0 : Int32))), some (.int (l4_5 + (1 : Int32)))]) ⟨rfl, rfl, rfl, rfl, rfl, trivial⟩ ?_
        exact ih5 (l3_5 ||| (0 : Int32)) (l4_5 + (1 : Int32)) h
      · have h := xif_t q h
        refine x_iconst (1 : Int32) dX9_hadBy_28 (by decide) ?_
        refine x_iload dX9_hadBy_29 rfl ?_
        refine x_ishl dX9_hadBy_31 ?_
        refine x_goto 36 dX9_hadBy_32 (by decide) ?_
        refine x_ior dX9_hadBy_36 ?_
        refine x_istore_n (pl' := [some (.ref 0), some (.ref 3), some (.int f2), some (.int (l3_5 ||| ((1 : Int32) <<< (l4_5 &&& 31)))), some (.int l4_5)]) dX9_hadBy_37 (by decide) rfl ?_
        refine x_iincK (1 : Int32) (pl' := [some (.ref 0), some (.ref 3), some (.int f2), some (.int (l3_5 ||| ((1 : Int32) <<< (l4_5 &&& 31)))), some (.int (l4_5 + (1 : Int32)))]) dX9_hadBy_38 rfl (by decide) (by decide) rfl ?_
        refine x_goto 5 dX9_hadBy_41 (by decide) ?_
        refine x_weak (pl2 := [some (.ref 0), some (.ref 3), some (.int f2), some (.int (l3_5 ||| ((1 : Int32) <<< (l4_5 &&& 31)))), some (.int (l4_5 + (1 : Int32)))]) ⟨rfl, rfl, rfl, rfl, rfl, trivial⟩ ?_
        exact ih5 (l3_5 ||| ((1 : Int32) <<< (l4_5 &&& 31))) (l4_5 + (1 : Int32)) h
set_option maxRecDepth 100000 in
set_option maxHeartbeats 4000000 in
theorem t_hB_X9_hadBy_2 {g0 g1 g2 g3 g4 g5 g6 g7 g8 g9 g10 g11 g12 g13 g14 g15 g16 g17 g18 g19 g20 g21 g22 g23 g24 g25 g26 : Int32} {a0 a1 a2 a3 a4 a5 a6 a7 a8 a9 a10 a11 a12 a13 a14 a15 a16 a17 a18 a19 a20 a21 a22 a23 : (Nat → Int32)} {b0 : (Nat → Int64)} {w0 : Int64} {rv : Value} (x2 : Int32) (res : Int32) (h : e_hB_X9_hadBy g23 a2 x2 = some res) (d : Nat) : xMet xks YX9_hadBy (d + 1) 0 0 [.ref 0, .ref 3, .int x2] (hB g0 g1 g2 g3 g4 g5 g6 g7 g8 g9 g10 g11 g12 g13 g14 g15 g16 g17 g18 g19 g20 g21 g22 g23 g24 g25 g26 a0 a1 a2 a3 a4 a5 a6 a7 a8 a9 a10 a11 a12 a13 a14 a15 a16 a17 a18 a19 a20 a21 a22 a23 b0 w0 (.ref 11) rv) (some (.int res)) (hB g0 g1 g2 g3 g4 g5 g6 g7 g8 g9 g10 g11 g12 g13 g14 g15 g16 g17 g18 g19 g20 g21 g22 g23 g24 g25 g26 a0 a1 a2 a3 a4 a5 a6 a7 a8 a9 a10 a11 a12 a13 a14 a15 a16 a17 a18 a19 a20 a21 a22 a23 b0 w0 (.ref 11) rv) := by
  unfold e_hB_X9_hadBy at h
  refine xMet_of (pl := [some (.ref 0), some (.ref 3), some (.int x2), none, none]) (by decide) (Nat.le_of_ble_eq_true rfl) rfl (Nat.le_of_ble_eq_true rfl) ?_
  refine x_iconst (0 : Int32) dX9_hadBy_0 (by decide) ?_
  refine x_istore_n (pl' := [some (.ref 0), some (.ref 3), some (.int x2), some (.int (0 : Int32)), none]) dX9_hadBy_1 (by decide) rfl ?_
  refine x_iconst (0 : Int32) dX9_hadBy_2 (by decide) ?_
  refine x_istore (pl' := [some (.ref 0), some (.ref 3), some (.int x2), some (.int (0 : Int32)), some (.int (0 : Int32))]) dX9_hadBy_3 (by decide) rfl ?_
  refine x_weak (pl2 := [some (.ref 0), some (.ref 3), some (.int x2), some (.int (0 : Int32)), some (.int (0 : Int32))]) ⟨rfl, rfl, rfl, rfl, rfl, trivial⟩ ?_
  refine lp_hB_X9_hadBy_2_5 d _ x2 res _ (fun l3_5 l4_5 h => ?_) 200000 (0 : Int32) (0 : Int32) h
  refine x_iload_n dX9_hadBy_44 rfl ?_
  cases h
  exact x_iret2 dX9_hadBy_45 rfl rfl
