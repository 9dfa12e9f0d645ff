noncomputable def hN (g0 g1 g2 g3 g4 g5 g6 g7 g8 g9 g10 g11 g12 g13 g14 g15 g16 g17 g18 : Int32) (a0 a1 a2 a3 a4 a5 a6 a7 a8 a9 : (Nat → Int32)) (w0 : Int64) (c0 c1 : Value) : xH := [
  .inr (9, [.int g0, .int g1, .int g2, c0, c1, .ref 1, .int g3, .int g4, .int g5, .int g6, .int g7, .int g8, .int g9, .int g10, .long w0, .ref 2, .ref 3, .ref 4, .ref 5, .int g11, .int g12, .int g13, .ref 6, .ref 7, .int g14, .int g15, .ref 8, .ref 9, .ref 10, .int g16, .int g17, .int g18]),
  .inl (2, 1000, .inl a0),
  .inl (0, 11, .inl a1),
  .inl (0, 11, .inl a2),
  .inl (0, 176, .inl a3),
  .inl (0, 33, .inl a4),
  .inl (0, 3, .inl a5),
  .inl (0, 3, .inl a6),
  .inl (0, 6, .inl a7),
  .inl (0, 6, .inl a8),
  .inl (0, 5, .inl a9),
  .inr (99, []),
  .inr (99, []),
  .inr (99, []),
  .inr (99, []),
  .inr (99, []),
  .inr (99, []),
  .inr (99, []),
  .inr (99, []),
  .inr (99, []),
  .inr (99, []),
  .inr (99, []),
  .inr (99, []),
  .inr (99, []),
  .inr (99, []),
  .inr (99, []),
  .inr (99, [])]
noncomputable def L_hN_X9_feed_23 (p0 : Int32)  (f1 : Int32) (f2 : Int32) (f3 : Int32) (f4 : Int32) (f5 : Int32) (K : Int32 → (Nat → Int32) → Int32 → Option (Int32 × Int32 × (Nat → Int32) × Int32)) : Nat → Int32 → (Nat → Int32) → Int32 → Option (Int32 × Int32 × (Nat → Int32) × Int32)
  | 0, _, _, _ => none
  | n23 + 1, l6_23, ma0_23, mg3_23 => if (20 : Int32) ≤ l6_23 then K l6_23 ma0_23 mg3_23 else if (4 : Int32) ≤ l6_23 then if (8 : Int32) ≤ l6_23 then if (12 : Int32) ≤ l6_23 then if (16 : Int32) ≤ l6_23 then (xix mg3_23 1000 (L_hN_X9_feed_23 p0 f1 f2 f3 f4 f5 K n23 (l6_23 + (1 : Int32)) (upd ma0_23 mg3_23.toNatClampNeg (vp_nar .byte (f5 >>> (((24 : Int32) - ((8 : Int32) * (l6_23 - l6_23 / (4 : Int32) * (4 : Int32)))) &&& 31)).toInt8.toInt32)) (mg3_23 + (1 : Int32)))) else (xix mg3_23 1000 (L_hN_X9_feed_23 p0 f1 f2 f3 f4 f5 K n23 (l6_23 + (1 : Int32)) (upd ma0_23 mg3_23.toNatClampNeg (vp_nar .byte (f4 >>> (((24 : Int32) - ((8 : Int32) * (l6_23 - l6_23 / (4 : Int32) * (4 : Int32)))) &&& 31)).toInt8.toInt32)) (mg3_23 + (1 : Int32)))) else (xix mg3_23 1000 (L_hN_X9_feed_23 p0 f1 f2 f3 f4 f5 K n23 (l6_23 + (1 : Int32)) (upd ma0_23 mg3_23.toNatClampNeg (vp_nar .byte (f3 >>> (((24 : Int32) - ((8 : Int32) * (l6_23 - l6_23 / (4 : Int32) * (4 : Int32)))) &&& 31)).toInt8.toInt32)) (mg3_23 + (1 : Int32)))) else (xix mg3_23 1000 (L_hN_X9_feed_23 p0 f1 f2 f3 f4 f5 K n23 (l6_23 + (1 : Int32)) (upd ma0_23 mg3_23.toNatClampNeg (vp_nar .byte (f2 >>> (((24 : Int32) - ((8 : Int32) * (l6_23 - l6_23 / (4 : Int32) * (4 : Int32)))) &&& 31)).toInt8.toInt32)) (mg3_23 + (1 : Int32)))) else (xix mg3_23 1000 (L_hN_X9_feed_23 p0 f1 f2 f3 f4 f5 K n23 (l6_23 + (1 : Int32)) (upd ma0_23 mg3_23.toNatClampNeg (vp_nar .byte (f1 >>> (((24 : Int32) - ((8 : Int32) * (l6_23 - l6_23 / (4 : Int32) * (4 : Int32)))) &&& 31)).toInt8.toInt32)) (mg3_23 + (1 : Int32))))
noncomputable def e_hN_X9_feed (p0 : Int32) (p1 : Int32) (p2 : (Nat → Int32)) (x1 : Int32) (x2 : Int32) (x3 : Int32) (x4 : Int32) (x5 : Int32) : Option (Int32 × Int32 × (Nat → Int32) × Int32) :=
  if (p1 + (20 : Int32)) ≤ (1000 : Int32) then L_hN_X9_feed_23 (0 : Int32) x1 x2 x3 x4 x5 (fun l6_23 ma0_23 mg3_23 => some (mg3_23, (0 : Int32), ma0_23, mg3_23)) 200000 (0 : Int32) p2 p1 else some ((-1 : Int32), (0 : Int32), p2, p1)
set_option maxRecDepth 100000 in
set_option maxHeartbeats 4000000 in
theorem lp_hN_X9_feed_23 {g0 g1 g2 g4 g5 g6 g7 g8 g9 g10 g11 g12 g13 g14 g15 g16 g17 g18 : Int32} {a1 a2 a3 a4 a5 a6 a7 a8 a9 : (Nat → Int32)} {w0 : Int64} {rv : Value} (d n0 : Nat) (f1 : Int32) (f2 : Int32) (f3 : Int32) (f4 : Int32) (f5 : Int32) (res : Int32 × Int32 × (Nat → Int32) × Int32) (K : Int32 → (Nat → Int32) → Int32 → Option (Int32 × Int32 × (Nat → Int32) × Int32)) (hK : ∀ (l6_23 : Int32) (ma0_23 : (Nat → Int32)) (mg3_23 : Int32), K l6_23 ma0_23 mg3_23 = some res → xW xks YX9_feed (d + 1) 0 0 n0 (xZ 0 0 n0 (some (.int res.1)) (hN res.2.1 g1 g2 res.2.2.2 g4 g5 g6 g7 g8 g9 g10 g11 g12 g13 g14 g15 g16 g17 g18 res.2.2.1 a1 a2 a3 a4 a5 a6 a7 a8 a9 w0 .null rv)) 0 0 117 [some (.ref 0), none, none, none, none, none, none, none] [] (hN g0 g1 g2 mg3_23 g4 g5 g6 g7 g8 g9 g10 g11 g12 g13 g14 g15 g16 g17 g18 ma0_23 a1 a2 a3 a4 a5 a6 a7 a8 a9 w0 .null rv)) : ∀ (n : Nat) (l6_23 : Int32) (ma0_23 : (Nat → Int32)) (mg3_23 : Int32), L_hN_X9_feed_23 g0 f1 f2 f3 f4 f5 K n l6_23 ma0_23 mg3_23 = some res → xW xks YX9_feed (d + 1) 0 0 n0 (xZ 0 0 n0 (some (.int res.1)) (hN res.2.1 g1 g2 res.2.2.2 g4 g5 g6 g7 g8 g9 g10 g11 g12 g13 g14 g15 g16 g17 g18 res.2.2.1 a1 a2 a3 a4 a5 a6 a7 a8 a9 w0 .null rv)) 0 0 23 [some (.ref 0), some (.int f1), some (.int f2), some (.int f3), some (.int f4), some (.int f5), some (.int l6_23), none] [] (hN g0 g1 g2 mg3_23 g4 g5 g6 g7 g8 g9 g10 g11 g12 g13 g14 g15 g16 g17 g18 ma0_23 a1 a2 a3 a4 a5 a6 a7 a8 a9 w0 .null rv) := by
  intro n
  induction n with
  | zero =>
    intro l6_23 ma0_23 mg3_23 h
    cases (show (none : Option (Int32 × Int32 × (Nat → Int32) × Int32)) = some res from h)
  | succ n23 ih23 =>
    intro l6_23 ma0_23 mg3_23 h
    unfold L_hN_X9_feed_23 at h
    refine x_iload dX9_feed_23 rfl ?_
    refine x_bipush (20 : Int32) dX9_feed_25 (by decide) ?_
    refine x_icmp_ge 117 dX9_feed_27 (by decide) (fun q => ?_) (fun q => ?_)
    · have h := xif_t q h
      refine x_weak (pl2 := [some (.ref 0), none, none, none, none, none, none, none]) ⟨rfl, trivial⟩ ?_
      exact hK l6_23 ma0_23 mg3_23 h
    · have h := xif_f q h
      refine x_iload dX9_feed_30 rfl ?_
      refine x_iconst (4 : Int32) dX9_feed_32 (by decide) ?_
      refine x_icmp_ge 40 dX9_feed_33 (by decide) (fun q => ?_) (fun q => ?_)
      · have h := xif_t q h
        refine x_iload dX9_feed_40 rfl ?_
        refine x_bipush (8 : Int32) dX9_feed_42 (by decide) ?_
        refine x_icmp_ge 51 dX9_feed_44 (by decide) (fun q => ?_) (fun q => ?_)
        · have h := xif_t q h
          refine x_iload dX9_feed_51 rfl ?_
          refine x_bipush (12 : Int32) dX9_feed_53 (by decide) ?_
          refine x_icmp_ge 62 dX9_feed_55 (by decide) (fun q => ?_) (fun q => ?_)
          · have h := xif_t q h
            refine x_iload dX9_feed_62 rfl ?_
            refine x_bipush (16 : Int32) dX9_feed_64 (by decide) ?_
            refine x_icmp_ge 74 dX9_feed_66 (by decide) (fun q => ?_) (fun q => ?_)
            · have h := xif_t q h
              refine x_iload dX9_feed_74 rfl ?_
              refine x_istore (pl' := [some (.ref 0), some (.int f1), some (.int f2), some (.int f3), some (.int f4), some (.int f5), some (.int l6_23), some (.int f5)]) dX9_feed_76 (by decide) rfl ?_
              refine x_aload_n dX9_feed_78 rfl ?_
              refine x_get fX9_13 dX9_feed_79 rfl rfl rfl ?_
              refine x_aload_n dX9_feed_82 rfl ?_
              refine x_get fX9_309 dX9_feed_83 rfl rfl rfl ?_
              refine x_iload dX9_feed_86 rfl ?_
              refine x_bipush (24 : Int32) dX9_feed_88 (by decide) ?_
              refine x_bipush (8 : Int32) dX9_feed_90 (by decide) ?_
              refine x_iload dX9_feed_92 rfl ?_
              refine x_iconst (4 : Int32) dX9_feed_94 (by decide) ?_
              refine x_irem dX9_feed_95 (by decide) ?_
              refine x_imul dX9_feed_96 ?_
              refine x_isub dX9_feed_97 ?_
              refine x_ishr dX9_feed_98 ?_
              refine x_i2b dX9_feed_99 ?_
              obtain ⟨q100, h⟩ := xix_of h
              refine x_bast (h2 := (hN g0 g1 g2 mg3_23 g4 g5 g6 g7 g8 g9 g10 g11 g12 g13 g14 g15 g16 g17 g18 (upd ma0_23 mg3_23.toNatClampNeg (vp_nar .byte (f5 >>> (((24 : Int32) - ((8 : Int32) * (l6_23 - l6_23 / (4 : Int32) * (4 : Int32)))) &&& 31)).toInt8.toInt32)) a1 a2 a3 a4 a5 a6 a7 a8 a9 w0 .null rv)) dX9_feed_100 rfl q100 rfl ?_
              refine x_aload_n dX9_feed_101 rfl ?_
              refine x_dup dX9_feed_102 rfl ?_
              refine x_get fX9_309 dX9_feed_103 rfl rfl rfl ?_
              refine x_iconst (1 : Int32) dX9_feed_106 (by decide) ?_
              refine x_iadd dX9_feed_107 ?_
              refine x_put (h2 := (hN g0 g1 g2 (mg3_23 + (1 : Int32)) g4 g5 g6 g7 g8 g9 g10 g11 g12 g13 g14 g15 g16 g17 g18 (upd ma0_23 mg3_23.toNatClampNeg (vp_nar .byte (f5 >>> (((24 : Int32) - ((8 : Int32) * (l6_23 - l6_23 / (4 : Int32) * (4 : Int32)))) &&& 31)).toInt8.toInt32)) a1 a2 a3 a4 a5 a6 a7 a8 a9 w0 .null rv)) fX9_309 dX9_feed_108 rfl rfl (Nat.le_of_ble_eq_true rfl : 6 + 1 ≤ _) (fun α => ⟨rfl, rfl⟩) rfl ?_
              refine x_iincK (1 : Int32) (pl' := [some (.ref 0), some (.int f1), some (.int f2), some (.int f3), some (.int f4), some (.int f5), some (.int (l6_23 + (1 : Int32))), some (.int f5)]) dX9_feed_111 rfl (by decide) (by decide) rfl ?_
              refine x_goto 23 dX9_feed_114 (by decide) ?_
              refine x_weak (pl2 := [some (.ref 0), some (.int f1), some (.int f2), some (.int f3), some (.int f4), some (.int f5), some (.int (l6_23 + (1 : Int32))), none]) ⟨rfl, rfl, rfl, rfl, rfl, rfl, rfl, trivial⟩ ?_
              exact ih23 (l6_23 + (1 : Int32)) (upd ma0_23 mg3_23.toNatClampNeg (vp_nar .byte (f5 >>> (((24 : Int32) - ((8 : Int32) * (l6_23 - l6_23 / (4 : Int32) * (4 : Int32)))) &&& 31)).toInt8.toInt32)) (mg3_23 + (1 : Int32)) h
            · have h := xif_f q h
              refine x_iload dX9_feed_69 rfl ?_
              refine x_goto 76 dX9_feed_71 (by decide) ?_
              refine x_istore (pl' := [some (.ref 0), some (.int f1), some (.int f2), some (.int f3), some (.int f4), some (.int f5), some (.int l6_23), some (.int f4)]) dX9_feed_76 (by decide) rfl ?_
              refine x_aload_n dX9_feed_78 rfl ?_
              refine x_get fX9_13 dX9_feed_79 rfl rfl rfl ?_
              refine x_aload_n dX9_feed_82 rfl ?_
              refine x_get fX9_309 dX9_feed_83 rfl rfl rfl ?_
              refine x_iload dX9_feed_86 rfl ?_
              refine x_bipush (24 : Int32) dX9_feed_88 (by decide) ?_
              refine x_bipush (8 : Int32) dX9_feed_90 (by decide) ?_
              refine x_iload dX9_feed_92 rfl ?_
              refine x_iconst (4 : Int32) dX9_feed_94 (by decide) ?_
              refine x_irem dX9_feed_95 (by decide) ?_
              refine x_imul dX9_feed_96 ?_
              refine x_isub dX9_feed_97 ?_
              refine x_ishr dX9_feed_98 ?_
              refine x_i2b dX9_feed_99 ?_
              obtain ⟨q100, h⟩ := xix_of h
              refine x_bast (h2 := (hN g0 g1 g2 mg3_23 g4 g5 g6 g7 g8 g9 g10 g11 g12 g13 g14 g15 g16 g17 g18 (upd ma0_23 mg3_23.toNatClampNeg (vp_nar .byte (f4 >>> (((24 : Int32) - ((8 : Int32) * (l6_23 - l6_23 / (4 : Int32) * (4 : Int32)))) &&& 31)).toInt8.toInt32)) a1 a2 a3 a4 a5 a6 a7 a8 a9 w0 .null rv)) dX9_feed_100 rfl q100 rfl ?_
              refine x_aload_n dX9_feed_101 rfl ?_
              refine x_dup dX9_feed_102 rfl ?_
              refine x_get fX9_309 dX9_feed_103 rfl rfl rfl ?_
              refine x_iconst (1 : Int32) dX9_feed_106 (by decide) ?_
              refine x_iadd dX9_feed_107 ?_
              refine x_put (h2 := (hN g0 g1 g2 (mg3_23 + (1 : Int32)) g4 g5 g6 g7 g8 g9 g10 g11 g12 g13 g14 g15 g16 g17 g18 (upd ma0_23 mg3_23.toNatClampNeg (vp_nar .byte (f4 >>> (((24 : Int32) - ((8 : Int32) * (l6_23 - l6_23 / (4 : Int32) * (4 : Int32)))) &&& 31)).toInt8.toInt32)) a1 a2 a3 a4 a5 a6 a7 a8 a9 w0 .null rv)) fX9_309 dX9_feed_108 rfl rfl (Nat.le_of_ble_eq_true rfl : 6 + 1 ≤ _) (fun α => ⟨rfl, rfl⟩) rfl ?_
              refine x_iincK (1 : Int32) (pl' := [some (.ref 0), some (.int f1), some (.int f2), some (.int f3), some (.int f4), some (.int f5), some (.int (l6_23 + (1 : Int32))), some (.int f4)]) dX9_feed_111 rfl (by decide) (by decide) rfl ?_
              refine x_goto 23 dX9_feed_114 (by decide) ?_
              refine x_weak (pl2 := [some (.ref 0), some (.int f1), some (.int f2), some (.int f3), some (.int f4), some (.int f5), some (.int (l6_23 + (1 : Int32))), none]) ⟨rfl, rfl, rfl, rfl, rfl, rfl, rfl, trivial⟩ ?_
              exact ih23 (l6_23 + (1 : Int32)) (upd ma0_23 mg3_23.toNatClampNeg (vp_nar .byte (f4 >>> (((24 : Int32) - ((8 : Int32) * (l6_23 - l6_23 / (4 : Int32) * (4 : Int32)))) &&& 31)).toInt8.toInt32)) (mg3_23 + (1 : Int32)) h
          · have h := xif_f q h
            refine x_iload_n dX9_feed_58 rfl ?_
            refine x_goto 76 dX9_feed_59 (by decide) ?_
            refine x_istore (pl' := [some (.ref 0), some (.int f1), some (.int f2), some (.int f3), some (.int f4), some (.int f5), some (.int l6_23), some (.int f3)]) dX9_feed_76 (by decide) rfl ?_
            refine x_aload_n dX9_feed_78 rfl ?_
            refine x_get fX9_13 dX9_feed_79 rfl rfl rfl ?_
            refine x_aload_n dX9_feed_82 rfl ?_
            refine x_get fX9_309 dX9_feed_83 rfl rfl rfl ?_
            refine x_iload dX9_feed_86 rfl ?_
            refine x_bipush (24 : Int32) dX9_feed_88 (by decide) ?_
            refine x_bipush (8 : Int32) dX9_feed_90 (by decide) ?_
            refine x_iload dX9_feed_92 rfl ?_
            refine x_iconst (4 : Int32) dX9_feed_94 (by decide) ?_
            refine x_irem dX9_feed_95 (by decide) ?_
            refine x_imul dX9_feed_96 ?_
            refine x_isub dX9_feed_97 ?_
            refine x_ishr dX9_feed_98 ?_
            refine x_i2b dX9_feed_99 ?_
            obtain ⟨q100, h⟩ := xix_of h
            refine x_bast (h2 := (hN g0 g1 g2 mg3_23 g4 g5 g6 g7 g8 g9 g10 g11 g12 g13 g14 g15 g16 g17 g18 (upd ma0_23 mg3_23.toNatClampNeg (vp_nar .byte (f3 >>> (((24 : Int32) - ((8 : Int32) * (l6_23 - l6_23 / (4 : Int32) * (4 : Int32)))) &&& 31)).toInt8.toInt32)) a1 a2 a3 a4 a5 a6 a7 a8 a9 w0 .null rv)) dX9_feed_100 rfl q100 rfl ?_
            refine x_aload_n dX9_feed_101 rfl ?_
            refine x_dup dX9_feed_102 rfl ?_
            refine x_get fX9_309 dX9_feed_103 rfl rfl rfl ?_
            refine x_iconst (1 : Int32) dX9_feed_106 (by decide) ?_
            refine x_iadd dX9_feed_107 ?_
            refine x_put (h2 := (hN g0 g1 g2 (mg3_23 + (1 : Int32)) g4 g5 g6 g7 g8 g9 g10 g11 g12 g13 g14 g15 g16 g17 g18 (upd ma0_23 mg3_23.toNatClampNeg (vp_nar .byte (f3 >>> (((24 : Int32) - ((8 : Int32) * (l6_23 - l6_23 / (4 : Int32) * (4 : Int32)))) &&& 31)).toInt8.toInt32)) a1 a2 a3 a4 a5 a6 a7 a8 a9 w0 .null rv)) fX9_309 dX9_feed_108 rfl rfl (Nat.le_of_ble_eq_true rfl : 6 + 1 ≤ _) (fun α => ⟨rfl, rfl⟩) rfl ?_
            refine x_iincK (1 : Int32) (pl' := [some (.ref 0), some (.int f1), some (.int f2), some (.int f3), some (.int f4), some (.int f5), some (.int (l6_23 + (1 : Int32))), some (.int f3)]) dX9_feed_111 rfl (by decide) (by decide) rfl ?_
            refine x_goto 23 dX9_feed_114 (by decide) ?_
            refine x_weak (pl2 := [some (.ref 0), some (.int f1), some (.int f2), some (.int f3), some (.int f4), some (.int f5), some (.int (l6_23 + (1 : Int32))), none]) ⟨rfl, rfl, rfl, rfl, rfl, rfl, rfl, trivial⟩ ?_
            exact ih23 (l6_23 + (1 : Int32)) (upd ma0_23 mg3_23.toNatClampNeg (vp_nar .byte (f3 >>> (((24 : Int32) - ((8 : Int32) * (l6_23 - l6_23 / (4 : Int32) * (4 : Int32)))) &&& 31)).toInt8.toInt32)) (mg3_23 + (1 : Int32)) h
        · have h := xif_f q h
          refine x_iload_n dX9_feed_47 rfl ?_
          refine x_goto 76 dX9_feed_48 (by decide) ?_
          refine x_istore (pl' := [some (.ref 0), some (.int f1), some (.int f2), some (.int f3), some (.int f4), some (.int f5), some (.int l6_23), some (.int f2)]) dX9_feed_76 (by decide) rfl ?_
          refine x_aload_n dX9_feed_78 rfl ?_
          refine x_get fX9_13 dX9_feed_79 rfl rfl rfl ?_
          refine x_aload_n dX9_feed_82 rfl ?_
          refine x_get fX9_309 dX9_feed_83 rfl rfl rfl ?_
          refine x_iload dX9_feed_86 rfl ?_
          refine x_bipush (24 : Int32) dX9_feed_88 (by decide) ?_
          refine x_bipush (8 : Int32) dX9_feed_90 (by decide) ?_
          refine x_iload dX9_feed_92 rfl ?_
          refine x_iconst (4 : Int32) dX9_feed_94 (by decide) ?_
          refine x_irem dX9_feed_95 (by decide) ?_
          refine x_imul dX9_feed_96 ?_
          refine x_isub dX9_feed_97 ?_
          refine x_ishr dX9_feed_98 ?_
          refine x_i2b dX9_feed_99 ?_
          obtain ⟨q100, h⟩ := xix_of h
          refine x_bast (h2 := (hN g0 g1 g2 mg3_23 g4 g5 g6 g7 g8 g9 g10 g11 g12 g13 g14 g15 g16 g17 g18 (upd ma0_23 mg3_23.toNatClampNeg (vp_nar .byte (f2 >>> (((24 : Int32) - ((8 : Int32) * (l6_23 - l6_23 / (4 : Int32) * (4 : Int32)))) &&& 31)).toInt8.toInt32)) a1 a2 a3 a4 a5 a6 a7 a8 a9 w0 .null rv)) dX9_feed_100 rfl q100 rfl ?_
          refine x_aload_n dX9_feed_101 rfl ?_
          refine x_dup dX9_feed_102 rfl ?_
          refine x_get fX9_309 dX9_feed_103 rfl rfl rfl ?_
          refine x_iconst (1 : Int32) dX9_feed_106 (by decide) ?_
          refine x_iadd dX9_feed_107 ?_
          refine x_put (h2 := (hN g0 g1 g2 (mg3_23 + (1 : Int32)) g4 g5 g6 g7 g8 g9 g10 g11 g12 g13 g14 g15 g16 g17 g18 (upd ma0_23 mg3_23.toNatClampNeg (vp_nar .byte (f2 >>> (((24 : Int32) - ((8 : Int32) * (l6_23 - l6_23 / (4 : Int32) * (4 : Int32)))) &&& 31)).toInt8.toInt32)) a1 a2 a3 a4 a5 a6 a7 a8 a9 w0 .null rv)) fX9_309 dX9_feed_108 rfl rfl (Nat.le_of_ble_eq_true rfl : 6 + 1 ≤ _) (fun α => ⟨rfl, rfl⟩) rfl ?_
          refine x_iincK (1 : Int32) (pl' := [some (.ref 0), some (.int f1), some (.int f2), some (.int f3), some (.int f4), some (.int f5), some (.int (l6_23 + (1 : Int32))), some (.int f2)]) dX9_feed_111 rfl (by decide) (by decide) rfl ?_
          refine x_goto 23 dX9_feed_114 (by decide) ?_
          refine x_weak (pl2 := [some (.ref 0), some (.int f1), some (.int f2), some (.int f3), some (.int f4), some (.int f5), some (.int (l6_23 + (1 : Int32))), none]) ⟨rfl, rfl, rfl, rfl, rfl, rfl, rfl, trivial⟩ ?_
          exact ih23 (l6_23 + (1 : Int32)) (upd ma0_23 mg3_23.toNatClampNeg (vp_nar .byte (f2 >>> (((24 : Int32) - ((8 : Int32) * (l6_23 - l6_23 / (4 : Int32) * (4 : Int32)))) &&& 31)).toInt8.toInt32)) (mg3_23 + (1 : Int32)) h
      · have h := xif_f q h
        refine x_iload_n dX9_feed_36 rfl ?_
        refine x_goto 76 dX9_feed_37 (by decide) ?_
        refine x_istore (pl' := [some (.ref 0), some (.int f1), some (.int f2), some (.int f3), some (.int f4), some (.int f5), some (.int l6_23), some (.int f1)]) dX9_feed_76 (by decide) rfl ?_
        refine x_aload_n dX9_feed_78 rfl ?_
        refine x_get fX9_13 dX9_feed_79 rfl rfl rfl ?_
        refine x_aload_n dX9_feed_82 rfl ?_
        refine x_get fX9_309 dX9_feed_83 rfl rfl rfl ?_
        refine x_iload dX9_feed_86 rfl ?_
        refine x_bipush (24 : Int32) dX9_feed_88 (by decide) ?_
        refine x_bipush (8 : Int32) dX9_feed_90 (by decide) ?_
        refine x_iload dX9_feed_92 rfl ?_
        refine x_iconst (4 : Int32) dX9_feed_94 (by decide) ?_
        refine x_irem dX9_feed_95 (by decide) ?_
        refine x_imul dX9_feed_96 ?_
        refine x_isub dX9_feed_97 ?_
        refine x_ishr dX9_feed_98 ?_
        refine x_i2b dX9_feed_99 ?_
        obtain ⟨q100, h⟩ := xix_of h
        refine x_bast (h2 := (hN g0 g1 g2 mg3_23 g4 g5 g6 g7 g8 g9 g10 g11 g12 g13 g14 g15 g16 g17 g18 (upd ma0_23 mg3_23.toNatClampNeg (vp_nar .byte (f1 >>> (((24 : Int32) - ((8 : Int32) * (l6_23 - l6_23 / (4 : Int32) * (4 : Int32)))) &&& 31)).toInt8.toInt32)) a1 a2 a3 a4 a5 a6 a7 a8 a9 w0 .null rv)) dX9_feed_100 rfl q100 rfl ?_
        refine x_aload_n dX9_feed_101 rfl ?_
        refine x_dup dX9_feed_102 rfl ?_
        refine x_get fX9_309 dX9_feed_103 rfl rfl rfl ?_
        refine x_iconst (1 : Int32) dX9_feed_106 (by decide) ?_
        refine x_iadd dX9_feed_107 ?_
        refine x_put (h2 := (hN g0 g1 g2 (mg3_23 + (1 : Int32)) g4 g5 g6 g7 g8 g9 g10 g11 g12 g13 g14 g15 g16 g17 g18 (upd ma0_23 mg3_23.toNatClampNeg (vp_nar .byte (f1 >>> (((24 : Int32) - ((8 : Int32) * (l6_23 - l6_23 / (4 : Int32) * (4 : Int32)))) &&& 31)).toInt8.toInt32)) a1 a2 a3 a4 a5 a6 a7 a8 a9 w0 .null rv)) fX9_309 dX9_feed_108 rfl rfl (Nat.le_of_ble_eq_true rfl : 6 + 1 ≤ _) (fun α => ⟨rfl, rfl⟩) rfl ?_
        refine x_iincK (1 : Int32) (pl' := [some (.ref 0), some (.int f1), some (.int f2), some (.int f3), some (.int f4), some (.int f5), some (.int (l6_23 + (1 : Int32))), some (.int f1)]) dX9_feed_111 rfl (by decide) (by decide) rfl ?_
        refine x_goto 23 dX9_feed_114 (by decide) ?_
        refine x_weak (pl2 := [some (.ref 0), some (.int f1), some (.int f2), some (.int f3), some (.int f4), some (.int f5), some (.int (l6_23 + (1 : Int32))), none]) ⟨rfl, rfl, rfl, rfl, rfl, rfl, rfl, trivial⟩ ?_
        exact ih23 (l6_23 + (1 : Int32)) (upd ma0_23 mg3_23.toNatClampNeg (vp_nar .byte (f1 >>> (((24 : Int32) - ((8 : Int32) * (l6_23 - l6_23 / (4 : Int32) * (4 : Int32)))) &&& 31)).toInt8.toInt32)) (mg3_23 + (1 : Int32)) h
set_option maxRecDepth 100000 in
set_option maxHeartbeats 4000000 in
theorem t_hN_X9_feed {g0 g1 g2 g3 g4 g5 g6 g7 g8 g9 g10 g11 g12 g13 g14 g15 g16 g17 g18 : Int32} {a0 a1 a2 a3 a4 a5 a6 a7 a8 a9 : (Nat → Int32)} {w0 : Int64} {rv : Value} (x1 : Int32) (x2 : Int32) (x3 : Int32) (x4 : Int32) (x5 : Int32) (res : Int32 × Int32 × (Nat → Int32) × Int32) (h : e_hN_X9_feed g0 g3 a0 x1 x2 x3 x4 x5 = some res) (d : Nat) : xMet xks YX9_feed (d + 1) 0 0 [.ref 0, .int x1, .int x2, .int x3, .int x4, .int x5] (hN g0 g1 g2 g3 g4 g5 g6 g7 g8 g9 g10 g11 g12 g13 g14 g15 g16 g17 g18 a0 a1 a2 a3 a4 a5 a6 a7 a8 a9 w0 .null rv) (some (.int res.1)) (hN res.2.1 g1 g2 res.2.2.2 g4 g5 g6 g7 g8 g9 g10 g11 g12 g13 g14 g15 g16 g17 g18 res.2.2.1 a1 a2 a3 a4 a5 a6 a7 a8 a9 w0 .null rv) := by
  unfold e_hN_X9_feed at h
  refine xMet_of (pl := [some (.ref 0), some (.int x1), some (.int x2), some (.int x3), some (.int x4), some (.int x5), none, none]) (by decide) (Nat.le_of_ble_eq_true rfl) rfl (Nat.le_of_ble_eq_true rfl) ?_
  refine x_aload_n dX9_feed_0 rfl ?_
  refine x_iconst (0 : Int32) dX9_feed_1 (by decide) ?_
  refine x_put (h2 := (hN (0 : Int32) g1 g2 g3 g4 g5 g6 g7 g8 g9 g10 g11 g12 g13 g14 g15 g16 g17 g18 a0 a1 a2 a3 a4 a5 a6 a7 a8 a9 w0 .null rv)) fX9_45 dX9_feed_2 rfl rfl (Nat.le_of_ble_eq_true rfl : 0 + 1 ≤ _) (fun α => ⟨rfl, rfl⟩) rfl ?_
  refine x_aload_n dX9_feed_5 rfl ?_
  refine x_get fX9_309 dX9_feed_6 rfl rfl rfl ?_
  refine x_bipush (20 : Int32) dX9_feed_9 (by decide) ?_
  refine x_iadd dX9_feed_11 ?_
  refine x_sipush (1000 : Int32) dX9_feed_12 (by decide) ?_
  refine x_icmp_le 20 dX9_feed_15 (by decide) (fun q => ?_) (fun q => ?_)
  · have h := xif_t q h
    refine x_iconst (0 : Int32) dX9_feed_20 (by decide) ?_
    refine x_istore (pl' := [some (.ref 0), some (.int x1), some (.int x2), some (.int x3), some (.int x4), some (.int x5), some (.int (0 : Int32)), none]) dX9_feed_21 (by decide) rfl ?_
    refine x_weak (pl2 := [some (.ref 0), some (.int x1), some (.int x2), some (.int x3), some (.int x4), some (.int x5), some (.int (0 : Int32)), none]) ⟨rfl, rfl, rfl, rfl, rfl, rfl, rfl, trivial⟩ ?_
    refine lp_hN_X9_feed_23 d _ x1 x2 x3 x4 x5 res _ (fun l6_23 ma0_23 mg3_23 h => ?_) 200000 (0 : Int32) a0 g3 h
    refine x_aload_n dX9_feed_117 rfl ?_
    refine x_get fX9_309 dX9_feed_118 rfl rfl rfl ?_
    cases h
    exact x_iret2 dX9_feed_121 rfl rfl
  · have h := xif_f q h
    refine x_iconst (-1 : Int32) dX9_feed_18 (by decide) ?_
    cases h
    exact x_iret2 dX9_feed_19 rfl rfl
noncomputable def e_hN_X9_fault (p0 : Int32) (p1 : Int32)  : Option (Int32 × Int32) :=
  some (p1, (0 : Int32))
set_option maxRecDepth 100000 in
set_option maxHeartbeats 4000000 in
theorem t_hN_X9_fault {g0 g1 g2 g3 g4 g5 g6 g7 g8 g9 g10 g11 g12 g13 g14 g15 g16 g17 g18 : Int32} {a0 a1 a2 a3 a4 a5 a6 a7 a8 a9 : (Nat → Int32)} {w0 : Int64} {rv : Value}  (res : Int32 × Int32) (h : e_hN_X9_fault g0 g9  = some res) (d : Nat) : xMet xks YX9_fault (d + 1) 0 0 [.ref 0] (hN g0 g1 g2 g3 g4 g5 g6 g7 g8 g9 g10 g11 g12 g13 g14 g15 g16 g17 g18 a0 a1 a2 a3 a4 a5 a6 a7 a8 a9 w0 .null rv) (some (.int res.1)) (hN res.2 g1 g2 g3 g4 g5 g6 g7 g8 g9 g10 g11 g12 g13 g14 g15 g16 g17 g18 a0 a1 a2 a3 a4 a5 a6 a7 a8 a9 w0 .null rv) := by
  unfold e_hN_X9_fault at h
  refine xMet_of (pl := [some (.ref 0)]) (by decide) (Nat.le_of_ble_eq_true rfl) rfl (Nat.le_of_ble_eq_true rfl) ?_
  refine x_aload_n dX9_fault_0 rfl ?_
  refine x_iconst (0 : Int32) dX9_fault_1 (by decide) ?_
  refine x_put (h2 := (hN (0 : Int32) g1 g2 g3 g4 g5 g6 g7 g8 g9 g10 g11 g12 g13 g14 g15 g16 g17 g18 a0 a1 a2 a3 a4 a5 a6 a7 a8 a9 w0 .null rv)) fX9_45 dX9_fault_2 rfl rfl (Nat.le_of_ble_eq_true rfl : 0 + 1 ≤ _) (fun α => ⟨rfl, rfl⟩) rfl ?_
  refine x_aload_n dX9_fault_5 rfl ?_
  refine x_get fX9_103 dX9_fault_6 rfl rfl rfl ?_
  cases h
  exact x_iret2 dX9_fault_9 rfl rfl
noncomputable def e_hN_X9_where (p0 : Int32) (p1 : Int32)  : Option (Int32 × Int32) :=
  some (p1, (0 : Int32))
set_option maxRecDepth 100000 in
set_option maxHeartbeats 4000000 in
theorem t_hN_X9_where {g0 g1 g2 g3 g4 g5 g6 g7 g8 g9 g10 g11 g12 g13 g14 g15 g16 g17 g18 : Int32} {a0 a1 a2 a3 a4 a5 a6 a7 a8 a9 : (Nat → Int32)} {w0 : Int64} {rv : Value}  (res : Int32 × Int32) (h : e_hN_X9_where g0 g2  = some res) (d : Nat) : xMet xks YX9_where (d + 1) 0 0 [.ref 0] (hN g0 g1 g2 g3 g4 g5 g6 g7 g8 g9 g10 g11 g12 g13 g14 g15 g16 g17 g18 a0 a1 a2 a3 a4 a5 a6 a7 a8 a9 w0 .null rv) (some (.int res.1)) (hN res.2 g1 g2 g3 g4 g5 g6 g7 g8 g9 g10 g11 g12 g13 g14 g15 g16 g17 g18 a0 a1 a2 a3 a4 a5 a6 a7 a8 a9 w0 .null rv) := by
  unfold e_hN_X9_where at h
  refine xMet_of (pl := [some (.ref 0)]) (by decide) (Nat.le_of_ble_eq_true rfl) rfl (Nat.le_of_ble_eq_true rfl) ?_
  refine x_aload_n dX9_where_0 rfl ?_
  refine x_iconst (0 : Int32) dX9_where_1 (by decide) ?_
  refine x_put (h2 := (hN (0 : Int32) g1 g2 g3 g4 g5 g6 g7 g8 g9 g10 g11 g12 g13 g14 g15 g16 g17 g18 a0 a1 a2 a3 a4 a5 a6 a7 a8 a9 w0 .null rv)) fX9_45 dX9_where_2 rfl rfl (Nat.le_of_ble_eq_true rfl : 0 + 1 ≤ _) (fun α => ⟨rfl, rfl⟩) rfl ?_
  refine x_aload_n dX9_where_5 rfl ?_
  refine x_get fX9_9 dX9_where_6 rfl rfl rfl ?_
  cases h
  exact x_iret2 dX9_where_9 rfl rfl
noncomputable def e_hN_X9_isUmbrella  (x1 : Int32) : Option (Int32) :=
  some (0 : Int32)
set_option maxRecDepth 100000 in
set_option maxHeartbeats 4000000 in
theorem t_hN_X9_isUmbrella {g0 g1 g2 g3 g4 g5 g6 g7 g8 g9 g10 g11 g12 g13 g14 g15 g16 g17 g18 : Int32} {a0 a1 a2 a3 a4 a5 a6 a7 a8 a9 : (Nat → Int32)} {w0 : Int64} {rv : Value} (x1 : Int32) (res : Int32) (h : e_hN_X9_isUmbrella  x1 = some res) (d : Nat) : xMet xks YX9_isUmbrella (d + 1) 0 0 [.ref 0, .int x1] (hN g0 g1 g2 g3 g4 g5 g6 g7 g8 g9 g10 g11 g12 g13 g14 g15 g16 g17 g18 a0 a1 a2 a3 a4 a5 a6 a7 a8 a9 w0 .null rv) (some (.int res)) (hN g0 g1 g2 g3 g4 g5 g6 g7 g8 g9 g10 g11 g12 g13 g14 g15 g16 g17 g18 a0 a1 a2 a3 a4 a5 a6 a7 a8 a9 w0 .null rv) := by
  unfold e_hN_X9_isUmbrella at h
  refine xMet_of (pl := [some (.ref 0), some (.int x1)]) (by decide) (Nat.le_of_ble_eq_true rfl) rfl (Nat.le_of_ble_eq_true rfl) ?_
  refine x_aload_n dX9_isUmbrella_0 rfl ?_
  refine x_get fX9_316 dX9_isUmbrella_1 rfl rfl rfl ?_
  refine x_ifnullN 26 dX9_isUmbrella_4 (by decide) ?_
  refine x_iconst (0 : Int32) dX9_isUmbrella_26 (by decide) ?_
  cases h
  exact x_zret2 dX9_isUmbrella_27 rfl rfl rfl
noncomputable def e_hN_X9_refused (p0 : Int32) (p1 : Int32) (x1 : Int32) : Option (Int32 × Int32 × Int32) :=
  some ((-1 : Int32), x1, (-1 : Int32))
set_option maxRecDepth 100000 in
set_option maxHeartbeats 4000000 in
theorem t_hN_X9_refused {g0 g1 g2 g3 g4 g5 g6 g7 g8 g9 g10 g11 g12 g13 g14 g15 g16 g17 g18 : Int32} {a0 a1 a2 a3 a4 a5 a6 a7 a8 a9 : (Nat → Int32)} {w0 : Int64} {rv : Value} (x1 : Int32) (res : Int32 × Int32 × Int32) (h : e_hN_X9_refused g1 g2 x1 = some res) (d : Nat) : xMet xks YX9_refused (d + 1) 0 0 [.ref 0, .int x1] (hN g0 g1 g2 g3 g4 g5 g6 g7 g8 g9 g10 g11 g12 g13 g14 g15 g16 g17 g18 a0 a1 a2 a3 a4 a5 a6 a7 a8 a9 w0 .null rv) (some (.int res.1)) (hN g0 res.2.1 res.2.2 g3 g4 g5 g6 g7 g8 g9 g10 g11 g12 g13 g14 g15 g16 g17 g18 a0 a1 a2 a3 a4 a5 a6 a7 a8 a9 w0 .null rv) := by
  unfold e_hN_X9_refused at h
  refine xMet_of (pl := [some (.ref 0), some (.int x1)]) (by decide) (Nat.le_of_ble_eq_true rfl) rfl (Nat.le_of_ble_eq_true rfl) ?_
  refine x_aload_n dX9_refused_0 rfl ?_
  refine x_iload_n dX9_refused_1 rfl ?_
  refine x_put (h2 := (hN g0 x1 g2 g3 g4 g5 g6 g7 g8 g9 g10 g11 g12 g13 g14 g15 g16 g17 g18 a0 a1 a2 a3 a4 a5 a6 a7 a8 a9 w0 .null rv)) fX9_48 dX9_refused_2 rfl rfl (Nat.le_of_ble_eq_true rfl : 1 + 1 ≤ _) (fun α => ⟨rfl, rfl⟩) rfl ?_
  refine x_aload_n dX9_refused_5 rfl ?_
  refine x_iconst (-1 : Int32) dX9_refused_6 (by decide) ?_
  refine x_put (h2 := (hN g0 x1 (-1 : Int32) g3 g4 g5 g6 g7 g8 g9 g10 g11 g12 g13 g14 g15 g16 g17 g18 a0 a1 a2 a3 a4 a5 a6 a7 a8 a9 w0 .null rv)) fX9_9 dX9_refused_7 rfl rfl (Nat.le_of_ble_eq_true rfl : 2 + 1 ≤ _) (fun α => ⟨rfl, rfl⟩) rfl ?_
  refine x_iconst (-1 : Int32) dX9_refused_10 (by decide) ?_
  cases h
  exact x_iret2 dX9_refused_11 rfl rfl
noncomputable def e_hN_X9_in  (x0 : Int32) (x1 : Int32) (x2 : Int32) : Option (Int32) :=
  if x0 < x1 then some (0 : Int32) else if x2 < x0 then some (0 : Int32) else some (1 : Int32)
set_option maxRecDepth 100000 in
set_option maxHeartbeats 4000000 in
theorem t_hN_X9_in {g0 g1 g2 g3 g4 g5 g6 g7 g8 g9 g10 g11 g12 g13 g14 g15 g16 g17 g18 : Int32} {a0 a1 a2 a3 a4 a5 a6 a7 a8 a9 : (Nat → Int32)} {w0 : Int64} {rv : Value} (x0 : Int32) (x1 : Int32) (x2 : Int32) (res : Int32) (h : e_hN_X9_in  x0 x1 x2 = some res) (d : Nat) : xMet xks YX9_in (d + 1) 0 0 [.int x0, .int x1, .int x2] (hN g0 g1 g2 g3 g4 g5 g6 g7 g8 g9 g10 g11 g12 g13 g14 g15 g16 g17 g18 a0 a1 a2 a3 a4 a5 a6 a7 a8 a9 w0 .null rv) (some (.int res)) (hN g0 g1 g2 g3 g4 g5 g6 g7 g8 g9 g10 g11 g12 g13 g14 g15 g16 g17 g18 a0 a1 a2 a3 a4 a5 a6 a7 a8 a9 w0 .null rv) := by
  unfold e_hN_X9_in at h
  refine xMet_of (pl := [some (.int x0), some (.int x1), some (.int x2)]) (by decide) (Nat.le_of_ble_eq_true rfl) rfl (Nat.le_of_ble_eq_true rfl) ?_
  refine x_iload_n dX9_in_0 rfl ?_
  refine x_iload_n dX9_in_1 rfl ?_
  refine x_icmp_lt 14 dX9_in_2 (by decide) (fun q => ?_) (fun q => ?_)
  · have h := xif_t q h
    refine x_iconst (0 : Int32) dX9_in_14 (by decide) ?_
    cases h
    exact x_zret2 dX9_in_15 rfl rfl rfl
  · have h := xif_f q h
    refine x_iload_n dX9_in_5 rfl ?_
    refine x_iload_n dX9_in_6 rfl ?_
    refine x_icmp_gt 14 dX9_in_7 (by decide) (fun q => ?_) (fun q => ?_)
    · have h := xif_t q h
      refine x_iconst (0 : Int32) dX9_in_14 (by decide) ?_
      cases h
      exact x_zret2 dX9_in_15 rfl rfl rfl
    · have h := xif_f q h
      refine x_iconst (1 : Int32) dX9_in_10 (by decide) ?_
      refine x_goto 15 dX9_in_11 (by decide) ?_
      cases h
      exact x_zret2 dX9_in_15 rfl rfl rfl
noncomputable def e_hN_X9_good (p0 : Int32) (p1 : Int32) (x1 : Int32) : Option (Int32 × Int32 × Int32) :=
  some (x1, (0 : Int32), (-1 : Int32))
set_option maxRecDepth 100000 in
set_option maxHeartbeats 4000000 in
theorem t_hN_X9_good {g0 g1 g2 g3 g4 g5 g6 g7 g8 g9 g10 g11 g12 g13 g14 g15 g16 g17 g18 : Int32} {a0 a1 a2 a3 a4 a5 a6 a7 a8 a9 : (Nat → Int32)} {w0 : Int64} {rv : Value} (x1 : Int32) (res : Int32 × Int32 × Int32) (h : e_hN_X9_good g1 g2 x1 = some res) (d : Nat) : xMet xks YX9_good (d + 1) 0 0 [.ref 0, .int x1] (hN g0 g1 g2 g3 g4 g5 g6 g7 g8 g9 g10 g11 g12 g13 g14 g15 g16 g17 g18 a0 a1 a2 a3 a4 a5 a6 a7 a8 a9 w0 .null rv) (some (.int res.1)) (hN g0 res.2.1 res.2.2 g3 g4 g5 g6 g7 g8 g9 g10 g11 g12 g13 g14 g15 g16 g17 g18 a0 a1 a2 a3 a4 a5 a6 a7 a8 a9 w0 .null rv) := by
  unfold e_hN_X9_good at h
  refine xMet_of (pl := [some (.ref 0), some (.int x1)]) (by decide) (Nat.le_of_ble_eq_true rfl) rfl (Nat.le_of_ble_eq_true rfl) ?_
  refine x_aload_n dX9_good_0 rfl ?_
  refine x_iconst (0 : Int32) dX9_good_1 (by decide) ?_
  refine x_put (h2 := (hN g0 (0 : Int32) g2 g3 g4 g5 g6 g7 g8 g9 g10 g11 g12 g13 g14 g15 g16 g17 g18 a0 a1 a2 a3 a4 a5 a6 a7 a8 a9 w0 .null rv)) fX9_48 dX9_good_2 rfl rfl (Nat.le_of_ble_eq_true rfl : 1 + 1 ≤ _) (fun α => ⟨rfl, rfl⟩) rfl ?_
  refine x_aload_n dX9_good_5 rfl ?_
  refine x_iconst (-1 : Int32) dX9_good_6 (by decide) ?_
  refine x_put (h2 := (hN g0 (0 : Int32) (-1 : Int32) g3 g4 g5 g6 g7 g8 g9 g10 g11 g12 g13 g14 g15 g16 g17 g18 a0 a1 a2 a3 a4 a5 a6 a7 a8 a9 w0 .null rv)) fX9_9 dX9_good_7 rfl rfl (Nat.le_of_ble_eq_true rfl : 2 + 1 ≤ _) (fun α => ⟨rfl, rfl⟩) rfl ?_
  refine x_iload_n dX9_good_10 rfl ?_
  cases h
  exact x_iret2 dX9_good_11 rfl rfl
noncomputable def e_hN_X9_umbrella (p0 : Int32) (p1 : Int32) (p2 : Int32) (p3 : (Nat → Int32)) (x1 : Int32) (x2 : Int32) : Option (Int32 × Int32 × Int32 × Int32) :=
  ((e_hN_X9_isUmbrella x1).bind fun z7 => if z7 = (0 : Int32) then ((e_hN_X9_refused p1 p2 (1 : Int32)).bind fun z24 => some (z24.1, (0 : Int32), z24.2.1, z24.2.2)) else ((e_hN_X9_in x2 (0 : Int32) (4 : Int32)).bind fun z16 => if z16 = (0 : Int32) then ((e_hN_X9_refused p1 p2 (1 : Int32)).bind fun z24 => some (z24.1, (0 : Int32), z24.2.1, z24.2.2)) else if x2.toInt < 0 ∨ 3 < x2.toInt then (xix ((5 : Int32) + x1) 11 ((e_hN_X9_good p1 p2 (p3 ((5 : Int32) + x1).toNatClampNeg)).bind fun z124 => some (z124.1, (0 : Int32), z124.2.1, z124.2.2))) else if x2 = (0 : Int32) then none else if x2 = (1 : Int32) then none else if x2 = (2 : Int32) then none else if x2 = (3 : Int32) then (xix ((0 : Int32) + x1) 11 ((e_hN_X9_good p1 p2 (p3 ((0 : Int32) + x1).toNatClampNeg)).bind fun z111 => some (z111.1, (0 : Int32), z111.2.1, z111.2.2))) else none))
set_option maxRecDepth 100000 in
set_option maxHeartbeats 4000000 in
theorem t_hN_X9_umbrella {g0 g1 g2 g3 g4 g5 g6 g7 g8 g9 g10 g11 g12 g13 g14 g15 g16 g17 g18 : Int32} {a0 a1 a2 a3 a4 a5 a6 a7 a8 a9 : (Nat → Int32)} {w0 : Int64} {rv : Value} (x1 : Int32) (x2 : Int32) (res : Int32 × Int32 × Int32 × Int32) (h : e_hN_X9_umbrella g0 g1 g2 a1 x1 x2 = some res) (d : Nat) : xMet xks YX9_umbrella (d + 2) 0 0 [.ref 0, .int x1, .int x2] (hN g0 g1 g2 g3 g4 g5 g6 g7 g8 g9 g10 g11 g12 g13 g14 g15 g16 g17 g18 a0 a1 a2 a3 a4 a5 a6 a7 a8 a9 w0 .null rv) (some (.int res.1)) (hN res.2.1 res.2.2.1 res.2.2.2 g3 g4 g5 g6 g7 g8 g9 g10 g11 g12 g13 g14 g15 g16 g17 g18 a0 a1 a2 a3 a4 a5 a6 a7 a8 a9 w0 .null rv) := by
  unfold e_hN_X9_umbrella at h
  refine xMet_of (pl := [some (.ref 0), some (.int x1), some (.int x2)]) (by decide) (Nat.le_of_ble_eq_true rfl) rfl (Nat.le_of_ble_eq_true rfl) ?_
  refine x_aload_n dX9_umbrella_0 rfl ?_
  refine x_iconst (0 : Int32) dX9_umbrella_1 (by decide) ?_
  refine x_put (h2 := (hN (0 : Int32) g1 g2 g3 g4 g5 g6 g7 g8 g9 g10 g11 g12 g13 g14 g15 g16 g17 g18 a0 a1 a2 a3 a4 a5 a6 a7 a8 a9 w0 .null rv)) fX9_45 dX9_umbrella_2 rfl rfl (Nat.le_of_ble_eq_true rfl : 0 + 1 ≤ _) (fun α => ⟨rfl, rfl⟩) rfl ?_
  refine x_aload_n dX9_umbrella_5 rfl ?_
  refine x_iload_n dX9_umbrella_6 rfl ?_
  obtain ⟨z7, y7, h⟩ := xbind h
  refine x_callV (t_hN_X9_isUmbrella x1 z7 y7 (d + 0)) kX9_359 dX9_umbrella_7 rfl rfl rfl rfl rfl (Nat.le_of_ble_eq_true rfl) (Nat.le_of_ble_eq_true rfl) rfl rfl (Or.inl rfl) ?_
  refine x_if_eq 22 dX9_umbrella_10 (by decide) (fun q => ?_) (fun q => ?_)
  · have h := xif_t q h
    refine x_aload_n dX9_umbrella_22 rfl ?_
    refine x_iconst (1 : Int32) dX9_umbrella_23 (by decide) ?_
    obtain ⟨z24, y24, h⟩ := xbind h
    refine x_callV (t_hN_X9_refused (1 : Int32) z24 y24 (d + 0)) kX9_51 dX9_umbrella_24 rfl rfl rfl rfl rfl (Nat.le_of_ble_eq_true rfl) (Nat.le_of_ble_eq_true rfl) rfl rfl (Or.inl rfl) ?_
    cases h
    exact x_iret2 dX9_umbrella_27 rfl rfl
  · have h := xif_f q h
    refine x_iload_n dX9_umbrella_13 rfl ?_
    refine x_iconst (0 : Int32) dX9_umbrella_14 (by decide) ?_
    refine x_iconst (4 : Int32) dX9_umbrella_15 (by decide) ?_
    obtain ⟨z16, y16, h⟩ := xbind h
    refine x_callS (t_hN_X9_in x2 (0 : Int32) (4 : Int32) z16 y16 (d + 0)) kX9_124 dX9_umbrella_16 rfl rfl (Nat.le_of_ble_eq_true rfl) (Nat.le_of_ble_eq_true rfl) rfl rfl (Or.inl rfl) ?_
    refine x_if_ne 28 dX9_umbrella_19 (by decide) (fun q => ?_) (fun q => ?_)
    · have h := xif_f q h
      refine x_iload_n dX9_umbrella_28 rfl ?_
      by_cases q : x2.toInt < 0 ∨ 3 < x2.toInt
      · have h := xif_t q h
        refine x_tableOut 115 dX9_umbrella_29 q (by decide) ?_
        refine x_aload_n dX9_umbrella_115 rfl ?_
        refine x_aload_n dX9_umbrella_116 rfl ?_
        refine x_get fX9_17 dX9_umbrella_117 rfl rfl rfl ?_
        refine x_iconst (5 : Int32) dX9_umbrella_120 (by decide) ?_
        refine x_iload_n dX9_umbrella_121 rfl ?_
        refine x_iadd dX9_umbrella_122 ?_
        obtain ⟨q123, h⟩ := xix_of h
        refine x_iald dX9_umbrella_123 rfl q123 ?_
        obtain ⟨z124, y124, h⟩ := xbind h
        refine x_callV (t_hN_X9_good (a1 ((5 : Int32) + x1).toNatClampNeg) z124 y124 (d + 0)) kX9_55 dX9_umbrella_124 rfl rfl rfl rfl rfl (Nat.le_of_ble_eq_true rfl) (Nat.le_of_ble_eq_true rfl) rfl rfl (Or.inl rfl) ?_
        cases h
        exact x_iret2 dX9_umbrella_127 rfl rfl
      · have h := xif_f q h
        by_cases q : x2 = (0 : Int32)
        · have h := xif_t q h
          refine x_tableK 60 q dX9_umbrella_29 (by decide) (by decide) rfl (by decide) ?_
          refine x_aload_n dX9_umbrella_60 rfl ?_
          refine x_aload_n dX9_umbrella_61 rfl ?_
          refine x_get fX9_316 dX9_umbrella_62 rfl rfl rfl ?_
          cases h
        · have h := xif_f q h
          by_cases q : x2 = (1 : Int32)
          · have h := xif_t q h
            refine x_tableK 74 q dX9_umbrella_29 (by decide) (by decide) rfl (by decide) ?_
            refine x_aload_n dX9_umbrella_74 rfl ?_
            refine x_aload_n dX9_umbrella_75 rfl ?_
            refine x_get fX9_316 dX9_umbrella_76 rfl rfl rfl ?_
            cases h
          · have h := xif_f q h
            by_cases q : x2 = (2 : Int32)
            · have h := xif_t q h
              refine x_tableK 88 q dX9_umbrella_29 (by decide) (by decide) rfl (by decide) ?_
              refine x_aload_n dX9_umbrella_88 rfl ?_
              refine x_aload_n dX9_umbrella_89 rfl ?_
              refine x_get fX9_316 dX9_umbrella_90 rfl rfl rfl ?_
              cases h
            · have h := xif_f q h
              by_cases q : x2 = (3 : Int32)
              · have h := xif_t q h
                refine x_tableK 102 q dX9_umbrella_29 (by decide) (by decide) rfl (by decide) ?_
                refine x_aload_n dX9_umbrella_102 rfl ?_
                refine x_aload_n dX9_umbrella_103 rfl ?_
                refine x_get fX9_17 dX9_umbrella_104 rfl rfl rfl ?_
                refine x_iconst (0 : Int32) dX9_umbrella_107 (by decide) ?_
                refine x_iload_n dX9_umbrella_108 rfl ?_
                refine x_iadd dX9_umbrella_109 ?_
                obtain ⟨q110, h⟩ := xix_of h
                refine x_iald dX9_umbrella_110 rfl q110 ?_
                obtain ⟨z111, y111, h⟩ := xbind h
                refine x_callV (t_hN_X9_good (a1 ((0 : Int32) + x1).toNatClampNeg) z111 y111 (d + 0)) kX9_55 dX9_umbrella_111 rfl rfl rfl rfl rfl (Nat.le_of_ble_eq_true rfl) (Nat.le_of_ble_eq_true rfl) rfl rfl (Or.inl rfl) ?_
                cases h
                exact x_iret2 dX9_umbrella_114 rfl rfl
              · have h := xif_f q h
                cases h
    · have h := xif_t q h
      refine x_aload_n dX9_umbrella_22 rfl ?_
      refine x_iconst (1 : Int32) dX9_umbrella_23 (by decide) ?_
      obtain ⟨z24, y24, h⟩ := xbind h
      refine x_callV (t_hN_X9_refused (1 : Int32) z24 y24 (d + 0)) kX9_51 dX9_umbrella_24 rfl rfl rfl rfl rfl (Nat.le_of_ble_eq_true rfl) (Nat.le_of_ble_eq_true rfl) rfl rfl (Or.inl rfl) ?_
      cases h
      exact x_iret2 dX9_umbrella_27 rfl rfl
noncomputable def e_hN_X9_isPerson  (x1 : Int32) : Option (Int32) :=
  some (0 : Int32)
set_option maxRecDepth 100000 in
set_option maxHeartbeats 4000000 in
theorem t_hN_X9_isPerson {g0 g1 g2 g3 g4 g5 g6 g7 g8 g9 g10 g11 g12 g13 g14 g15 g16 g17 g18 : Int32} {a0 a1 a2 a3 a4 a5 a6 a7 a8 a9 : (Nat → Int32)} {w0 : Int64} {rv : Value} (x1 : Int32) (res : Int32) (h : e_hN_X9_isPerson  x1 = some res) (d : Nat) : xMet xks YX9_isPerson (d + 1) 0 0 [.ref 0, .int x1] (hN g0 g1 g2 g3 g4 g5 g6 g7 g8 g9 g10 g11 g12 g13 g14 g15 g16 g17 g18 a0 a1 a2 a3 a4 a5 a6 a7 a8 a9 w0 .null rv) (some (.int res)) (hN g0 g1 g2 g3 g4 g5 g6 g7 g8 g9 g10 g11 g12 g13 g14 g15 g16 g17 g18 a0 a1 a2 a3 a4 a5 a6 a7 a8 a9 w0 .null rv) := by
  unfold e_hN_X9_isPerson at h
  refine xMet_of (pl := [some (.ref 0), some (.int x1)]) (by decide) (Nat.le_of_ble_eq_true rfl) rfl (Nat.le_of_ble_eq_true rfl) ?_
  refine x_aload_n dX9_isPerson_0 rfl ?_
  refine x_get fX9_316 dX9_isPerson_1 rfl rfl rfl ?_
  refine x_ifnullN 26 dX9_isPerson_4 (by decide) ?_
  refine x_iconst (0 : Int32) dX9_isPerson_26 (by decide) ?_
  cases h
  exact x_zret2 dX9_isPerson_27 rfl rfl rfl
noncomputable def L_hN_X9_landsIn_5   (f2 : Int32) (K : Int32 → Int32 → Option (Int32)) : Nat → Int32 → Int32 → Option (Int32)
  | 0, _, _ => none
  | n5 + 1, l3_5, l4_5 => none
noncomputable def e_hN_X9_landsIn  (x2 : Int32) : Option (Int32) :=
  L_hN_X9_landsIn_5  x2 (fun l3_5 l4_5 => none) 200000 (0 : Int32) (0 : Int32)
set_option maxRecDepth 100000 in
set_option maxHeartbeats 4000000 in
theorem lp_hN_X9_landsIn_5 {g0 g1 g2 g3 g4 g5 g6 g7 g8 g9 g10 g11 g12 g13 g14 g15 g16 g17 g18 : Int32} {a0 a1 a2 a3 a4 a5 a6 a7 a8 a9 : (Nat → Int32)} {w0 : Int64} {rv : Value} (d n0 : Nat) (f2 : Int32) (res : Int32) (K : Int32 → Int32 → Option (Int32)) (hK : ∀ (l3_5 : Int32) (l4_5 : Int32), K l3_5 l4_5 = some res → xW xks YX9_landsIn (d + 1) 0 0 n0 (xZ 0 0 n0 (some (.int res)) (hN g0 g1 g2 g3 g4 g5 g6 g7 g8 g9 g10 g11 g12 g13 g14 g15 g16 g17 g18 a0 a1 a2 a3 a4 a5 a6 a7 a8 a9 w0 .null rv)) 0 0 50 [none, none, none, some (.int l3_5), none] [] (hN g0 g1 g2 g3 g4 g5 g6 g7 g8 g9 g10 g11 g12 g13 g14 g15 g16 g17 g18 a0 a1 a2 a3 a4 a5 a6 a7 a8 a9 w0 .null rv)) : ∀ (n : Nat) (l3_5 : Int32) (l4_5 : Int32), L_hN_X9_landsIn_5  f2 K n l3_5 l4_5 = some res → xW xks YX9_landsIn (d + 1) 0 0 n0 (xZ 0 0 n0 (some (.int res)) (hN g0 g1 g2 g3 g4 g5 g6 g7 g8 g9 g10 g11 g12 g13 g14 g15 g16 g17 g18 a0 a1 a2 a3 a4 a5 a6 a7 a8 a9 w0 .null rv)) 0 0 5 [some (.ref 0), some (.ref 2), some (.int f2), some (.int l3_5), some (.int l4_5)] [] (hN g0 g1 g2 g3 g4 g5 g6 g7 g8 g9 g10 g11 g12 g13 g14 g15 g16 g17 g18 a0 a1 a2 a3 a4 a5 a6 a7 a8 a9 w0 .null rv) := by
  intro n
  induction n with
  | zero =>
    intro l3_5 l4_5 h
    cases (show (none : Option (Int32)) = some res from h)
  | succ n5 ih5 =>
    intro l3_5 l4_5 h
    unfold L_hN_X9_landsIn_5 at h
    refine x_iload dX9_landsIn_5 rfl ?_
    refine x_aload_n dX9_landsIn_7 rfl ?_
    refine x_get fX9_316 dX9_landsIn_8 rfl rfl rfl ?_
    cases h
set_option maxRecDepth 100000 in
set_option maxHeartbeats 4000000 in
theorem t_hN_X9_landsIn {g0 g1 g2 g3 g4 g5 g6 g7 g8 g9 g10 g11 g12 g13 g14 g15 g16 g17 g18 : Int32} {a0 a1 a2 a3 a4 a5 a6 a7 a8 a9 : (Nat → Int32)} {w0 : Int64} {rv : Value} (x2 : Int32) (res : Int32) (h : e_hN_X9_landsIn  x2 = some res) (d : Nat) : xMet xks YX9_landsIn (d + 1) 0 0 [.ref 0, .ref 2, .int x2] (hN g0 g1 g2 g3 g4 g5 g6 g7 g8 g9 g10 g11 g12 g13 g14 g15 g16 g17 g18 a0 a1 a2 a3 a4 a5 a6 a7 a8 a9 w0 .null rv) (some (.int res)) (hN g0 g1 g2 g3 g4 g5 g6 g7 g8 g9 g10 g11 g12 g13 g14 g15 g16 g17 g18 a0 a1 a2 a3 a4 a5 a6 a7 a8 a9 w0 .null rv) := by
  unfold e_hN_X9_landsIn at h
  refine xMet_of (pl := [some (.ref 0), some (.ref 2), some (.int x2), none, none]) (by decide) (Nat.le_of_ble_eq_true rfl) rfl (Nat.le_of_ble_eq_true rfl) ?_
  refine x_iconst (0 : Int32) dX9_landsIn_0 (by decide) ?_
  refine x_istore_n (pl' := [some (.ref 0), some (.ref 2), some (.int x2), some (.int (0 : Int32)), none]) dX9_landsIn_1 (by decide) rfl ?_
  refine x_iconst (0 : Int32) dX9_landsIn_2 (by decide) ?_
  refine x_istore (pl' := [some (.ref 0), some (.ref 2), some (.int x2), some (.int (0 : Int32)), some (.int (0 : Int32))]) dX9_landsIn_3 (by decide) rfl ?_
  refine x_weak (pl2 := [some (.ref 0), some (.ref 2), some (.int x2), some (.int (0 : Int32)), some (.int (0 : Int32))]) ⟨rfl, rfl, rfl, rfl, rfl, trivial⟩ ?_
  refine lp_hN_X9_landsIn_5 d _ x2 res _ (fun l3_5 l4_5 h => ?_) 200000 (0 : Int32) (0 : Int32) h
  cases h
noncomputable def L_hN_X9_hadBy_5   (f2 : Int32) (K : Int32 → Int32 → Option (Int32)) : Nat → Int32 → Int32 → Option (Int32)
  | 0, _, _ => none
  | n5 + 1, l3_5, l4_5 => none
noncomputable def e_hN_X9_hadBy  (x2 : Int32) : Option (Int32) :=
  L_hN_X9_hadBy_5  x2 (fun l3_5 l4_5 => none) 200000 (0 : Int32) (0 : Int32)
set_option maxRecDepth 100000 in
set_option maxHeartbeats 4000000 in
theorem lp_hN_X9_hadBy_5 {g0 g1 g2 g3 g4 g5 g6 g7 g8 g9 g10 g11 g12 g13 g14 g15 g16 g17 g18 : Int32} {a0 a1 a2 a3 a4 a5 a6 a7 a8 a9 : (Nat → Int32)} {w0 : Int64} {rv : Value} (d n0 : Nat) (f2 : Int32) (res : Int32) (K : Int32 → Int32 → Option (Int32)) (hK : ∀ (l3_5 : Int32) (l4_5 : Int32), K l3_5 l4_5 = some res → xW xks YX9_hadBy (d + 1) 0 0 n0 (xZ 0 0 n0 (some (.int res)) (hN g0 g1 g2 g3 g4 g5 g6 g7 g8 g9 g10 g11 g12 g13 g14 g15 g16 g17 g18 a0 a1 a2 a3 a4 a5 a6 a7 a8 a9 w0 .null rv)) 0 0 44 [none, none, none, some (.int l3_5), none] [] (hN g0 g1 g2 g3 g4 g5 g6 g7 g8 g9 g10 g11 g12 g13 g14 g15 g16 g17 g18 a0 a1 a2 a3 a4 a5 a6 a7 a8 a9 w0 .null rv)) : ∀ (n : Nat) (l3_5 : Int32) (l4_5 : Int32), L_hN_X9_hadBy_5  f2 K n l3_5 l4_5 = some res → xW xks YX9_hadBy (d + 1) 0 0 n0 (xZ 0 0 n0 (some (.int res)) (hN g0 g1 g2 g3 g4 g5 g6 g7 g8 g9 g10 g11 g12 g13 g14 g15 g16 g17 g18 a0 a1 a2 a3 a4 a5 a6 a7 a8 a9 w0 .null rv)) 0 0 5 [some (.ref 0), some (.ref 2), some (.int f2), some (.int l3_5), some (.int l4_5)] [] (hN g0 g1 g2 g3 g4 g5 g6 g7 g8 g9 g10 g11 g12 g13 g14 g15 g16 g17 g18 a0 a1 a2 a3 a4 a5 a6 a7 a8 a9 w0 .null rv) := by
  intro n
  induction n with
  | zero =>
    intro l3_5 l4_5 h
    cases (show (none : Option (Int32)) = some res from h)
  | succ n5 ih5 =>
    intro l3_5 l4_5 h
    unfold L_hN_X9_hadBy_5 at h
    refine x_iload dX9_hadBy_5 rfl ?_
    refine x_aload_n dX9_hadBy_7 rfl ?_
    refine x_get fX9_316 dX9_hadBy_8 rfl rfl rfl ?_
    cases h
set_option maxRecDepth 100000 in
set_option maxHeartbeats 4000000 in
theorem t_hN_X9_hadBy {g0 g1 g2 g3 g4 g5 g6 g7 g8 g9 g10 g11 g12 g13 g14 g15 g16 g17 g18 : Int32} {a0 a1 a2 a3 a4 a5 a6 a7 a8 a9 : (Nat → Int32)} {w0 : Int64} {rv : Value} (x2 : Int32) (res : Int32) (h : e_hN_X9_hadBy  x2 = some res) (d : Nat) : xMet xks YX9_hadBy (d + 1) 0 0 [.ref 0, .ref 2, .int x2] (hN g0 g1 g2 g3 g4 g5 g6 g7 g8 g9 g10 g11 g12 g13 g14 g15 g16 g17 g18 a0 a1 a2 a3 a4 a5 a6 a7 a8 a9 w0 .null rv) (some (.int res)) (hN g0 g1 g2 g3 g4 g5 g6 g7 g8 g9 g10 g11 g12 g13 g14 g15 g16 g17 g18 a0 a1 a2 a3 a4 a5 a6 a7 a8 a9 w0 .null rv) := by
  unfold e_hN_X9_hadBy at h
  refine xMet_of (pl := [some (.ref 0), some (.ref 2), some (.int x2), none, none]) (by decide) (Nat.le_of_ble_eq_true rfl) rfl (Nat.le_of_ble_eq_true rfl) ?_
  refine x_iconst (0 : Int32) dX9_hadBy_0 (by decide) ?_
  refine x_istore_n (pl' := [some (.ref 0), some (.ref 2), some (.int x2), some (.int (0 : Int32)), none]) dX9_hadBy_1 (by decide) rfl ?_
  refine x_iconst (0 : Int32) dX9_hadBy_2 (by decide) ?_
  refine x_istore (pl' := [some (.ref 0), some (.ref 2), some (.int x2), some (.int (0 : Int32)), some (.int (0 : Int32))]) dX9_hadBy_3 (by decide) rfl ?_
  refine x_weak (pl2 := [some (.ref 0), some (.ref 2), some (.int x2), some (.int (0 : Int32)), some (.int (0 : Int32))]) ⟨rfl, rfl, rfl, rfl, rfl, trivial⟩ ?_
  refine lp_hN_X9_hadBy_5 d _ x2 res _ (fun l3_5 l4_5 h => ?_) 200000 (0 : Int32) (0 : Int32) h
  cases h
noncomputable def e_hN_X9_person (p0 : Int32) (p1 : Int32) (p2 : Int32) (x1 : Int32) (x2 : Int32) : Option (Int32 × Int32 × Int32 × Int32) :=
  ((e_hN_X9_isPerson x1).bind fun z7 => if z7 = (0 : Int32) then ((e_hN_X9_refused p1 p2 (1 : Int32)).bind fun z24 => some (z24.1, (0 : Int32), z24.2.1, z24.2.2)) else ((e_hN_X9_in x2 (0 : Int32) (2 : Int32)).bind fun z16 => if z16 = (0 : Int32) then ((e_hN_X9_refused p1 p2 (1 : Int32)).bind fun z24 => some (z24.1, (0 : Int32), z24.2.1, z24.2.2)) else if x2 = (0 : Int32) then none else if x2 = (1 : Int32) then ((e_hN_X9_hadBy x1).bind fun z56 => ((e_hN_X9_good p1 p2 z56).bind fun z71 => some (z71.1, (0 : Int32), z71.2.1, z71.2.2))) else ((e_hN_X9_landsIn x1).bind fun z68 => (e_hN_X9_good p1 p2 z68).bind fun z71 => some (z71.1, (0 : Int32), z71.2.1, z71.2.2))))
set_option maxRecDepth 100000 in
set_option maxHeartbeats 4000000 in
theorem t_hN_X9_person {g0 g1 g2 g3 g4 g5 g6 g7 g8 g9 g10 g11 g12 g13 g14 g15 g16 g17 g18 : Int32} {a0 a1 a2 a3 a4 a5 a6 a7 a8 a9 : (Nat → Int32)} {w0 : Int64} {rv : Value} (x1 : Int32) (x2 : Int32) (res : Int32 × Int32 × Int32 × Int32) (h : e_hN_X9_person g0 g1 g2 x1 x2 = some res) (d : Nat) : xMet xks YX9_person (d + 2) 0 0 [.ref 0, .int x1, .int x2] (hN g0 g1 g2 g3 g4 g5 g6 g7 g8 g9 g10 g11 g12 g13 g14 g15 g16 g17 g18 a0 a1 a2 a3 a4 a5 a6 a7 a8 a9 w0 .null rv) (some (.int res.1)) (hN res.2.1 res.2.2.1 res.2.2.2 g3 g4 g5 g6 g7 g8 g9 g10 g11 g12 g13 g14 g15 g16 g17 g18 a0 a1 a2 a3 a4 a5 a6 a7 a8 a9 w0 .null rv) := by
  unfold e_hN_X9_person at h
  refine xMet_of (pl := [some (.ref 0), some (.int x1), some (.int x2)]) (by decide) (Nat.le_of_ble_eq_true rfl) rfl (Nat.le_of_ble_eq_true rfl) ?_
  refine x_aload_n dX9_person_0 rfl ?_
  refine x_iconst (0 : Int32) dX9_person_1 (by decide) ?_
  refine x_put (h2 := (hN (0 : Int32) g1 g2 g3 g4 g5 g6 g7 g8 g9 g10 g11 g12 g13 g14 g15 g16 g17 g18 a0 a1 a2 a3 a4 a5 a6 a7 a8 a9 w0 .null rv)) fX9_45 dX9_person_2 rfl rfl (Nat.le_of_ble_eq_true rfl : 0 + 1 ≤ _) (fun α => ⟨rfl, rfl⟩) rfl ?_
  refine x_aload_n dX9_person_5 rfl ?_
  refine x_iload_n dX9_person_6 rfl ?_
  obtain ⟨z7, y7, h⟩ := xbind h
  refine x_callV (t_hN_X9_isPerson x1 z7 y7 (d + 0)) kX9_362 dX9_person_7 rfl rfl rfl rfl rfl (Nat.le_of_ble_eq_true rfl) (Nat.le_of_ble_eq_true rfl) rfl rfl (Or.inl rfl) ?_
  refine x_if_eq 22 dX9_person_10 (by decide) (fun q => ?_) (fun q => ?_)
  · have h := xif_t q h
    refine x_aload_n dX9_person_22 rfl ?_
    refine x_iconst (1 : Int32) dX9_person_23 (by decide) ?_
    obtain ⟨z24, y24, h⟩ := xbind h
    refine x_callV (t_hN_X9_refused (1 : Int32) z24 y24 (d + 0)) kX9_51 dX9_person_24 rfl rfl rfl rfl rfl (Nat.le_of_ble_eq_true rfl) (Nat.le_of_ble_eq_true rfl) rfl rfl (Or.inl rfl) ?_
    cases h
    exact x_iret2 dX9_person_27 rfl rfl
  · have h := xif_f q h
    refine x_iload_n dX9_person_13 rfl ?_
    refine x_iconst (0 : Int32) dX9_person_14 (by decide) ?_
    refine x_iconst (2 : Int32) dX9_person_15 (by decide) ?_
    obtain ⟨z16, y16, h⟩ := xbind h
    refine x_callS (t_hN_X9_in x2 (0 : Int32) (2 : Int32) z16 y16 (d + 0)) kX9_124 dX9_person_16 rfl rfl (Nat.le_of_ble_eq_true rfl) (Nat.le_of_ble_eq_true rfl) rfl rfl (Or.inl rfl) ?_
    refine x_if_ne 28 dX9_person_19 (by decide) (fun q => ?_) (fun q => ?_)
    · have h := xif_f q h
      refine x_aload_n dX9_person_28 rfl ?_
      refine x_iload_n dX9_person_29 rfl ?_
      refine x_if_ne 45 dX9_person_30 (by decide) (fun q => ?_) (fun q => ?_)
      · have h := xif_f q h
        refine x_iload_n dX9_person_45 rfl ?_
        refine x_iconst (1 : Int32) dX9_person_46 (by decide) ?_
        refine x_icmp_ne 62 dX9_person_47 (by decide) (fun q => ?_) (fun q => ?_)
        · have h := xif_f q h
          refine x_aload_n dX9_person_62 rfl ?_
          refine x_aload_n dX9_person_63 rfl ?_
          refine x_get fX9_17 dX9_person_64 rfl rfl rfl ?_
          refine x_iload_n dX9_person_67 rfl ?_
          obtain ⟨z68, y68, h⟩ := xbind h
          refine x_callV (t_hN_X9_landsIn x1 z68 y68 (d + 0)) kX9_365 dX9_person_68 rfl rfl rfl rfl rfl (Nat.le_of_ble_eq_true rfl) (Nat.le_of_ble_eq_true rfl) rfl rfl (Or.inl rfl) ?_
          obtain ⟨z71, y71, h⟩ := xbind h
          refine x_callV (t_hN_X9_good z68 z71 y71 (d + 0)) kX9_55 dX9_person_71 rfl rfl rfl rfl rfl (Nat.le_of_ble_eq_true rfl) (Nat.le_of_ble_eq_true rfl) rfl rfl (Or.inl rfl) ?_
          cases h
          exact x_iret2 dX9_person_74 rfl rfl
        · have h := xif_t q h
          refine x_aload_n dX9_person_50 rfl ?_
          refine x_aload_n dX9_person_51 rfl ?_
          refine x_get fX9_17 dX9_person_52 rfl rfl rfl ?_
          refine x_iload_n dX9_person_55 rfl ?_
          obtain ⟨z56, y56, h⟩ := xbind h
          refine x_callV (t_hN_X9_hadBy x1 z56 y56 (d + 0)) kX9_338 dX9_person_56 rfl rfl rfl rfl rfl (Nat.le_of_ble_eq_true rfl) (Nat.le_of_ble_eq_true rfl) rfl rfl (Or.inl rfl) ?_
          refine x_goto 71 dX9_person_59 (by decide) ?_
          obtain ⟨z71, y71, h⟩ := xbind h
          refine x_callV (t_hN_X9_good z56 z71 y71 (d + 0)) kX9_55 dX9_person_71 rfl rfl rfl rfl rfl (Nat.le_of_ble_eq_true rfl) (Nat.le_of_ble_eq_true rfl) rfl rfl (Or.inl rfl) ?_
          cases h
          exact x_iret2 dX9_person_74 rfl rfl
      · have h := xif_t q h
        refine x_aload_n dX9_person_33 rfl ?_
        refine x_get fX9_316 dX9_person_34 rfl rfl rfl ?_
        cases h
    · have h := xif_t q h
      refine x_aload_n dX9_person_22 rfl ?_
      refine x_iconst (1 : Int32) dX9_person_23 (by decide) ?_
      obtain ⟨z24, y24, h⟩ := xbind h
      refine x_callV (t_hN_X9_refused (1 : Int32) z24 y24 (d + 0)) kX9_51 dX9_person_24 rfl rfl rfl rfl rfl (Nat.le_of_ble_eq_true rfl) (Nat.le_of_ble_eq_true rfl) rfl rfl (Or.inl rfl) ?_
      cases h
      exact x_iret2 dX9_person_27 rfl rfl
noncomputable def L_hN_X9_alike_23 (p0 : Int32) (p1 : Int32) (p2 : Int32)  (f1 : Int32) (K : Int32 → Int32 → Option (Int32 × Int32 × Int32 × Int32)) : Nat → Int32 → Int32 → Option (Int32 × Int32 × Int32 × Int32)
  | 0, _, _ => none
  | n23 + 1, l2_23, l3_23 => none
noncomputable def e_hN_X9_alike (p0 : Int32) (p1 : Int32) (p2 : Int32) (x1 : Int32) : Option (Int32 × Int32 × Int32 × Int32) :=
  ((e_hN_X9_isUmbrella x1).bind fun z7 => if z7 = (0 : Int32) then ((e_hN_X9_refused p1 p2 (1 : Int32)).bind fun z15 => some (z15.1, (0 : Int32), z15.2.1, z15.2.2)) else L_hN_X9_alike_23 (0 : Int32) p1 p2 x1 (fun l2_23 l3_23 => none) 200000 (0 : Int32) (0 : Int32))
set_option maxRecDepth 100000 in
set_option maxHeartbeats 4000000 in
theorem lp_hN_X9_alike_23 {g0 g1 g2 g3 g4 g5 g6 g7 g8 g9 g10 g11 g12 g13 g14 g15 g16 g17 g18 : Int32} {a0 a1 a2 a3 a4 a5 a6 a7 a8 a9 : (Nat → Int32)} {w0 : Int64} {rv : Value} (d n0 : Nat) (f1 : Int32) (res : Int32 × Int32 × Int32 × Int32) (K : Int32 → Int32 → Option (Int32 × Int32 × Int32 × Int32)) (hK : ∀ (l2_23 : Int32) (l3_23 : Int32), K l2_23 l3_23 = some res → xW xks YX9_alike (d + 2) 0 0 n0 (xZ 0 0 n0 (some (.int res.1)) (hN res.2.1 res.2.2.1 res.2.2.2 g3 g4 g5 g6 g7 g8 g9 g10 g11 g12 g13 g14 g15 g16 g17 g18 a0 a1 a2 a3 a4 a5 a6 a7 a8 a9 w0 .null rv)) 0 0 62 [some (.ref 0), none, some (.int l2_23), none] [] (hN g0 g1 g2 g3 g4 g5 g6 g7 g8 g9 g10 g11 g12 g13 g14 g15 g16 g17 g18 a0 a1 a2 a3 a4 a5 a6 a7 a8 a9 w0 .null rv)) : ∀ (n : Nat) (l2_23 : Int32) (l3_23 : Int32), L_hN_X9_alike_23 g0 g1 g2 f1 K n l2_23 l3_23 = some res → xW xks YX9_alike (d + 2) 0 0 n0 (xZ 0 0 n0 (some (.int res.1)) (hN res.2.1 res.2.2.1 res.2.2.2 g3 g4 g5 g6 g7 g8 g9 g10 g11 g12 g13 g14 g15 g16 g17 g18 a0 a1 a2 a3 a4 a5 a6 a7 a8 a9 w0 .null rv)) 0 0 23 [some (.ref 0), some (.int f1), some (.int l2_23), some (.int l3_23)] [] (hN g0 g1 g2 g3 g4 g5 g6 g7 g8 g9 g10 g11 g12 g13 g14 g15 g16 g17 g18 a0 a1 a2 a3 a4 a5 a6 a7 a8 a9 w0 .null rv) := by
  intro n
  induction n with
  | zero =>
    intro l2_23 l3_23 h
    cases (show (none : Option (Int32 × Int32 × Int32 × Int32)) = some res from h)
  | succ n23 ih23 =>
    intro l2_23 l3_23 h
    unfold L_hN_X9_alike_23 at h
    refine x_iload_n dX9_alike_23 rfl ?_
    refine x_aload_n dX9_alike_24 rfl ?_
    refine x_get fX9_316 dX9_alike_25 rfl rfl rfl ?_
    cases h
set_option maxRecDepth 100000 in
set_option maxHeartbeats 4000000 in
theorem t_hN_X9_alike {g0 g1 g2 g3 g4 g5 g6 g7 g8 g9 g10 g11 g12 g13 g14 g15 g16 g17 g18 : Int32} {a0 a1 a2 a3 a4 a5 a6 a7 a8 a9 : (Nat → Int32)} {w0 : Int64} {rv : Value} (x1 : Int32) (res : Int32 × Int32 × Int32 × Int32) (h : e_hN_X9_alike g0 g1 g2 x1 = some res) (d : Nat) : xMet xks YX9_alike (d + 2) 0 0 [.ref 0, .int x1] (hN g0 g1 g2 g3 g4 g5 g6 g7 g8 g9 g10 g11 g12 g13 g14 g15 g16 g17 g18 a0 a1 a2 a3 a4 a5 a6 a7 a8 a9 w0 .null rv) (some (.int res.1)) (hN res.2.1 res.2.2.1 res.2.2.2 g3 g4 g5 g6 g7 g8 g9 g10 g11 g12 g13 g14 g15 g16 g17 g18 a0 a1 a2 a3 a4 a5 a6 a7 a8 a9 w0 .null rv) := by
  unfold e_hN_X9_alike at h
  refine xMet_of (pl := [some (.ref 0), some (.int x1), none, none]) (by decide) (Nat.le_of_ble_eq_true rfl) rfl (Nat.le_of_ble_eq_true rfl) ?_
  refine x_aload_n dX9_alike_0 rfl ?_
  refine x_iconst (0 : Int32) dX9_alike_1 (by decide) ?_
  refine x_put (h2 := (hN (0 : Int32) g1 g2 g3 g4 g5 g6 g7 g8 g9 g10 g11 g12 g13 g14 g15 g16 g17 g18 a0 a1 a2 a3 a4 a5 a6 a7 a8 a9 w0 .null rv)) fX9_45 dX9_alike_2 rfl rfl (Nat.le_of_ble_eq_true rfl : 0 + 1 ≤ _) (fun α => ⟨rfl, rfl⟩) rfl ?_
  refine x_aload_n dX9_alike_5 rfl ?_
  refine x_iload_n dX9_alike_6 rfl ?_
  obtain ⟨z7, y7, h⟩ := xbind h
  refine x_callV (t_hN_X9_isUmbrella x1 z7 y7 (d + 0)) kX9_359 dX9_alike_7 rfl rfl rfl rfl rfl (Nat.le_of_ble_eq_true rfl) (Nat.le_of_ble_eq_true rfl) rfl rfl (Or.inl rfl) ?_
  refine x_if_ne 19 dX9_alike_10 (by decide) (fun q => ?_) (fun q => ?_)
  · have h := xif_f q h
    refine x_iconst (0 : Int32) dX9_alike_19 (by decide) ?_
    refine x_istore_n (pl' := [some (.ref 0), some (.int x1), some (.int (0 : Int32)), none]) dX9_alike_20 (by decide) rfl ?_
    refine x_iconst (0 : Int32) dX9_alike_21 (by decide) ?_
    refine x_istore_n (pl' := [some (.ref 0), some (.int x1), some (.int (0 : Int32)), some (.int (0 : Int32))]) dX9_alike_22 (by decide) rfl ?_
    refine x_weak (pl2 := [some (.ref 0), some (.int x1), some (.int (0 : Int32)), some (.int (0 : Int32))]) ⟨rfl, rfl, rfl, rfl, trivial⟩ ?_
    refine lp_hN_X9_alike_23 d _ x1 res _ (fun l2_23 l3_23 h => ?_) 200000 (0 : Int32) (0 : Int32) h
    cases h
  · have h := xif_t q h
    refine x_aload_n dX9_alike_13 rfl ?_
    refine x_iconst (1 : Int32) dX9_alike_14 (by decide) ?_
    obtain ⟨z15, y15, h⟩ := xbind h
    refine x_callV (t_hN_X9_refused (1 : Int32) z15 y15 (d + 0)) kX9_51 dX9_alike_15 rfl rfl rfl rfl rfl (Nat.le_of_ble_eq_true rfl) (Nat.le_of_ble_eq_true rfl) rfl rfl (Or.inl rfl) ?_
    cases h
    exact x_iret2 dX9_alike_18 rfl rfl
noncomputable def e_hN_X9_right (p0 : Int32) (p1 : Int32) (p2 : Int32)  : Option (Int32 × Int32 × Int32 × Int32) :=
  ((e_hN_X9_refused p1 p2 (1 : Int32)).bind fun z14 => some (z14.1, (0 : Int32), z14.2.1, z14.2.2))
set_option maxRecDepth 100000 in
set_option maxHeartbeats 4000000 in
theorem t_hN_X9_right {g0 g1 g2 g3 g4 g5 g6 g7 g8 g9 g10 g11 g12 g13 g14 g15 g16 g17 g18 : Int32} {a0 a1 a2 a3 a4 a5 a6 a7 a8 a9 : (Nat → Int32)} {w0 : Int64} {rv : Value}  (res : Int32 × Int32 × Int32 × Int32) (h : e_hN_X9_right g0 g1 g2  = some res) (d : Nat) : xMet xks YX9_right (d + 2) 0 0 [.ref 0] (hN g0 g1 g2 g3 g4 g5 g6 g7 g8 g9 g10 g11 g12 g13 g14 g15 g16 g17 g18 a0 a1 a2 a3 a4 a5 a6 a7 a8 a9 w0 .null rv) (some (.int res.1)) (hN res.2.1 res.2.2.1 res.2.2.2 g3 g4 g5 g6 g7 g8 g9 g10 g11 g12 g13 g14 g15 g16 g17 g18 a0 a1 a2 a3 a4 a5 a6 a7 a8 a9 w0 .null rv) := by
  unfold e_hN_X9_right at h
  refine xMet_of (pl := [some (.ref 0)]) (by decide) (Nat.le_of_ble_eq_true rfl) rfl (Nat.le_of_ble_eq_true rfl) ?_
  refine x_aload_n dX9_right_0 rfl ?_
  refine x_iconst (0 : Int32) dX9_right_1 (by decide) ?_
  refine x_put (h2 := (hN (0 : Int32) g1 g2 g3 g4 g5 g6 g7 g8 g9 g10 g11 g12 g13 g14 g15 g16 g17 g18 a0 a1 a2 a3 a4 a5 a6 a7 a8 a9 w0 .null rv)) fX9_45 dX9_right_2 rfl rfl (Nat.le_of_ble_eq_true rfl : 0 + 1 ≤ _) (fun α => ⟨rfl, rfl⟩) rfl ?_
  refine x_aload_n dX9_right_5 rfl ?_
  refine x_get fX9_316 dX9_right_6 rfl rfl rfl ?_
  refine x_ifnonnullN dX9_right_9 ?_
  refine x_aload_n dX9_right_12 rfl ?_
  refine x_iconst (1 : Int32) dX9_right_13 (by decide) ?_
  obtain ⟨z14, y14, h⟩ := xbind h
  refine x_callV (t_hN_X9_refused (1 : Int32) z14 y14 (d + 0)) kX9_51 dX9_right_14 rfl rfl rfl rfl rfl (Nat.le_of_ble_eq_true rfl) (Nat.le_of_ble_eq_true rfl) rfl rfl (Or.inl rfl) ?_
  refine x_goto 32 dX9_right_17 (by decide) ?_
  cases h
  exact x_iret2 dX9_right_32 rfl rfl
noncomputable def e_hN_X9_richest (p0 : Int32) (p1 : Int32) (p2 : Int32)  : Option (Int32 × Int32 × Int32 × Int32) :=
  ((e_hN_X9_refused p1 p2 (1 : Int32)).bind fun z14 => some (z14.1, (0 : Int32), z14.2.1, z14.2.2))
set_option maxRecDepth 100000 in
set_option maxHeartbeats 4000000 in
theorem t_hN_X9_richest {g0 g1 g2 g3 g4 g5 g6 g7 g8 g9 g10 g11 g12 g13 g14 g15 g16 g17 g18 : Int32} {a0 a1 a2 a3 a4 a5 a6 a7 a8 a9 : (Nat → Int32)} {w0 : Int64} {rv : Value}  (res : Int32 × Int32 × Int32 × Int32) (h : e_hN_X9_richest g0 g1 g2  = some res) (d : Nat) : xMet xks YX9_richest (d + 2) 0 0 [.ref 0] (hN g0 g1 g2 g3 g4 g5 g6 g7 g8 g9 g10 g11 g12 g13 g14 g15 g16 g17 g18 a0 a1 a2 a3 a4 a5 a6 a7 a8 a9 w0 .null rv) (some (.int res.1)) (hN res.2.1 res.2.2.1 res.2.2.2 g3 g4 g5 g6 g7 g8 g9 g10 g11 g12 g13 g14 g15 g16 g17 g18 a0 a1 a2 a3 a4 a5 a6 a7 a8 a9 w0 .null rv) := by
  unfold e_hN_X9_richest at h
  refine xMet_of (pl := [some (.ref 0), none, none, none]) (by decide) (Nat.le_of_ble_eq_true rfl) rfl (Nat.le_of_ble_eq_true rfl) ?_
  refine x_aload_n dX9_richest_0 rfl ?_
  refine x_iconst (0 : Int32) dX9_richest_1 (by decide) ?_
  refine x_put (h2 := (hN (0 : Int32) g1 g2 g3 g4 g5 g6 g7 g8 g9 g10 g11 g12 g13 g14 g15 g16 g17 g18 a0 a1 a2 a3 a4 a5 a6 a7 a8 a9 w0 .null rv)) fX9_45 dX9_richest_2 rfl rfl (Nat.le_of_ble_eq_true rfl : 0 + 1 ≤ _) (fun α => ⟨rfl, rfl⟩) rfl ?_
  refine x_aload_n dX9_richest_5 rfl ?_
  refine x_get fX9_316 dX9_richest_6 rfl rfl rfl ?_
  refine x_ifnonnullN dX9_richest_9 ?_
  refine x_aload_n dX9_richest_12 rfl ?_
  refine x_iconst (1 : Int32) dX9_richest_13 (by decide) ?_
  obtain ⟨z14, y14, h⟩ := xbind h
  refine x_callV (t_hN_X9_refused (1 : Int32) z14 y14 (d + 0)) kX9_51 dX9_richest_14 rfl rfl rfl rfl rfl (Nat.le_of_ble_eq_true rfl) (Nat.le_of_ble_eq_true rfl) rfl rfl (Or.inl rfl) ?_
  cases h
  exact x_iret2 dX9_richest_17 rfl rfl
noncomputable def L_hN_X9_starts_7 (p0 : (Nat → Int32))   (K : Int32 → Option ((Nat → Int32))) : Nat → Int32 → Option ((Nat → Int32))
  | 0, _ => none
  | n7 + 1, l2_7 => if (5 : Int32) ≤ l2_7 then K l2_7 else none
noncomputable def e_hN_X9_starts (p0 : (Nat → Int32))  : Option ((Nat → Int32)) :=
  L_hN_X9_starts_7 (upd p0 (10 : Int32).toNatClampNeg (0 : Int32))  (fun l2_7 => some (upd p0 (10 : Int32).toNatClampNeg (0 : Int32))) 200000 (0 : Int32)
set_option maxRecDepth 100000 in
set_option maxHeartbeats 4000000 in
theorem lp_hN_X9_starts_7 {g0 g1 g2 g3 g4 g5 g6 g7 g8 g9 g10 g11 g12 g13 g14 g15 g16 g17 g18 : Int32} {a0 a1 a2 a3 a4 a5 a6 a7 a8 a9 : (Nat → Int32)} {w0 : Int64} {rv : Value} (d n0 : Nat)  (res : (Nat → Int32)) (K : Int32 → Option ((Nat → Int32))) (hK : ∀ (l2_7 : Int32), K l2_7 = some res → xW xks YX9_starts (d + 1) 0 0 n0 (xZ 0 0 n0 none (hN g0 g1 g2 g3 g4 g5 g6 g7 g8 g9 g10 g11 g12 g13 g14 g15 g16 g17 g18 a0 a1 res a3 a4 a5 a6 a7 a8 a9 w0 .null rv)) 0 0 88 [none, none, none, none] [] (hN g0 g1 g2 g3 g4 g5 g6 g7 g8 g9 g10 g11 g12 g13 g14 g15 g16 g17 g18 a0 a1 a2 a3 a4 a5 a6 a7 a8 a9 w0 .null rv)) : ∀ (n : Nat) (l2_7 : Int32), L_hN_X9_starts_7 a2  K n l2_7 = some res → xW xks YX9_starts (d + 1) 0 0 n0 (xZ 0 0 n0 none (hN g0 g1 g2 g3 g4 g5 g6 g7 g8 g9 g10 g11 g12 g13 g14 g15 g16 g17 g18 a0 a1 res a3 a4 a5 a6 a7 a8 a9 w0 .null rv)) 0 0 7 [some (.ref 0), some (.ref 3), some (.int l2_7), none] [] (hN g0 g1 g2 g3 g4 g5 g6 g7 g8 g9 g10 g11 g12 g13 g14 g15 g16 g17 g18 a0 a1 a2 a3 a4 a5 a6 a7 a8 a9 w0 .null rv) := by
  intro n
  induction n with
  | zero =>
    intro l2_7 h
    cases (show (none : Option ((Nat → Int32))) = some res from h)
  | succ n7 ih7 =>
    intro l2_7 h
    unfold L_hN_X9_starts_7 at h
    refine x_iload_n dX9_starts_7 rfl ?_
    refine x_iconst (5 : Int32) dX9_starts_8 (by decide) ?_
    refine x_icmp_ge 88 dX9_starts_9 (by decide) (fun q => ?_) (fun q => ?_)
    · have h := xif_t q h
      refine x_weak (pl2 := [none, none, none, none]) trivial ?_
      exact hK l2_7 h
    · have h := xif_f q h
      refine x_iload_n dX9_starts_12 rfl ?_
      refine x_aload_n dX9_starts_13 rfl ?_
      refine x_get fX9_316 dX9_starts_14 rfl rfl rfl ?_
      cases h
set_option maxRecDepth 100000 in
set_option maxHeartbeats 4000000 in
theorem t_hN_X9_starts {g0 g1 g2 g3 g4 g5 g6 g7 g8 g9 g10 g11 g12 g13 g14 g15 g16 g17 g18 : Int32} {a0 a1 a2 a3 a4 a5 a6 a7 a8 a9 : (Nat → Int32)} {w0 : Int64} {rv : Value}  (res : (Nat → Int32)) (h : e_hN_X9_starts a2  = some res) (d : Nat) : xMet xks YX9_starts (d + 1) 0 0 [.ref 0, .ref 3] (hN g0 g1 g2 g3 g4 g5 g6 g7 g8 g9 g10 g11 g12 g13 g14 g15 g16 g17 g18 a0 a1 a2 a3 a4 a5 a6 a7 a8 a9 w0 .null rv) none (hN g0 g1 g2 g3 g4 g5 g6 g7 g8 g9 g10 g11 g12 g13 g14 g15 g16 g17 g18 a0 a1 res a3 a4 a5 a6 a7 a8 a9 w0 .null rv) := by
  unfold e_hN_X9_starts at h
  refine xMet_of (pl := [some (.ref 0), some (.ref 3), none, none]) (by decide) (Nat.le_of_ble_eq_true rfl) rfl (Nat.le_of_ble_eq_true rfl) ?_
  refine x_aload_n dX9_starts_0 rfl ?_
  refine x_bipush (10 : Int32) dX9_starts_1 (by decide) ?_
  refine x_iconst (0 : Int32) dX9_starts_3 (by decide) ?_
  refine x_iast (h2 := (hN g0 g1 g2 g3 g4 g5 g6 g7 g8 g9 g10 g11 g12 g13 g14 g15 g16 g17 g18 a0 a1 (upd a2 (10 : Int32).toNatClampNeg (0 : Int32)) a3 a4 a5 a6 a7 a8 a9 w0 .null rv)) dX9_starts_4 rfl (show vp_in _ _ from (by decide : ¬ ((10 : Int32) < 0 ∨ 11 ≤ (10 : Int32).toNatClampNeg))) rfl ?_
  refine x_iconst (0 : Int32) dX9_starts_5 (by decide) ?_
  refine x_istore_n (pl' := [some (.ref 0), some (.ref 3), some (.int (0 : Int32)), none]) dX9_starts_6 (by decide) rfl ?_
  refine x_weak (pl2 := [some (.ref 0), some (.ref 3), some (.int (0 : Int32)), none]) ⟨rfl, rfl, rfl, trivial⟩ ?_
  refine lp_hN_X9_starts_7 d _  res _ (fun l2_7 h => ?_) 200000 (0 : Int32) h
  cases h
  exact x_vret2 dX9_starts_88 rfl rfl
noncomputable def L_hN_X9_happens_4   (f1 : Int32) (K : Int32 → Int32 → Option (Int32)) : Nat → Int32 → Int32 → Option (Int32)
  | 0, _, _ => none
  | n4 + 1, l2_4, l3_4 => none
noncomputable def e_hN_X9_happens  (x1 : Int32) : Option (Int32) :=
  L_hN_X9_happens_4  x1 (fun l2_4 l3_4 => none) 200000 (0 : Int32) (0 : Int32)
set_option maxRecDepth 100000 in
set_option maxHeartbeats 4000000 in
theorem lp_hN_X9_happens_4 {g0 g1 g2 g3 g4 g5 g6 g7 g8 g9 g10 g11 g12 g13 g14 g15 g16 g17 g18 : Int32} {a0 a1 a2 a3 a4 a5 a6 a7 a8 a9 : (Nat → Int32)} {w0 : Int64} {rv : Value} (d n0 : Nat) (f1 : Int32) (res : Int32) (K : Int32 → Int32 → Option (Int32)) (hK : ∀ (l2_4 : Int32) (l3_4 : Int32), K l2_4 l3_4 = some res → xW xks YX9_happens (d + 1) 0 0 n0 (xZ 0 0 n0 (some (.int res)) (hN g0 g1 g2 g3 g4 g5 g6 g7 g8 g9 g10 g11 g12 g13 g14 g15 g16 g17 g18 a0 a1 a2 a3 a4 a5 a6 a7 a8 a9 w0 .null rv)) 0 0 140 [none, none, some (.int l2_4), none, none] [] (hN g0 g1 g2 g3 g4 g5 g6 g7 g8 g9 g10 g11 g12 g13 g14 g15 g16 g17 g18 a0 a1 a2 a3 a4 a5 a6 a7 a8 a9 w0 .null rv)) : ∀ (n : Nat) (l2_4 : Int32) (l3_4 : Int32), L_hN_X9_happens_4  f1 K n l2_4 l3_4 = some res → xW xks YX9_happens (d + 1) 0 0 n0 (xZ 0 0 n0 (some (.int res)) (hN g0 g1 g2 g3 g4 g5 g6 g7 g8 g9 g10 g11 g12 g13 g14 g15 g16 g17 g18 a0 a1 a2 a3 a4 a5 a6 a7 a8 a9 w0 .null rv)) 0 0 4 [some (.ref 0), some (.int f1), some (.int l2_4), some (.int l3_4), none] [] (hN g0 g1 g2 g3 g4 g5 g6 g7 g8 g9 g10 g11 g12 g13 g14 g15 g16 g17 g18 a0 a1 a2 a3 a4 a5 a6 a7 a8 a9 w0 .null rv) := by
  intro n
  induction n with
  | zero =>
    intro l2_4 l3_4 h
    cases (show (none : Option (Int32)) = some res from h)
  | succ n4 ih4 =>
    intro l2_4 l3_4 h
    unfold L_hN_X9_happens_4 at h
    refine x_iload_n dX9_happens_4 rfl ?_
    refine x_aload_n dX9_happens_5 rfl ?_
    refine x_get fX9_316 dX9_happens_6 rfl rfl rfl ?_
    cases h
set_option maxRecDepth 100000 in
set_option maxHeartbeats 4000000 in
theorem t_hN_X9_happens {g0 g1 g2 g3 g4 g5 g6 g7 g8 g9 g10 g11 g12 g13 g14 g15 g16 g17 g18 : Int32} {a0 a1 a2 a3 a4 a5 a6 a7 a8 a9 : (Nat → Int32)} {w0 : Int64} {rv : Value} (x1 : Int32) (res : Int32) (h : e_hN_X9_happens  x1 = some res) (d : Nat) : xMet xks YX9_happens (d + 1) 0 0 [.ref 0, .int x1] (hN g0 g1 g2 g3 g4 g5 g6 g7 g8 g9 g10 g11 g12 g13 g14 g15 g16 g17 g18 a0 a1 a2 a3 a4 a5 a6 a7 a8 a9 w0 .null rv) (some (.int res)) (hN g0 g1 g2 g3 g4 g5 g6 g7 g8 g9 g10 g11 g12 g13 g14 g15 g16 g17 g18 a0 a1 a2 a3 a4 a5 a6 a7 a8 a9 w0 .null rv) := by
  unfold e_hN_X9_happens at h
  refine xMet_of (pl := [some (.ref 0), some (.int x1), none, none, none]) (by decide) (Nat.le_of_ble_eq_true rfl) rfl (Nat.le_of_ble_eq_true rfl) ?_
  refine x_iconst (0 : Int32) dX9_happens_0 (by decide) ?_
  refine x_istore_n (pl' := [some (.ref 0), some (.int x1), some (.int (0 : Int32)), none, none]) dX9_happens_1 (by decide) rfl ?_
  refine x_iconst (0 : Int32) dX9_happens_2 (by decide) ?_
  refine x_istore_n (pl' := [some (.ref 0), some (.int x1), some (.int (0 : Int32)), some (.int (0 : Int32)), none]) dX9_happens_3 (by decide) rfl ?_
  refine x_weak (pl2 := [some (.ref 0), some (.int x1), some (.int (0 : Int32)), some (.int (0 : Int32)), none]) ⟨rfl, rfl, rfl, rfl, trivial⟩ ?_
  refine lp_hN_X9_happens_4 d _ x1 res _ (fun l2_4 l3_4 h => ?_) 200000 (0 : Int32) (0 : Int32) h
  cases h
noncomputable def L_hN_X9_ends_2   (f2 : Int32) (K : Int32 → Option (Unit)) : Nat → Int32 → Option (Unit)
  | 0, _ => none
  | n2 + 1, l3_2 => none
noncomputable def e_hN_X9_ends  (x2 : Int32) : Option (Unit) :=
  L_hN_X9_ends_2  x2 (fun l3_2 => none) 200000 (0 : Int32)
set_option maxRecDepth 100000 in
set_option maxHeartbeats 4000000 in
theorem lp_hN_X9_ends_2 {g0 g1 g2 g3 g4 g5 g6 g7 g8 g9 g10 g11 g12 g13 g14 g15 g16 g17 g18 : Int32} {a0 a1 a2 a3 a4 a5 a6 a7 a8 a9 : (Nat → Int32)} {w0 : Int64} {rv : Value} (d n0 : Nat) (f2 : Int32) (res : Unit) (K : Int32 → Option (Unit)) (hK : ∀ (l3_2 : Int32), K l3_2 = some res → xW xks YX9_ends (d + 1) 0 0 n0 (xZ 0 0 n0 none (hN g0 g1 g2 g3 g4 g5 g6 g7 g8 g9 g10 g11 g12 g13 g14 g15 g16 g17 g18 a0 a1 a2 a3 a4 a5 a6 a7 a8 a9 w0 .null rv)) 0 0 103 [some (.ref 0), some (.ref 3), some (.int f2), none, none, none] [] (hN g0 g1 g2 g3 g4 g5 g6 g7 g8 g9 g10 g11 g12 g13 g14 g15 g16 g17 g18 a0 a1 a2 a3 a4 a5 a6 a7 a8 a9 w0 .null rv)) : ∀ (n : Nat) (l3_2 : Int32), L_hN_X9_ends_2  f2 K n l3_2 = some res → xW xks YX9_ends (d + 1) 0 0 n0 (xZ 0 0 n0 none (hN g0 g1 g2 g3 g4 g5 g6 g7 g8 g9 g10 g11 g12 g13 g14 g15 g16 g17 g18 a0 a1 a2 a3 a4 a5 a6 a7 a8 a9 w0 .null rv)) 0 0 2 [some (.ref 0), some (.ref 3), some (.int f2), some (.int l3_2), none, none] [] (hN g0 g1 g2 g3 g4 g5 g6 g7 g8 g9 g10 g11 g12 g13 g14 g15 g16 g17 g18 a0 a1 a2 a3 a4 a5 a6 a7 a8 a9 w0 .null rv) := by
  intro n
  induction n with
  | zero =>
    intro l3_2 h
    cases (show (none : Option (Unit)) = some res from h)
  | succ n2 ih2 =>
    intro l3_2 h
    unfold L_hN_X9_ends_2 at h
    refine x_iload_n dX9_ends_2 rfl ?_
    refine x_aload_n dX9_ends_3 rfl ?_
    refine x_get fX9_316 dX9_ends_4 rfl rfl rfl ?_
    cases h
set_option maxRecDepth 100000 in
set_option maxHeartbeats 4000000 in
theorem t_hN_X9_ends {g0 g1 g2 g3 g4 g5 g6 g7 g8 g9 g10 g11 g12 g13 g14 g15 g16 g17 g18 : Int32} {a0 a1 a2 a3 a4 a5 a6 a7 a8 a9 : (Nat → Int32)} {w0 : Int64} {rv : Value} (x2 : Int32) (res : Unit) (h : e_hN_X9_ends  x2 = some res) (d : Nat) : xMet xks YX9_ends (d + 1) 0 0 [.ref 0, .ref 3, .int x2] (hN g0 g1 g2 g3 g4 g5 g6 g7 g8 g9 g10 g11 g12 g13 g14 g15 g16 g17 g18 a0 a1 a2 a3 a4 a5 a6 a7 a8 a9 w0 .null rv) none (hN g0 g1 g2 g3 g4 g5 g6 g7 g8 g9 g10 g11 g12 g13 g14 g15 g16 g17 g18 a0 a1 a2 a3 a4 a5 a6 a7 a8 a9 w0 .null rv) := by
  unfold e_hN_X9_ends at h
  refine xMet_of (pl := [some (.ref 0), some (.ref 3), some (.int x2), none, none, none]) (by decide) (Nat.le_of_ble_eq_true rfl) rfl (Nat.le_of_ble_eq_true rfl) ?_
  refine x_iconst (0 : Int32) dX9_ends_0 (by decide) ?_
  refine x_istore_n (pl' := [some (.ref 0), some (.ref 3), some (.int x2), some (.int (0 : Int32)), none, none]) dX9_ends_1 (by decide) rfl ?_
  refine x_weak (pl2 := [some (.ref 0), some (.ref 3), some (.int x2), some (.int (0 : Int32)), none, none]) ⟨rfl, rfl, rfl, rfl, trivial⟩ ?_
  refine lp_hN_X9_ends_2 d _ x2 res _ (fun l3_2 h => ?_) 200000 (0 : Int32) h
  cases h
noncomputable def e_hN_X9_goesBy  (x1 : Int32) : Option (Unit) :=
  ((e_hN_X9_happens x1).bind fun z7 => (e_hN_X9_ends z7).bind fun z10 => some ())
set_option maxRecDepth 100000 in
set_option maxHeartbeats 4000000 in
theorem t_hN_X9_goesBy {g0 g1 g2 g3 g4 g5 g6 g7 g8 g9 g10 g11 g12 g13 g14 g15 g16 g17 g18 : Int32} {a0 a1 a2 a3 a4 a5 a6 a7 a8 a9 : (Nat → Int32)} {w0 : Int64} {rv : Value} (x1 : Int32) (res : Unit) (h : e_hN_X9_goesBy  x1 = some res) (d : Nat) : xMet xks YX9_goesBy (d + 2) 0 0 [.ref 0, .int x1] (hN g0 g1 g2 g3 g4 g5 g6 g7 g8 g9 g10 g11 g12 g13 g14 g15 g16 g17 g18 a0 a1 a2 a3 a4 a5 a6 a7 a8 a9 w0 .null rv) none (hN g0 g1 g2 g3 g4 g5 g6 g7 g8 g9 g10 g11 g12 g13 g14 g15 g16 g17 g18 a0 a1 a2 a3 a4 a5 a6 a7 a8 a9 w0 .null rv) := by
  unfold e_hN_X9_goesBy at h
  refine xMet_of (pl := [some (.ref 0), some (.int x1)]) (by decide) (Nat.le_of_ble_eq_true rfl) rfl (Nat.le_of_ble_eq_true rfl) ?_
  refine x_aload_n dX9_goesBy_0 rfl ?_
  refine x_aload_n dX9_goesBy_1 rfl ?_
  refine x_get fX9_21 dX9_goesBy_2 rfl rfl rfl ?_
  refine x_aload_n dX9_goesBy_5 rfl ?_
  refine x_iload_n dX9_goesBy_6 rfl ?_
  obtain ⟨z7, y7, h⟩ := xbind h
  refine x_callV (t_hN_X9_happens x1 z7 y7 (d + 0)) kX9_349 dX9_goesBy_7 rfl rfl rfl rfl rfl (Nat.le_of_ble_eq_true rfl) (Nat.le_of_ble_eq_true rfl) rfl rfl (Or.inl rfl) ?_
  obtain ⟨z10, y10, h⟩ := xbind h
  refine x_callV (t_hN_X9_ends z7 z10 y10 (d + 0)) kX9_352 dX9_goesBy_10 rfl rfl rfl rfl rfl (Nat.le_of_ble_eq_true rfl) (Nat.le_of_ble_eq_true rfl) rfl rfl (Or.inl rfl) ?_
  cases h
  exact x_vret2 dX9_goesBy_13 rfl rfl
noncomputable def L_hN_X9_behind_10 (p0 : (Nat → Int32))  (f1 : Int32) (K : Int32 → Option ((Nat → Int32))) : Nat → Int32 → Option ((Nat → Int32))
  | 0, _ => none
  | n10 + 1, l2_10 => if f1 < l2_10 then K l2_10 else ((e_hN_X9_goesBy l2_10).bind fun z17 => L_hN_X9_behind_10 p0 f1 K n10 (l2_10 + (1 : Int32)))
noncomputable def e_hN_X9_behind (p0 : (Nat → Int32)) (x1 : Int32) : Option ((Nat → Int32)) :=
  ((e_hN_X9_starts p0).bind fun z5 => L_hN_X9_behind_10 z5 x1 (fun l2_10 => some z5) 200000 (0 : Int32))
set_option maxRecDepth 100000 in
set_option maxHeartbeats 4000000 in
theorem lp_hN_X9_behind_10 {g0 g1 g2 g3 g4 g5 g6 g7 g8 g9 g10 g11 g12 g13 g14 g15 g16 g17 g18 : Int32} {a0 a1 a2 a3 a4 a5 a6 a7 a8 a9 : (Nat → Int32)} {w0 : Int64} {rv : Value} (d n0 : Nat) (f1 : Int32) (res : (Nat → Int32)) (K : Int32 → Option ((Nat → Int32))) (hK : ∀ (l2_10 : Int32), K l2_10 = some res → xW xks YX9_behind (d + 3) 0 0 n0 (xZ 0 0 n0 none (hN g0 g1 g2 g3 g4 g5 g6 g7 g8 g9 g10 g11 g12 g13 g14 g15 g16 g17 g18 a0 a1 res a3 a4 a5 a6 a7 a8 a9 w0 .null rv)) 0 0 26 [none, none, none] [] (hN g0 g1 g2 g3 g4 g5 g6 g7 g8 g9 g10 g11 g12 g13 g14 g15 g16 g17 g18 a0 a1 a2 a3 a4 a5 a6 a7 a8 a9 w0 .null rv)) : ∀ (n : Nat) (l2_10 : Int32), L_hN_X9_behind_10 a2 f1 K n l2_10 = some res → xW xks YX9_behind (d + 3) 0 0 n0 (xZ 0 0 n0 none (hN g0 g1 g2 g3 g4 g5 g6 g7 g8 g9 g10 g11 g12 g13 g14 g15 g16 g17 g18 a0 a1 res a3 a4 a5 a6 a7 a8 a9 w0 .null rv)) 0 0 10 [some (.ref 0), some (.int f1), some (.int l2_10)] [] (hN g0 g1 g2 g3 g4 g5 g6 g7 g8 g9 g10 g11 g12 g13 g14 g15 g16 g17 g18 a0 a1 a2 a3 a4 a5 a6 a7 a8 a9 w0 .null rv) := by
  intro n
  induction n with
  | zero =>
    intro l2_10 h
    cases (show (none : Option ((Nat → Int32))) = some res from h)
  | succ n10 ih10 =>
    intro l2_10 h
    unfold L_hN_X9_behind_10 at h
    refine x_iload_n dX9_behind_10 rfl ?_
    refine x_iload_n dX9_behind_11 rfl ?_
    refine x_icmp_gt 26 dX9_behind_12 (by decide) (fun q => ?_) (fun q => ?_)
    · have h := xif_t q h
      refine x_weak (pl2 := [none, none, none]) trivial ?_
      exact hK l2_10 h
    · have h := xif_f q h
      refine x_aload_n dX9_behind_15 rfl ?_
      refine x_iload_n dX9_behind_16 rfl ?_
      obtain ⟨z17, y17, h⟩ := xbind h
      refine x_callV (t_hN_X9_goesBy l2_10 z17 y17 (d + 0)) kX9_356 dX9_behind_17 rfl rfl rfl rfl rfl (Nat.le_of_ble_eq_true rfl) (Nat.le_of_ble_eq_true rfl) rfl rfl (Or.inl rfl) ?_
      refine x_iincK (1 : Int32) (pl' := [some (.ref 0), some (.int f1), some (.int (l2_10 + (1 : Int32)))]) dX9_behind_20 rfl (by decide) (by decide) rfl ?_
      refine x_goto 10 dX9_behind_23 (by decide) ?_
      refine x_weak (pl2 := [some (.ref 0), some (.int f1), some (.int (l2_10 + (1 : Int32)))]) ⟨rfl, rfl, rfl, trivial⟩ ?_
      exact ih10 (l2_10 + (1 : Int32)) h
set_option maxRecDepth 100000 in
set_option maxHeartbeats 4000000 in
theorem t_hN_X9_behind {g0 g1 g2 g3 g4 g5 g6 g7 g8 g9 g10 g11 g12 g13 g14 g15 g16 g17 g18 : Int32} {a0 a1 a2 a3 a4 a5 a6 a7 a8 a9 : (Nat → Int32)} {w0 : Int64} {rv : Value} (x1 : Int32) (res : (Nat → Int32)) (h : e_hN_X9_behind a2 x1 = some res) (d : Nat) : xMet xks YX9_behind (d + 3) 0 0 [.ref 0, .int x1] (hN g0 g1 g2 g3 g4 g5 g6 g7 g8 g9 g10 g11 g12 g13 g14 g15 g16 g17 g18 a0 a1 a2 a3 a4 a5 a6 a7 a8 a9 w0 .null rv) none (hN g0 g1 g2 g3 g4 g5 g6 g7 g8 g9 g10 g11 g12 g13 g14 g15 g16 g17 g18 a0 a1 res a3 a4 a5 a6 a7 a8 a9 w0 .null rv) := by
  unfold e_hN_X9_behind at h
  refine xMet_of (pl := [some (.ref 0), some (.int x1), none]) (by decide) (Nat.le_of_ble_eq_true rfl) rfl (Nat.le_of_ble_eq_true rfl) ?_
  refine x_aload_n dX9_behind_0 rfl ?_
  refine x_aload_n dX9_behind_1 rfl ?_
  refine x_get fX9_21 dX9_behind_2 rfl rfl rfl ?_
  obtain ⟨z5, y5, h⟩ := xbind h
  refine x_callV (t_hN_X9_starts  z5 y5 (d + 1)) kX9_318 dX9_behind_5 rfl rfl rfl rfl rfl (Nat.le_of_ble_eq_true rfl) (Nat.le_of_ble_eq_true rfl) rfl rfl (Or.inl rfl) ?_
  refine x_iconst (0 : Int32) dX9_behind_8 (by decide) ?_
  refine x_istore_n (pl' := [some (.ref 0), some (.int x1), some (.int (0 : Int32))]) dX9_behind_9 (by decide) rfl ?_
  refine x_weak (pl2 := [some (.ref 0), some (.int x1), some (.int (0 : Int32))]) ⟨rfl, rfl, rfl, trivial⟩ ?_
  refine lp_hN_X9_behind_10 d _ x1 res _ (fun l2_10 h => ?_) 200000 (0 : Int32) h
  cases h
  exact x_vret2 dX9_behind_26 rfl rfl
noncomputable def e_hN_X9_asks (p0 : (Nat → Int32)) (x1 : Int32) (x2 : Int32) : Option (Int32 × (Nat → Int32)) :=
  if x1 = (0 : Int32) then some ((1 : Int32), p0) else ((e_hN_X9_in x2 (0 : Int32) (40 : Int32)).bind fun z10 => if z10 = (0 : Int32) then some ((2 : Int32), p0) else ((e_hN_X9_behind p0 x2).bind fun z20 => some ((0 : Int32), z20)))
set_option maxRecDepth 100000 in
set_option maxHeartbeats 4000000 in
theorem t_hN_X9_asks {g0 g1 g2 g3 g4 g5 g6 g7 g8 g9 g10 g11 g12 g13 g14 g15 g16 g17 g18 : Int32} {a0 a1 a2 a3 a4 a5 a6 a7 a8 a9 : (Nat → Int32)} {w0 : Int64} {rv : Value} (x1 : Int32) (x2 : Int32) (res : Int32 × (Nat → Int32)) (h : e_hN_X9_asks a2 x1 x2 = some res) (d : Nat) : xMet xks YX9_asks (d + 4) 0 0 [.ref 0, .int x1, .int x2] (hN g0 g1 g2 g3 g4 g5 g6 g7 g8 g9 g10 g11 g12 g13 g14 g15 g16 g17 g18 a0 a1 a2 a3 a4 a5 a6 a7 a8 a9 w0 .null rv) (some (.int res.1)) (hN g0 g1 g2 g3 g4 g5 g6 g7 g8 g9 g10 g11 g12 g13 g14 g15 g16 g17 g18 a0 a1 res.2 a3 a4 a5 a6 a7 a8 a9 w0 .null rv) := by
  unfold e_hN_X9_asks at h
  refine xMet_of (pl := [some (.ref 0), some (.int x1), some (.int x2)]) (by decide) (Nat.le_of_ble_eq_true rfl) rfl (Nat.le_of_ble_eq_true rfl) ?_
  refine x_iload_n dX9_asks_0 rfl ?_
  refine x_if_ne 6 dX9_asks_1 (by decide) (fun q => ?_) (fun q => ?_)
  · have h := xif_f q h
    refine x_iload_n dX9_asks_6 rfl ?_
    refine x_iconst (0 : Int32) dX9_asks_7 (by decide) ?_
    refine x_bipush (40 : Int32) dX9_asks_8 (by decide) ?_
    obtain ⟨z10, y10, h⟩ := xbind h
    refine x_callS (t_hN_X9_in x2 (0 : Int32) (40 : Int32) z10 y10 (d + 2)) kX9_124 dX9_asks_10 rfl rfl (Nat.le_of_ble_eq_true rfl) (Nat.le_of_ble_eq_true rfl) rfl rfl (Or.inl rfl) ?_
    refine x_if_ne 18 dX9_asks_13 (by decide) (fun q => ?_) (fun q => ?_)
    · have h := xif_f q h
      refine x_aload_n dX9_asks_18 rfl ?_
      refine x_iload_n dX9_asks_19 rfl ?_
      obtain ⟨z20, y20, h⟩ := xbind h
      refine x_callV (t_hN_X9_behind x2 z20 y20 (d + 0)) kX9_376 dX9_asks_20 rfl rfl rfl rfl rfl (Nat.le_of_ble_eq_true rfl) (Nat.le_of_ble_eq_true rfl) rfl rfl (Or.inl rfl) ?_
      refine x_iconst (0 : Int32) dX9_asks_23 (by decide) ?_
      cases h
      exact x_iret2 dX9_asks_24 rfl rfl
    · have h := xif_t q h
      refine x_iconst (2 : Int32) dX9_asks_16 (by decide) ?_
      cases h
      exact x_iret2 dX9_asks_17 rfl rfl
  · have h := xif_t q h
    refine x_iconst (1 : Int32) dX9_asks_4 (by decide) ?_
    cases h
    exact x_iret2 dX9_asks_5 rfl rfl
noncomputable def e_hN_X9_hasIt (p0 : Int32) (p1 : (Nat → Int32)) (p2 : Int32) (p3 : Int32) (x1 : Int32) (x2 : Int32) : Option (Int32 × Int32 × (Nat → Int32) × Int32 × Int32) :=
  ((e_hN_X9_isUmbrella x1).bind fun z8 => (e_hN_X9_asks p1 z8 x2).bind fun z12 => if z12.1 ≤ (0 : Int32) then (xix ((0 : Int32) + x1) 11 ((e_hN_X9_good p2 p3 (z12.2 ((0 : Int32) + x1).toNatClampNeg)).bind fun z37 => some (z37.1, (0 : Int32), z12.2, z37.2.1, z37.2.2))) else ((e_hN_X9_refused p2 p3 z12.1).bind fun z22 => some (z22.1, (0 : Int32), z12.2, z22.2.1, z22.2.2)))
set_option maxRecDepth 100000 in
set_option maxHeartbeats 4000000 in
theorem t_hN_X9_hasIt {g0 g1 g2 g3 g4 g5 g6 g7 g8 g9 g10 g11 g12 g13 g14 g15 g16 g17 g18 : Int32} {a0 a1 a2 a3 a4 a5 a6 a7 a8 a9 : (Nat → Int32)} {w0 : Int64} {rv : Value} (x1 : Int32) (x2 : Int32) (res : Int32 × Int32 × (Nat → Int32) × Int32 × Int32) (h : e_hN_X9_hasIt g0 a2 g1 g2 x1 x2 = some res) (d : Nat) : xMet xks YX9_hasIt (d + 5) 0 0 [.ref 0, .int x1, .int x2] (hN g0 g1 g2 g3 g4 g5 g6 g7 g8 g9 g10 g11 g12 g13 g14 g15 g16 g17 g18 a0 a1 a2 a3 a4 a5 a6 a7 a8 a9 w0 .null rv) (some (.int res.1)) (hN res.2.1 res.2.2.2.1 res.2.2.2.2 g3 g4 g5 g6 g7 g8 g9 g10 g11 g12 g13 g14 g15 g16 g17 g18 a0 a1 res.2.2.1 a3 a4 a5 a6 a7 a8 a9 w0 .null rv) := by
  unfold e_hN_X9_hasIt at h
  refine xMet_of (pl := [some (.ref 0), some (.int x1), some (.int x2), none]) (by decide) (Nat.le_of_ble_eq_true rfl) rfl (Nat.le_of_ble_eq_true rfl) ?_
  refine x_aload_n dX9_hasIt_0 rfl ?_
  refine x_iconst (0 : Int32) dX9_hasIt_1 (by decide) ?_
  refine x_put (h2 := (hN (0 : Int32) g1 g2 g3 g4 g5 g6 g7 g8 g9 g10 g11 g12 g13 g14 g15 g16 g17 g18 a0 a1 a2 a3 a4 a5 a6 a7 a8 a9 w0 .null rv)) fX9_45 dX9_hasIt_2 rfl rfl (Nat.le_of_ble_eq_true rfl : 0 + 1 ≤ _) (fun α => ⟨rfl, rfl⟩) rfl ?_
  refine x_aload_n dX9_hasIt_5 rfl ?_
  refine x_aload_n dX9_hasIt_6 rfl ?_
  refine x_iload_n dX9_hasIt_7 rfl ?_
  obtain ⟨z8, y8, h⟩ := xbind h
  refine x_callV (t_hN_X9_isUmbrella x1 z8 y8 (d + 3)) kX9_359 dX9_hasIt_8 rfl rfl rfl rfl rfl (Nat.le_of_ble_eq_true rfl) (Nat.le_of_ble_eq_true rfl) rfl rfl (Or.inl rfl) ?_
  refine x_iload_n dX9_hasIt_11 rfl ?_
  obtain ⟨z12, y12, h⟩ := xbind h
  refine x_callV (t_hN_X9_asks z8 x2 z12 y12 (d + 0)) kX9_379 dX9_hasIt_12 rfl rfl rfl rfl rfl (Nat.le_of_ble_eq_true rfl) (Nat.le_of_ble_eq_true rfl) rfl rfl (Or.inl rfl) ?_
  refine x_istore_n (pl' := [some (.ref 0), some (.int x1), some (.int x2), some (.int z12.1)]) dX9_hasIt_15 (by decide) rfl ?_
  refine x_iload_n dX9_hasIt_16 rfl ?_
  refine x_if_le 28 dX9_hasIt_17 (by decide) (fun q => ?_) (fun q => ?_)
  · have h := xif_t q h
    refine x_aload_n dX9_hasIt_28 rfl ?_
    refine x_aload_n dX9_hasIt_29 rfl ?_
    refine x_get fX9_21 dX9_hasIt_30 rfl rfl rfl ?_
    refine x_iconst (0 : Int32) dX9_hasIt_33 (by decide) ?_
    refine x_iload_n dX9_hasIt_34 rfl ?_
    refine x_iadd dX9_hasIt_35 ?_
    obtain ⟨q36, h⟩ := xix_of h
    refine x_iald dX9_hasIt_36 rfl q36 ?_
    obtain ⟨z37, y37, h⟩ := xbind h
    refine x_callV (t_hN_X9_good (z12.2 ((0 : Int32) + x1).toNatClampNeg) z37 y37 (d + 3)) kX9_55 dX9_hasIt_37 rfl rfl rfl rfl rfl (Nat.le_of_ble_eq_true rfl) (Nat.le_of_ble_eq_true rfl) rfl rfl (Or.inl rfl) ?_
    cases h
    exact x_iret2 dX9_hasIt_40 rfl rfl
  · have h := xif_f q h
    refine x_aload_n dX9_hasIt_20 rfl ?_
    refine x_iload_n dX9_hasIt_21 rfl ?_
    obtain ⟨z22, y22, h⟩ := xbind h
    refine x_callV (t_hN_X9_refused z12.1 z22 y22 (d + 3)) kX9_51 dX9_hasIt_22 rfl rfl rfl rfl rfl (Nat.le_of_ble_eq_true rfl) (Nat.le_of_ble_eq_true rfl) rfl rfl (Or.inl rfl) ?_
    refine x_goto 40 dX9_hasIt_25 (by decide) ?_
    cases h
    exact x_iret2 dX9_hasIt_40 rfl rfl
noncomputable def e_hN_X9_titleOf (p0 : Int32) (p1 : (Nat → Int32)) (p2 : Int32) (p3 : Int32) (x1 : Int32) (x2 : Int32) : Option (Int32 × Int32 × (Nat → Int32) × Int32 × Int32) :=
  ((e_hN_X9_isUmbrella x1).bind fun z8 => (e_hN_X9_asks p1 z8 x2).bind fun z12 => if z12.1 ≤ (0 : Int32) then (xix ((5 : Int32) + x1) 11 ((e_hN_X9_good p2 p3 (z12.2 ((5 : Int32) + x1).toNatClampNeg)).bind fun z37 => some (z37.1, (0 : Int32), z12.2, z37.2.1, z37.2.2))) else ((e_hN_X9_refused p2 p3 z12.1).bind fun z22 => some (z22.1, (0 : Int32), z12.2, z22.2.1, z22.2.2)))
set_option maxRecDepth 100000 in
set_option maxHeartbeats 4000000 in
theorem t_hN_X9_titleOf {g0 g1 g2 g3 g4 g5 g6 g7 g8 g9 g10 g11 g12 g13 g14 g15 g16 g17 g18 : Int32} {a0 a1 a2 a3 a4 a5 a6 a7 a8 a9 : (Nat → Int32)} {w0 : Int64} {rv : Value} (x1 : Int32) (x2 : Int32) (res : Int32 × Int32 × (Nat → Int32) × Int32 × Int32) (h : e_hN_X9_titleOf g0 a2 g1 g2 x1 x2 = some res) (d : Nat) : xMet xks YX9_titleOf (d + 5) 0 0 [.ref 0, .int x1, .int x2] (hN g0 g1 g2 g3 g4 g5 g6 g7 g8 g9 g10 g11 g12 g13 g14 g15 g16 g17 g18 a0 a1 a2 a3 a4 a5 a6 a7 a8 a9 w0 .null rv) (some (.int res.1)) (hN res.2.1 res.2.2.2.1 res.2.2.2.2 g3 g4 g5 g6 g7 g8 g9 g10 g11 g12 g13 g14 g15 g16 g17 g18 a0 a1 res.2.2.1 a3 a4 a5 a6 a7 a8 a9 w0 .null rv) := by
  unfold e_hN_X9_titleOf at h
  refine xMet_of (pl := [some (.ref 0), some (.int x1), some (.int x2), none]) (by decide) (Nat.le_of_ble_eq_true rfl) rfl (Nat.le_of_ble_eq_true rfl) ?_
  refine x_aload_n dX9_titleOf_0 rfl ?_
  refine x_iconst (0 : Int32) dX9_titleOf_1 (by decide) ?_
  refine x_put (h2 := (hN (0 : Int32) g1 g2 g3 g4 g5 g6 g7 g8 g9 g10 g11 g12 g13 g14 g15 g16 g17 g18 a0 a1 a2 a3 a4 a5 a6 a7 a8 a9 w0 .null rv)) fX9_45 dX9_titleOf_2 rfl rfl (Nat.le_of_ble_eq_true rfl : 0 + 1 ≤ _) (fun α => ⟨rfl, rfl⟩) rfl ?_
  refine x_aload_n dX9_titleOf_5 rfl ?_
  refine x_aload_n dX9_titleOf_6 rfl ?_
  refine x_iload_n dX9_titleOf_7 rfl ?_
  obtain ⟨z8, y8, h⟩ := xbind h
  refine x_callV (t_hN_X9_isUmbrella x1 z8 y8 (d + 3)) kX9_359 dX9_titleOf_8 rfl rfl rfl rfl rfl (Nat.le_of_ble_eq_true rfl) (Nat.le_of_ble_eq_true rfl) rfl rfl (Or.inl rfl) ?_
  refine x_iload_n dX9_titleOf_11 rfl ?_
  obtain ⟨z12, y12, h⟩ := xbind h
  refine x_callV (t_hN_X9_asks z8 x2 z12 y12 (d + 0)) kX9_379 dX9_titleOf_12 rfl rfl rfl rfl rfl (Nat.le_of_ble_eq_true rfl) (Nat.le_of_ble_eq_true rfl) rfl rfl (Or.inl rfl) ?_
  refine x_istore_n (pl' := [some (.ref 0), some (.int x1), some (.int x2), some (.int z12.1)]) dX9_titleOf_15 (by decide) rfl ?_
  refine x_iload_n dX9_titleOf_16 rfl ?_
  refine x_if_le 28 dX9_titleOf_17 (by decide) (fun q => ?_) (fun q => ?_)
  · have h := xif_t q h
    refine x_aload_n dX9_titleOf_28 rfl ?_
    refine x_aload_n dX9_titleOf_29 rfl ?_
    refine x_get fX9_21 dX9_titleOf_30 rfl rfl rfl ?_
    refine x_iconst (5 : Int32) dX9_titleOf_33 (by decide) ?_
    refine x_iload_n dX9_titleOf_34 rfl ?_
    refine x_iadd dX9_titleOf_35 ?_
    obtain ⟨q36, h⟩ := xix_of h
    refine x_iald dX9_titleOf_36 rfl q36 ?_
    obtain ⟨z37, y37, h⟩ := xbind h
    refine x_callV (t_hN_X9_good (z12.2 ((5 : Int32) + x1).toNatClampNeg) z37 y37 (d + 3)) kX9_55 dX9_titleOf_37 rfl rfl rfl rfl rfl (Nat.le_of_ble_eq_true rfl) (Nat.le_of_ble_eq_true rfl) rfl rfl (Or.inl rfl) ?_
    cases h
    exact x_iret2 dX9_titleOf_40 rfl rfl
  · have h := xif_f q h
    refine x_aload_n dX9_titleOf_20 rfl ?_
    refine x_iload_n dX9_titleOf_21 rfl ?_
    obtain ⟨z22, y22, h⟩ := xbind h
    refine x_callV (t_hN_X9_refused z12.1 z22 y22 (d + 3)) kX9_51 dX9_titleOf_22 rfl rfl rfl rfl rfl (Nat.le_of_ble_eq_true rfl) (Nat.le_of_ble_eq_true rfl) rfl rfl (Or.inl rfl) ?_
    refine x_goto 40 dX9_titleOf_25 (by decide) ?_
    cases h
    exact x_iret2 dX9_titleOf_40 rfl rfl
set_option maxRecDepth 100000 in
set_option maxHeartbeats 4000000 in
theorem lp_hN_X9_landsIn_2_5 {g0 g1 g2 g3 g4 g5 g6 g7 g8 g9 g10 g11 g12 g13 g14 g15 g16 g17 g18 : Int32} {a0 a1 a2 a3 a4 a5 a6 a7 a8 a9 : (Nat → Int32)} {w0 : Int64} {rv : Value} (d n0 : Nat) (f2 : Int32) (res : Int32) (K : Int32 → Int32 → Option (Int32)) (hK : ∀ (l3_5 : Int32) (l4_5 : Int32), K l3_5 l4_5 = some res → xW xks YX9_landsIn (d + 1) 0 0 n0 (xZ 0 0 n0 (some (.int res)) (hN g0 g1 g2 g3 g4 g5 g6 g7 g8 g9 g10 g11 g12 g13 g14 g15 g16 g17 g18 a0 a1 a2 a3 a4 a5 a6 a7 a8 a9 w0 .null rv)) 0 0 50 [none, none, none, some (.int l3_5), none] [] (hN g0 g1 g2 g3 g4 g5 g6 g7 g8 g9 g10 g11 g12 g13 g14 g15 g16 g17 g18 a0 a1 a2 a3 a4 a5 a6 a7 a8 a9 w0 .null rv)) : ∀ (n : Nat) (l3_5 : Int32) (l4_5 : Int32), L_hN_X9_landsIn_5  f2 K n l3_5 l4_5 = some res → xW xks YX9_landsIn (d + 1) 0 0 n0 (xZ 0 0 n0 (some (.int res)) (hN g0 g1 g2 g3 g4 g5 g6 g7 g8 g9 g10 g11 g12 g13 g14 g15 g16 g17 g18 a0 a1 a2 a3 a4 a5 a6 a7 a8 a9 w0 .null rv)) 0 0 5 [some (.ref 0), some (.ref 3), some (.int f2), some (.int l3_5), some (.int l4_5)] [] (hN g0 g1 g2 g3 g4 g5 g6 g7 g8 g9 g10 g11 g12 g13 g14 g15 g16 g17 g18 a0 a1 a2 a3 a4 a5 a6 a7 a8 a9 w0 .null rv) := by
  intro n
  induction n with
  | zero =>
    intro l3_5 l4_5 h
    cases (show (none : Option (Int32)) = some res from h)
  | succ n5 ih5 =>
    intro l3_5 l4_5 h
    unfold L_hN_X9_landsIn_5 at h
    refine x_iload dX9_landsIn_5 rfl ?_
    refine x_aload_n dX9_landsIn_7 rfl ?_
    refine x_get fX9_316 dX9_landsIn_8 rfl rfl rfl ?_
    cases h
set_option maxRecDepth 100000 in
set_option maxHeartbeats 4000000 in
theorem t_hN_X9_landsIn_2 {g0 g1 g2 g3 g4 g5 g6 g7 g8 g9 g10 g11 g12 g13 g14 g15 g16 g17 g18 : Int32} {a0 a1 a2 a3 a4 a5 a6 a7 a8 a9 : (Nat → Int32)} {w0 : Int64} {rv : Value} (x2 : Int32) (res : Int32) (h : e_hN_X9_landsIn  x2 = some res) (d : Nat) : xMet xks YX9_landsIn (d + 1) 0 0 [.ref 0, .ref 3, .int x2] (hN g0 g1 g2 g3 g4 g5 g6 g7 g8 g9 g10 g11 g12 g13 g14 g15 g16 g17 g18 a0 a1 a2 a3 a4 a5 a6 a7 a8 a9 w0 .null rv) (some (.int res)) (hN g0 g1 g2 g3 g4 g5 g6 g7 g8 g9 g10 g11 g12 g13 g14 g15 g16 g17 g18 a0 a1 a2 a3 a4 a5 a6 a7 a8 a9 w0 .null rv) := by
  unfold e_hN_X9_landsIn at h
  refine xMet_of (pl := [some (.ref 0), some (.ref 3), some (.int x2), none, none]) (by decide) (Nat.le_of_ble_eq_true rfl) rfl (Nat.le_of_ble_eq_true rfl) ?_
  refine x_iconst (0 : Int32) dX9_landsIn_0 (by decide) ?_
  refine x_istore_n (pl' := [some (.ref 0), some (.ref 3), some (.int x2), some (.int (0 : Int32)), none]) dX9_landsIn_1 (by decide) rfl ?_
  refine x_iconst (0 : Int32) dX9_landsIn_2 (by decide) ?_
  refine x_istore (pl' := [some (.ref 0), some (.ref 3), some (.int x2), some (.int (0 : Int32)), some (.int (0 : Int32))]) dX9_landsIn_3 (by decide) rfl ?_
  refine x_weak (pl2 := [some (.ref 0), some (.ref 3), some (.int x2), some (.int (0 : Int32)), some (.int (0 : Int32))]) ⟨rfl, rfl, rfl, rfl, rfl, trivial⟩ ?_
  refine lp_hN_X9_landsIn_2_5 d _ x2 res _ (fun l3_5 l4_5 h => ?_) 200000 (0 : Int32) (0 : Int32) h
  cases h
noncomputable def e_hN_X9_landsOf (p0 : Int32) (p1 : (Nat → Int32)) (p2 : Int32) (p3 : Int32) (x1 : Int32) (x2 : Int32) : Option (Int32 × Int32 × (Nat → Int32) × Int32 × Int32) :=
  ((e_hN_X9_isPerson x1).bind fun z8 => (e_hN_X9_asks p1 z8 x2).bind fun z12 => if z12.1 ≤ (0 : Int32) then ((e_hN_X9_landsIn x1).bind fun z35 => (e_hN_X9_good p2 p3 z35).bind fun z38 => some (z38.1, (0 : Int32), z12.2, z38.2.1, z38.2.2)) else ((e_hN_X9_refused p2 p3 z12.1).bind fun z22 => some (z22.1, (0 : Int32), z12.2, z22.2.1, z22.2.2)))
set_option maxRecDepth 100000 in
set_option maxHeartbeats 4000000 in
theorem t_hN_X9_landsOf {g0 g1 g2 g3 g4 g5 g6 g7 g8 g9 g10 g11 g12 g13 g14 g15 g16 g17 g18 : Int32} {a0 a1 a2 a3 a4 a5 a6 a7 a8 a9 : (Nat → Int32)} {w0 : Int64} {rv : Value} (x1 : Int32) (x2 : Int32) (res : Int32 × Int32 × (Nat → Int32) × Int32 × Int32) (h : e_hN_X9_landsOf g0 a2 g1 g2 x1 x2 = some res) (d : Nat) : xMet xks YX9_landsOf (d + 5) 0 0 [.ref 0, .int x1, .int x2] (hN g0 g1 g2 g3 g4 g5 g6 g7 g8 g9 g10 g11 g12 g13 g14 g15 g16 g17 g18 a0 a1 a2 a3 a4 a5 a6 a7 a8 a9 w0 .null rv) (some (.int res.1)) (hN res.2.1 res.2.2.2.1 res.2.2.2.2 g3 g4 g5 g6 g7 g8 g9 g10 g11 g12 g13 g14 g15 g16 g17 g18 a0 a1 res.2.2.1 a3 a4 a5 a6 a7 a8 a9 w0 .null rv) := by
  unfold e_hN_X9_landsOf at h
  refine xMet_of (pl := [some (.ref 0), some (.int x1), some (.int x2), none]) (by decide) (Nat.le_of_ble_eq_true rfl) rfl (Nat.le_of_ble_eq_true rfl) ?_
  refine x_aload_n dX9_landsOf_0 rfl ?_
  refine x_iconst (0 : Int32) dX9_landsOf_1 (by decide) ?_
  refine x_put (h2 := (hN (0 : Int32) g1 g2 g3 g4 g5 g6 g7 g8 g9 g10 g11 g12 g13 g14 g15 g16 g17 g18 a0 a1 a2 a3 a4 a5 a6 a7 a8 a9 w0 .null rv)) fX9_45 dX9_landsOf_2 rfl rfl (Nat.le_of_ble_eq_true rfl : 0 + 1 ≤ _) (fun α => ⟨rfl, rfl⟩) rfl ?_
  refine x_aload_n dX9_landsOf_5 rfl ?_
  refine x_aload_n dX9_landsOf_6 rfl ?_
  refine x_iload_n dX9_landsOf_7 rfl ?_
  obtain ⟨z8, y8, h⟩ := xbind h
  refine x_callV (t_hN_X9_isPerson x1 z8 y8 (d + 3)) kX9_362 dX9_landsOf_8 rfl rfl rfl rfl rfl (Nat.le_of_ble_eq_true rfl) (Nat.le_of_ble_eq_true rfl) rfl rfl (Or.inl rfl) ?_
  refine x_iload_n dX9_landsOf_11 rfl ?_
  obtain ⟨z12, y12, h⟩ := xbind h
  refine x_callV (t_hN_X9_asks z8 x2 z12 y12 (d + 0)) kX9_379 dX9_landsOf_12 rfl rfl rfl rfl rfl (Nat.le_of_ble_eq_true rfl) (Nat.le_of_ble_eq_true rfl) rfl rfl (Or.inl rfl) ?_
  refine x_istore_n (pl' := [some (.ref 0), some (.int x1), some (.int x2), some (.int z12.1)]) dX9_landsOf_15 (by decide) rfl ?_
  refine x_iload_n dX9_landsOf_16 rfl ?_
  refine x_if_le 28 dX9_landsOf_17 (by decide) (fun q => ?_) (fun q => ?_)
  · have h := xif_t q h
    refine x_aload_n dX9_landsOf_28 rfl ?_
    refine x_aload_n dX9_landsOf_29 rfl ?_
    refine x_aload_n dX9_landsOf_30 rfl ?_
    refine x_get fX9_21 dX9_landsOf_31 rfl rfl rfl ?_
    refine x_iload_n dX9_landsOf_34 rfl ?_
    obtain ⟨z35, y35, h⟩ := xbind h
    refine x_callV (t_hN_X9_landsIn_2 x1 z35 y35 (d + 3)) kX9_365 dX9_landsOf_35 rfl rfl rfl rfl rfl (Nat.le_of_ble_eq_true rfl) (Nat.le_of_ble_eq_true rfl) rfl rfl (Or.inl rfl) ?_
    obtain ⟨z38, y38, h⟩ := xbind h
    refine x_callV (t_hN_X9_good z35 z38 y38 (d + 3)) kX9_55 dX9_landsOf_38 rfl rfl rfl rfl rfl (Nat.le_of_ble_eq_true rfl) (Nat.le_of_ble_eq_true rfl) rfl rfl (Or.inl rfl) ?_
    cases h
    exact x_iret2 dX9_landsOf_41 rfl rfl
  · have h := xif_f q h
    refine x_aload_n dX9_landsOf_20 rfl ?_
    refine x_iload_n dX9_landsOf_21 rfl ?_
    obtain ⟨z22, y22, h⟩ := xbind h
    refine x_callV (t_hN_X9_refused z12.1 z22 y22 (d + 3)) kX9_51 dX9_landsOf_22 rfl rfl rfl rfl rfl (Nat.le_of_ble_eq_true rfl) (Nat.le_of_ble_eq_true rfl) rfl rfl (Or.inl rfl) ?_
    refine x_goto 41 dX9_landsOf_25 (by decide) ?_
    cases h
    exact x_iret2 dX9_landsOf_41 rfl rfl
noncomputable def e_hN_X9_lapsed (p0 : Int32) (p1 : (Nat → Int32)) (p2 : Int32) (p3 : Int32) (x1 : Int32) : Option (Int32 × Int32 × (Nat → Int32) × Int32 × Int32) :=
  ((e_hN_X9_asks p1 (0 : Int32) x1).bind fun z19 => if z19.1 ≤ (0 : Int32) then ((e_hN_X9_landsIn (-2 : Int32)).bind fun z43 => (e_hN_X9_good p2 p3 z43).bind fun z46 => some (z46.1, (0 : Int32), z19.2, z46.2.1, z46.2.2)) else ((e_hN_X9_refused p2 p3 z19.1).bind fun z29 => some (z29.1, (0 : Int32), z19.2, z29.2.1, z29.2.2)))
set_option maxRecDepth 100000 in
set_option maxHeartbeats 4000000 in
theorem t_hN_X9_lapsed {g0 g1 g2 g3 g4 g5 g6 g7 g8 g9 g10 g11 g12 g13 g14 g15 g16 g17 g18 : Int32} {a0 a1 a2 a3 a4 a5 a6 a7 a8 a9 : (Nat → Int32)} {w0 : Int64} {rv : Value} (x1 : Int32) (res : Int32 × Int32 × (Nat → Int32) × Int32 × Int32) (h : e_hN_X9_lapsed g0 a2 g1 g2 x1 = some res) (d : Nat) : xMet xks YX9_lapsed (d + 5) 0 0 [.ref 0, .int x1] (hN g0 g1 g2 g3 g4 g5 g6 g7 g8 g9 g10 g11 g12 g13 g14 g15 g16 g17 g18 a0 a1 a2 a3 a4 a5 a6 a7 a8 a9 w0 .null rv) (some (.int res.1)) (hN res.2.1 res.2.2.2.1 res.2.2.2.2 g3 g4 g5 g6 g7 g8 g9 g10 g11 g12 g13 g14 g15 g16 g17 g18 a0 a1 res.2.2.1 a3 a4 a5 a6 a7 a8 a9 w0 .null rv) := by
  unfold e_hN_X9_lapsed at h
  refine xMet_of (pl := [some (.ref 0), some (.int x1), none]) (by decide) (Nat.le_of_ble_eq_true rfl) rfl (Nat.le_of_ble_eq_true rfl) ?_
  refine x_aload_n dX9_lapsed_0 rfl ?_
  refine x_iconst (0 : Int32) dX9_lapsed_1 (by decide) ?_
  refine x_put (h2 := (hN (0 : Int32) g1 g2 g3 g4 g5 g6 g7 g8 g9 g10 g11 g12 g13 g14 g15 g16 g17 g18 a0 a1 a2 a3 a4 a5 a6 a7 a8 a9 w0 .null rv)) fX9_45 dX9_lapsed_2 rfl rfl (Nat.le_of_ble_eq_true rfl : 0 + 1 ≤ _) (fun α => ⟨rfl, rfl⟩) rfl ?_
  refine x_aload_n dX9_lapsed_5 rfl ?_
  refine x_aload_n dX9_lapsed_6 rfl ?_
  refine x_get fX9_316 dX9_lapsed_7 rfl rfl rfl ?_
  refine x_ifnullN 17 dX9_lapsed_10 (by decide) ?_
  refine x_iconst (0 : Int32) dX9_lapsed_17 (by decide) ?_
  refine x_iload_n dX9_lapsed_18 rfl ?_
  obtain ⟨z19, y19, h⟩ := xbind h
  refine x_callV (t_hN_X9_asks (0 : Int32) x1 z19 y19 (d + 0)) kX9_379 dX9_lapsed_19 rfl rfl rfl rfl rfl (Nat.le_of_ble_eq_true rfl) (Nat.le_of_ble_eq_true rfl) rfl rfl (Or.inl rfl) ?_
  refine x_istore_n (pl' := [some (.ref 0), some (.int x1), some (.int z19.1)]) dX9_lapsed_22 (by decide) rfl ?_
  refine x_iload_n dX9_lapsed_23 rfl ?_
  refine x_if_le 35 dX9_lapsed_24 (by decide) (fun q => ?_) (fun q => ?_)
  · have h := xif_t q h
    refine x_aload_n dX9_lapsed_35 rfl ?_
    refine x_aload_n dX9_lapsed_36 rfl ?_
    refine x_aload_n dX9_lapsed_37 rfl ?_
    refine x_get fX9_21 dX9_lapsed_38 rfl rfl rfl ?_
    refine x_bipush (-2 : Int32) dX9_lapsed_41 (by decide) ?_
    obtain ⟨z43, y43, h⟩ := xbind h
    refine x_callV (t_hN_X9_landsIn_2 (-2 : Int32) z43 y43 (d + 3)) kX9_365 dX9_lapsed_43 rfl rfl rfl rfl rfl (Nat.le_of_ble_eq_true rfl) (Nat.le_of_ble_eq_true rfl) rfl rfl (Or.inl rfl) ?_
    obtain ⟨z46, y46, h⟩ := xbind h
    refine x_callV (t_hN_X9_good z43 z46 y46 (d + 3)) kX9_55 dX9_lapsed_46 rfl rfl rfl rfl rfl (Nat.le_of_ble_eq_true rfl) (Nat.le_of_ble_eq_true rfl) rfl rfl (Or.inl rfl) ?_
    cases h
    exact x_iret2 dX9_lapsed_49 rfl rfl
  · have h := xif_f q h
    refine x_aload_n dX9_lapsed_27 rfl ?_
    refine x_iload_n dX9_lapsed_28 rfl ?_
    obtain ⟨z29, y29, h⟩ := xbind h
    refine x_callV (t_hN_X9_refused z19.1 z29 y29 (d + 3)) kX9_51 dX9_lapsed_29 rfl rfl rfl rfl rfl (Nat.le_of_ble_eq_true rfl) (Nat.le_of_ble_eq_true rfl) rfl rfl (Or.inl rfl) ?_
    refine x_goto 49 dX9_lapsed_32 (by decide) ?_
    cases h
    exact x_iret2 dX9_lapsed_49 rfl rfl
noncomputable def L_hN_X9_passed_31 (p0 : Int32) (p1 : (Nat → Int32)) (p2 : Int32) (p3 : Int32)  (f1 : Int32) (K : Int32 → Int32 → Option (Int32 × Int32 × (Nat → Int32) × Int32 × Int32)) : Nat → Int32 → Int32 → Option (Int32 × Int32 × (Nat → Int32) × Int32 × Int32)
  | 0, _, _ => none
  | n31 + 1, l2_31, l3_31 => if (41 : Int32) ≤ l3_31 then K l2_31 l3_31 else (xix ((5 : Int32) + f1) 11 ((e_hN_X9_goesBy l3_31).bind fun z49 => xix ((5 : Int32) + f1) 11 (if (p1 ((5 : Int32) + f1).toNatClampNeg) = (p1 ((5 : Int32) + f1).toNatClampNeg) then L_hN_X9_passed_31 p0 p1 p2 p3 f1 K n31 (l2_31 + (0 : Int32)) (l3_31 + (1 : Int32)) else L_hN_X9_passed_31 p0 p1 p2 p3 f1 K n31 (l2_31 + (1 : Int32)) (l3_31 + (1 : Int32)))))
noncomputable def e_hN_X9_passed (p0 : Int32) (p1 : (Nat → Int32)) (p2 : Int32) (p3 : Int32) (x1 : Int32) : Option (Int32 × Int32 × (Nat → Int32) × Int32 × Int32) :=
  ((e_hN_X9_isUmbrella x1).bind fun z7 => if z7 = (0 : Int32) then ((e_hN_X9_refused p2 p3 (1 : Int32)).bind fun z15 => some (z15.1, (0 : Int32), p1, z15.2.1, z15.2.2)) else ((e_hN_X9_starts p1).bind fun z26 => L_hN_X9_passed_31 (0 : Int32) z26 p2 p3 x1 (fun l2_31 l3_31 => ((e_hN_X9_good p2 p3 l2_31).bind fun z81 => some (z81.1, (0 : Int32), z26, z81.2.1, z81.2.2))) 200000 (0 : Int32) (0 : Int32)))
set_option maxRecDepth 100000 in
set_option maxHeartbeats 4000000 in
theorem lp_hN_X9_passed_31 {g0 g1 g2 g3 g4 g5 g6 g7 g8 g9 g10 g11 g12 g13 g14 g15 g16 g17 g18 : Int32} {a0 a1 a2 a3 a4 a5 a6 a7 a8 a9 : (Nat → Int32)} {w0 : Int64} {rv : Value} (d n0 : Nat) (f1 : Int32) (res : Int32 × Int32 × (Nat → Int32) × Int32 × Int32) (K : Int32 → Int32 → Option (Int32 × Int32 × (Nat → Int32) × Int32 × Int32)) (hK : ∀ (l2_31 : Int32) (l3_31 : Int32), K l2_31 l3_31 = some res → xW xks YX9_passed (d + 3) 0 0 n0 (xZ 0 0 n0 (some (.int res.1)) (hN res.2.1 res.2.2.2.1 res.2.2.2.2 g3 g4 g5 g6 g7 g8 g9 g10 g11 g12 g13 g14 g15 g16 g17 g18 a0 a1 res.2.2.1 a3 a4 a5 a6 a7 a8 a9 w0 .null rv)) 0 0 79 [some (.ref 0), none, some (.int l2_31), none, none] [] (hN g0 g1 g2 g3 g4 g5 g6 g7 g8 g9 g10 g11 g12 g13 g14 g15 g16 g17 g18 a0 a1 a2 a3 a4 a5 a6 a7 a8 a9 w0 .null rv)) : ∀ (n : Nat) (l2_31 : Int32) (l3_31 : Int32), L_hN_X9_passed_31 g0 a2 g1 g2 f1 K n l2_31 l3_31 = some res → xW xks YX9_passed (d + 3) 0 0 n0 (xZ 0 0 n0 (some (.int res.1)) (hN res.2.1 res.2.2.2.1 res.2.2.2.2 g3 g4 g5 g6 g7 g8 g9 g10 g11 g12 g13 g14 g15 g16 g17 g18 a0 a1 res.2.2.1 a3 a4 a5 a6 a7 a8 a9 w0 .null rv)) 0 0 31 [some (.ref 0), some (.int f1), some (.int l2_31), some (.int l3_31), none] [] (hN g0 g1 g2 g3 g4 g5 g6 g7 g8 g9 g10 g11 g12 g13 g14 g15 g16 g17 g18 a0 a1 a2 a3 a4 a5 a6 a7 a8 a9 w0 .null rv) := by
  intro n
  induction n with
  | zero =>
    intro l2_31 l3_31 h
    cases (show (none : Option (Int32 × Int32 × (Nat → Int32) × Int32 × Int32)) = some res from h)
  | succ n31 ih31 =>
    intro l2_31 l3_31 h
    unfold L_hN_X9_passed_31 at h
    refine x_iload_n dX9_passed_31 rfl ?_
    refine x_bipush (41 : Int32) dX9_passed_32 (by decide) ?_
    refine x_icmp_ge 79 dX9_passed_34 (by decide) (fun q => ?_) (fun q => ?_)
    · have h := xif_t q h
      refine x_weak (pl2 := [some (.ref 0), none, some (.int l2_31), none, none]) ⟨rfl, rfl, trivial⟩ ?_
      exact hK l2_31 l3_31 h
    · have h := xif_f q h
      refine x_aload_n dX9_passed_37 rfl ?_
      refine x_get fX9_21 dX9_passed_38 rfl rfl rfl ?_
      refine x_iconst (5 : Int32) dX9_passed_41 (by decide) ?_
      refine x_iload_n dX9_passed_42 rfl ?_
      refine x_iadd dX9_passed_43 ?_
      obtain ⟨q44, h⟩ := xix_of h
      refine x_iald dX9_passed_44 rfl q44 ?_
      refine x_istore (pl' := [some (.ref 0), some (.int f1), some (.int l2_31), some (.int l3_31), some (.int (a2 ((5 : Int32) + f1).toNatClampNeg))]) dX9_passed_45 (by decide) rfl ?_
      refine x_aload_n dX9_passed_47 rfl ?_
      refine x_iload_n dX9_passed_48 rfl ?_
      obtain ⟨z49, y49, h⟩ := xbind h
      refine x_callV (t_hN_X9_goesBy l3_31 z49 y49 (d + 0)) kX9_356 dX9_passed_49 rfl rfl rfl rfl rfl (Nat.le_of_ble_eq_true rfl) (Nat.le_of_ble_eq_true rfl) rfl rfl (Or.inl rfl) ?_
      refine x_iload_n dX9_passed_52 rfl ?_
      refine x_aload_n dX9_passed_53 rfl ?_
      refine x_get fX9_21 dX9_passed_54 rfl rfl rfl ?_
      refine x_iconst (5 : Int32) dX9_passed_57 (by decide) ?_
      refine x_iload_n dX9_passed_58 rfl ?_
      refine x_iadd dX9_passed_59 ?_
      obtain ⟨q60, h⟩ := xix_of h
      refine x_iald dX9_passed_60 rfl q60 ?_
      refine x_iload dX9_passed_61 rfl ?_
      refine x_icmp_ne 70 dX9_passed_63 (by decide) (fun q => ?_) (fun q => ?_)
      · have h := xif_f q h
        refine x_iconst (1 : Int32) dX9_passed_70 (by decide) ?_
        refine x_iadd dX9_passed_71 ?_
        refine x_istore_n (pl' := [some (.ref 0), some (.int f1), some (.int (l2_31 + (1 : Int32))), some (.int l3_31), some (.int (a2 ((5 : Int32) + f1).toNatClampNeg))]) dX9_passed_72 (by decide) rfl ?_
        refine x_iincK (1 : Int32) (pl' := [some (.ref 0), some (.int f1), some (.int (l2_31 + (1 : Int32))), some (.int (l3_31 + (1 : Int32))), some (.int (a2 ((5 : Int32) + f1).toNatClampNeg))]) dX9_passed_73 rfl (by decide) (by decide) rfl ?_
        refine x_goto 31 dX9_passed_76 (by decide) ?_
        refine x_weak (pl2 := [some (.ref 0), some (.int f1), some (.int (l2_31 + (1 : Int32))), some (.int (l3_31 + (1 : Int32))), none]) ⟨rfl, rfl, rfl, rfl, trivial⟩ ?_
        exact ih31 (l2_31 + (1 : Int32)) (l3_31 + (1 : Int32)) h
      · have h := xif_t q h
        refine x_iconst (0 : Int32) dX9_passed_66 (by decide) ?_
        refine x_goto 71 dX9_passed_67 (by decide) ?_
        refine x_iadd dX9_passed_71 ?_
        refine x_istore_n (pl' := [some (.ref 0), some (.int f1), some (.int (l2_31 + (0 : Int32))), some (.int l3_31), some (.int (a2 ((5 : Int32) + f1).toNatClampNeg))]) dX9_passed_72 (by decide) rfl ?_
        refine x_iincK (1 : Int32) (pl' := [some (.ref 0), some (.int f1), some (.int (l2_31 + (0 : Int32))), some (.int (l3_31 + (1 : Int32))), some (.int (a2 ((5 : Int32) + f1).toNatClampNeg))]) dX9_passed_73 rfl (by decide) (by decide) rfl ?_
        refine x_goto 31 dX9_passed_76 (by decide) ?_
        refine x_weak (pl2 := [some (.ref 0), some (.int f1), some (.int (l2_31 + (0 : Int32))), some (.int (l3_31 + (1 : Int32))), none]) ⟨rfl, rfl, rfl, rfl, trivial⟩ ?_
        exact ih31 (l2_31 + (0 : Int32)) (l3_31 + (1 : Int32)) h
set_option maxRecDepth 100000 in
set_option maxHeartbeats 4000000 in
theorem t_hN_X9_passed {g0 g1 g2 g3 g4 g5 g6 g7 g8 g9 g10 g11 g12 g13 g14 g15 g16 g17 g18 : Int32} {a0 a1 a2 a3 a4 a5 a6 a7 a8 a9 : (Nat → Int32)} {w0 : Int64} {rv : Value} (x1 : Int32) (res : Int32 × Int32 × (Nat → Int32) × Int32 × Int32) (h : e_hN_X9_passed g0 a2 g1 g2 x1 = some res) (d : Nat) : xMet xks YX9_passed (d + 3) 0 0 [.ref 0, .int x1] (hN g0 g1 g2 g3 g4 g5 g6 g7 g8 g9 g10 g11 g12 g13 g14 g15 g16 g17 g18 a0 a1 a2 a3 a4 a5 a6 a7 a8 a9 w0 .null rv) (some (.int res.1)) (hN res.2.1 res.2.2.2.1 res.2.2.2.2 g3 g4 g5 g6 g7 g8 g9 g10 g11 g12 g13 g14 g15 g16 g17 g18 a0 a1 res.2.2.1 a3 a4 a5 a6 a7 a8 a9 w0 .null rv) := by
  unfold e_hN_X9_passed at h
  refine xMet_of (pl := [some (.ref 0), some (.int x1), none, none, none]) (by decide) (Nat.le_of_ble_eq_true rfl) rfl (Nat.le_of_ble_eq_true rfl) ?_
  refine x_aload_n dX9_passed_0 rfl ?_
  refine x_iconst (0 : Int32) dX9_passed_1 (by decide) ?_
  refine x_put (h2 := (hN (0 : Int32) g1 g2 g3 g4 g5 g6 g7 g8 g9 g10 g11 g12 g13 g14 g15 g16 g17 g18 a0 a1 a2 a3 a4 a5 a6 a7 a8 a9 w0 .null rv)) fX9_45 dX9_passed_2 rfl rfl (Nat.le_of_ble_eq_true rfl : 0 + 1 ≤ _) (fun α => ⟨rfl, rfl⟩) rfl ?_
  refine x_aload_n dX9_passed_5 rfl ?_
  refine x_iload_n dX9_passed_6 rfl ?_
  obtain ⟨z7, y7, h⟩ := xbind h
  refine x_callV (t_hN_X9_isUmbrella x1 z7 y7 (d + 1)) kX9_359 dX9_passed_7 rfl rfl rfl rfl rfl (Nat.le_of_ble_eq_true rfl) (Nat.le_of_ble_eq_true rfl) rfl rfl (Or.inl rfl) ?_
  refine x_if_ne 19 dX9_passed_10 (by decide) (fun q => ?_) (fun q => ?_)
  · have h := xif_f q h
    refine x_iconst (0 : Int32) dX9_passed_19 (by decide) ?_
    refine x_istore_n (pl' := [some (.ref 0), some (.int x1), some (.int (0 : Int32)), none, none]) dX9_passed_20 (by decide) rfl ?_
    refine x_aload_n dX9_passed_21 rfl ?_
    refine x_aload_n dX9_passed_22 rfl ?_
    refine x_get fX9_21 dX9_passed_23 rfl rfl rfl ?_
    obtain ⟨z26, y26, h⟩ := xbind h
    refine x_callV (t_hN_X9_starts  z26 y26 (d + 1)) kX9_318 dX9_passed_26 rfl rfl rfl rfl rfl (Nat.le_of_ble_eq_true rfl) (Nat.le_of_ble_eq_true rfl) rfl rfl (Or.inl rfl) ?_
    refine x_iconst (0 : Int32) dX9_passed_29 (by decide) ?_
    refine x_istore_n (pl' := [some (.ref 0), some (.int x1), some (.int (0 : Int32)), some (.int (0 : Int32)), none]) dX9_passed_30 (by decide) rfl ?_
    refine x_weak (pl2 := [some (.ref 0), some (.int x1), some (.int (0 : Int32)), some (.int (0 : Int32)), none]) ⟨rfl, rfl, rfl, rfl, trivial⟩ ?_
    refine lp_hN_X9_passed_31 d _ x1 res _ (fun l2_31 l3_31 h => ?_) 200000 (0 : Int32) (0 : Int32) h
    refine x_aload_n dX9_passed_79 rfl ?_
    refine x_iload_n dX9_passed_80 rfl ?_
    obtain ⟨z81, y81, h⟩ := xbind h
    refine x_callV (t_hN_X9_good l2_31 z81 y81 (d + 1)) kX9_55 dX9_passed_81 rfl rfl rfl rfl rfl (Nat.le_of_ble_eq_true rfl) (Nat.le_of_ble_eq_true rfl) rfl rfl (Or.inl rfl) ?_
    cases h
    exact x_iret2 dX9_passed_84 rfl rfl
  · have h := xif_t q h
    refine x_aload_n dX9_passed_13 rfl ?_
    refine x_iconst (1 : Int32) dX9_passed_14 (by decide) ?_
    obtain ⟨z15, y15, h⟩ := xbind h
    refine x_callV (t_hN_X9_refused (1 : Int32) z15 y15 (d + 1)) kX9_51 dX9_passed_15 rfl rfl rfl rfl rfl (Nat.le_of_ble_eq_true rfl) (Nat.le_of_ble_eq_true rfl) rfl rfl (Or.inl rfl) ?_
    cases h
    exact x_iret2 dX9_passed_18 rfl rfl
noncomputable def e_hN_X9_judge (p0 : Int32) (p1 : Int32) (p2 : Int32)  : Option (Int32 × Int32 × Int32 × Int32) :=
  ((e_hN_X9_refused p1 p2 (1 : Int32)).bind fun z14 => some (z14.1, (0 : Int32), z14.2.1, z14.2.2))
set_option maxRecDepth 100000 in
set_option maxHeartbeats 4000000 in
theorem t_hN_X9_judge {g0 g1 g2 g3 g4 g5 g6 g7 g8 g9 g10 g11 g12 g13 g14 g15 g16 g17 g18 : Int32} {a0 a1 a2 a3 a4 a5 a6 a7 a8 a9 : (Nat → Int32)} {w0 : Int64} {rv : Value}  (res : Int32 × Int32 × Int32 × Int32) (h : e_hN_X9_judge g0 g1 g2  = some res) (d : Nat) : xMet xks YX9_judge (d + 2) 0 0 [.ref 0] (hN g0 g1 g2 g3 g4 g5 g6 g7 g8 g9 g10 g11 g12 g13 g14 g15 g16 g17 g18 a0 a1 a2 a3 a4 a5 a6 a7 a8 a9 w0 .null rv) (some (.int res.1)) (hN res.2.1 res.2.2.1 res.2.2.2 g3 g4 g5 g6 g7 g8 g9 g10 g11 g12 g13 g14 g15 g16 g17 g18 a0 a1 a2 a3 a4 a5 a6 a7 a8 a9 w0 .null rv) := by
  unfold e_hN_X9_judge at h
  refine xMet_of (pl := [some (.ref 0)]) (by decide) (Nat.le_of_ble_eq_true rfl) rfl (Nat.le_of_ble_eq_true rfl) ?_
  refine x_aload_n dX9_judge_0 rfl ?_
  refine x_iconst (0 : Int32) dX9_judge_1 (by decide) ?_
  refine x_put (h2 := (hN (0 : Int32) g1 g2 g3 g4 g5 g6 g7 g8 g9 g10 g11 g12 g13 g14 g15 g16 g17 g18 a0 a1 a2 a3 a4 a5 a6 a7 a8 a9 w0 .null rv)) fX9_45 dX9_judge_2 rfl rfl (Nat.le_of_ble_eq_true rfl : 0 + 1 ≤ _) (fun α => ⟨rfl, rfl⟩) rfl ?_
  refine x_aload_n dX9_judge_5 rfl ?_
  refine x_get fX9_316 dX9_judge_6 rfl rfl rfl ?_
  refine x_ifnonnullN dX9_judge_9 ?_
  refine x_aload_n dX9_judge_12 rfl ?_
  refine x_iconst (1 : Int32) dX9_judge_13 (by decide) ?_
  obtain ⟨z14, y14, h⟩ := xbind h
  refine x_callV (t_hN_X9_refused (1 : Int32) z14 y14 (d + 0)) kX9_51 dX9_judge_14 rfl rfl rfl rfl rfl (Nat.le_of_ble_eq_true rfl) (Nat.le_of_ble_eq_true rfl) rfl rfl (Or.inl rfl) ?_
  refine x_goto 31 dX9_judge_17 (by decide) ?_
  cases h
  exact x_iret2 dX9_judge_31 rfl rfl
noncomputable def e_hN_X9_ways (p0 : Int32) (p1 : Int32) (p2 : Int32)  : Option (Int32 × Int32 × Int32 × Int32) :=
  ((e_hN_X9_refused p1 p2 (1 : Int32)).bind fun z14 => some (z14.1, (0 : Int32), z14.2.1, z14.2.2))
set_option maxRecDepth 100000 in
set_option maxHeartbeats 4000000 in
theorem t_hN_X9_ways {g0 g1 g2 g3 g4 g5 g6 g7 g8 g9 g10 g11 g12 g13 g14 g15 g16 g17 g18 : Int32} {a0 a1 a2 a3 a4 a5 a6 a7 a8 a9 : (Nat → Int32)} {w0 : Int64} {rv : Value}  (res : Int32 × Int32 × Int32 × Int32) (h : e_hN_X9_ways g0 g1 g2  = some res) (d : Nat) : xMet xks YX9_ways (d + 2) 0 0 [.ref 0] (hN g0 g1 g2 g3 g4 g5 g6 g7 g8 g9 g10 g11 g12 g13 g14 g15 g16 g17 g18 a0 a1 a2 a3 a4 a5 a6 a7 a8 a9 w0 .null rv) (some (.int res.1)) (hN res.2.1 res.2.2.1 res.2.2.2 g3 g4 g5 g6 g7 g8 g9 g10 g11 g12 g13 g14 g15 g16 g17 g18 a0 a1 a2 a3 a4 a5 a6 a7 a8 a9 w0 .null rv) := by
  unfold e_hN_X9_ways at h
  refine xMet_of (pl := [some (.ref 0)]) (by decide) (Nat.le_of_ble_eq_true rfl) rfl (Nat.le_of_ble_eq_true rfl) ?_
  refine x_aload_n dX9_ways_0 rfl ?_
  refine x_iconst (0 : Int32) dX9_ways_1 (by decide) ?_
  refine x_put (h2 := (hN (0 : Int32) g1 g2 g3 g4 g5 g6 g7 g8 g9 g10 g11 g12 g13 g14 g15 g16 g17 g18 a0 a1 a2 a3 a4 a5 a6 a7 a8 a9 w0 .null rv)) fX9_45 dX9_ways_2 rfl rfl (Nat.le_of_ble_eq_true rfl : 0 + 1 ≤ _) (fun α => ⟨rfl, rfl⟩) rfl ?_
  refine x_aload_n dX9_ways_5 rfl ?_
  refine x_get fX9_316 dX9_ways_6 rfl rfl rfl ?_
  refine x_ifnonnullN dX9_ways_9 ?_
  refine x_aload_n dX9_ways_12 rfl ?_
  refine x_iconst (1 : Int32) dX9_ways_13 (by decide) ?_
  obtain ⟨z14, y14, h⟩ := xbind h
  refine x_callV (t_hN_X9_refused (1 : Int32) z14 y14 (d + 0)) kX9_51 dX9_ways_14 rfl rfl rfl rfl rfl (Nat.le_of_ble_eq_true rfl) (Nat.le_of_ble_eq_true rfl) rfl rfl (Or.inl rfl) ?_
  refine x_goto 29 dX9_ways_17 (by decide) ?_
  cases h
  exact x_iret2 dX9_ways_29 rfl rfl
noncomputable def e_hN_X9_wayAt (p0 : Int32) (p1 : Int32) (p2 : Int32) (x1 : Int32) : Option (Int32 × Int32 × Int32 × Int32) :=
  ((e_hN_X9_refused p1 p2 (1 : Int32)).bind fun z14 => some (z14.1, (0 : Int32), z14.2.1, z14.2.2))
set_option maxRecDepth 100000 in
set_option maxHeartbeats 4000000 in
theorem t_hN_X9_wayAt {g0 g1 g2 g3 g4 g5 g6 g7 g8 g9 g10 g11 g12 g13 g14 g15 g16 g17 g18 : Int32} {a0 a1 a2 a3 a4 a5 a6 a7 a8 a9 : (Nat → Int32)} {w0 : Int64} {rv : Value} (x1 : Int32) (res : Int32 × Int32 × Int32 × Int32) (h : e_hN_X9_wayAt g0 g1 g2 x1 = some res) (d : Nat) : xMet xks YX9_wayAt (d + 2) 0 0 [.ref 0, .int x1] (hN g0 g1 g2 g3 g4 g5 g6 g7 g8 g9 g10 g11 g12 g13 g14 g15 g16 g17 g18 a0 a1 a2 a3 a4 a5 a6 a7 a8 a9 w0 .null rv) (some (.int res.1)) (hN res.2.1 res.2.2.1 res.2.2.2 g3 g4 g5 g6 g7 g8 g9 g10 g11 g12 g13 g14 g15 g16 g17 g18 a0 a1 a2 a3 a4 a5 a6 a7 a8 a9 w0 .null rv) := by
  unfold e_hN_X9_wayAt at h
  refine xMet_of (pl := [some (.ref 0), some (.int x1)]) (by decide) (Nat.le_of_ble_eq_true rfl) rfl (Nat.le_of_ble_eq_true rfl) ?_
  refine x_aload_n dX9_wayAt_0 rfl ?_
  refine x_iconst (0 : Int32) dX9_wayAt_1 (by decide) ?_
  refine x_put (h2 := (hN (0 : Int32) g1 g2 g3 g4 g5 g6 g7 g8 g9 g10 g11 g12 g13 g14 g15 g16 g17 g18 a0 a1 a2 a3 a4 a5 a6 a7 a8 a9 w0 .null rv)) fX9_45 dX9_wayAt_2 rfl rfl (Nat.le_of_ble_eq_true rfl : 0 + 1 ≤ _) (fun α => ⟨rfl, rfl⟩) rfl ?_
  refine x_aload_n dX9_wayAt_5 rfl ?_
  refine x_get fX9_316 dX9_wayAt_6 rfl rfl rfl ?_
  refine x_ifnonnullN dX9_wayAt_9 ?_
  refine x_aload_n dX9_wayAt_12 rfl ?_
  refine x_iconst (1 : Int32) dX9_wayAt_13 (by decide) ?_
  obtain ⟨z14, y14, h⟩ := xbind h
  refine x_callV (t_hN_X9_refused (1 : Int32) z14 y14 (d + 0)) kX9_51 dX9_wayAt_14 rfl rfl rfl rfl rfl (Nat.le_of_ble_eq_true rfl) (Nat.le_of_ble_eq_true rfl) rfl rfl (Or.inl rfl) ?_
  cases h
  exact x_iret2 dX9_wayAt_17 rfl rfl
noncomputable def L_hN_X9_longest_38 (p0 : Int32) (p1 : (Nat → Int32)) (p2 : Int32) (p3 : Int32)  (f1 : Int32) (K : Int32 → Int32 → Int32 → Int32 → Option (Int32 × Int32 × (Nat → Int32) × Int32 × Int32)) : Nat → Int32 → Int32 → Int32 → Int32 → Option (Int32 × Int32 × (Nat → Int32) × Int32 × Int32)
  | 0, _, _, _, _ => none
  | n38 + 1, l2_38, l3_38, l4_38, l5_38 => if (41 : Int32) ≤ l5_38 then K l2_38 l3_38 l4_38 l5_38 else ((e_hN_X9_goesBy l5_38).bind fun z48 => xix ((5 : Int32) + f1) 11 (if (p1 ((5 : Int32) + f1).toNatClampNeg) = l4_38 then (xix ((5 : Int32) + f1) 11 (if (p1 ((5 : Int32) + f1).toNatClampNeg) = (-2 : Int32) then L_hN_X9_longest_38 p0 p1 p2 p3 f1 K n38 l2_38 (l3_38 + (1 : Int32)) (p1 ((5 : Int32) + f1).toNatClampNeg) (l5_38 + (1 : Int32)) else if (l3_38 + (1 : Int32)) ≤ l2_38 then L_hN_X9_longest_38 p0 p1 p2 p3 f1 K n38 l2_38 (l3_38 + (1 : Int32)) (p1 ((5 : Int32) + f1).toNatClampNeg) (l5_38 + (1 : Int32)) else L_hN_X9_longest_38 p0 p1 p2 p3 f1 K n38 (l3_38 + (1 : Int32)) (l3_38 + (1 : Int32)) (p1 ((5 : Int32) + f1).toNatClampNeg) (l5_38 + (1 : Int32)))) else (xix ((5 : Int32) + f1) 11 (if (p1 ((5 : Int32) + f1).toNatClampNeg) = (-2 : Int32) then L_hN_X9_longest_38 p0 p1 p2 p3 f1 K n38 l2_38 (1 : Int32) (p1 ((5 : Int32) + f1).toNatClampNeg) (l5_38 + (1 : Int32)) else if (1 : Int32) ≤ l2_38 then L_hN_X9_longest_38 p0 p1 p2 p3 f1 K n38 l2_38 (1 : Int32) (p1 ((5 : Int32) + f1).toNatClampNeg) (l5_38 + (1 : Int32)) else L_hN_X9_longest_38 p0 p1 p2 p3 f1 K n38 (1 : Int32) (1 : Int32) (p1 ((5 : Int32) + f1).toNatClampNeg) (l5_38 + (1 : Int32))))))
noncomputable def e_hN_X9_longest (p0 : Int32) (p1 : (Nat → Int32)) (p2 : Int32) (p3 : Int32) (x1 : Int32) : Option (Int32 × Int32 × (Nat → Int32) × Int32 × Int32) :=
  ((e_hN_X9_isUmbrella x1).bind fun z7 => if z7 = (0 : Int32) then ((e_hN_X9_refused p2 p3 (1 : Int32)).bind fun z15 => some (z15.1, (0 : Int32), p1, z15.2.1, z15.2.2)) else ((e_hN_X9_starts p1).bind fun z32 => L_hN_X9_longest_38 (0 : Int32) z32 p2 p3 x1 (fun l2_38 l3_38 l4_38 l5_38 => ((e_hN_X9_good p2 p3 l2_38).bind fun z104 => some (z104.1, (0 : Int32), z32, z104.2.1, z104.2.2))) 200000 (0 : Int32) (0 : Int32) (-2 : Int32) (0 : Int32)))
set_option maxRecDepth 100000 in
set_option maxHeartbeats 4000000 in
theorem lp_hN_X9_longest_38 {g0 g1 g2 g3 g4 g5 g6 g7 g8 g9 g10 g11 g12 g13 g14 g15 g16 g17 g18 : Int32} {a0 a1 a2 a3 a4 a5 a6 a7 a8 a9 : (Nat → Int32)} {w0 : Int64} {rv : Value} (d n0 : Nat) (f1 : Int32) (res : Int32 × Int32 × (Nat → Int32) × Int32 × Int32) (K : Int32 → Int32 → Int32 → Int32 → Option (Int32 × Int32 × (Nat → Int32) × Int32 × Int32)) (hK : ∀ (l2_38 : Int32) (l3_38 : Int32) (l4_38 : Int32) (l5_38 : Int32), K l2_38 l3_38 l4_38 l5_38 = some res → xW xks YX9_longest (d + 3) 0 0 n0 (xZ 0 0 n0 (some (.int res.1)) (hN res.2.1 res.2.2.2.1 res.2.2.2.2 g3 g4 g5 g6 g7 g8 g9 g10 g11 g12 g13 g14 g15 g16 g17 g18 a0 a1 res.2.2.1 a3 a4 a5 a6 a7 a8 a9 w0 .null rv)) 0 0 102 [some (.ref 0), none, some (.int l2_38), none, none, none] [] (hN g0 g1 g2 g3 g4 g5 g6 g7 g8 g9 g10 g11 g12 g13 g14 g15 g16 g17 g18 a0 a1 a2 a3 a4 a5 a6 a7 a8 a9 w0 .null rv)) : ∀ (n : Nat) (l2_38 : Int32) (l3_38 : Int32) (l4_38 : Int32) (l5_38 : Int32), L_hN_X9_longest_38 g0 a2 g1 g2 f1 K n l2_38 l3_38 l4_38 l5_38 = some res → xW xks YX9_longest (d + 3) 0 0 n0 (xZ 0 0 n0 (some (.int res.1)) (hN res.2.1 res.2.2.2.1 res.2.2.2.2 g3 g4 g5 g6 g7 g8 g9 g10 g11 g12 g13 g14 g15 g16 g17 g18 a0 a1 res.2.2.1 a3 a4 a5 a6 a7 a8 a9 w0 .null rv)) 0 0 38 [some (.ref 0), some (.int f1), some (.int l2_38), some (.int l3_38), some (.int l4_38), some (.int l5_38)] [] (hN g0 g1 g2 g3 g4 g5 g6 g7 g8 g9 g10 g11 g12 g13 g14 g15 g16 g17 g18 a0 a1 a2 a3 a4 a5 a6 a7 a8 a9 w0 .null rv) := by
  intro n
  induction n with
  | zero =>
    intro l2_38 l3_38 l4_38 l5_38 h
    cases (show (none : Option (Int32 × Int32 × (Nat → Int32) × Int32 × Int32)) = some res from h)
  | succ n38 ih38 =>
    intro l2_38 l3_38 l4_38 l5_38 h
    unfold L_hN_X9_longest_38 at h
    refine x_iload dX9_longest_38 rfl ?_
    refine x_bipush (41 : Int32) dX9_longest_40 (by decide) ?_
    refine x_icmp_ge 102 dX9_longest_42 (by decide) (fun q => ?_) (fun q => ?_)
    · have h := xif_t q h
      refine x_weak (pl2 := [some (.ref 0), none, some (.int l2_38), none, none, none]) ⟨rfl, rfl, trivial⟩ ?_
      exact hK l2_38 l3_38 l4_38 l5_38 h
    · have h := xif_f q h
      refine x_aload_n dX9_longest_45 rfl ?_
      refine x_iload dX9_longest_46 rfl ?_
      obtain ⟨z48, y48, h⟩ := xbind h
      refine x_callV (t_hN_X9_goesBy l5_38 z48 y48 (d + 0)) kX9_356 dX9_longest_48 rfl rfl rfl rfl rfl (Nat.le_of_ble_eq_true rfl) (Nat.le_of_ble_eq_true rfl) rfl rfl (Or.inl rfl) ?_
      refine x_aload_n dX9_longest_51 rfl ?_
      refine x_get fX9_21 dX9_longest_52 rfl rfl rfl ?_
      refine x_iconst (5 : Int32) dX9_longest_55 (by decide) ?_
      refine x_iload_n dX9_longest_56 rfl ?_
      refine x_iadd dX9_longest_57 ?_
      obtain ⟨q58, h⟩ := xix_of h
      refine x_iald dX9_longest_58 rfl q58 ?_
      refine x_iload dX9_longest_59 rfl ?_
      refine x_icmp_ne 70 dX9_longest_61 (by decide) (fun q => ?_) (fun q => ?_)
      · have h := xif_f q h
        refine x_iconst (1 : Int32) dX9_longest_70 (by decide) ?_
        refine x_istore_n (pl' := [some (.ref 0), some (.int f1), some (.int l2_38), some (.int (1 : Int32)), some (.int l4_38), some (.int l5_38)]) dX9_longest_71 (by decide) rfl ?_
        refine x_aload_n dX9_longest_72 rfl ?_
        refine x_get fX9_21 dX9_longest_73 rfl rfl rfl ?_
        refine x_iconst (5 : Int32) dX9_longest_76 (by decide) ?_
        refine x_iload_n dX9_longest_77 rfl ?_
        refine x_iadd dX9_longest_78 ?_
        obtain ⟨q79, h⟩ := xix_of h
        refine x_iald dX9_longest_79 rfl q79 ?_
        refine x_istore (pl' := [some (.ref 0), some (.int f1), some (.int l2_38), some (.int (1 : Int32)), some (.int (a2 ((5 : Int32) + f1).toNatClampNeg)), some (.int l5_38)]) dX9_longest_80 (by decide) rfl ?_
        refine x_iload dX9_longest_82 rfl ?_
        refine x_bipush (-2 : Int32) dX9_longest_84 (by decide) ?_
        refine x_icmp_eq 96 dX9_longest_86 (by decide) (fun q => ?_) (fun q => ?_)
        · have h := xif_t q h
          refine x_iincK (1 : Int32) (pl' := [some (.ref 0), some (.int f1), some (.int l2_38), some (.int (1 : Int32)), some (.int (a2 ((5 : Int32) + f1).toNatClampNeg)), some (.int (l5_38 + (1 : Int32)))]) dX9_longest_96 rfl (by decide) (by decide) rfl ?_
          refine x_goto 38 dX9_longest_99 (by decide) ?_
          refine x_weak (pl2 := [some (.ref 0), some (.int f1), some (.int l2_38), some (.int (1 : Int32)), some (.int (a2 ((5 : Int32) + f1).toNatClampNeg)), some (.int (l5_38 + (1 : Int32)))]) ⟨rfl, rfl, rfl, rfl, rfl, rfl, trivial⟩ ?_
          exact ih38 l2_38 (1 : Int32) (a2 ((5 : Int32) + f1).toNatClampNeg) (l5_38 + (1 : Int32)) h
        · have h := xif_f q h
          refine x_iload_n dX9_longest_89 rfl ?_
          refine x_iload_n dX9_longest_90 rfl ?_
          refine x_icmp_le 96 dX9_longest_91 (by decide) (fun q => ?_) (fun q => ?_)
          · have h := xif_t q h
            refine x_iincK (1 : Int32) (pl' := [some (.ref 0), some (.int f1), some (.int l2_38), some (.int (1 : Int32)), some (.int (a2 ((5 : Int32) + f1).toNatClampNeg)), some (.int (l5_38 + (1 : Int32)))]) dX9_longest_96 rfl (by decide) (by decide) rfl ?_
            refine x_goto 38 dX9_longest_99 (by decide) ?_
            refine x_weak (pl2 := [some (.ref 0), some (.int f1), some (.int l2_38), some (.int (1 : Int32)), some (.int (a2 ((5 : Int32) + f1).toNatClampNeg)), some (.int (l5_38 + (1 : Int32)))]) ⟨rfl, rfl, rfl, rfl, rfl, rfl, trivial⟩ ?_
            exact ih38 l2_38 (1 : Int32) (a2 ((5 : Int32) + f1).toNatClampNeg) (l5_38 + (1 : Int32)) h
          · have h := xif_f q h
            refine x_iload_n dX9_longest_94 rfl ?_
            refine x_istore_n (pl' := [some (.ref 0), some (.int f1), some (.int (1 : Int32)), some (.int (1 : Int32)), some (.int (a2 ((5 : Int32) + f1).toNatClampNeg)), some (.int l5_38)]) dX9_longest_95 (by decide) rfl ?_
            refine x_iincK (1 : Int32) (pl' := [some (.ref 0), some (.int f1), some (.int (1 : Int32)), some (.int (1 : Int32)), some (.int (a2 ((5 : Int32) + f1).toNatClampNeg)), some (.int (l5_38 + (1 : Int32)))]) dX9_longest_96 rfl (by decide) (by decide) rfl ?_
            refine x_goto 38 dX9_longest_99 (by decide) ?_
            refine x_weak (pl2 := [some (.ref 0), some (.int f1), some (.int (1 : Int32)), some (.int (1 : Int32)), some (.int (a2 ((5 : Int32) + f1).toNatClampNeg)), some (.int (l5_38 + (1 : Int32)))]) ⟨rfl, rfl, rfl, rfl, rfl, rfl, trivial⟩ ?_
            exact ih38 (1 : Int32) (1 : Int32) (a2 ((5 : Int32) + f1).toNatClampNeg) (l5_38 + (1 : Int32)) h
      · have h := xif_t q h
        refine x_iload_n dX9_longest_64 rfl ?_
        refine x_iconst (1 : Int32) dX9_longest_65 (by decide) ?_
        refine x_iadd dX9_longest_66 ?_
        refine x_goto 71 dX9_longest_67 (by decide) ?_
        refine x_istore_n (pl' := [some (.ref 0), some (.int f1), some (.int l2_38), some (.int (l3_38 + (1 : Int32))), some (.int l4_38), some (.int l5_38)]) dX9_longest_71 (by decide) rfl ?_
        refine x_aload_n dX9_longest_72 rfl ?_
        refine x_get fX9_21 dX9_longest_73 rfl rfl rfl ?_
        refine x_iconst (5 : Int32) dX9_longest_76 (by decide) ?_
        refine x_iload_n dX9_longest_77 rfl ?_
        refine x_iadd dX9_longest_78 ?_
        obtain ⟨q79, h⟩ := xix_of h
        refine x_iald dX9_longest_79 rfl q79 ?_
        refine x_istore (pl' := [some (.ref 0), some (.int f1), some (.int l2_38), some (.int (l3_38 + (1 : Int32))), some (.int (a2 ((5 : Int32) + f1).toNatClampNeg)), some (.int l5_38)]) dX9_longest_80 (by decide) rfl ?_
        refine x_iload dX9_longest_82 rfl ?_
        refine x_bipush (-2 : Int32) dX9_longest_84 (by decide) ?_
        refine x_icmp_eq 96 dX9_longest_86 (by decide) (fun q => ?_) (fun q => ?_)
        · have h := xif_t q h
          refine x_iincK (1 : Int32) (pl' := [some (.ref 0), some (.int f1), some (.int l2_38), some (.int (l3_38 + (1 : Int32))), some (.int (a2 ((5 : Int32) + f1).toNatClampNeg)), some (.int (l5_38 + (1 : Int32)))]) dX9_longest_96 rfl (by decide) (by decide) rfl ?_
          refine x_goto 38 dX9_longest_99 (by decide) ?_
          refine x_weak (pl2 := [some (.ref 0), some (.int f1), some (.int l2_38), some (.int (l3_38 + (1 : Int32))), some (.int (a2 ((5 : Int32) + f1).toNatClampNeg)), some (.int (l5_38 + (1 : Int32)))]) ⟨rfl, rfl, rfl, rfl, rfl, rfl, trivial⟩ ?_
          exact ih38 l2_38 (l3_38 + (1 : Int32)) (a2 ((5 : Int32) + f1).toNatClampNeg) (l5_38 + (1 : Int32)) h
        · have h := xif_f q h
          refine x_iload_n dX9_longest_89 rfl ?_
          refine x_iload_n dX9_longest_90 rfl ?_
          refine x_icmp_le 96 dX9_longest_91 (by decide) (fun q => ?_) (fun q => ?_)
          · have h := xif_t q h
            refine x_iincK (1 : Int32) (pl' := [some (.ref 0), some (.int f1), some (.int l2_38), some (.int (l3_38 + (1 : Int32))), some (.int (a2 ((5 : Int32) + f1).toNatClampNeg)), some (.int (l5_38 + (1 : Int32)))]) dX9_longest_96 rfl (by decide) (by decide) rfl ?_
            refine x_goto 38 dX9_longest_99 (by decide) ?_
            refine x_weak (pl2 := [some (.ref 0), some (.int f1), some (.int l2_38), some (.int (l3_38 + (1 : Int32))), some (.int (a2 ((5 : Int32) + f1).toNatClampNeg)), some (.int (l5_38 + (1 : Int32)))]) ⟨rfl, rfl, rfl, rfl, rfl, rfl, trivial⟩ ?_
            exact ih38 l2_38 (l3_38 + (1 : Int32)) (a2 ((5 : Int32) + f1).toNatClampNeg) (l5_38 + (1 : Int32)) h
          · have h := xif_f q h
            refine x_iload_n dX9_longest_94 rfl ?_
            refine x_istore_n (pl' := [some (.ref 0), some (.int f1), some (.int (l3_38 + (1 : Int32))), some (.int (l3_38 + (1 : Int32))), some (.int (a2 ((5 : Int32) + f1).toNatClampNeg)), some (.int l5_38)]) dX9_longest_95 (by decide) rfl ?_
            refine x_iincK (1 : Int32) (pl' := [some (.ref 0), some (.int f1), some (.int (l3_38 + (1 : Int32))), some (.int (l3_38 + (1 : Int32))), some (.int (a2 ((5 : Int32) + f1).toNatClampNeg)), some (.int (l5_38 + (1 : Int32)))]) dX9_longest_96 rfl (by decide) (by decide) rfl ?_
            refine x_goto 38 dX9_longest_99 (by decide) ?_
            refine x_weak (pl2 := [some (.ref 0), some (.int f1), some (.int (l3_38 + (1 : Int32))), some (.int (l3_38 + (1 : Int32))), some (.int (a2 ((5 : Int32) + f1).toNatClampNeg)), some (.int (l5_38 + (1 : Int32)))]) ⟨rfl, rfl, rfl, rfl, rfl, rfl, trivial⟩ ?_
            exact ih38 (l3_38 + (1 : Int32)) (l3_38 + (1 : Int32)) (a2 ((5 : Int32) + f1).toNatClampNeg) (l5_38 + (1 : Int32)) h
set_option maxRecDepth 100000 in
set_option maxHeartbeats 4000000 in
theorem t_hN_X9_longest {g0 g1 g2 g3 g4 g5 g6 g7 g8 g9 g10 g11 g12 g13 g14 g15 g16 g17 g18 : Int32} {a0 a1 a2 a3 a4 a5 a6 a7 a8 a9 : (Nat → Int32)} {w0 : Int64} {rv : Value} (x1 : Int32) (res : Int32 × Int32 × (Nat → Int32) × Int32 × Int32) (h : e_hN_X9_longest g0 a2 g1 g2 x1 = some res) (d : Nat) : xMet xks YX9_longest (d + 3) 0 0 [.ref 0, .int x1] (hN g0 g1 g2 g3 g4 g5 g6 g7 g8 g9 g10 g11 g12 g13 g14 g15 g16 g17 g18 a0 a1 a2 a3 a4 a5 a6 a7 a8 a9 w0 .null rv) (some (.int res.1)) (hN res.2.1 res.2.2.2.1 res.2.2.2.2 g3 g4 g5 g6 g7 g8 g9 g10 g11 g12 g13 g14 g15 g16 g17 g18 a0 a1 res.2.2.1 a3 a4 a5 a6 a7 a8 a9 w0 .null rv) := by
  unfold e_hN_X9_longest at h
  refine xMet_of (pl := [some (.ref 0), some (.int x1), none, none, none, none]) (by decide) (Nat.le_of_ble_eq_true rfl) rfl (Nat.le_of_ble_eq_true rfl) ?_
  refine x_aload_n dX9_longest_0 rfl ?_
  refine x_iconst (0 : Int32) dX9_longest_1 (by decide) ?_
  refine x_put (h2 := (hN (0 : Int32) g1 g2 g3 g4 g5 g6 g7 g8 g9 g10 g11 g12 g13 g14 g15 g16 g17 g18 a0 a1 a2 a3 a4 a5 a6 a7 a8 a9 w0 .null rv)) fX9_45 dX9_longest_2 rfl rfl (Nat.le_of_ble_eq_true rfl : 0 + 1 ≤ _) (fun α => ⟨rfl, rfl⟩) rfl ?_
  refine x_aload_n dX9_longest_5 rfl ?_
  refine x_iload_n dX9_longest_6 rfl ?_
  obtain ⟨z7, y7, h⟩ := xbind h
  refine x_callV (t_hN_X9_isUmbrella x1 z7 y7 (d + 1)) kX9_359 dX9_longest_7 rfl rfl rfl rfl rfl (Nat.le_of_ble_eq_true rfl) (Nat.le_of_ble_eq_true rfl) rfl rfl (Or.inl rfl) ?_
  refine x_if_ne 19 dX9_longest_10 (by decide) (fun q => ?_) (fun q => ?_)
  · have h := xif_f q h
    refine x_iconst (0 : Int32) dX9_longest_19 (by decide) ?_
    refine x_istore_n (pl' := [some (.ref 0), some (.int x1), some (.int (0 : Int32)), none, none, none]) dX9_longest_20 (by decide) rfl ?_
    refine x_iconst (0 : Int32) dX9_longest_21 (by decide) ?_
    refine x_istore_n (pl' := [some (.ref 0), some (.int x1), some (.int (0 : Int32)), some (.int (0 : Int32)), none, none]) dX9_longest_22 (by decide) rfl ?_
    refine x_bipush (-2 : Int32) dX9_longest_23 (by decide) ?_
    refine x_istore (pl' := [some (.ref 0), some (.int x1), some (.int (0 : Int32)), some (.int (0 : Int32)), some (.int (-2 : Int32)), none]) dX9_longest_25 (by decide) rfl ?_
    refine x_aload_n dX9_longest_27 rfl ?_
    refine x_aload_n dX9_longest_28 rfl ?_
    refine x_get fX9_21 dX9_longest_29 rfl rfl rfl ?_
    obtain ⟨z32, y32, h⟩ := xbind h
    refine x_callV (t_hN_X9_starts  z32 y32 (d + 1)) kX9_318 dX9_longest_32 rfl rfl rfl rfl rfl (Nat.le_of_ble_eq_true rfl) (Nat.le_of_ble_eq_true rfl) rfl rfl (Or.inl rfl) ?_
    refine x_iconst (0 : Int32) dX9_longest_35 (by decide) ?_
    refine x_istore (pl' := [some (.ref 0), some (.int x1), some (.int (0 : Int32)), some (.int (0 : Int32)), some (.int (-2 : Int32)), some (.int (0 : Int32))]) dX9_longest_36 (by decide) rfl ?_
    refine x_weak (pl2 := [some (.ref 0), some (.int x1), some (.int (0 : Int32)), some (.int (0 : Int32)), some (.int (-2 : Int32)), some (.int (0 : Int32))]) ⟨rfl, rfl, rfl, rfl, rfl, rfl, trivial⟩ ?_
    refine lp_hN_X9_longest_38 d _ x1 res _ (fun l2_38 l3_38 l4_38 l5_38 h => ?_) 200000 (0 : Int32) (0 : Int32) (-2 : Int32) (0 : Int32) h
    refine x_aload_n dX9_longest_102 rfl ?_
    refine x_iload_n dX9_longest_103 rfl ?_
    obtain ⟨z104, y104, h⟩ := xbind h
    refine x_callV (t_hN_X9_good l2_38 z104 y104 (d + 1)) kX9_55 dX9_longest_104 rfl rfl rfl rfl rfl (Nat.le_of_ble_eq_true rfl) (Nat.le_of_ble_eq_true rfl) rfl rfl (Or.inl rfl) ?_
    cases h
    exact x_iret2 dX9_longest_107 rfl rfl
  · have h := xif_t q h
    refine x_aload_n dX9_longest_13 rfl ?_
    refine x_iconst (1 : Int32) dX9_longest_14 (by decide) ?_
    obtain ⟨z15, y15, h⟩ := xbind h
    refine x_callV (t_hN_X9_refused (1 : Int32) z15 y15 (d + 1)) kX9_51 dX9_longest_15 rfl rfl rfl rfl rfl (Nat.le_of_ble_eq_true rfl) (Nat.le_of_ble_eq_true rfl) rfl rfl (Or.inl rfl) ?_
    cases h
    exact x_iret2 dX9_longest_18 rfl rfl
noncomputable def e_hN_X9_worstDay (p0 : Int32) (p1 : Int32) (p2 : Int32)  : Option (Int32 × Int32 × Int32 × Int32) :=
  ((e_hN_X9_refused p1 p2 (1 : Int32)).bind fun z14 => some (z14.1, (0 : Int32), z14.2.1, z14.2.2))
set_option maxRecDepth 100000 in
set_option maxHeartbeats 4000000 in
theorem t_hN_X9_worstDay {g0 g1 g2 g3 g4 g5 g6 g7 g8 g9 g10 g11 g12 g13 g14 g15 g16 g17 g18 : Int32} {a0 a1 a2 a3 a4 a5 a6 a7 a8 a9 : (Nat → Int32)} {w0 : Int64} {rv : Value}  (res : Int32 × Int32 × Int32 × Int32) (h : e_hN_X9_worstDay g0 g1 g2  = some res) (d : Nat) : xMet xks YX9_worstDay (d + 2) 0 0 [.ref 0] (hN g0 g1 g2 g3 g4 g5 g6 g7 g8 g9 g10 g11 g12 g13 g14 g15 g16 g17 g18 a0 a1 a2 a3 a4 a5 a6 a7 a8 a9 w0 .null rv) (some (.int res.1)) (hN res.2.1 res.2.2.1 res.2.2.2 g3 g4 g5 g6 g7 g8 g9 g10 g11 g12 g13 g14 g15 g16 g17 g18 a0 a1 a2 a3 a4 a5 a6 a7 a8 a9 w0 .null rv) := by
  unfold e_hN_X9_worstDay at h
  refine xMet_of (pl := [some (.ref 0), none, none, none]) (by decide) (Nat.le_of_ble_eq_true rfl) rfl (Nat.le_of_ble_eq_true rfl) ?_
  refine x_aload_n dX9_worstDay_0 rfl ?_
  refine x_iconst (0 : Int32) dX9_worstDay_1 (by decide) ?_
  refine x_put (h2 := (hN (0 : Int32) g1 g2 g3 g4 g5 g6 g7 g8 g9 g10 g11 g12 g13 g14 g15 g16 g17 g18 a0 a1 a2 a3 a4 a5 a6 a7 a8 a9 w0 .null rv)) fX9_45 dX9_worstDay_2 rfl rfl (Nat.le_of_ble_eq_true rfl : 0 + 1 ≤ _) (fun α => ⟨rfl, rfl⟩) rfl ?_
  refine x_aload_n dX9_worstDay_5 rfl ?_
  refine x_get fX9_316 dX9_worstDay_6 rfl rfl rfl ?_
  refine x_ifnonnullN dX9_worstDay_9 ?_
  refine x_aload_n dX9_worstDay_12 rfl ?_
  refine x_iconst (1 : Int32) dX9_worstDay_13 (by decide) ?_
  obtain ⟨z14, y14, h⟩ := xbind h
  refine x_callV (t_hN_X9_refused (1 : Int32) z14 y14 (d + 0)) kX9_51 dX9_worstDay_14 rfl rfl rfl rfl rfl (Nat.le_of_ble_eq_true rfl) (Nat.le_of_ble_eq_true rfl) rfl rfl (Or.inl rfl) ?_
  cases h
  exact x_iret2 dX9_worstDay_17 rfl rfl
noncomputable def L_hN_X9_owing_37 (p0 : Int32) (p1 : Int32) (p2 : Int32)  (f1 : Int32) (f2 : Int32) (K : Int32 → Int32 → Option (Int32 × Int32 × Int32 × Int32)) : Nat → Int32 → Int32 → Option (Int32 × Int32 × Int32 × Int32)
  | 0, _, _ => none
  | n37 + 1, l3_37, l4_37 => none
noncomputable def e_hN_X9_owing (p0 : Int32) (p1 : Int32) (p2 : Int32) (x1 : Int32) (x2 : Int32) : Option (Int32 × Int32 × Int32 × Int32) :=
  ((e_hN_X9_isPerson x1).bind fun z7 => if z7 = (0 : Int32) then ((e_hN_X9_refused p1 p2 (1 : Int32)).bind fun z28 => some (z28.1, (0 : Int32), z28.2.1, z28.2.2)) else ((e_hN_X9_isPerson x2).bind fun z15 => if z15 = (0 : Int32) then ((e_hN_X9_refused p1 p2 (1 : Int32)).bind fun z28 => some (z28.1, (0 : Int32), z28.2.1, z28.2.2)) else if x1 = x2 then ((e_hN_X9_refused p1 p2 (1 : Int32)).bind fun z28 => some (z28.1, (0 : Int32), z28.2.1, z28.2.2)) else L_hN_X9_owing_37 (0 : Int32) p1 p2 x1 x2 (fun l3_37 l4_37 => none) 200000 (0 : Int32) (0 : Int32)))
set_option maxRecDepth 100000 in
set_option maxHeartbeats 4000000 in
theorem lp_hN_X9_owing_37 {g0 g1 g2 g3 g4 g5 g6 g7 g8 g9 g10 g11 g12 g13 g14 g15 g16 g17 g18 : Int32} {a0 a1 a2 a3 a4 a5 a6 a7 a8 a9 : (Nat → Int32)} {w0 : Int64} {rv : Value} (d n0 : Nat) (f1 : Int32) (f2 : Int32) (res : Int32 × Int32 × Int32 × Int32) (K : Int32 → Int32 → Option (Int32 × Int32 × Int32 × Int32)) (hK : ∀ (l3_37 : Int32) (l4_37 : Int32), K l3_37 l4_37 = some res → xW xks YX9_owing (d + 2) 0 0 n0 (xZ 0 0 n0 (some (.int res.1)) (hN res.2.1 res.2.2.1 res.2.2.2 g3 g4 g5 g6 g7 g8 g9 g10 g11 g12 g13 g14 g15 g16 g17 g18 a0 a1 a2 a3 a4 a5 a6 a7 a8 a9 w0 .null rv)) 0 0 92 [some (.ref 0), none, none, some (.int l3_37), none] [] (hN g0 g1 g2 g3 g4 g5 g6 g7 g8 g9 g10 g11 g12 g13 g14 g15 g16 g17 g18 a0 a1 a2 a3 a4 a5 a6 a7 a8 a9 w0 .null rv)) : ∀ (n : Nat) (l3_37 : Int32) (l4_37 : Int32), L_hN_X9_owing_37 g0 g1 g2 f1 f2 K n l3_37 l4_37 = some res → xW xks YX9_owing (d + 2) 0 0 n0 (xZ 0 0 n0 (some (.int res.1)) (hN res.2.1 res.2.2.1 res.2.2.2 g3 g4 g5 g6 g7 g8 g9 g10 g11 g12 g13 g14 g15 g16 g17 g18 a0 a1 a2 a3 a4 a5 a6 a7 a8 a9 w0 .null rv)) 0 0 37 [some (.ref 0), some (.int f1), some (.int f2), some (.int l3_37), some (.int l4_37)] [] (hN g0 g1 g2 g3 g4 g5 g6 g7 g8 g9 g10 g11 g12 g13 g14 g15 g16 g17 g18 a0 a1 a2 a3 a4 a5 a6 a7 a8 a9 w0 .null rv) := by
  intro n
  induction n with
  | zero =>
    intro l3_37 l4_37 h
    cases (show (none : Option (Int32 × Int32 × Int32 × Int32)) = some res from h)
  | succ n37 ih37 =>
    intro l3_37 l4_37 h
    unfold L_hN_X9_owing_37 at h
    refine x_iload dX9_owing_37 rfl ?_
    refine x_aload_n dX9_owing_39 rfl ?_
    refine x_get fX9_316 dX9_owing_40 rfl rfl rfl ?_
    cases h
set_option maxRecDepth 100000 in
set_option maxHeartbeats 4000000 in
theorem t_hN_X9_owing {g0 g1 g2 g3 g4 g5 g6 g7 g8 g9 g10 g11 g12 g13 g14 g15 g16 g17 g18 : Int32} {a0 a1 a2 a3 a4 a5 a6 a7 a8 a9 : (Nat → Int32)} {w0 : Int64} {rv : Value} (x1 : Int32) (x2 : Int32) (res : Int32 × Int32 × Int32 × Int32) (h : e_hN_X9_owing g0 g1 g2 x1 x2 = some res) (d : Nat) : xMet xks YX9_owing (d + 2) 0 0 [.ref 0, .int x1, .int x2] (hN g0 g1 g2 g3 g4 g5 g6 g7 g8 g9 g10 g11 g12 g13 g14 g15 g16 g17 g18 a0 a1 a2 a3 a4 a5 a6 a7 a8 a9 w0 .null rv) (some (.int res.1)) (hN res.2.1 res.2.2.1 res.2.2.2 g3 g4 g5 g6 g7 g8 g9 g10 g11 g12 g13 g14 g15 g16 g17 g18 a0 a1 a2 a3 a4 a5 a6 a7 a8 a9 w0 .null rv) := by
  unfold e_hN_X9_owing at h
  refine xMet_of (pl := [some (.ref 0), some (.int x1), some (.int x2), none, none]) (by decide) (Nat.le_of_ble_eq_true rfl) rfl (Nat.le_of_ble_eq_true rfl) ?_
  refine x_aload_n dX9_owing_0 rfl ?_
  refine x_iconst (0 : Int32) dX9_owing_1 (by decide) ?_
  refine x_put (h2 := (hN (0 : Int32) g1 g2 g3 g4 g5 g6 g7 g8 g9 g10 g11 g12 g13 g14 g15 g16 g17 g18 a0 a1 a2 a3 a4 a5 a6 a7 a8 a9 w0 .null rv)) fX9_45 dX9_owing_2 rfl rfl (Nat.le_of_ble_eq_true rfl : 0 + 1 ≤ _) (fun α => ⟨rfl, rfl⟩) rfl ?_
  refine x_aload_n dX9_owing_5 rfl ?_
  refine x_iload_n dX9_owing_6 rfl ?_
  obtain ⟨z7, y7, h⟩ := xbind h
  refine x_callV (t_hN_X9_isPerson x1 z7 y7 (d + 0)) kX9_362 dX9_owing_7 rfl rfl rfl rfl rfl (Nat.le_of_ble_eq_true rfl) (Nat.le_of_ble_eq_true rfl) rfl rfl (Or.inl rfl) ?_
  refine x_if_eq 26 dX9_owing_10 (by decide) (fun q => ?_) (fun q => ?_)
  · have h := xif_t q h
    refine x_aload_n dX9_owing_26 rfl ?_
    refine x_iconst (1 : Int32) dX9_owing_27 (by decide) ?_
    obtain ⟨z28, y28, h⟩ := xbind h
    refine x_callV (t_hN_X9_refused (1 : Int32) z28 y28 (d + 0)) kX9_51 dX9_owing_28 rfl rfl rfl rfl rfl (Nat.le_of_ble_eq_true rfl) (Nat.le_of_ble_eq_true rfl) rfl rfl (Or.inl rfl) ?_
    cases h
    exact x_iret2 dX9_owing_31 rfl rfl
  · have h := xif_f q h
    refine x_aload_n dX9_owing_13 rfl ?_
    refine x_iload_n dX9_owing_14 rfl ?_
    obtain ⟨z15, y15, h⟩ := xbind h
    refine x_callV (t_hN_X9_isPerson x2 z15 y15 (d + 0)) kX9_362 dX9_owing_15 rfl rfl rfl rfl rfl (Nat.le_of_ble_eq_true rfl) (Nat.le_of_ble_eq_true rfl) rfl rfl (Or.inl rfl) ?_
    refine x_if_eq 26 dX9_owing_18 (by decide) (fun q => ?_) (fun q => ?_)
    · have h := xif_t q h
      refine x_aload_n dX9_owing_26 rfl ?_
      refine x_iconst (1 : Int32) dX9_owing_27 (by decide) ?_
      obtain ⟨z28, y28, h⟩ := xbind h
      refine x_callV (t_hN_X9_refused (1 : Int32) z28 y28 (d + 0)) kX9_51 dX9_owing_28 rfl rfl rfl rfl rfl (Nat.le_of_ble_eq_true rfl) (Nat.le_of_ble_eq_true rfl) rfl rfl (Or.inl rfl) ?_
      cases h
      exact x_iret2 dX9_owing_31 rfl rfl
    · have h := xif_f q h
      refine x_iload_n dX9_owing_21 rfl ?_
      refine x_iload_n dX9_owing_22 rfl ?_
      refine x_icmp_ne 32 dX9_owing_23 (by decide) (fun q => ?_) (fun q => ?_)
      · have h := xif_f q h
        refine x_iconst (0 : Int32) dX9_owing_32 (by decide) ?_
        refine x_istore_n (pl' := [some (.ref 0), some (.int x1), some (.int x2), some (.int (0 : Int32)), none]) dX9_owing_33 (by decide) rfl ?_
        refine x_iconst (0 : Int32) dX9_owing_34 (by decide) ?_
        refine x_istore (pl' := [some (.ref 0), some (.int x1), some (.int x2), some (.int (0 : Int32)), some (.int (0 : Int32))]) dX9_owing_35 (by decide) rfl ?_
        refine x_weak (pl2 := [some (.ref 0), some (.int x1), some (.int x2), some (.int (0 : Int32)), some (.int (0 : Int32))]) ⟨rfl, rfl, rfl, rfl, rfl, trivial⟩ ?_
        refine lp_hN_X9_owing_37 d _ x1 x2 res _ (fun l3_37 l4_37 h => ?_) 200000 (0 : Int32) (0 : Int32) h
        cases h
      · have h := xif_t q h
        refine x_aload_n dX9_owing_26 rfl ?_
        refine x_iconst (1 : Int32) dX9_owing_27 (by decide) ?_
        obtain ⟨z28, y28, h⟩ := xbind h
        refine x_callV (t_hN_X9_refused (1 : Int32) z28 y28 (d + 0)) kX9_51 dX9_owing_28 rfl rfl rfl rfl rfl (Nat.le_of_ble_eq_true rfl) (Nat.le_of_ble_eq_true rfl) rfl rfl (Or.inl rfl) ?_
        cases h
        exact x_iret2 dX9_owing_31 rfl rfl
noncomputable def L_hN_X9_tries_2 (p0 : (Nat → Int32))   (K : Int32 → (Nat → Int32) → Option ((Nat → Int32))) : Nat → Int32 → (Nat → Int32) → Option ((Nat → Int32))
  | 0, _, _ => none
  | n2 + 1, l1_2, ma2_2 => if (11 : Int32) ≤ l1_2 then K l1_2 ma2_2 else (xix l1_2 11 (xix l1_2 11 (L_hN_X9_tries_2 p0  K n2 (l1_2 + (1 : Int32)) (upd ma2_2 l1_2.toNatClampNeg (p0 l1_2.toNatClampNeg)))))
noncomputable def e_hN_X9_tries (p0 : (Nat → Int32)) (p1 : (Nat → Int32))  : Option ((Nat → Int32)) :=
  L_hN_X9_tries_2 p0  (fun l1_2 ma2_2 => some ma2_2) 200000 (0 : Int32) p1
set_option maxRecDepth 100000 in
set_option maxHeartbeats 4000000 in
theorem lp_hN_X9_tries_2 {g0 g1 g2 g3 g4 g5 g6 g7 g8 g9 g10 g11 g12 g13 g14 g15 g16 g17 g18 : Int32} {a0 a1 a3 a4 a5 a6 a7 a8 a9 : (Nat → Int32)} {w0 : Int64} {rv : Value} (d n0 : Nat)  (res : (Nat → Int32)) (K : Int32 → (Nat → Int32) → Option ((Nat → Int32))) (hK : ∀ (l1_2 : Int32) (ma2_2 : (Nat → Int32)), K l1_2 ma2_2 = some res → xW xks YX9_tries (d + 1) 0 0 n0 (xZ 0 0 n0 none (hN g0 g1 g2 g3 g4 g5 g6 g7 g8 g9 g10 g11 g12 g13 g14 g15 g16 g17 g18 a0 a1 res a3 a4 a5 a6 a7 a8 a9 w0 .null rv)) 0 0 26 [none, none] [] (hN g0 g1 g2 g3 g4 g5 g6 g7 g8 g9 g10 g11 g12 g13 g14 g15 g16 g17 g18 a0 a1 ma2_2 a3 a4 a5 a6 a7 a8 a9 w0 .null rv)) : ∀ (n : Nat) (l1_2 : Int32) (ma2_2 : (Nat → Int32)), L_hN_X9_tries_2 a1  K n l1_2 ma2_2 = some res → xW xks YX9_tries (d + 1) 0 0 n0 (xZ 0 0 n0 none (hN g0 g1 g2 g3 g4 g5 g6 g7 g8 g9 g10 g11 g12 g13 g14 g15 g16 g17 g18 a0 a1 res a3 a4 a5 a6 a7 a8 a9 w0 .null rv)) 0 0 2 [some (.ref 0), some (.int l1_2)] [] (hN g0 g1 g2 g3 g4 g5 g6 g7 g8 g9 g10 g11 g12 g13 g14 g15 g16 g17 g18 a0 a1 ma2_2 a3 a4 a5 a6 a7 a8 a9 w0 .null rv) := by
  intro n
  induction n with
  | zero =>
    intro l1_2 ma2_2 h
    cases (show (none : Option ((Nat → Int32))) = some res from h)
  | succ n2 ih2 =>
    intro l1_2 ma2_2 h
    unfold L_hN_X9_tries_2 at h
    refine x_iload_n dX9_tries_2 rfl ?_
    refine x_bipush (11 : Int32) dX9_tries_3 (by decide) ?_
    refine x_icmp_ge 26 dX9_tries_5 (by decide) (fun q => ?_) (fun q => ?_)
    · have h := xif_t q h
      refine x_weak (pl2 := [none, none]) trivial ?_
      exact hK l1_2 ma2_2 h
    · have h := xif_f q h
      refine x_aload_n dX9_tries_8 rfl ?_
      refine x_get fX9_21 dX9_tries_9 rfl rfl rfl ?_
      refine x_iload_n dX9_tries_12 rfl ?_
      refine x_aload_n dX9_tries_13 rfl ?_
      refine x_get fX9_17 dX9_tries_14 rfl rfl rfl ?_
      refine x_iload_n dX9_tries_17 rfl ?_
      obtain ⟨q18, h⟩ := xix_of h
      refine x_iald dX9_tries_18 rfl q18 ?_
      obtain ⟨q19, h⟩ := xix_of h
      refine x_iast (h2 := (hN g0 g1 g2 g3 g4 g5 g6 g7 g8 g9 g10 g11 g12 g13 g14 g15 g16 g17 g18 a0 a1 (upd ma2_2 l1_2.toNatClampNeg (a1 l1_2.toNatClampNeg)) a3 a4 a5 a6 a7 a8 a9 w0 .null rv)) dX9_tries_19 rfl q19 rfl ?_
      refine x_iincK (1 : Int32) (pl' := [some (.ref 0), some (.int (l1_2 + (1 : Int32)))]) dX9_tries_20 rfl (by decide) (by decide) rfl ?_
      refine x_goto 2 dX9_tries_23 (by decide) ?_
      refine x_weak (pl2 := [some (.ref 0), some (.int (l1_2 + (1 : Int32)))]) ⟨rfl, rfl, trivial⟩ ?_
      exact ih2 (l1_2 + (1 : Int32)) (upd ma2_2 l1_2.toNatClampNeg (a1 l1_2.toNatClampNeg)) h
set_option maxRecDepth 100000 in
set_option maxHeartbeats 4000000 in
theorem t_hN_X9_tries {g0 g1 g2 g3 g4 g5 g6 g7 g8 g9 g10 g11 g12 g13 g14 g15 g16 g17 g18 : Int32} {a0 a1 a2 a3 a4 a5 a6 a7 a8 a9 : (Nat → Int32)} {w0 : Int64} {rv : Value}  (res : (Nat → Int32)) (h : e_hN_X9_tries a1 a2  = some res) (d : Nat) : xMet xks YX9_tries (d + 1) 0 0 [.ref 0] (hN g0 g1 g2 g3 g4 g5 g6 g7 g8 g9 g10 g11 g12 g13 g14 g15 g16 g17 g18 a0 a1 a2 a3 a4 a5 a6 a7 a8 a9 w0 .null rv) none (hN g0 g1 g2 g3 g4 g5 g6 g7 g8 g9 g10 g11 g12 g13 g14 g15 g16 g17 g18 a0 a1 res a3 a4 a5 a6 a7 a8 a9 w0 .null rv) := by
  unfold e_hN_X9_tries at h
  refine xMet_of (pl := [some (.ref 0), none]) (by decide) (Nat.le_of_ble_eq_true rfl) rfl (Nat.le_of_ble_eq_true rfl) ?_
  refine x_iconst (0 : Int32) dX9_tries_0 (by decide) ?_
  refine x_istore_n (pl' := [some (.ref 0), some (.int (0 : Int32))]) dX9_tries_1 (by decide) rfl ?_
  refine x_weak (pl2 := [some (.ref 0), some (.int (0 : Int32))]) ⟨rfl, rfl, trivial⟩ ?_
  refine lp_hN_X9_tries_2 d _  res _ (fun l1_2 ma2_2 h => ?_) 200000 (0 : Int32) a2 h
  cases h
  exact x_vret2 dX9_tries_26 rfl rfl
noncomputable def e_hN_X9_change (p0 : Int32) (p1 : (Nat → Int32)) (p2 : (Nat → Int32)) (p3 : Int32) (p4 : Int32) (x1 : Int32) (x2 : Int32) : Option (Int32 × Int32 × (Nat → Int32) × Int32 × Int32) :=
  ((e_hN_X9_isPerson x1).bind fun z7 => if z7 = (0 : Int32) then ((e_hN_X9_refused p3 p4 (1 : Int32)).bind fun z15 => some ((-1000 : Int32), (0 : Int32), p2, z15.2.1, z15.2.2)) else ((e_hN_X9_tries p1 p2).bind fun z24 => (e_hN_X9_ends x2).bind fun z33 => (e_hN_X9_landsIn x1).bind fun z43 => (e_hN_X9_landsIn x1).bind fun z52 => (e_hN_X9_good p3 p4 (z43 - z52)).bind fun z56 => some (z56.1, (0 : Int32), z24, z56.2.1, z56.2.2)))
set_option maxRecDepth 100000 in
set_option maxHeartbeats 4000000 in
theorem t_hN_X9_change {g0 g1 g2 g3 g4 g5 g6 g7 g8 g9 g10 g11 g12 g13 g14 g15 g16 g17 g18 : Int32} {a0 a1 a2 a3 a4 a5 a6 a7 a8 a9 : (Nat → Int32)} {w0 : Int64} {rv : Value} (x1 : Int32) (x2 : Int32) (res : Int32 × Int32 × (Nat → Int32) × Int32 × Int32) (h : e_hN_X9_change g0 a1 a2 g1 g2 x1 x2 = some res) (d : Nat) : xMet xks YX9_change (d + 2) 0 0 [.ref 0, .int x1, .int x2] (hN g0 g1 g2 g3 g4 g5 g6 g7 g8 g9 g10 g11 g12 g13 g14 g15 g16 g17 g18 a0 a1 a2 a3 a4 a5 a6 a7 a8 a9 w0 .null rv) (some (.int res.1)) (hN res.2.1 res.2.2.2.1 res.2.2.2.2 g3 g4 g5 g6 g7 g8 g9 g10 g11 g12 g13 g14 g15 g16 g17 g18 a0 a1 res.2.2.1 a3 a4 a5 a6 a7 a8 a9 w0 .null rv) := by
  unfold e_hN_X9_change at h
  refine xMet_of (pl := [some (.ref 0), some (.int x1), some (.int x2)]) (by decide) (Nat.le_of_ble_eq_true rfl) rfl (Nat.le_of_ble_eq_true rfl) ?_
  refine x_aload_n dX9_change_0 rfl ?_
  refine x_iconst (0 : Int32) dX9_change_1 (by decide) ?_
  refine x_put (h2 := (hN (0 : Int32) g1 g2 g3 g4 g5 g6 g7 g8 g9 g10 g11 g12 g13 g14 g15 g16 g17 g18 a0 a1 a2 a3 a4 a5 a6 a7 a8 a9 w0 .null rv)) fX9_45 dX9_change_2 rfl rfl (Nat.le_of_ble_eq_true rfl : 0 + 1 ≤ _) (fun α => ⟨rfl, rfl⟩) rfl ?_
  refine x_aload_n dX9_change_5 rfl ?_
  refine x_iload_n dX9_change_6 rfl ?_
  obtain ⟨z7, y7, h⟩ := xbind h
  refine x_callV (t_hN_X9_isPerson x1 z7 y7 (d + 0)) kX9_362 dX9_change_7 rfl rfl rfl rfl rfl (Nat.le_of_ble_eq_true rfl) (Nat.le_of_ble_eq_true rfl) rfl rfl (Or.inl rfl) ?_
  refine x_if_ne 23 dX9_change_10 (by decide) (fun q => ?_) (fun q => ?_)
  · have h := xif_f q h
    refine x_aload_n dX9_change_23 rfl ?_
    obtain ⟨z24, y24, h⟩ := xbind h
    refine x_callV (t_hN_X9_tries  z24 y24 (d + 0)) kX9_393 dX9_change_24 rfl rfl rfl rfl rfl (Nat.le_of_ble_eq_true rfl) (Nat.le_of_ble_eq_true rfl) rfl rfl (Or.inl rfl) ?_
    refine x_aload_n dX9_change_27 rfl ?_
    refine x_aload_n dX9_change_28 rfl ?_
    refine x_get fX9_21 dX9_change_29 rfl rfl rfl ?_
    refine x_iload_n dX9_change_32 rfl ?_
    obtain ⟨z33, y33, h⟩ := xbind h
    refine x_callV (t_hN_X9_ends x2 z33 y33 (d + 0)) kX9_352 dX9_change_33 rfl rfl rfl rfl rfl (Nat.le_of_ble_eq_true rfl) (Nat.le_of_ble_eq_true rfl) rfl rfl (Or.inl rfl) ?_
    refine x_aload_n dX9_change_36 rfl ?_
    refine x_aload_n dX9_change_37 rfl ?_
    refine x_aload_n dX9_change_38 rfl ?_
    refine x_get fX9_21 dX9_change_39 rfl rfl rfl ?_
    refine x_iload_n dX9_change_42 rfl ?_
    obtain ⟨z43, y43, h⟩ := xbind h
    refine x_callV (t_hN_X9_landsIn_2 x1 z43 y43 (d + 0)) kX9_365 dX9_change_43 rfl rfl rfl rfl rfl (Nat.le_of_ble_eq_true rfl) (Nat.le_of_ble_eq_true rfl) rfl rfl (Or.inl rfl) ?_
    refine x_aload_n dX9_change_46 rfl ?_
    refine x_aload_n dX9_change_47 rfl ?_
    refine x_get fX9_17 dX9_change_48 rfl rfl rfl ?_
    refine x_iload_n dX9_change_51 rfl ?_
    obtain ⟨z52, y52, h⟩ := xbind h
    refine x_callV (t_hN_X9_landsIn x1 z52 y52 (d + 0)) kX9_365 dX9_change_52 rfl rfl rfl rfl rfl (Nat.le_of_ble_eq_true rfl) (Nat.le_of_ble_eq_true rfl) rfl rfl (Or.inl rfl) ?_
    refine x_isub dX9_change_55 ?_
    obtain ⟨z56, y56, h⟩ := xbind h
    refine x_callV (t_hN_X9_good (z43 - z52) z56 y56 (d + 0)) kX9_55 dX9_change_56 rfl rfl rfl rfl rfl (Nat.le_of_ble_eq_true rfl) (Nat.le_of_ble_eq_true rfl) rfl rfl (Or.inl rfl) ?_
    cases h
    exact x_iret2 dX9_change_59 rfl rfl
  · have h := xif_t q h
    refine x_aload_n dX9_change_13 rfl ?_
    refine x_iconst (1 : Int32) dX9_change_14 (by decide) ?_
    obtain ⟨z15, y15, h⟩ := xbind h
    refine x_callV (t_hN_X9_refused (1 : Int32) z15 y15 (d + 0)) kX9_51 dX9_change_15 rfl rfl rfl rfl rfl (Nat.le_of_ble_eq_true rfl) (Nat.le_of_ble_eq_true rfl) rfl rfl (Or.inl rfl) ?_
    refine x_pop dX9_change_18 rfl ?_
    refine x_sipush (-1000 : Int32) dX9_change_19 (by decide) ?_
    cases h
    exact x_iret2 dX9_change_22 rfl rfl
noncomputable def L_hN_X9_lapsesIn_25 (p0 : Int32) (p1 : (Nat → Int32)) (p2 : (Nat → Int32)) (p3 : Int32) (p4 : Int32)  (f1 : Int32) (K : Int32 → Option (Int32 × Int32 × (Nat → Int32) × Int32 × Int32)) : Nat → Int32 → Option (Int32 × Int32 × (Nat → Int32) × Int32 × Int32)
  | 0, _ => none
  | n25 + 1, l2_25 => if (30 : Int32) < l2_25 then K l2_25 else (xix ((5 : Int32) + f1) 11 (if (p2 ((5 : Int32) + f1).toNatClampNeg) = (-2 : Int32) then ((e_hN_X9_good p3 p4 l2_25).bind fun z46 => some (z46.1, p0, p2, z46.2.1, z46.2.2)) else ((e_hN_X9_ends (0 : Int32)).bind fun z56 => L_hN_X9_lapsesIn_25 p0 p1 p2 p3 p4 f1 K n25 (l2_25 + (1 : Int32)))))
noncomputable def e_hN_X9_lapsesIn (p0 : Int32) (p1 : (Nat → Int32)) (p2 : (Nat → Int32)) (p3 : Int32) (p4 : Int32) (x1 : Int32) : Option (Int32 × Int32 × (Nat → Int32) × Int32 × Int32) :=
  ((e_hN_X9_isUmbrella x1).bind fun z7 => if z7 = (0 : Int32) then ((e_hN_X9_refused p3 p4 (1 : Int32)).bind fun z15 => some (z15.1, (0 : Int32), p2, z15.2.1, z15.2.2)) else ((e_hN_X9_tries p1 p2).bind fun z20 => L_hN_X9_lapsesIn_25 (0 : Int32) p1 z20 p3 p4 x1 (fun l2_25 => ((e_hN_X9_good p3 p4 (-2 : Int32)).bind fun z68 => some (z68.1, (0 : Int32), z20, z68.2.1, z68.2.2))) 200000 (0 : Int32)))
set_option maxRecDepth 100000 in
set_option maxHeartbeats 4000000 in
theorem lp_hN_X9_lapsesIn_25 {g0 g1 g2 g3 g4 g5 g6 g7 g8 g9 g10 g11 g12 g13 g14 g15 g16 g17 g18 : Int32} {a0 a1 a2 a3 a4 a5 a6 a7 a8 a9 : (Nat → Int32)} {w0 : Int64} {rv : Value} (d n0 : Nat) (f1 : Int32) (res : Int32 × Int32 × (Nat → Int32) × Int32 × Int32) (K : Int32 → Option (Int32 × Int32 × (Nat → Int32) × Int32 × Int32)) (hK : ∀ (l2_25 : Int32), K l2_25 = some res → xW xks YX9_lapsesIn (d + 2) 0 0 n0 (xZ 0 0 n0 (some (.int res.1)) (hN res.2.1 res.2.2.2.1 res.2.2.2.2 g3 g4 g5 g6 g7 g8 g9 g10 g11 g12 g13 g14 g15 g16 g17 g18 a0 a1 res.2.2.1 a3 a4 a5 a6 a7 a8 a9 w0 .null rv)) 0 0 65 [some (.ref 0), none, none] [] (hN g0 g1 g2 g3 g4 g5 g6 g7 g8 g9 g10 g11 g12 g13 g14 g15 g16 g17 g18 a0 a1 a2 a3 a4 a5 a6 a7 a8 a9 w0 .null rv)) : ∀ (n : Nat) (l2_25 : Int32), L_hN_X9_lapsesIn_25 g0 a1 a2 g1 g2 f1 K n l2_25 = some res → xW xks YX9_lapsesIn (d + 2) 0 0 n0 (xZ 0 0 n0 (some (.int res.1)) (hN res.2.1 res.2.2.2.1 res.2.2.2.2 g3 g4 g5 g6 g7 g8 g9 g10 g11 g12 g13 g14 g15 g16 g17 g18 a0 a1 res.2.2.1 a3 a4 a5 a6 a7 a8 a9 w0 .null rv)) 0 0 25 [some (.ref 0), some (.int f1), some (.int l2_25)] [] (hN g0 g1 g2 g3 g4 g5 g6 g7 g8 g9 g10 g11 g12 g13 g14 g15 g16 g17 g18 a0 a1 a2 a3 a4 a5 a6 a7 a8 a9 w0 .null rv) := by
  intro n
  induction n with
  | zero =>
    intro l2_25 h
    cases (show (none : Option (Int32 × Int32 × (Nat → Int32) × Int32 × Int32)) = some res from h)
  | succ n25 ih25 =>
    intro l2_25 h
    unfold L_hN_X9_lapsesIn_25 at h
    refine x_iload_n dX9_lapsesIn_25 rfl ?_
    refine x_bipush (30 : Int32) dX9_lapsesIn_26 (by decide) ?_
    refine x_icmp_gt 65 dX9_lapsesIn_28 (by decide) (fun q => ?_) (fun q => ?_)
    · have h := xif_t q h
      refine x_weak (pl2 := [some (.ref 0), none, none]) ⟨rfl, trivial⟩ ?_
      exact hK l2_25 h
    · have h := xif_f q h
      refine x_aload_n dX9_lapsesIn_31 rfl ?_
      refine x_get fX9_21 dX9_lapsesIn_32 rfl rfl rfl ?_
      refine x_iconst (5 : Int32) dX9_lapsesIn_35 (by decide) ?_
      refine x_iload_n dX9_lapsesIn_36 rfl ?_
      refine x_iadd dX9_lapsesIn_37 ?_
      obtain ⟨q38, h⟩ := xix_of h
      refine x_iald dX9_lapsesIn_38 rfl q38 ?_
      refine x_bipush (-2 : Int32) dX9_lapsesIn_39 (by decide) ?_
      refine x_icmp_ne 50 dX9_lapsesIn_41 (by decide) (fun q => ?_) (fun q => ?_)
      · have h := xif_f q h
        refine x_aload_n dX9_lapsesIn_50 rfl ?_
        refine x_aload_n dX9_lapsesIn_51 rfl ?_
        refine x_get fX9_21 dX9_lapsesIn_52 rfl rfl rfl ?_
        refine x_iconst (0 : Int32) dX9_lapsesIn_55 (by decide) ?_
        obtain ⟨z56, y56, h⟩ := xbind h
        refine x_callV (t_hN_X9_ends (0 : Int32) z56 y56 (d + 0)) kX9_352 dX9_lapsesIn_56 rfl rfl rfl rfl rfl (Nat.le_of_ble_eq_true rfl) (Nat.le_of_ble_eq_true rfl) rfl rfl (Or.inl rfl) ?_
        refine x_iincK (1 : Int32) (pl' := [some (.ref 0), some (.int f1), some (.int (l2_25 + (1 : Int32)))]) dX9_lapsesIn_59 rfl (by decide) (by decide) rfl ?_
        refine x_goto 25 dX9_lapsesIn_62 (by decide) ?_
        refine x_weak (pl2 := [some (.ref 0), some (.int f1), some (.int (l2_25 + (1 : Int32)))]) ⟨rfl, rfl, rfl, trivial⟩ ?_
        exact ih25 (l2_25 + (1 : Int32)) h
      · have h := xif_t q h
        refine x_aload_n dX9_lapsesIn_44 rfl ?_
        refine x_iload_n dX9_lapsesIn_45 rfl ?_
        obtain ⟨z46, y46, h⟩ := xbind h
        refine x_callV (t_hN_X9_good l2_25 z46 y46 (d + 0)) kX9_55 dX9_lapsesIn_46 rfl rfl rfl rfl rfl (Nat.le_of_ble_eq_true rfl) (Nat.le_of_ble_eq_true rfl) rfl rfl (Or.inl rfl) ?_
        cases h
        exact x_iret2 dX9_lapsesIn_49 rfl rfl
set_option maxRecDepth 100000 in
set_option maxHeartbeats 4000000 in
theorem t_hN_X9_lapsesIn {g0 g1 g2 g3 g4 g5 g6 g7 g8 g9 g10 g11 g12 g13 g14 g15 g16 g17 g18 : Int32} {a0 a1 a2 a3 a4 a5 a6 a7 a8 a9 : (Nat → Int32)} {w0 : Int64} {rv : Value} (x1 : Int32) (res : Int32 × Int32 × (Nat → Int32) × Int32 × Int32) (h : e_hN_X9_lapsesIn g0 a1 a2 g1 g2 x1 = some res) (d : Nat) : xMet xks YX9_lapsesIn (d + 2) 0 0 [.ref 0, .int x1] (hN g0 g1 g2 g3 g4 g5 g6 g7 g8 g9 g10 g11 g12 g13 g14 g15 g16 g17 g18 a0 a1 a2 a3 a4 a5 a6 a7 a8 a9 w0 .null rv) (some (.int res.1)) (hN res.2.1 res.2.2.2.1 res.2.2.2.2 g3 g4 g5 g6 g7 g8 g9 g10 g11 g12 g13 g14 g15 g16 g17 g18 a0 a1 res.2.2.1 a3 a4 a5 a6 a7 a8 a9 w0 .null rv) := by
  unfold e_hN_X9_lapsesIn at h
  refine xMet_of (pl := [some (.ref 0), some (.int x1), none]) (by decide) (Nat.le_of_ble_eq_true rfl) rfl (Nat.le_of_ble_eq_true rfl) ?_
  refine x_aload_n dX9_lapsesIn_0 rfl ?_
  refine x_iconst (0 : Int32) dX9_lapsesIn_1 (by decide) ?_
  refine x_put (h2 := (hN (0 : Int32) g1 g2 g3 g4 g5 g6 g7 g8 g9 g10 g11 g12 g13 g14 g15 g16 g17 g18 a0 a1 a2 a3 a4 a5 a6 a7 a8 a9 w0 .null rv)) fX9_45 dX9_lapsesIn_2 rfl rfl (Nat.le_of_ble_eq_true rfl : 0 + 1 ≤ _) (fun α => ⟨rfl, rfl⟩) rfl ?_
  refine x_aload_n dX9_lapsesIn_5 rfl ?_
  refine x_iload_n dX9_lapsesIn_6 rfl ?_
  obtain ⟨z7, y7, h⟩ := xbind h
  refine x_callV (t_hN_X9_isUmbrella x1 z7 y7 (d + 0)) kX9_359 dX9_lapsesIn_7 rfl rfl rfl rfl rfl (Nat.le_of_ble_eq_true rfl) (Nat.le_of_ble_eq_true rfl) rfl rfl (Or.inl rfl) ?_
  refine x_if_ne 19 dX9_lapsesIn_10 (by decide) (fun q => ?_) (fun q => ?_)
  · have h := xif_f q h
    refine x_aload_n dX9_lapsesIn_19 rfl ?_
    obtain ⟨z20, y20, h⟩ := xbind h
    refine x_callV (t_hN_X9_tries  z20 y20 (d + 0)) kX9_393 dX9_lapsesIn_20 rfl rfl rfl rfl rfl (Nat.le_of_ble_eq_true rfl) (Nat.le_of_ble_eq_true rfl) rfl rfl (Or.inl rfl) ?_
    refine x_iconst (0 : Int32) dX9_lapsesIn_23 (by decide) ?_
    refine x_istore_n (pl' := [some (.ref 0), some (.int x1), some (.int (0 : Int32))]) dX9_lapsesIn_24 (by decide) rfl ?_
    refine x_weak (pl2 := [some (.ref 0), some (.int x1), some (.int (0 : Int32))]) ⟨rfl, rfl, rfl, trivial⟩ ?_
    refine lp_hN_X9_lapsesIn_25 d _ x1 res _ (fun l2_25 h => ?_) 200000 (0 : Int32) h
    refine x_aload_n dX9_lapsesIn_65 rfl ?_
    refine x_bipush (-2 : Int32) dX9_lapsesIn_66 (by decide) ?_
    obtain ⟨z68, y68, h⟩ := xbind h
    refine x_callV (t_hN_X9_good (-2 : Int32) z68 y68 (d + 0)) kX9_55 dX9_lapsesIn_68 rfl rfl rfl rfl rfl (Nat.le_of_ble_eq_true rfl) (Nat.le_of_ble_eq_true rfl) rfl rfl (Or.inl rfl) ?_
    cases h
    exact x_iret2 dX9_lapsesIn_71 rfl rfl
  · have h := xif_t q h
    refine x_aload_n dX9_lapsesIn_13 rfl ?_
    refine x_iconst (1 : Int32) dX9_lapsesIn_14 (by decide) ?_
    obtain ⟨z15, y15, h⟩ := xbind h
    refine x_callV (t_hN_X9_refused (1 : Int32) z15 y15 (d + 0)) kX9_51 dX9_lapsesIn_15 rfl rfl rfl rfl rfl (Nat.le_of_ble_eq_true rfl) (Nat.le_of_ble_eq_true rfl) rfl rfl (Or.inl rfl) ?_
    cases h
    exact x_iret2 dX9_lapsesIn_18 rfl rfl
