noncomputable def L_hA_X6_place_90 (p0 : Int32) (p1 : Int32) (p2 : Int32) (p4 : (Nat → Int32)) (p5 : Int32) (p6 : (Nat → Int32)) (p7 : (Nat → Int32)) (p9 : (Nat → Int32))  (er : Int32 → Int32 → Int32 → (Nat → Int32) → (Nat → Int32) → Int32 → (Nat → Int32) → (Nat → Int32) → (Nat → Int32) → (Nat → Int32) → Int32 → Int32 → Int32 → Option (Int32 × Int32 × (Nat → Int32) × (Nat → Int32) × (Nat → Int32))) (f3 : Int32) (f4 : Int32) (f5 : Int32) (f6 : Int32) (K : Int32 → (Nat → Int32) → (Nat → Int32) → Option (Int32 × Int32 × (Nat → Int32) × (Nat → Int32) × (Nat → Int32))) : Nat → Int32 → (Nat → Int32) → (Nat → Int32) → Option (Int32 × Int32 × (Nat → Int32) × (Nat → Int32) × (Nat → Int32))
  | 0, _, _, _ => none
  | n90 + 1, l7, ma34, ma35 => if p5 ≤ l7 then K l7 ma34 ma35 else if f6 = (0 : Int32) then K l7 ma34 ma35 else ((e_hA_X6_dangerOf p6 p7 f4 l7).bind fun z112 => xix l7 5 (if (ma34 l7.toNatClampNeg) ≤ (0 : Int32) then L_hA_X6_place_90 p0 p1 p2 p4 p5 p6 p7 p9 er f3 f4 f5 f6 K n90 (l7 + (1 : Int32)) ma34 ma35 else if p1 = (0 : Int32) then (xix l7 5 (xix l7 5 (xix f4 6 ((er p0 p1 p2 (upd ma35 f4.toNatClampNeg l7) p4 p5 p6 p7 (upd ma34 l7.toNatClampNeg ((ma34 l7.toNatClampNeg) - (1 : Int32))) p9 f3 (f4 + (1 : Int32)) (f5 + z112)).bind fun z184 => xix l7 5 (xix l7 5 (L_hA_X6_place_90 p0 p1 p2 p4 p5 p6 p7 p9 er f3 f4 f5 f6 K n90 (l7 + (1 : Int32)) (upd z184.2.2.2.1 l7.toNatClampNeg ((z184.2.2.2.1 l7.toNatClampNeg) + (1 : Int32))) z184.2.2.2.2)))))) else (xix (f4 + (1 : Int32)) 7 (if p2 ≤ ((f5 + z112) + (p9 (f4 + (1 : Int32)).toNatClampNeg)) then L_hA_X6_place_90 p0 p1 p2 p4 p5 p6 p7 p9 er f3 f4 f5 f6 K n90 (l7 + (1 : Int32)) ma34 ma35 else (xix l7 5 (xix l7 5 (xix f4 6 ((er p0 p1 p2 (upd ma35 f4.toNatClampNeg l7) p4 p5 p6 p7 (upd ma34 l7.toNatClampNeg ((ma34 l7.toNatClampNeg) - (1 : Int32))) p9 f3 (f4 + (1 : Int32)) (f5 + z112)).bind fun z184 => xix l7 5 (xix l7 5 (L_hA_X6_place_90 p0 p1 p2 p4 p5 p6 p7 p9 er f3 f4 f5 f6 K n90 (l7 + (1 : Int32)) (upd z184.2.2.2.1 l7.toNatClampNeg ((z184.2.2.2.1 l7.toNatClampNeg) + (1 : Int32))) z184.2.2.2.2))))))))))
noncomputable def e_hA_X6_place : Nat → Int32 → Int32 → Int32 → (Nat → Int32) → (Nat → Int32) → Int32 → (Nat → Int32) → (Nat → Int32) → (Nat → Int32) → (Nat → Int32) → Int32 → Int32 → Int32 → Option (Int32 × Int32 × (Nat → Int32) × (Nat → Int32) × (Nat → Int32))
  | 0, _, _, _, _, _, _, _, _, _, _, _, _, _ => none
  | n + 1, p0, p1, p2, p3, p4, p5, p6, p7, p8, p9, x3, x4, x5 => if p0 ≤ x4 then some ((1 : Int32), x5, (va_cpy p3 p4 0 0 6), p8, p3) else if x4 < (6 : Int32) then if ((x3 >>> (x4 &&& 31)) &&& (1 : Int32)) = (1 : Int32) then if (1 : Int32) = (0 : Int32) then (xix x4 6 ((e_hA_X6_place n p0 p1 p2 (upd p3 x4.toNatClampNeg (-2 : Int32)) p4 p5 p6 p7 p8 p9 x3 (x4 + (1 : Int32)) x5).bind fun z84 => L_hA_X6_place_90 p0 z84.1 z84.2.1 z84.2.2.1 p5 p6 p7 p9 (e_hA_X6_place n) x3 x4 x5 (1 : Int32) (fun l7 ma34 ma35 => some (z84.1, z84.2.1, z84.2.2.1, ma34, ma35)) 200000 (0 : Int32) z84.2.2.2.1 z84.2.2.2.2)) else L_hA_X6_place_90 p0 p1 p2 p4 p5 p6 p7 p9 (e_hA_X6_place n) x3 x4 x5 (1 : Int32) (fun l7 ma34 ma35 => some (p1, p2, p4, ma34, ma35)) 200000 (0 : Int32) p8 p3 else if (0 : Int32) = (0 : Int32) then (xix x4 6 ((e_hA_X6_place n p0 p1 p2 (upd p3 x4.toNatClampNeg (-2 : Int32)) p4 p5 p6 p7 p8 p9 x3 (x4 + (1 : Int32)) x5).bind fun z84 => L_hA_X6_place_90 p0 z84.1 z84.2.1 z84.2.2.1 p5 p6 p7 p9 (e_hA_X6_place n) x3 x4 x5 (0 : Int32) (fun l7 ma34 ma35 => some (z84.1, z84.2.1, z84.2.2.1, ma34, ma35)) 200000 (0 : Int32) z84.2.2.2.1 z84.2.2.2.2)) else L_hA_X6_place_90 p0 p1 p2 p4 p5 p6 p7 p9 (e_hA_X6_place n) x3 x4 x5 (0 : Int32) (fun l7 ma34 ma35 => some (p1, p2, p4, ma34, ma35)) 200000 (0 : Int32) p8 p3 else some ((1 : Int32), x5, (va_cpy p3 p4 0 0 6), p8, p3)
set_option maxRecDepth 100000 in
set_option maxHeartbeats 4000000 in
theorem lp_hA_X6_place_90 {g0 g1 g2 g3 g4 g5 g6 g7 g8 g9 g10 g11 g12 g13 g14 g15 g16 g17 g18 g19 g20 g21 g22 g23 g24 g25 g26 g27 g28 g29 g30 g31 g32 g33 g34 g35 g36 : Int32} {a0 a1 a2 a3 a4 a5 a6 a7 a8 a9 a10 a11 a12 a13 a14 a15 a16 a17 a18 a19 a20 a21 a22 a23 a24 a25 a26 a27 a28 a29 a30 a31 a32 a33 a36 a37 a38 a39 : (Nat → Int32)} {b0 b1 b2 b3 b4 : (Nat → Int64)} {w0 : Int64} (d n0 : Nat) (nr : Nat) (er : Int32 → Int32 → Int32 → (Nat → Int32) → (Nat → Int32) → Int32 → (Nat → Int32) → (Nat → Int32) → (Nat → Int32) → (Nat → Int32) → Int32 → Int32 → Int32 → Option (Int32 × Int32 × (Nat → Int32) × (Nat → Int32) × (Nat → Int32))) (ih : ∀ (g0 g1 g2 g3 g4 g5 g6 g7 g8 g9 g10 g11 g12 g13 g14 g15 g16 g17 g18 g19 g20 g21 g22 g23 g24 g25 g26 g27 g28 g29 g30 g31 g32 g33 g34 g35 g36 : Int32) (a0 a1 a2 a3 a4 a5 a6 a7 a8 a9 a10 a11 a12 a13 a14 a15 a16 a17 a18 a19 a20 a21 a22 a23 a24 a25 a26 a27 a28 a29 a30 a31 a32 a33 a34 a35 a36 a37 a38 a39 : (Nat → Int32)) (b0 b1 b2 b3 b4 : (Nat → Int64)) (w0 : Int64) (x3 : Int32) (x4 : Int32) (x5 : Int32) (res : Int32 × Int32 × (Nat → Int32) × (Nat → Int32) × (Nat → Int32)), er g3 g28 g29 a35 a36 g4 a28 a2 a34 a37 x3 x4 x5 = some res → xMet xks YX6_place (d + nr + 1) 0 0 [.ref 49, .ref 1, .ref 37, .int x3, .int x4, .int x5] (hA g0 g1 g2 g3 g4 g5 g6 g7 g8 g9 g10 g11 g12 g13 g14 g15 g16 g17 g18 g19 g20 g21 g22 g23 g24 g25 g26 g27 g28 g29 g30 g31 g32 g33 g34 g35 g36 a0 a1 a2 a3 a4 a5 a6 a7 a8 a9 a10 a11 a12 a13 a14 a15 a16 a17 a18 a19 a20 a21 a22 a23 a24 a25 a26 a27 a28 a29 a30 a31 a32 a33 a34 a35 a36 a37 a38 a39 b0 b1 b2 b3 b4 w0 (.ref 19) (.ref 1)) none (hA g0 g1 g2 g3 g4 g5 g6 g7 g8 g9 g10 g11 g12 g13 g14 g15 g16 g17 g18 g19 g20 g21 g22 g23 g24 g25 g26 g27 res.1 res.2.1 g30 g31 g32 g33 g34 g35 g36 a0 a1 a2 a3 a4 a5 a6 a7 a8 a9 a10 a11 a12 a13 a14 a15 a16 a17 a18 a19 a20 a21 a22 a23 a24 a25 a26 a27 a28 a29 a30 a31 a32 a33 res.2.2.2.1 res.2.2.2.2 res.2.2.1 a37 a38 a39 b0 b1 b2 b3 b4 w0 (.ref 19) (.ref 1))) (f3 : Int32) (f4 : Int32) (f5 : Int32) (f6 : Int32) (res : Int32 × Int32 × (Nat → Int32) × (Nat → Int32) × (Nat → Int32)) (K : Int32 → (Nat → Int32) → (Nat → Int32) → Option (Int32 × Int32 × (Nat → Int32) × (Nat → Int32) × (Nat → Int32))) (hK : ∀ (l7 : Int32) (ma34 : (Nat → Int32)) (ma35 : (Nat → Int32)), K l7 ma34 ma35 = some res → xW xks YX6_place (d + nr + 1 + 1) 0 0 n0 (xZ 0 0 n0 none (hA g0 g1 g2 g3 g4 g5 g6 g7 g8 g9 g10 g11 g12 g13 g14 g15 g16 g17 g18 g19 g20 g21 g22 g23 g24 g25 g26 g27 res.1 res.2.1 g30 g31 g32 g33 g34 g35 g36 a0 a1 a2 a3 a4 a5 a6 a7 a8 a9 a10 a11 a12 a13 a14 a15 a16 a17 a18 a19 a20 a21 a22 a23 a24 a25 a26 a27 a28 a29 a30 a31 a32 a33 res.2.2.2.1 res.2.2.2.2 res.2.2.1 a37 a38 a39 b0 b1 b2 b3 b4 w0 (.ref 19) (.ref 1))) 0 0 204 [none, none, none, none, none, none, none, none, none] [] (hA g0 g1 g2 g3 g4 g5 g6 g7 g8 g9 g10 g11 g12 g13 g14 g15 g16 g17 g18 g19 g20 g21 g22 g23 g24 g25 g26 g27 g28 g29 g30 g31 g32 g33 g34 g35 g36 a0 a1 a2 a3 a4 a5 a6 a7 a8 a9 a10 a11 a12 a13 a14 a15 a16 a17 a18 a19 a20 a21 a22 a23 a24 a25 a26 a27 a28 a29 a30 a31 a32 a33 ma34 ma35 a36 a37 a38 a39 b0 b1 b2 b3 b4 w0 (.ref 19) (.ref 1))) : ∀ (n : Nat) (l7 : Int32) (ma34 : (Nat → Int32)) (ma35 : (Nat → Int32)), L_hA_X6_place_90 g3 g28 g29 a36 g4 a28 a2 a37 er f3 f4 f5 f6 K n l7 ma34 ma35 = some res → xW xks YX6_place (d + nr + 1 + 1) 0 0 n0 (xZ 0 0 n0 none (hA g0 g1 g2 g3 g4 g5 g6 g7 g8 g9 g10 g11 g12 g13 g14 g15 g16 g17 g18 g19 g20 g21 g22 g23 g24 g25 g26 g27 res.1 res.2.1 g30 g31 g32 g33 g34 g35 g36 a0 a1 a2 a3 a4 a5 a6 a7 a8 a9 a10 a11 a12 a13 a14 a15 a16 a17 a18 a19 a20 a21 a22 a23 a24 a25 a26 a27 a28 a29 a30 a31 a32 a33 res.2.2.2.1 res.2.2.2.2 res.2.2.1 a37 a38 a39 b0 b1 b2 b3 b4 w0 (.ref 19) (.ref 1))) 0 0 90 [some (.ref 49), some (.ref 1), some (.ref 37), some (.int f3), some (.int f4), some (.int f5), some (.int f6), some (.int l7), none] [] (hA g0 g1 g2 g3 g4 g5 g6 g7 g8 g9 g10 g11 g12 g13 g14 g15 g16 g17 g18 g19 g20 g21 g22 g23 g24 g25 g26 g27 g28 g29 g30 g31 g32 g33 g34 g35 g36 a0 a1 a2 a3 a4 a5 a6 a7 a8 a9 a10 a11 a12 a13 a14 a15 a16 a17 a18 a19 a20 a21 a22 a23 a24 a25 a26 a27 a28 a29 a30 a31 a32 a33 ma34 ma35 a36 a37 a38 a39 b0 b1 b2 b3 b4 w0 (.ref 19) (.ref 1)) := by
  intro n
  induction n with
  | zero =>
    intro l7 ma34 ma35 h
    cases (show (none : Option (Int32 × Int32 × (Nat → Int32) × (Nat → Int32) × (Nat → Int32))) = some res from h)
  | succ n90 ih90 =>
    intro l7 ma34 ma35 h
    unfold L_hA_X6_place_90 at h
    refine x_iload dX6_place_90 rfl ?_
    refine x_aload_n dX6_place_92 rfl ?_
    refine x_get fX6_50 dX6_place_93 rfl rfl rfl ?_
    refine x_icmp_ge 204 dX6_place_96 (by decide) (fun q => ?_) (fun q => ?_)
    · have h := xif_t q h
      refine x_weak (pl2 := [none, none, none, none, none, none, none, none, none]) trivial ?_
      exact hK l7 ma34 ma35 h
    · have h := xif_f q h
      refine x_iload dX6_place_99 rfl ?_
      refine x_if_eq 204 dX6_place_101 (by decide) (fun q => ?_) (fun q => ?_)
      · have h := xif_t q h
        refine x_weak (pl2 := [none, none, none, none, none, none, none, none, none]) trivial ?_
        exact hK l7 ma34 ma35 h
      · have h := xif_f q h
        refine x_iload dX6_place_104 rfl ?_
        refine x_aload_n dX6_place_106 rfl ?_
        refine x_aload_n dX6_place_107 rfl ?_
        refine x_iload dX6_place_108 rfl ?_
        refine x_iload dX6_place_110 rfl ?_
        obtain ⟨z112, y112, h⟩ := xbind h
        refine x_callS (t_hA_X6_dangerOf f4 l7 z112 y112 (d + 7)) kX6_55 dX6_place_112 rfl rfl (Nat.le_of_ble_eq_true rfl) (Nat.le_of_ble_eq_true rfl) rfl rfl (Or.inl rfl) ?_
        refine x_iadd dX6_place_115 ?_
        refine x_istore (pl' := [some (.ref 49), some (.ref 1), some (.ref 37), some (.int f3), some (.int f4), some (.int f5), some (.int f6), some (.int l7), some (.int (f5 + z112))]) dX6_place_116 (by decide) rfl ?_
        refine x_aload_n dX6_place_118 rfl ?_
        refine x_get fX6_9 dX6_place_119 rfl rfl rfl ?_
        refine x_iload dX6_place_122 rfl ?_
        obtain ⟨q124, h⟩ := xix_of h
        refine x_iald dX6_place_124 rfl q124 ?_
        refine x_if_le 198 dX6_place_125 (by decide) (fun q => ?_) (fun q => ?_)
        · have h := xif_t q h
          refine x_iincK (1 : Int32) (pl' := [some (.ref 49), some (.ref 1), some (.ref 37), some (.int f3), some (.int f4), some (.int f5), some (.int f6), some (.int (l7 + (1 : Int32))), some (.int (f5 + z112))]) dX6_place_198 rfl (by decide) (by decide) rfl ?_
          refine x_goto 90 dX6_place_201 (by decide) ?_
          refine x_weak (pl2 := [some (.ref 49), some (.ref 1), some (.ref 37), some (.int f3), some (.int f4), some (.int f5), some (.int f6), some (.int (l7 + (1 : Int32))), none]) ⟨rfl, rfl, rfl, rfl, rfl, rfl, rfl, rfl, trivial⟩ ?_
          exact ih90 (l7 + (1 : Int32)) ma34 ma35 h
        · have h := xif_f q h
          refine x_aload_n dX6_place_128 rfl ?_
          refine x_get fX6_24 dX6_place_129 rfl rfl rfl ?_
          refine x_if_eq 154 dX6_place_132 (by decide) (fun q => ?_) (fun q => ?_)
          · have h := xif_t q h
            refine x_aload_n dX6_place_154 rfl ?_
            refine x_get fX6_9 dX6_place_155 rfl rfl rfl ?_
            refine x_iload dX6_place_158 rfl ?_
            refine x_dup2 dX6_place_160 rfl rfl ?_
            obtain ⟨q161, h⟩ := xix_of h
            refine x_iald dX6_place_161 rfl q161 ?_
            refine x_iconst (1 : Int32) dX6_place_162 (by decide) ?_
            refine x_isub dX6_place_163 ?_
            obtain ⟨q164, h⟩ := xix_of h
            refine x_iast (h2 := (hA g0 g1 g2 g3 g4 g5 g6 g7 g8 g9 g10 g11 g12 g13 g14 g15 g16 g17 g18 g19 g20 g21 g22 g23 g24 g25 g26 g27 g28 g29 g30 g31 g32 g33 g34 g35 g36 a0 a1 a2 a3 a4 a5 a6 a7 a8 a9 a10 a11 a12 a13 a14 a15 a16 a17 a18 a19 a20 a21 a22 a23 a24 a25 a26 a27 a28 a29 a30 a31 a32 a33 (upd ma34 l7.toNatClampNeg ((ma34 l7.toNatClampNeg) - (1 : Int32))) ma35 a36 a37 a38 a39 b0 b1 b2 b3 b4 w0 (.ref 19) (.ref 1))) dX6_place_164 rfl q164 rfl ?_
            refine x_aload_n dX6_place_165 rfl ?_
            refine x_get fX6_15 dX6_place_166 rfl rfl rfl ?_
            refine x_iload dX6_place_169 rfl ?_
            refine x_iload dX6_place_171 rfl ?_
            obtain ⟨q173, h⟩ := xix_of h
            refine x_iast (h2 := (hA g0 g1 g2 g3 g4 g5 g6 g7 g8 g9 g10 g11 g12 g13 g14 g15 g16 g17 g18 g19 g20 g21 g22 g23 g24 g25 g26 g27 g28 g29 g30 g31 g32 g33 g34 g35 g36 a0 a1 a2 a3 a4 a5 a6 a7 a8 a9 a10 a11 a12 a13 a14 a15 a16 a17 a18 a19 a20 a21 a22 a23 a24 a25 a26 a27 a28 a29 a30 a31 a32 a33 (upd ma34 l7.toNatClampNeg ((ma34 l7.toNatClampNeg) - (1 : Int32))) (upd ma35 f4.toNatClampNeg l7) a36 a37 a38 a39 b0 b1 b2 b3 b4 w0 (.ref 19) (.ref 1))) dX6_place_173 rfl q173 rfl ?_
            refine x_aload_n dX6_place_174 rfl ?_
            refine x_aload_n dX6_place_175 rfl ?_
            refine x_aload_n dX6_place_176 rfl ?_
            refine x_iload_n dX6_place_177 rfl ?_
            refine x_iload dX6_place_178 rfl ?_
            refine x_iconst (1 : Int32) dX6_place_180 (by decide) ?_
            refine x_iadd dX6_place_181 ?_
            refine x_iload dX6_place_182 rfl ?_
            obtain ⟨z184, y184, h⟩ := xbind h
            refine x_callV (ih _ _ _ _ _ _ _ _ _ _ _ _ _ _ _ _ _ _ _ _ _ _ _ _ _ _ _ _ _ _ _ _ _ _ _ _ _ _ _ _ _ _ _ _ _ _ _ _ _ _ _ _ _ _ _ _ _ _ _ _ _ _ _ _ _ _ _ _ _ _ _ _ _ _ _ _ _ _ _ _ _ _ _ f3 (f4 + (1 : Int32)) (f5 + z112) z184 y184) kX6_46 dX6_place_184 rfl rfl rfl rfl rfl (Nat.le_of_ble_eq_true rfl) (Nat.le_of_ble_eq_true rfl) rfl rfl (Or.inl rfl) ?_
            refine x_aload_n dX6_place_187 rfl ?_
            refine x_get fX6_9 dX6_place_188 rfl rfl rfl ?_
            refine x_iload dX6_place_191 rfl ?_
            refine x_dup2 dX6_place_193 rfl rfl ?_
            obtain ⟨q194, h⟩ := xix_of h
            refine x_iald dX6_place_194 rfl q194 ?_
            refine x_iconst (1 : Int32) dX6_place_195 (by decide) ?_
            refine x_iadd dX6_place_196 ?_
            obtain ⟨q197, h⟩ := xix_of h
            refine x_iast (h2 := (hA g0 g1 g2 g3 g4 g5 g6 g7 g8 g9 g10 g11 g12 g13 g14 g15 g16 g17 g18 g19 g20 g21 g22 g23 g24 g25 g26 g27 z184.1 z184.2.1 g30 g31 g32 g33 g34 g35 g36 a0 a1 a2 a3 a4 a5 a6 a7 a8 a9 a10 a11 a12 a13 a14 a15 a16 a17 a18 a19 a20 a21 a22 a23 a24 a25 a26 a27 a28 a29 a30 a31 a32 a33 (upd z184.2.2.2.1 l7.toNatClampNeg ((z184.2.2.2.1 l7.toNatClampNeg) + (1 : Int32))) z184.2.2.2.2 z184.2.2.1 a37 a38 a39 b0 b1 b2 b3 b4 w0 (.ref 19) (.ref 1))) dX6_place_197 rfl q197 rfl ?_
            refine x_iincK (1 : Int32) (pl' := [some (.ref 49), some (.ref 1), some (.ref 37), some (.int f3), some (.int f4), some (.int f5), some (.int f6), some (.int (l7 + (1 : Int32))), some (.int (f5 + z112))]) dX6_place_198 rfl (by decide) (by decide) rfl ?_
            refine x_goto 90 dX6_place_201 (by decide) ?_
            refine x_weak (pl2 := [some (.ref 49), some (.ref 1), some (.ref 37), some (.int f3), some (.int f4), some (.int f5), some (.int f6), some (.int (l7 + (1 : Int32))), none]) ⟨rfl, rfl, rfl, rfl, rfl, rfl, rfl, rfl, trivial⟩ ?_
            exact ih90 (l7 + (1 : Int32)) (upd z184.2.2.2.1 l7.toNatClampNeg ((z184.2.2.2.1 l7.toNatClampNeg) + (1 : Int32))) z184.2.2.2.2 h
          · have h := xif_f q h
            refine x_iload dX6_place_135 rfl ?_
            refine x_aload_n dX6_place_137 rfl ?_
            refine x_get fX6_21 dX6_place_138 rfl rfl rfl ?_
            refine x_iload dX6_place_141 rfl ?_
            refine x_iconst (1 : Int32) dX6_place_143 (by decide) ?_
            refine x_iadd dX6_place_144 ?_
            obtain ⟨q145, h⟩ := xix_of h
            refine x_iald dX6_place_145 rfl q145 ?_
            refine x_iadd dX6_place_146 ?_
            refine x_aload_n dX6_place_147 rfl ?_
            refine x_get fX6_28 dX6_place_148 rfl rfl rfl ?_
            refine x_icmp_ge 198 dX6_place_151 (by decide) (fun q => ?_) (fun q => ?_)
            · have h := xif_t q h
              refine x_iincK (1 : Int32) (pl' := [some (.ref 49), some (.ref 1), some (.ref 37), some (.int f3), some (.int f4), some (.int f5), some (.int f6), some (.int (l7 + (1 : Int32))), some (.int (f5 + z112))]) dX6_place_198 rfl (by decide) (by decide) rfl ?_
              refine x_goto 90 dX6_place_201 (by decide) ?_
              refine x_weak (pl2 := [some (.ref 49), some (.ref 1), some (.ref 37), some (.int f3), some (.int f4), some (.int f5), some (.int f6), some (.int (l7 + (1 : Int32))), none]) ⟨rfl, rfl, rfl, rfl, rfl, rfl, rfl, rfl, trivial⟩ ?_
              exact ih90 (l7 + (1 : Int32)) ma34 ma35 h
            · have h := xif_f q h
              refine x_aload_n dX6_place_154 rfl ?_
              refine x_get fX6_9 dX6_place_155 rfl rfl rfl ?_
              refine x_iload dX6_place_158 rfl ?_
              refine x_dup2 dX6_place_160 rfl rfl ?_
              obtain ⟨q161, h⟩ := xix_of h
              refine x_iald dX6_place_161 rfl q161 ?_
              refine x_iconst (1 : Int32) dX6_place_162 (by decide) ?_
              refine x_isub dX6_place_163 ?_
              obtain ⟨q164, h⟩ := xix_of h
              refine x_iast (h2 := (hA g0 g1 g2 g3 g4 g5 g6 g7 g8 g9 g10 g11 g12 g13 g14 g15 g16 g17 g18 g19 g20 g21 g22 g23 g24 g25 g26 g27 g28 g29 g30 g31 g32 g33 g34 g35 g36 a0 a1 a2 a3 a4 a5 a6 a7 a8 a9 a10 a11 a12 a13 a14 a15 a16 a17 a18 a19 a20 a21 a22 a23 a24 a25 a26 a27 a28 a29 a30 a31 a32 a33 (upd ma34 l7.toNatClampNeg ((ma34 l7.toNatClampNeg) - (1 : Int32))) ma35 a36 a37 a38 a39 b0 b1 b2 b3 b4 w0 (.ref 19) (.ref 1))) dX6_place_164 rfl q164 rfl ?_
              refine x_aload_n dX6_place_165 rfl ?_
              refine x_get fX6_15 dX6_place_166 rfl rfl rfl ?_
              refine x_iload dX6_place_169 rfl ?_
              refine x_iload dX6_place_171 rfl ?_
              obtain ⟨q173, h⟩ := xix_of h
              refine x_iast (h2 := (hA g0 g1 g2 g3 g4 g5 g6 g7 g8 g9 g10 g11 g12 g13 g14 g15 g16 g17 g18 g19 g20 g21 g22 g23 g24 g25 g26 g27 g28 g29 g30 g31 g32 g33 g34 g35 g36 a0 a1 a2 a3 a4 a5 a6 a7 a8 a9 a10 a11 a12 a13 a14 a15 a16 a17 a18 a19 a20 a21 a22 a23 a24 a25 a26 a27 a28 a29 a30 a31 a32 a33 (upd ma34 l7.toNatClampNeg ((ma34 l7.toNatClampNeg) - (1 : Int32))) (upd ma35 f4.toNatClampNeg l7) a36 a37 a38 a39 b0 b1 b2 b3 b4 w0 (.ref 19) (.ref 1))) dX6_place_173 rfl q173 rfl ?_
              refine x_aload_n dX6_place_174 rfl ?_
              refine x_aload_n dX6_place_175 rfl ?_
              refine x_aload_n dX6_place_176 rfl ?_
              refine x_iload_n dX6_place_177 rfl ?_
              refine x_iload dX6_place_178 rfl ?_
              refine x_iconst (1 : Int32) dX6_place_180 (by decide) ?_
              refine x_iadd dX6_place_181 ?_
              refine x_iload dX6_place_182 rfl ?_
              obtain ⟨z184, y184, h⟩ := xbind h
              refine x_callV (ih _ _ _ _ _ _ _ _ _ _ _ _ _ _ _ _ _ _ _ _ _ _ _ _ _ _ _ _ _ _ _ _ _ _ _ _ _ _ _ _ _ _ _ _ _ _ _ _ _ _ _ _ _ _ _ _ _ _ _ _ _ _ _ _ _ _ _ _ _ _ _ _ _ _ _ _ _ _ _ _ _ _ _ f3 (f4 + (1 : Int32)) (f5 + z112) z184 y184) kX6_46 dX6_place_184 rfl rfl rfl rfl rfl (Nat.le_of_ble_eq_true rfl) (Nat.le_of_ble_eq_true rfl) rfl rfl (Or.inl rfl) ?_
              refine x_aload_n dX6_place_187 rfl ?_
              refine x_get fX6_9 dX6_place_188 rfl rfl rfl ?_
              refine x_iload dX6_place_191 rfl ?_
              refine x_dup2 dX6_place_193 rfl rfl ?_
              obtain ⟨q194, h⟩ := xix_of h
              refine x_iald dX6_place_194 rfl q194 ?_
              refine x_iconst (1 : Int32) dX6_place_195 (by decide) ?_
              refine x_iadd dX6_place_196 ?_
              obtain ⟨q197, h⟩ := xix_of h
              refine x_iast (h2 := (hA g0 g1 g2 g3 g4 g5 g6 g7 g8 g9 g10 g11 g12 g13 g14 g15 g16 g17 g18 g19 g20 g21 g22 g23 g24 g25 g26 g27 z184.1 z184.2.1 g30 g31 g32 g33 g34 g35 g36 a0 a1 a2 a3 a4 a5 a6 a7 a8 a9 a10 a11 a12 a13 a14 a15 a16 a17 a18 a19 a20 a21 a22 a23 a24 a25 a26 a27 a28 a29 a30 a31 a32 a33 (upd z184.2.2.2.1 l7.toNatClampNeg ((z184.2.2.2.1 l7.toNatClampNeg) + (1 : Int32))) z184.2.2.2.2 z184.2.2.1 a37 a38 a39 b0 b1 b2 b3 b4 w0 (.ref 19) (.ref 1))) dX6_place_197 rfl q197 rfl ?_
              refine x_iincK (1 : Int32) (pl' := [some (.ref 49), some (.ref 1), some (.ref 37), some (.int f3), some (.int f4), some (.int f5), some (.int f6), some (.int (l7 + (1 : Int32))), some (.int (f5 + z112))]) dX6_place_198 rfl (by decide) (by decide) rfl ?_
              refine x_goto 90 dX6_place_201 (by decide) ?_
              refine x_weak (pl2 := [some (.ref 49), some (.ref 1), some (.ref 37), some (.int f3), some (.int f4), some (.int f5), some (.int f6), some (.int (l7 + (1 : Int32))), none]) ⟨rfl, rfl, rfl, rfl, rfl, rfl, rfl, rfl, trivial⟩ ?_
              exact ih90 (l7 + (1 : Int32)) (upd z184.2.2.2.1 l7.toNatClampNeg ((z184.2.2.2.1 l7.toNatClampNeg) + (1 : Int32))) z184.2.2.2.2 h
set_option maxRecDepth 100000 in
set_option maxHeartbeats 4000000 in
theorem t_hA_X6_place : ∀ (nr : Nat) (g0 g1 g2 g3 g4 g5 g6 g7 g8 g9 g10 g11 g12 g13 g14 g15 g16 g17 g18 g19 g20 g21 g22 g23 g24 g25 g26 g27 g28 g29 g30 g31 g32 g33 g34 g35 g36 : Int32) (a0 a1 a2 a3 a4 a5 a6 a7 a8 a9 a10 a11 a12 a13 a14 a15 a16 a17 a18 a19 a20 a21 a22 a23 a24 a25 a26 a27 a28 a29 a30 a31 a32 a33 a34 a35 a36 a37 a38 a39 : (Nat → Int32)) (b0 b1 b2 b3 b4 : (Nat → Int64)) (w0 : Int64) (x3 : Int32) (x4 : Int32) (x5 : Int32) (res : Int32 × Int32 × (Nat → Int32) × (Nat → Int32) × (Nat → Int32)) (h : e_hA_X6_place nr g3 g28 g29 a35 a36 g4 a28 a2 a34 a37 x3 x4 x5 = some res) (d : Nat), xMet xks YX6_place (d + nr + 1) 0 0 [.ref 49, .ref 1, .ref 37, .int x3, .int x4, .int x5] (hA g0 g1 g2 g3 g4 g5 g6 g7 g8 g9 g10 g11 g12 g13 g14 g15 g16 g17 g18 g19 g20 g21 g22 g23 g24 g25 g26 g27 g28 g29 g30 g31 g32 g33 g34 g35 g36 a0 a1 a2 a3 a4 a5 a6 a7 a8 a9 a10 a11 a12 a13 a14 a15 a16 a17 a18 a19 a20 a21 a22 a23 a24 a25 a26 a27 a28 a29 a30 a31 a32 a33 a34 a35 a36 a37 a38 a39 b0 b1 b2 b3 b4 w0 (.ref 19) (.ref 1)) none (hA g0 g1 g2 g3 g4 g5 g6 g7 g8 g9 g10 g11 g12 g13 g14 g15 g16 g17 g18 g19 g20 g21 g22 g23 g24 g25 g26 g27 res.1 res.2.1 g30 g31 g32 g33 g34 g35 g36 a0 a1 a2 a3 a4 a5 a6 a7 a8 a9 a10 a11 a12 a13 a14 a15 a16 a17 a18 a19 a20 a21 a22 a23 a24 a25 a26 a27 a28 a29 a30 a31 a32 a33 res.2.2.2.1 res.2.2.2.2 res.2.2.1 a37 a38 a39 b0 b1 b2 b3 b4 w0 (.ref 19) (.ref 1)) := by
  intro nr
  induction nr with
  | zero =>
    intro g0 g1 g2 g3 g4 g5 g6 g7 g8 g9 g10 g11 g12 g13 g14 g15 g16 g17 g18 g19 g20 g21 g22 g23 g24 g25 g26 g27 g28 g29 g30 g31 g32 g33 g34 g35 g36 a0 a1 a2 a3 a4 a5 a6 a7 a8 a9 a10 a11 a12 a13 a14 a15 a16 a17 a18 a19 a20 a21 a22 a23 a24 a25 a26 a27 a28 a29 a30 a31 a32 a33 a34 a35 a36 a37 a38 a39 b0 b1 b2 b3 b4 w0 x3 x4 x5 res h d
    cases (show (none : Option (Int32 × Int32 × (Nat → Int32) × (Nat → Int32) × (Nat → Int32))) = some res from h)
  | succ nr ih0 =>
    intro g0 g1 g2 g3 g4 g5 g6 g7 g8 g9 g10 g11 g12 g13 g14 g15 g16 g17 g18 g19 g20 g21 g22 g23 g24 g25 g26 g27 g28 g29 g30 g31 g32 g33 g34 g35 g36 a0 a1 a2 a3 a4 a5 a6 a7 a8 a9 a10 a11 a12 a13 a14 a15 a16 a17 a18 a19 a20 a21 a22 a23 a24 a25 a26 a27 a28 a29 a30 a31 a32 a33 a34 a35 a36 a37 a38 a39 b0 b1 b2 b3 b4 w0 x3 x4 x5 res h d
    have ih := fun (g0 g1 g2 g3 g4 g5 g6 g7 g8 g9 g10 g11 g12 g13 g14 g15 g16 g17 g18 g19 g20 g21 g22 g23 g24 g25 g26 g27 g28 g29 g30 g31 g32 g33 g34 g35 g36 : Int32) (a0 a1 a2 a3 a4 a5 a6 a7 a8 a9 a10 a11 a12 a13 a14 a15 a16 a17 a18 a19 a20 a21 a22 a23 a24 a25 a26 a27 a28 a29 a30 a31 a32 a33 a34 a35 a36 a37 a38 a39 : (Nat → Int32)) (b0 b1 b2 b3 b4 : (Nat → Int64)) (w0 : Int64) (x3 : Int32) (x4 : Int32) (x5 : Int32) res h => ih0 g0 g1 g2 g3 g4 g5 g6 g7 g8 g9 g10 g11 g12 g13 g14 g15 g16 g17 g18 g19 g20 g21 g22 g23 g24 g25 g26 g27 g28 g29 g30 g31 g32 g33 g34 g35 g36 a0 a1 a2 a3 a4 a5 a6 a7 a8 a9 a10 a11 a12 a13 a14 a15 a16 a17 a18 a19 a20 a21 a22 a23 a24 a25 a26 a27 a28 a29 a30 a31 a32 a33 a34 a35 a36 a37 a38 a39 b0 b1 b2 b3 b4 w0 x3 x4 x5 res h d
    unfold e_hA_X6_place at h
    refine xMet_of (pl := [some (.ref 49), some (.ref 1), some (.ref 37), some (.int x3), some (.int x4), some (.int x5), none, none, none]) (by decide) (Nat.le_of_ble_eq_true rfl) rfl (Nat.le_of_ble_eq_true rfl) ?_
    refine x_iload dX6_place_0 rfl ?_
    refine x_aload_n dX6_place_2 rfl ?_
    refine x_get fX6_79 dX6_place_3 rfl rfl rfl ?_
    refine x_icmp_ge 16 dX6_place_6 (by decide) (fun q => ?_) (fun q => ?_)
    · have h := xif_t q h
      refine x_aload_n dX6_place_16 rfl ?_
      refine x_iconst (1 : Int32) dX6_place_17 (by decide) ?_
      refine x_put (h2 := (hA g0 g1 g2 g3 g4 g5 g6 g7 g8 g9 g10 g11 g12 g13 g14 g15 g16 g17 g18 g19 g20 g21 g22 g23 g24 g25 g26 g27 (1 : Int32) g29 g30 g31 g32 g33 g34 g35 g36 a0 a1 a2 a3 a4 a5 a6 a7 a8 a9 a10 a11 a12 a13 a14 a15 a16 a17 a18 a19 a20 a21 a22 a23 a24 a25 a26 a27 a28 a29 a30 a31 a32 a33 a34 a35 a36 a37 a38 a39 b0 b1 b2 b3 b4 w0 (.ref 19) (.ref 1))) fX6_24 dX6_place_18 rfl rfl (Nat.le_of_ble_eq_true rfl : 4 + 1 ≤ _) (fun α => ⟨rfl, rfl⟩) rfl ?_
      refine x_aload_n dX6_place_21 rfl ?_
      refine x_iload dX6_place_22 rfl ?_
      refine x_put (h2 := (hA g0 g1 g2 g3 g4 g5 g6 g7 g8 g9 g10 g11 g12 g13 g14 g15 g16 g17 g18 g19 g20 g21 g22 g23 g24 g25 g26 g27 (1 : Int32) x5 g30 g31 g32 g33 g34 g35 g36 a0 a1 a2 a3 a4 a5 a6 a7 a8 a9 a10 a11 a12 a13 a14 a15 a16 a17 a18 a19 a20 a21 a22 a23 a24 a25 a26 a27 a28 a29 a30 a31 a32 a33 a34 a35 a36 a37 a38 a39 b0 b1 b2 b3 b4 w0 (.ref 19) (.ref 1))) fX6_28 dX6_place_24 rfl rfl (Nat.le_of_ble_eq_true rfl : 5 + 1 ≤ _) (fun α => ⟨rfl, rfl⟩) rfl ?_
      refine x_aload_n dX6_place_27 rfl ?_
      refine x_get fX6_15 dX6_place_28 rfl rfl rfl ?_
      refine x_iconst (0 : Int32) dX6_place_31 (by decide) ?_
      refine x_aload_n dX6_place_32 rfl ?_
      refine x_get fX6_18 dX6_place_33 rfl rfl rfl ?_
      refine x_iconst (0 : Int32) dX6_place_36 (by decide) ?_
      refine x_bipush (6 : Int32) dX6_place_37 (by decide) ?_
      refine x_copyi (h2 := (hA g0 g1 g2 g3 g4 g5 g6 g7 g8 g9 g10 g11 g12 g13 g14 g15 g16 g17 g18 g19 g20 g21 g22 g23 g24 g25 g26 g27 (1 : Int32) x5 g30 g31 g32 g33 g34 g35 g36 a0 a1 a2 a3 a4 a5 a6 a7 a8 a9 a10 a11 a12 a13 a14 a15 a16 a17 a18 a19 a20 a21 a22 a23 a24 a25 a26 a27 a28 a29 a30 a31 a32 a33 a34 a35 (va_cpy a35 a36 0 0 6) a37 a38 a39 b0 b1 b2 b3 b4 w0 (.ref 19) (.ref 1))) (sp := 0) (dp := 0) (n := 6) dX6_place_39 kX6_82 rfl rfl (by decide) (by decide) (by decide) (by decide) (by decide) (by omega) (Nat.le_of_ble_eq_true rfl) rfl ?_
      cases h
      exact x_vret2 dX6_place_42 rfl rfl
    · have h := xif_f q h
      refine x_iload dX6_place_9 rfl ?_
      refine x_bipush (6 : Int32) dX6_place_11 (by decide) ?_
      refine x_icmp_lt 43 dX6_place_13 (by decide) (fun q => ?_) (fun q => ?_)
      · have h := xif_t q h
        refine x_iload_n dX6_place_43 rfl ?_
        refine x_iload dX6_place_44 rfl ?_
        refine x_ishr dX6_place_46 ?_
        refine x_iconst (1 : Int32) dX6_place_47 (by decide) ?_
        refine x_iand dX6_place_48 ?_
        refine x_iconst (1 : Int32) dX6_place_49 (by decide) ?_
        refine x_icmp_ne 57 dX6_place_50 (by decide) (fun q => ?_) (fun q => ?_)
        · have h := xif_f q h
          refine x_iconst (0 : Int32) dX6_place_57 (by decide) ?_
          refine x_istore (pl' := [some (.ref 49), some (.ref 1), some (.ref 37), some (.int x3), some (.int x4), some (.int x5), some (.int (0 : Int32)), none, none]) dX6_place_58 (by decide) rfl ?_
          refine x_iload dX6_place_60 rfl ?_
          refine x_if_ne 87 dX6_place_62 (by decide) (fun q => ?_) (fun q => ?_)
          · have h := xif_f q h
            refine x_iconst (0 : Int32) dX6_place_87 (by decide) ?_
            refine x_istore (pl' := [some (.ref 49), some (.ref 1), some (.ref 37), some (.int x3), some (.int x4), some (.int x5), some (.int (0 : Int32)), some (.int (0 : Int32)), none]) dX6_place_88 (by decide) rfl ?_
            refine x_weak (pl2 := [some (.ref 49), some (.ref 1), some (.ref 37), some (.int x3), some (.int x4), some (.int x5), some (.int (0 : Int32)), some (.int (0 : Int32)), none]) ⟨rfl, rfl, rfl, rfl, rfl, rfl, rfl, rfl, trivial⟩ ?_
            refine lp_hA_X6_place_90 d _ nr (e_hA_X6_place nr) ih x3 x4 x5 (0 : Int32) res _ (fun l7 ma34 ma35 h => ?_) 200000 (0 : Int32) a34 a35 h
            cases h
            exact x_vret2 dX6_place_204 rfl rfl
          · have h := xif_t q h
            refine x_aload_n dX6_place_65 rfl ?_
            refine x_get fX6_15 dX6_place_66 rfl rfl rfl ?_
            refine x_iload dX6_place_69 rfl ?_
            refine x_bipush (-2 : Int32) dX6_place_71 (by decide) ?_
            obtain ⟨q73, h⟩ := xix_of h
            refine x_iast (h2 := (hA g0 g1 g2 g3 g4 g5 g6 g7 g8 g9 g10 g11 g12 g13 g14 g15 g16 g17 g18 g19 g20 g21 g22 g23 g24 g25 g26 g27 g28 g29 g30 g31 g32 g33 g34 g35 g36 a0 a1 a2 a3 a4 a5 a6 a7 a8 a9 a10 a11 a12 a13 a14 a15 a16 a17 a18 a19 a20 a21 a22 a23 a24 a25 a26 a27 a28 a29 a30 a31 a32 a33 a34 (upd a35 x4.toNatClampNeg (-2 : Int32)) a36 a37 a38 a39 b0 b1 b2 b3 b4 w0 (.ref 19) (.ref 1))) dX6_place_73 rfl q73 rfl ?_
            refine x_aload_n dX6_place_74 rfl ?_
            refine x_aload_n dX6_place_75 rfl ?_
            refine x_aload_n dX6_place_76 rfl ?_
            refine x_iload_n dX6_place_77 rfl ?_
            refine x_iload dX6_place_78 rfl ?_
            refine x_iconst (1 : Int32) dX6_place_80 (by decide) ?_
            refine x_iadd dX6_place_81 ?_
            refine x_iload dX6_place_82 rfl ?_
            obtain ⟨z84, y84, h⟩ := xbind h
            refine x_callV (ih _ _ _ _ _ _ _ _ _ _ _ _ _ _ _ _ _ _ _ _ _ _ _ _ _ _ _ _ _ _ _ _ _ _ _ _ _ _ _ _ _ _ _ _ _ _ _ _ _ _ _ _ _ _ _ _ _ _ _ _ _ _ _ _ _ _ _ _ _ _ _ _ _ _ _ _ _ _ _ _ _ _ _ x3 (x4 + (1 : Int32)) x5 z84 y84) kX6_46 dX6_place_84 rfl rfl rfl rfl rfl (Nat.le_of_ble_eq_true rfl) (Nat.le_of_ble_eq_true rfl) rfl rfl (Or.inl rfl) ?_
            refine x_iconst (0 : Int32) dX6_place_87 (by decide) ?_
            refine x_istore (pl' := [some (.ref 49), some (.ref 1), some (.ref 37), some (.int x3), some (.int x4), some (.int x5), some (.int (0 : Int32)), some (.int (0 : Int32)), none]) dX6_place_88 (by decide) rfl ?_
            refine x_weak (pl2 := [some (.ref 49), some (.ref 1), some (.ref 37), some (.int x3), some (.int x4), some (.int x5), some (.int (0 : Int32)), some (.int (0 : Int32)), none]) ⟨rfl, rfl, rfl, rfl, rfl, rfl, rfl, rfl, trivial⟩ ?_
            refine lp_hA_X6_place_90 d _ nr (e_hA_X6_place nr) ih x3 x4 x5 (0 : Int32) res _ (fun l7 ma34 ma35 h => ?_) 200000 (0 : Int32) z84.2.2.2.1 z84.2.2.2.2 h
            cases h
            exact x_vret2 dX6_place_204 rfl rfl
        · have h := xif_t q h
          refine x_iconst (1 : Int32) dX6_place_53 (by decide) ?_
          refine x_goto 58 dX6_place_54 (by decide) ?_
          refine x_istore (pl' := [some (.ref 49), some (.ref 1), some (.ref 37), some (.int x3), some (.int x4), some (.int x5), some (.int (1 : Int32)), none, none]) dX6_place_58 (by decide) rfl ?_
          refine x_iload dX6_place_60 rfl ?_
          refine x_if_ne 87 dX6_place_62 (by decide) (fun q => ?_) (fun q => ?_)
          · have h := xif_f q h
            refine x_iconst (0 : Int32) dX6_place_87 (by decide) ?_
            refine x_istore (pl' := [some (.ref 49), some (.ref 1), some (.ref 37), some (.int x3), some (.int x4), some (.int x5), some (.int (1 : Int32)), some (.int (0 : Int32)), none]) dX6_place_88 (by decide) rfl ?_
            refine x_weak (pl2 := [some (.ref 49), some (.ref 1), some (.ref 37), some (.int x3), some (.int x4), some (.int x5), some (.int (1 : Int32)), some (.int (0 : Int32)), none]) ⟨rfl, rfl, rfl, rfl, rfl, rfl, rfl, rfl, trivial⟩ ?_
            refine lp_hA_X6_place_90 d _ nr (e_hA_X6_place nr) ih x3 x4 x5 (1 : Int32) res _ (fun l7 ma34 ma35 h => ?_) 200000 (0 : Int32) a34 a35 h
            cases h
            exact x_vret2 dX6_place_204 rfl rfl
          · have h := xif_t q h
            refine x_aload_n dX6_place_65 rfl ?_
            refine x_get fX6_15 dX6_place_66 rfl rfl rfl ?_
            refine x_iload dX6_place_69 rfl ?_
            refine x_bipush (-2 : Int32) dX6_place_71 (by decide) ?_
            obtain ⟨q73, h⟩ := xix_of h
            refine x_iast (h2 := (hA g0 g1 g2 g3 g4 g5 g6 g7 g8 g9 g10 g11 g12 g13 g14 g15 g16 g17 g18 g19 g20 g21 g22 g23 g24 g25 g26 g27 g28 g29 g30 g31 g32 g33 g34 g35 g36 a0 a1 a2 a3 a4 a5 a6 a7 a8 a9 a10 a11 a12 a13 a14 a15 a16 a17 a18 a19 a20 a21 a22 a23 a24 a25 a26 a27 a28 a29 a30 a31 a32 a33 a34 (upd a35 x4.toNatClampNeg (-2 : Int32)) a36 a37 a38 a39 b0 b1 b2 b3 b4 w0 (.ref 19) (.ref 1))) dX6_place_73 rfl q73 rfl ?_
            refine x_aload_n dX6_place_74 rfl ?_
            refine x_aload_n dX6_place_75 rfl ?_
            refine x_aload_n dX6_place_76 rfl ?_
            refine x_iload_n dX6_place_77 rfl ?_
            refine x_iload dX6_place_78 rfl ?_
            refine x_iconst (1 : Int32) dX6_place_80 (by decide) ?_
            refine x_iadd dX6_place_81 ?_
            refine x_iload dX6_place_82 rfl ?_
            obtain ⟨z84, y84, h⟩ := xbind h
            refine x_callV (ih _ _ _ _ _ _ _ _ _ _ _ _ _ _ _ _ _ _ _ _ _ _ _ _ _ _ _ _ _ _ _ _ _ _ _ _ _ _ _ _ _ _ _ _ _ _ _ _ _ _ _ _ _ _ _ _ _ _ _ _ _ _ _ _ _ _ _ _ _ _ _ _ _ _ _ _ _ _ _ _ _ _ _ x3 (x4 + (1 : Int32)) x5 z84 y84) kX6_46 dX6_place_84 rfl rfl rfl rfl rfl (Nat.le_of_ble_eq_true rfl) (Nat.le_of_ble_eq_true rfl) rfl rfl (Or.inl rfl) ?_
            refine x_iconst (0 : Int32) dX6_place_87 (by decide) ?_
            refine x_istore (pl' := [some (.ref 49), some (.ref 1), some (.ref 37), some (.int x3), some (.int x4), some (.int x5), some (.int (1 : Int32)), some (.int (0 : Int32)), none]) dX6_place_88 (by decide) rfl ?_
            refine x_weak (pl2 := [some (.ref 49), some (.ref 1), some (.ref 37), some (.int x3), some (.int x4), some (.int x5), some (.int (1 : Int32)), some (.int (0 : Int32)), none]) ⟨rfl, rfl, rfl, rfl, rfl, rfl, rfl, rfl, trivial⟩ ?_
            refine lp_hA_X6_place_90 d _ nr (e_hA_X6_place nr) ih x3 x4 x5 (1 : Int32) res _ (fun l7 ma34 ma35 h => ?_) 200000 (0 : Int32) z84.2.2.2.1 z84.2.2.2.2 h
            cases h
            exact x_vret2 dX6_place_204 rfl rfl
      · have h := xif_f q h
        refine x_aload_n dX6_place_16 rfl ?_
        refine x_iconst (1 : Int32) dX6_place_17 (by decide) ?_
        refine x_put (h2 := (hA g0 g1 g2 g3 g4 g5 g6 g7 g8 g9 g10 g11 g12 g13 g14 g15 g16 g17 g18 g19 g20 g21 g22 g23 g24 g25 g26 g27 (1 : Int32) g29 g30 g31 g32 g33 g34 g35 g36 a0 a1 a2 a3 a4 a5 a6 a7 a8 a9 a10 a11 a12 a13 a14 a15 a16 a17 a18 a19 a20 a21 a22 a23 a24 a25 a26 a27 a28 a29 a30 a31 a32 a33 a34 a35 a36 a37 a38 a39 b0 b1 b2 b3 b4 w0 (.ref 19) (.ref 1))) fX6_24 dX6_place_18 rfl rfl (Nat.le_of_ble_eq_true rfl : 4 + 1 ≤ _) (fun α => ⟨rfl, rfl⟩) rfl ?_
        refine x_aload_n dX6_place_21 rfl ?_
        refine x_iload dX6_place_22 rfl ?_
        refine x_put (h2 := (hA g0 g1 g2 g3 g4 g5 g6 g7 g8 g9 g10 g11 g12 g13 g14 g15 g16 g17 g18 g19 g20 g21 g22 g23 g24 g25 g26 g27 (1 : Int32) x5 g30 g31 g32 g33 g34 g35 g36 a0 a1 a2 a3 a4 a5 a6 a7 a8 a9 a10 a11 a12 a13 a14 a15 a16 a17 a18 a19 a20 a21 a22 a23 a24 a25 a26 a27 a28 a29 a30 a31 a32 a33 a34 a35 a36 a37 a38 a39 b0 b1 b2 b3 b4 w0 (.ref 19) (.ref 1))) fX6_28 dX6_place_24 rfl rfl (Nat.le_of_ble_eq_true rfl : 5 + 1 ≤ _) (fun α => ⟨rfl, rfl⟩) rfl ?_
        refine x_aload_n dX6_place_27 rfl ?_
        refine x_get fX6_15 dX6_place_28 rfl rfl rfl ?_
        refine x_iconst (0 : Int32) dX6_place_31 (by decide) ?_
        refine x_aload_n dX6_place_32 rfl ?_
        refine x_get fX6_18 dX6_place_33 rfl rfl rfl ?_
        refine x_iconst (0 : Int32) dX6_place_36 (by decide) ?_
        refine x_bipush (6 : Int32) dX6_place_37 (by decide) ?_
        refine x_copyi (h2 := (hA g0 g1 g2 g3 g4 g5 g6 g7 g8 g9 g10 g11 g12 g13 g14 g15 g16 g17 g18 g19 g20 g21 g22 g23 g24 g25 g26 g27 (1 : Int32) x5 g30 g31 g32 g33 g34 g35 g36 a0 a1 a2 a3 a4 a5 a6 a7 a8 a9 a10 a11 a12 a13 a14 a15 a16 a17 a18 a19 a20 a21 a22 a23 a24 a25 a26 a27 a28 a29 a30 a31 a32 a33 a34 a35 (va_cpy a35 a36 0 0 6) a37 a38 a39 b0 b1 b2 b3 b4 w0 (.ref 19) (.ref 1))) (sp := 0) (dp := 0) (n := 6) dX6_place_39 kX6_82 rfl rfl (by decide) (by decide) (by decide) (by decide) (by decide) (by omega) (Nat.le_of_ble_eq_true rfl) rfl ?_
        cases h
        exact x_vret2 dX6_place_42 rfl rfl
