noncomputable def L_hA_X0_claimsOfDayAreSo_8 (p0 : Int32) (p1 : (Nat → Int32)) (p2 : (Nat → Int32)) (p3 : (Nat → Int32)) (p4 : (Nat → Int32))  (f2 : Int32) (K : Int32 → Option (Int32)) : Nat → Int32 → Option (Int32)
  | 0, _ => none
  | n8 + 1, l4_8 => if p0 ≤ l4_8 then K l4_8 else (xix l4_8 6 (if (p1 l4_8.toNatClampNeg) = f2 then (xix l4_8 6 (xix (p2 l4_8.toNatClampNeg) 5 (xix l4_8 6 (if (p3 (p2 l4_8.toNatClampNeg).toNatClampNeg) = (p4 l4_8.toNatClampNeg) then L_hA_X0_claimsOfDayAreSo_8 p0 p1 p2 p3 p4 f2 K n8 (l4_8 + (1 : Int32)) else some (0 : Int32))))) else L_hA_X0_claimsOfDayAreSo_8 p0 p1 p2 p3 p4 f2 K n8 (l4_8 + (1 : Int32))))
noncomputable def e_hA_X0_claimsOfDayAreSo (p0 : Int32) (p1 : (Nat → Int32)) (p2 : (Nat → Int32)) (p3 : (Nat → Int32)) (p4 : (Nat → Int32)) (x2 : Int32) : Option (Int32) :=
  L_hA_X0_claimsOfDayAreSo_8 p0 p1 p2 p3 p4 x2 (fun l4_8 => some (1 : Int32)) 200000 (0 : Int32)
set_option maxRecDepth 100000 in
set_option maxHeartbeats 4000000 in
theorem lp_hA_X0_claimsOfDayAreSo_8 {g0 g1 g2 g3 g4 g5 g6 g7 g8 g9 g10 g11 g12 g13 g14 g15 g16 g17 g18 g19 g20 g21 g22 g23 g24 g25 g26 g27 g28 g29 g30 g31 g32 g33 g34 g35 g36 : Int32} {a0 a1 a2 a3 a4 a5 a6 a7 a8 a9 a10 a11 a12 a13 a14 a15 a16 a17 a18 a19 a20 a21 a22 a23 a24 a25 a26 a27 a28 a29 a30 a31 a32 a33 a34 a35 a36 a37 a38 a39 : (Nat → Int32)} {b0 b1 b2 b3 b4 : (Nat → Int64)} {w0 : Int64} (d n0 : Nat) (f2 : Int32) (res : Int32) (K : Int32 → Option (Int32)) (hK : ∀ (l4_8 : Int32), K l4_8 = some res → xW xks YX0_claimsOfDayAreSo (d + 1) 0 0 n0 (xZ 0 0 n0 (some (.int res)) (hA g0 g1 g2 g3 g4 g5 g6 g7 g8 g9 g10 g11 g12 g13 g14 g15 g16 g17 g18 g19 g20 g21 g22 g23 g24 g25 g26 g27 g28 g29 g30 g31 g32 g33 g34 g35 g36 a0 a1 a2 a3 a4 a5 a6 a7 a8 a9 a10 a11 a12 a13 a14 a15 a16 a17 a18 a19 a20 a21 a22 a23 a24 a25 a26 a27 a28 a29 a30 a31 a32 a33 a34 a35 a36 a37 a38 a39 b0 b1 b2 b3 b4 w0 (.ref 19) (.ref 1))) 0 0 61 [none, none, none, none, none] [] (hA g0 g1 g2 g3 g4 g5 g6 g7 g8 g9 g10 g11 g12 g13 g14 g15 g16 g17 g18 g19 g20 g21 g22 g23 g24 g25 g26 g27 g28 g29 g30 g31 g32 g33 g34 g35 g36 a0 a1 a2 a3 a4 a5 a6 a7 a8 a9 a10 a11 a12 a13 a14 a15 a16 a17 a18 a19 a20 a21 a22 a23 a24 a25 a26 a27 a28 a29 a30 a31 a32 a33 a34 a35 a36 a37 a38 a39 b0 b1 b2 b3 b4 w0 (.ref 19) (.ref 1))) : ∀ (n : Nat) (l4_8 : Int32), L_hA_X0_claimsOfDayAreSo_8 g6 a12 a10 a33 a11 f2 K n l4_8 = some res → xW xks YX0_claimsOfDayAreSo (d + 1) 0 0 n0 (xZ 0 0 n0 (some (.int res)) (hA g0 g1 g2 g3 g4 g5 g6 g7 g8 g9 g10 g11 g12 g13 g14 g15 g16 g17 g18 g19 g20 g21 g22 g23 g24 g25 g26 g27 g28 g29 g30 g31 g32 g33 g34 g35 g36 a0 a1 a2 a3 a4 a5 a6 a7 a8 a9 a10 a11 a12 a13 a14 a15 a16 a17 a18 a19 a20 a21 a22 a23 a24 a25 a26 a27 a28 a29 a30 a31 a32 a33 a34 a35 a36 a37 a38 a39 b0 b1 b2 b3 b4 w0 (.ref 19) (.ref 1))) 0 0 8 [some (.ref 43), none, some (.int f2), some (.ref 12), some (.int l4_8)] [] (hA g0 g1 g2 g3 g4 g5 g6 g7 g8 g9 g10 g11 g12 g13 g14 g15 g16 g17 g18 g19 g20 g21 g22 g23 g24 g25 g26 g27 g28 g29 g30 g31 g32 g33 g34 g35 g36 a0 a1 a2 a3 a4 a5 a6 a7 a8 a9 a10 a11 a12 a13 a14 a15 a16 a17 a18 a19 a20 a21 a22 a23 a24 a25 a26 a27 a28 a29 a30 a31 a32 a33 a34 a35 a36 a37 a38 a39 b0 b1 b2 b3 b4 w0 (.ref 19) (.ref 1)) := by
  intro n
  induction n with
  | zero =>
    intro l4_8 h
    cases (show (none : Option (Int32)) = some res from h)
  | succ n8 ih8 =>
    intro l4_8 h
    unfold L_hA_X0_claimsOfDayAreSo_8 at h
    refine x_iload dX0_claimsOfDayAreSo_8 rfl ?_
    refine x_aload_n dX0_claimsOfDayAreSo_10 rfl ?_
    refine x_get fX0_86 dX0_claimsOfDayAreSo_11 rfl rfl rfl ?_
    refine x_icmp_ge 61 dX0_claimsOfDayAreSo_14 (by decide) (fun q => ?_) (fun q => ?_)
    · have h := xif_t q h
      refine x_weak (pl2 := [none, none, none, none, none]) trivial ?_
      exact hK l4_8 h
    · have h := xif_f q h
      refine x_aload_n dX0_claimsOfDayAreSo_17 rfl ?_
      refine x_get fX0_59 dX0_claimsOfDayAreSo_18 rfl rfl rfl ?_
      refine x_iload dX0_claimsOfDayAreSo_21 rfl ?_
      obtain ⟨q23, h⟩ := xix_of h
      refine x_iald dX0_claimsOfDayAreSo_23 rfl q23 ?_
      refine x_iload_n dX0_claimsOfDayAreSo_24 rfl ?_
      refine x_icmp_ne 55 dX0_claimsOfDayAreSo_25 (by decide) (fun q => ?_) (fun q => ?_)
      · have h := xif_f q h
        refine x_iincK (1 : Int32) (pl' := [some (.ref 43), none, some (.int f2), some (.ref 12), some (.int (l4_8 + (1 : Int32)))]) dX0_claimsOfDayAreSo_55 rfl (by decide) (by decide) rfl ?_
        refine x_goto 8 dX0_claimsOfDayAreSo_58 (by decide) ?_
        refine x_weak (pl2 := [some (.ref 43), none, some (.int f2), some (.ref 12), some (.int (l4_8 + (1 : Int32)))]) ⟨rfl, rfl, rfl, rfl, trivial⟩ ?_
        exact ih8 (l4_8 + (1 : Int32)) h
      · have h := xif_t q h
        refine x_aload_n dX0_claimsOfDayAreSo_28 rfl ?_
        refine x_get fX0_22 dX0_claimsOfDayAreSo_29 rfl rfl rfl ?_
        refine x_get fX0_68 dX0_claimsOfDayAreSo_32 rfl rfl rfl ?_
        refine x_aload_n dX0_claimsOfDayAreSo_35 rfl ?_
        refine x_get fX0_71 dX0_claimsOfDayAreSo_36 rfl rfl rfl ?_
        refine x_iload dX0_claimsOfDayAreSo_39 rfl ?_
        obtain ⟨q41, h⟩ := xix_of h
        refine x_iald dX0_claimsOfDayAreSo_41 rfl q41 ?_
        obtain ⟨q42, h⟩ := xix_of h
        refine x_iald dX0_claimsOfDayAreSo_42 rfl q42 ?_
        refine x_aload_n dX0_claimsOfDayAreSo_43 rfl ?_
        refine x_get fX0_74 dX0_claimsOfDayAreSo_44 rfl rfl rfl ?_
        refine x_iload dX0_claimsOfDayAreSo_47 rfl ?_
        obtain ⟨q49, h⟩ := xix_of h
        refine x_iald dX0_claimsOfDayAreSo_49 rfl q49 ?_
        refine x_icmp_eq 55 dX0_claimsOfDayAreSo_50 (by decide) (fun q => ?_) (fun q => ?_)
        · have h := xif_t q h
          refine x_iincK (1 : Int32) (pl' := [some (.ref 43), none, some (.int f2), some (.ref 12), some (.int (l4_8 + (1 : Int32)))]) dX0_claimsOfDayAreSo_55 rfl (by decide) (by decide) rfl ?_
          refine x_goto 8 dX0_claimsOfDayAreSo_58 (by decide) ?_
          refine x_weak (pl2 := [some (.ref 43), none, some (.int f2), some (.ref 12), some (.int (l4_8 + (1 : Int32)))]) ⟨rfl, rfl, rfl, rfl, trivial⟩ ?_
          exact ih8 (l4_8 + (1 : Int32)) h
        · have h := xif_f q h
          refine x_iconst (0 : Int32) dX0_claimsOfDayAreSo_53 (by decide) ?_
          cases h
          exact x_zret2 dX0_claimsOfDayAreSo_54 rfl rfl rfl
set_option maxRecDepth 100000 in
set_option maxHeartbeats 4000000 in
theorem t_hA_X0_claimsOfDayAreSo {g0 g1 g2 g3 g4 g5 g6 g7 g8 g9 g10 g11 g12 g13 g14 g15 g16 g17 g18 g19 g20 g21 g22 g23 g24 g25 g26 g27 g28 g29 g30 g31 g32 g33 g34 g35 g36 : Int32} {a0 a1 a2 a3 a4 a5 a6 a7 a8 a9 a10 a11 a12 a13 a14 a15 a16 a17 a18 a19 a20 a21 a22 a23 a24 a25 a26 a27 a28 a29 a30 a31 a32 a33 a34 a35 a36 a37 a38 a39 : (Nat → Int32)} {b0 b1 b2 b3 b4 : (Nat → Int64)} {w0 : Int64} (x2 : Int32) (res : Int32) (h : e_hA_X0_claimsOfDayAreSo g6 a12 a10 a33 a11 x2 = some res) (d : Nat) : xMet xks YX0_claimsOfDayAreSo (d + 1) 0 0 [.ref 43, .ref 1, .int x2] (hA g0 g1 g2 g3 g4 g5 g6 g7 g8 g9 g10 g11 g12 g13 g14 g15 g16 g17 g18 g19 g20 g21 g22 g23 g24 g25 g26 g27 g28 g29 g30 g31 g32 g33 g34 g35 g36 a0 a1 a2 a3 a4 a5 a6 a7 a8 a9 a10 a11 a12 a13 a14 a15 a16 a17 a18 a19 a20 a21 a22 a23 a24 a25 a26 a27 a28 a29 a30 a31 a32 a33 a34 a35 a36 a37 a38 a39 b0 b1 b2 b3 b4 w0 (.ref 19) (.ref 1)) (some (.int res)) (hA g0 g1 g2 g3 g4 g5 g6 g7 g8 g9 g10 g11 g12 g13 g14 g15 g16 g17 g18 g19 g20 g21 g22 g23 g24 g25 g26 g27 g28 g29 g30 g31 g32 g33 g34 g35 g36 a0 a1 a2 a3 a4 a5 a6 a7 a8 a9 a10 a11 a12 a13 a14 a15 a16 a17 a18 a19 a20 a21 a22 a23 a24 a25 a26 a27 a28 a29 a30 a31 a32 a33 a34 a35 a36 a37 a38 a39 b0 b1 b2 b3 b4 w0 (.ref 19) (.ref 1)) := by
  unfold e_hA_X0_claimsOfDayAreSo at h
  refine xMet_of (pl := [some (.ref 43), some (.ref 1), some (.int x2), none, none]) (by decide) (Nat.le_of_ble_eq_true rfl) rfl (Nat.le_of_ble_eq_true rfl) ?_
  refine x_aload_n dX0_claimsOfDayAreSo_0 rfl ?_
  refine x_get fX0_53 dX0_claimsOfDayAreSo_1 rfl rfl rfl ?_
  refine x_astore_n (pl' := [some (.ref 43), some (.ref 1), some (.int x2), some (.ref 12), none]) dX0_claimsOfDayAreSo_4 (by decide) rfl ?_
  refine x_iconst (0 : Int32) dX0_claimsOfDayAreSo_5 (by decide) ?_
  refine x_istore (pl' := [some (.ref 43), some (.ref 1), some (.int x2), some (.ref 12), some (.int (0 : Int32))]) dX0_claimsOfDayAreSo_6 (by decide) rfl ?_
  refine x_weak (pl2 := [some (.ref 43), none, some (.int x2), some (.ref 12), some (.int (0 : Int32))]) ⟨rfl, rfl, rfl, rfl, trivial⟩ ?_
  refine lp_hA_X0_claimsOfDayAreSo_8 d _ x2 res _ (fun l4_8 h => ?_) 200000 (0 : Int32) h
  refine x_iconst (1 : Int32) dX0_claimsOfDayAreSo_61 (by decide) ?_
  cases h
  exact x_zret2 dX0_claimsOfDayAreSo_62 rfl rfl rfl
noncomputable def L_hA_X0_fits_94 (p0 : Int32) (p1 : (Nat → Int32)) (p2 : (Nat → Int32)) (p3 : (Nat → Int64)) (p7 : Int32) (p8 : Int32) (p9 : Int32) (p10 : (Nat → Int32)) (p11 : (Nat → Int32)) (p12 : Int32) (p13 : (Nat → Int32)) (p14 : (Nat → Int32)) (p15 : (Nat → Int32)) (p16 : (Nat → Int32)) (p17 : Int32) (p18 : (Nat → Int32)) (p19 : (Nat → Int32)) (p20 : (Nat → Int32)) (p21 : Int32)   (K : Int32 → Int32 → (Nat → Int32) → (Nat → Int32) → Option (Int32 × Int32 × (Nat → Int32) × (Nat → Int32))) : Nat → Int32 → Int32 → (Nat → Int32) → (Nat → Int32) → Option (Int32 × Int32 × (Nat → Int32) × (Nat → Int32))
  | 0, _, _, _, _ => none
  | n94 + 1, l6_94, mg24_94, ma32_94, ma33_94 => if p7 < l6_94 then K l6_94 mg24_94 ma32_94 ma33_94 else if (41 : Int32) ≤ l6_94 then K l6_94 mg24_94 ma32_94 ma33_94 else ((e_hA_X0_runDay p8 p0 mg24_94 p9 p10 ma32_94 p11 p12 p1 ma33_94 p13 p14 p15 p16 l6_94).bind fun z114 => (e_hA_X0_claimsOfDayAreSo p17 p18 p19 z114.2.2 p20 l6_94).bind fun z121 => if z121 = (0 : Int32) then some ((0 : Int32), z114.1, z114.2.2, z114.2.1) else L_hA_X0_fits_94 p0 p1 p2 p3 p7 p8 p9 p10 p11 p12 p13 p14 p15 p16 p17 p18 p19 p20 p21  K n94 (l6_94 + (1 : Int32)) z114.1 z114.2.1 z114.2.2)
noncomputable def e_hA_X0_fits (p0 : Int32) (p1 : (Nat → Int32)) (p2 : (Nat → Int32)) (p3 : (Nat → Int64)) (p4 : Int32) (p5 : (Nat → Int32)) (p6 : (Nat → Int32)) (p7 : Int32) (p8 : Int32) (p9 : Int32) (p10 : (Nat → Int32)) (p11 : (Nat → Int32)) (p12 : Int32) (p13 : (Nat → Int32)) (p14 : (Nat → Int32)) (p15 : (Nat → Int32)) (p16 : (Nat → Int32)) (p17 : Int32) (p18 : (Nat → Int32)) (p19 : (Nat → Int32)) (p20 : (Nat → Int32)) (p21 : Int32) (x2 : Int32) (x3 : Int32) : Option (Int32 × Int32 × (Nat → Int32) × (Nat → Int32)) :=
  if (x3 - x3 / (5 : Int32) * (5 : Int32)) ≤ (x3 / (5 : Int32)) then some ((0 : Int32), p4, p5, p6) else if p0 ≤ (x3 - x3 / (5 : Int32) * (5 : Int32)) then some ((0 : Int32), p4, p5, p6) else ((e_hA_X1_areAlike p1 p2 (x3 / (5 : Int32)) (x3 - x3 / (5 : Int32) * (5 : Int32))).bind fun z31 => if z31 = (0 : Int32) then some ((0 : Int32), p4, p5, p6) else (xix x2 42 ((e_hA_X3_unpack p4 p5 p6 (p3 x2.toNatClampNeg)).bind fun z49 => xix (x3 / (5 : Int32)) 5 (xix (x3 - x3 / (5 : Int32) * (5 : Int32)) 5 (if (z49.2.2 (x3 / (5 : Int32)).toNatClampNeg) = (z49.2.2 (x3 - x3 / (5 : Int32) * (5 : Int32)).toNatClampNeg) then xbo p21 (some (p21, z49.1, z49.2.1, z49.2.2)) else ((e_hA_X3_swap z49.2.2 (x3 / (5 : Int32)) (x3 - x3 / (5 : Int32) * (5 : Int32))).bind fun z88 => L_hA_X0_fits_94 p0 p1 p2 p3 p7 p8 p9 p10 p11 p12 p13 p14 p15 p16 p17 p18 p19 p20 p21  (fun l6_94 mg24_94 ma32_94 ma33_94 => some ((1 : Int32), mg24_94, ma33_94, ma32_94)) 200000 x2 z49.1 z88 z49.2.1))))))
set_option maxRecDepth 100000 in
set_option maxHeartbeats 4000000 in
theorem lp_hA_X0_fits_94 {g0 g1 g2 g3 g4 g5 g6 g7 g8 g9 g10 g11 g12 g13 g14 g15 g16 g17 g18 g19 g20 g21 g22 g23 g25 g26 g27 g28 g29 g30 g31 g32 g33 g34 g35 g36 : Int32} {a0 a1 a2 a3 a4 a5 a6 a7 a8 a9 a10 a11 a12 a13 a14 a15 a16 a17 a18 a19 a20 a21 a22 a23 a24 a25 a26 a27 a28 a29 a30 a31 a34 a35 a36 a37 a38 a39 : (Nat → Int32)} {b0 b1 b2 b3 b4 : (Nat → Int64)} {w0 : Int64} (d n0 : Nat)  (res : Int32 × Int32 × (Nat → Int32) × (Nat → Int32)) (K : Int32 → Int32 → (Nat → Int32) → (Nat → Int32) → Option (Int32 × Int32 × (Nat → Int32) × (Nat → Int32))) (hK : ∀ (l6_94 : Int32) (mg24_94 : Int32) (ma32_94 : (Nat → Int32)) (ma33_94 : (Nat → Int32)), K l6_94 mg24_94 ma32_94 ma33_94 = some res → xW xks YX0_fits (d + 4) 0 0 n0 (xZ 0 0 n0 (some (.int res.1)) (hA g0 g1 g2 g3 g4 g5 g6 g7 g8 g9 g10 g11 g12 g13 g14 g15 g16 g17 g18 g19 g20 g21 g22 g23 res.2.1 g25 g26 g27 g28 g29 g30 g31 g32 g33 g34 g35 g36 a0 a1 a2 a3 a4 a5 a6 a7 a8 a9 a10 a11 a12 a13 a14 a15 a16 a17 a18 a19 a20 a21 a22 a23 a24 a25 a26 a27 a28 a29 a30 a31 res.2.2.2 res.2.2.1 a34 a35 a36 a37 a38 a39 b0 b1 b2 b3 b4 w0 (.ref 19) (.ref 1))) 0 0 135 [none, none, none, none, none, none, none] [] (hA g0 g1 g2 g3 g4 g5 g6 g7 g8 g9 g10 g11 g12 g13 g14 g15 g16 g17 g18 g19 g20 g21 g22 g23 mg24_94 g25 g26 g27 g28 g29 g30 g31 g32 g33 g34 g35 g36 a0 a1 a2 a3 a4 a5 a6 a7 a8 a9 a10 a11 a12 a13 a14 a15 a16 a17 a18 a19 a20 a21 a22 a23 a24 a25 a26 a27 a28 a29 a30 a31 ma32_94 ma33_94 a34 a35 a36 a37 a38 a39 b0 b1 b2 b3 b4 w0 (.ref 19) (.ref 1))) : ∀ (n : Nat) (l6_94 : Int32) (mg24_94 : Int32) (ma32_94 : (Nat → Int32)) (ma33_94 : (Nat → Int32)), L_hA_X0_fits_94 g4 a1 a3 b2 g27 g5 g3 a0 a2 g0 a8 a5 a6 a7 g6 a12 a10 a11 g26  K n l6_94 mg24_94 ma32_94 ma33_94 = some res → xW xks YX0_fits (d + 4) 0 0 n0 (xZ 0 0 n0 (some (.int res.1)) (hA g0 g1 g2 g3 g4 g5 g6 g7 g8 g9 g10 g11 g12 g13 g14 g15 g16 g17 g18 g19 g20 g21 g22 g23 res.2.1 g25 g26 g27 g28 g29 g30 g31 g32 g33 g34 g35 g36 a0 a1 a2 a3 a4 a5 a6 a7 a8 a9 a10 a11 a12 a13 a14 a15 a16 a17 a18 a19 a20 a21 a22 a23 a24 a25 a26 a27 a28 a29 a30 a31 res.2.2.2 res.2.2.1 a34 a35 a36 a37 a38 a39 b0 b1 b2 b3 b4 w0 (.ref 19) (.ref 1))) 0 0 94 [some (.ref 43), some (.ref 1), none, none, none, none, some (.int l6_94)] [] (hA g0 g1 g2 g3 g4 g5 g6 g7 g8 g9 g10 g11 g12 g13 g14 g15 g16 g17 g18 g19 g20 g21 g22 g23 mg24_94 g25 g26 g27 g28 g29 g30 g31 g32 g33 g34 g35 g36 a0 a1 a2 a3 a4 a5 a6 a7 a8 a9 a10 a11 a12 a13 a14 a15 a16 a17 a18 a19 a20 a21 a22 a23 a24 a25 a26 a27 a28 a29 a30 a31 ma32_94 ma33_94 a34 a35 a36 a37 a38 a39 b0 b1 b2 b3 b4 w0 (.ref 19) (.ref 1)) := by
  intro n
  induction n with
  | zero =>
    intro l6_94 mg24_94 ma32_94 ma33_94 h
    cases (show (none : Option (Int32 × Int32 × (Nat → Int32) × (Nat → Int32))) = some res from h)
  | succ n94 ih94 =>
    intro l6_94 mg24_94 ma32_94 ma33_94 h
    unfold L_hA_X0_fits_94 at h
    refine x_iload dX0_fits_94 rfl ?_
    refine x_aload_n dX0_fits_96 rfl ?_
    refine x_get fX0_33 dX0_fits_97 rfl rfl rfl ?_
    refine x_icmp_gt 135 dX0_fits_100 (by decide) (fun q => ?_) (fun q => ?_)
    · have h := xif_t q h
      refine x_weak (pl2 := [none, none, none, none, none, none, none]) trivial ?_
      exact hK l6_94 mg24_94 ma32_94 ma33_94 h
    · have h := xif_f q h
      refine x_iload dX0_fits_103 rfl ?_
      refine x_bipush (41 : Int32) dX0_fits_105 (by decide) ?_
      refine x_icmp_ge 135 dX0_fits_107 (by decide) (fun q => ?_) (fun q => ?_)
      · have h := xif_t q h
        refine x_weak (pl2 := [none, none, none, none, none, none, none]) trivial ?_
        exact hK l6_94 mg24_94 ma32_94 ma33_94 h
      · have h := xif_f q h
        refine x_aload_n dX0_fits_110 rfl ?_
        refine x_aload_n dX0_fits_111 rfl ?_
        refine x_iload dX0_fits_112 rfl ?_
        obtain ⟨z114, y114, h⟩ := xbind h
        refine x_callV (t_hA_X0_runDay_2 l6_94 z114 y114 (d + 0)) kX0_45 dX0_fits_114 rfl rfl rfl rfl rfl (Nat.le_of_ble_eq_true rfl) (Nat.le_of_ble_eq_true rfl) rfl rfl (Or.inl rfl) ?_
        refine x_aload_n dX0_fits_117 rfl ?_
        refine x_aload_n dX0_fits_118 rfl ?_
        refine x_iload dX0_fits_119 rfl ?_
        obtain ⟨z121, y121, h⟩ := xbind h
        refine x_callV (t_hA_X0_claimsOfDayAreSo l6_94 z121 y121 (d + 2)) kX0_120 dX0_fits_121 rfl rfl rfl rfl rfl (Nat.le_of_ble_eq_true rfl) (Nat.le_of_ble_eq_true rfl) rfl rfl (Or.inl rfl) ?_
        refine x_if_ne 129 dX0_fits_124 (by decide) (fun q => ?_) (fun q => ?_)
        · have h := xif_f q h
          refine x_iincK (1 : Int32) (pl' := [some (.ref 43), some (.ref 1), none, none, none, none, some (.int (l6_94 + (1 : Int32)))]) dX0_fits_129 rfl (by decide) (by decide) rfl ?_
          refine x_goto 94 dX0_fits_132 (by decide) ?_
          refine x_weak (pl2 := [some (.ref 43), some (.ref 1), none, none, none, none, some (.int (l6_94 + (1 : Int32)))]) ⟨rfl, rfl, rfl, trivial⟩ ?_
          exact ih94 (l6_94 + (1 : Int32)) z114.1 z114.2.1 z114.2.2 h
        · have h := xif_t q h
          refine x_iconst (0 : Int32) dX0_fits_127 (by decide) ?_
          cases h
          exact x_zret2 dX0_fits_128 rfl rfl rfl
set_option maxRecDepth 100000 in
set_option maxHeartbeats 4000000 in
theorem t_hA_X0_fits {g0 g1 g2 g3 g4 g5 g6 g7 g8 g9 g10 g11 g12 g13 g14 g15 g16 g17 g18 g19 g20 g21 g22 g23 g24 g25 g26 g27 g28 g29 g30 g31 g32 g33 g34 g35 g36 : Int32} {a0 a1 a2 a3 a4 a5 a6 a7 a8 a9 a10 a11 a12 a13 a14 a15 a16 a17 a18 a19 a20 a21 a22 a23 a24 a25 a26 a27 a28 a29 a30 a31 a32 a33 a34 a35 a36 a37 a38 a39 : (Nat → Int32)} {b0 b1 b2 b3 b4 : (Nat → Int64)} {w0 : Int64} (x2 : Int32) (x3 : Int32) (res : Int32 × Int32 × (Nat → Int32) × (Nat → Int32)) (h : e_hA_X0_fits g4 a1 a3 b2 g24 a33 a32 g27 g5 g3 a0 a2 g0 a8 a5 a6 a7 g6 a12 a10 a11 g26 x2 x3 = some res) (d : Nat) : xMet xks YX0_fits (d + 4) 0 0 [.ref 43, .ref 1, .int x2, .int x3] (hA g0 g1 g2 g3 g4 g5 g6 g7 g8 g9 g10 g11 g12 g13 g14 g15 g16 g17 g18 g19 g20 g21 g22 g23 g24 g25 g26 g27 g28 g29 g30 g31 g32 g33 g34 g35 g36 a0 a1 a2 a3 a4 a5 a6 a7 a8 a9 a10 a11 a12 a13 a14 a15 a16 a17 a18 a19 a20 a21 a22 a23 a24 a25 a26 a27 a28 a29 a30 a31 a32 a33 a34 a35 a36 a37 a38 a39 b0 b1 b2 b3 b4 w0 (.ref 19) (.ref 1)) (some (.int res.1)) (hA g0 g1 g2 g3 g4 g5 g6 g7 g8 g9 g10 g11 g12 g13 g14 g15 g16 g17 g18 g19 g20 g21 g22 g23 res.2.1 g25 g26 g27 g28 g29 g30 g31 g32 g33 g34 g35 g36 a0 a1 a2 a3 a4 a5 a6 a7 a8 a9 a10 a11 a12 a13 a14 a15 a16 a17 a18 a19 a20 a21 a22 a23 a24 a25 a26 a27 a28 a29 a30 a31 res.2.2.2 res.2.2.1 a34 a35 a36 a37 a38 a39 b0 b1 b2 b3 b4 w0 (.ref 19) (.ref 1)) := by
  unfold e_hA_X0_fits at h
  refine xMet_of (pl := [some (.ref 43), some (.ref 1), some (.int x2), some (.int x3), none, none, none]) (by decide) (Nat.le_of_ble_eq_true rfl) rfl (Nat.le_of_ble_eq_true rfl) ?_
  refine x_iload_n dX0_fits_0 rfl ?_
  refine x_iconst (5 : Int32) dX0_fits_1 (by decide) ?_
  refine x_idiv dX0_fits_2 (by decide) ?_
  refine x_istore (pl' := [some (.ref 43), some (.ref 1), some (.int x2), some (.int x3), some (.int (x3 / (5 : Int32))), none, none]) dX0_fits_3 (by decide) rfl ?_
  refine x_iload_n dX0_fits_5 rfl ?_
  refine x_iconst (5 : Int32) dX0_fits_6 (by decide) ?_
  refine x_irem dX0_fits_7 (by decide) ?_
  refine x_istore (pl' := [some (.ref 43), some (.ref 1), some (.int x2), some (.int x3), some (.int (x3 / (5 : Int32))), some (.int (x3 - x3 / (5 : Int32) * (5 : Int32))), none]) dX0_fits_8 (by decide) rfl ?_
  refine x_iload dX0_fits_10 rfl ?_
  refine x_iload dX0_fits_12 rfl ?_
  refine x_icmp_ge 37 dX0_fits_14 (by decide) (fun q => ?_) (fun q => ?_)
  · have h := xif_t q h
    refine x_iconst (0 : Int32) dX0_fits_37 (by decide) ?_
    cases h
    exact x_zret2 dX0_fits_38 rfl rfl rfl
  · have h := xif_f q h
    refine x_iload dX0_fits_17 rfl ?_
    refine x_aload_n dX0_fits_19 rfl ?_
    refine x_get fX0_106 dX0_fits_20 rfl rfl rfl ?_
    refine x_icmp_ge 37 dX0_fits_23 (by decide) (fun q => ?_) (fun q => ?_)
    · have h := xif_t q h
      refine x_iconst (0 : Int32) dX0_fits_37 (by decide) ?_
      cases h
      exact x_zret2 dX0_fits_38 rfl rfl rfl
    · have h := xif_f q h
      refine x_aload_n dX0_fits_26 rfl ?_
      refine x_iload dX0_fits_27 rfl ?_
      refine x_iload dX0_fits_29 rfl ?_
      obtain ⟨z31, y31, h⟩ := xbind h
      refine x_callV (t_hA_X1_areAlike (x3 / (5 : Int32)) (x3 - x3 / (5 : Int32) * (5 : Int32)) z31 y31 (d + 2)) kX0_109 dX0_fits_31 rfl rfl rfl rfl rfl (Nat.le_of_ble_eq_true rfl) (Nat.le_of_ble_eq_true rfl) rfl rfl (Or.inl rfl) ?_
      refine x_if_ne 39 dX0_fits_34 (by decide) (fun q => ?_) (fun q => ?_)
      · have h := xif_f q h
        refine x_aload_n dX0_fits_39 rfl ?_
        refine x_get fX0_22 dX0_fits_40 rfl rfl rfl ?_
        refine x_aload_n dX0_fits_43 rfl ?_
        refine x_get fX0_9 dX0_fits_44 rfl rfl rfl ?_
        refine x_iload_n dX0_fits_47 rfl ?_
        obtain ⟨q48, h⟩ := xix_of h
        refine x_lald dX0_fits_48 rfl q48 ?_
        obtain ⟨z49, y49, h⟩ := xbind h
        refine x_callV (t_hA_X3_unpack (b2 x2.toNatClampNeg) z49 y49 (d + 2)) kX0_49 dX0_fits_49 rfl rfl rfl rfl rfl (Nat.le_of_ble_eq_true rfl) (Nat.le_of_ble_eq_true rfl) rfl rfl (Or.inl rfl) ?_
        refine x_aload_n dX0_fits_52 rfl ?_
        refine x_get fX0_22 dX0_fits_53 rfl rfl rfl ?_
        refine x_get fX0_113 dX0_fits_56 rfl rfl rfl ?_
        refine x_iload dX0_fits_59 rfl ?_
        obtain ⟨q61, h⟩ := xix_of h
        refine x_iald dX0_fits_61 rfl q61 ?_
        refine x_aload_n dX0_fits_62 rfl ?_
        refine x_get fX0_22 dX0_fits_63 rfl rfl rfl ?_
        refine x_get fX0_113 dX0_fits_66 rfl rfl rfl ?_
        refine x_iload dX0_fits_69 rfl ?_
        obtain ⟨q71, h⟩ := xix_of h
        refine x_iald dX0_fits_71 rfl q71 ?_
        refine x_icmp_ne 80 dX0_fits_72 (by decide) (fun q => ?_) (fun q => ?_)
        · have h := xif_f q h
          refine x_aload_n dX0_fits_80 rfl ?_
          refine x_get fX0_22 dX0_fits_81 rfl rfl rfl ?_
          refine x_iload dX0_fits_84 rfl ?_
          refine x_iload dX0_fits_86 rfl ?_
          obtain ⟨z88, y88, h⟩ := xbind h
          refine x_callV (t_hA_X3_swap_2 (x3 / (5 : Int32)) (x3 - x3 / (5 : Int32) * (5 : Int32)) z88 y88 (d + 2)) kX0_116 dX0_fits_88 rfl rfl rfl rfl rfl (Nat.le_of_ble_eq_true rfl) (Nat.le_of_ble_eq_true rfl) rfl rfl (Or.inl rfl) ?_
          refine x_iload_n dX0_fits_91 rfl ?_
          refine x_istore (pl' := [some (.ref 43), some (.ref 1), some (.int x2), some (.int x3), some (.int (x3 / (5 : Int32))), some (.int (x3 - x3 / (5 : Int32) * (5 : Int32))), some (.int x2)]) dX0_fits_92 (by decide) rfl ?_
          refine x_weak (pl2 := [some (.ref 43), some (.ref 1), none, none, none, none, some (.int x2)]) ⟨rfl, rfl, rfl, trivial⟩ ?_
          refine lp_hA_X0_fits_94 d _  res _ (fun l6_94 mg24_94 ma32_94 ma33_94 h => ?_) 200000 x2 z49.1 z88 z49.2.1 h
          refine x_iconst (1 : Int32) dX0_fits_135 (by decide) ?_
          cases h
          exact x_zret2 dX0_fits_136 rfl rfl rfl
        · have h := xif_t q h
          refine x_aload_n dX0_fits_75 rfl ?_
          refine x_get fX0_30 dX0_fits_76 rfl rfl rfl ?_
          obtain ⟨-, q79, h⟩ := xbo_of h
          cases h
          exact x_zret2 dX0_fits_79 rfl q79 rfl
      · have h := xif_t q h
        refine x_iconst (0 : Int32) dX0_fits_37 (by decide) ?_
        cases h
        exact x_zret2 dX0_fits_38 rfl rfl rfl
noncomputable def L_hA_X0_search_23 (p0 : Int32) (p2 : Int32) (p3 : Int32) (p4 : (Nat → Int32)) (p5 : Int32) (p6 : (Nat → Int32)) (p7 : (Nat → Int32)) (p8 : (Nat → Int64)) (p12 : Int32) (p13 : Int32) (p14 : (Nat → Int32)) (p15 : (Nat → Int32)) (p16 : Int32) (p17 : (Nat → Int32)) (p18 : (Nat → Int32)) (p19 : (Nat → Int32)) (p20 : (Nat → Int32)) (p21 : (Nat → Int32)) (p22 : (Nat → Int32)) (p23 : (Nat → Int32))   (K : Int32 → Int32 → Int32 → Int32 → (Nat → Int32) → (Nat → Int32) → Option (Int32 × Int32 × Int32 × (Nat → Int32) × Int32 × (Nat → Int32) × (Nat → Int32))) : Nat → Int32 → Int32 → Int32 → Int32 → (Nat → Int32) → (Nat → Int32) → Option (Int32 × Int32 × Int32 × (Nat → Int32) × Int32 × (Nat → Int32) × (Nat → Int32))
  | 0, _, _, _, _, _, _ => none
  | n23 + 1, l2_23, l3_23, mg27_23, mg24_23, ma33_23, ma32_23 => if p2 ≤ l3_23 then K l2_23 l3_23 mg27_23 mg24_23 ma33_23 ma32_23 else (xix l3_23 6 ((e_hA_X0_claimIsSo p21 p8 mg24_23 ma33_23 ma32_23 p22 p23 l3_23).bind fun z61 => if z61.1 = (0 : Int32) then L_hA_X0_search_23 p0 p2 p3 p4 p5 p6 p7 p8 p12 p13 p14 p15 p16 p17 p18 p19 p20 p21 p22 p23  K n23 (if (p21 l3_23.toNatClampNeg) < l2_23 then (p21 l3_23.toNatClampNeg) else l2_23) (l3_23 + (1 : Int32)) (if mg27_23 < (p21 l3_23.toNatClampNeg) then (p21 l3_23.toNatClampNeg) else mg27_23) z61.2.1 z61.2.2.1 z61.2.2.2 else L_hA_X0_search_23 p0 p2 p3 p4 p5 p6 p7 p8 p12 p13 p14 p15 p16 p17 p18 p19 p20 p21 p22 p23  K n23 l2_23 (l3_23 + (1 : Int32)) (if mg27_23 < (p21 l3_23.toNatClampNeg) then (p21 l3_23.toNatClampNeg) else mg27_23) z61.2.1 z61.2.2.1 z61.2.2.2))
noncomputable def L_hA_X0_search_117 (p0 : Int32) (p1 : Int32) (p2 : Int32) (p3 : Int32) (p5 : Int32) (p6 : (Nat → Int32)) (p7 : (Nat → Int32)) (p8 : (Nat → Int64)) (p12 : Int32) (p13 : Int32) (p14 : (Nat → Int32)) (p15 : (Nat → Int32)) (p16 : Int32) (p17 : (Nat → Int32)) (p18 : (Nat → Int32)) (p19 : (Nat → Int32)) (p20 : (Nat → Int32)) (p21 : (Nat → Int32)) (p22 : (Nat → Int32)) (p23 : (Nat → Int32))  (f2 : Int32) (f3 : Int32) (K : Int32 → Int32 → (Nat → Int32) → (Nat → Int32) → (Nat → Int32) → Option (Int32 × Int32 × Int32 × (Nat → Int32) × Int32 × (Nat → Int32) × (Nat → Int32))) : Nat → Int32 → Int32 → (Nat → Int32) → (Nat → Int32) → (Nat → Int32) → Option (Int32 × Int32 × Int32 × (Nat → Int32) × Int32 × (Nat → Int32) × (Nat → Int32))
  | 0, _, _, _, _, _ => none
  | n117 + 1, l4_117, mg24_117, ma33_117, ma32_117, ma31_117 => if (25 : Int32) ≤ l4_117 then K l4_117 mg24_117 ma33_117 ma32_117 ma31_117 else if f2 < f3 then K l4_117 mg24_117 ma33_117 ma32_117 ma31_117 else (xix f3 41 ((e_hA_X0_fits p5 p6 p7 p8 mg24_117 ma33_117 ma32_117 p1 p12 p13 p14 p15 p16 p17 p18 p19 p20 p2 p21 p22 p23 p3 f3 l4_117).bind fun z141 => if z141.1 = (0 : Int32) then (xix f3 41 (L_hA_X0_search_117 p0 p1 p2 p3 p5 p6 p7 p8 p12 p13 p14 p15 p16 p17 p18 p19 p20 p21 p22 p23 f2 f3 K n117 (l4_117 + (1 : Int32)) z141.2.1 z141.2.2.1 z141.2.2.2 (upd ma31_117 f3.toNatClampNeg ((ma31_117 f3.toNatClampNeg) ||| (0 : Int32))))) else (xix f3 41 (L_hA_X0_search_117 p0 p1 p2 p3 p5 p6 p7 p8 p12 p13 p14 p15 p16 p17 p18 p19 p20 p21 p22 p23 f2 f3 K n117 (l4_117 + (1 : Int32)) z141.2.1 z141.2.2.1 z141.2.2.2 (upd ma31_117 f3.toNatClampNeg ((ma31_117 f3.toNatClampNeg) ||| ((1 : Int32) <<< (l4_117 &&& 31))))))))
noncomputable def L_hA_X0_search_101 (p0 : Int32) (p1 : Int32) (p2 : Int32) (p3 : Int32) (p5 : Int32) (p6 : (Nat → Int32)) (p7 : (Nat → Int32)) (p8 : (Nat → Int64)) (p12 : Int32) (p13 : Int32) (p14 : (Nat → Int32)) (p15 : (Nat → Int32)) (p16 : Int32) (p17 : (Nat → Int32)) (p18 : (Nat → Int32)) (p19 : (Nat → Int32)) (p20 : (Nat → Int32)) (p21 : (Nat → Int32)) (p22 : (Nat → Int32)) (p23 : (Nat → Int32))  (f2 : Int32) (K : Int32 → (Nat → Int32) → Int32 → (Nat → Int32) → (Nat → Int32) → Option (Int32 × Int32 × Int32 × (Nat → Int32) × Int32 × (Nat → Int32) × (Nat → Int32))) : Nat → Int32 → (Nat → Int32) → Int32 → (Nat → Int32) → (Nat → Int32) → Option (Int32 × Int32 × Int32 × (Nat → Int32) × Int32 × (Nat → Int32) × (Nat → Int32))
  | 0, _, _, _, _, _ => none
  | n101 + 1, l3_101, ma31_101, mg24_101, ma33_101, ma32_101 => if (41 : Int32) ≤ l3_101 then K l3_101 ma31_101 mg24_101 ma33_101 ma32_101 else (xix l3_101 41 (L_hA_X0_search_117 p0 p1 p2 p3 p5 p6 p7 p8 p12 p13 p14 p15 p16 p17 p18 p19 p20 p21 p22 p23 f2 l3_101 (fun l4_117 mg24_117 ma33_117 ma32_117 ma31_117 => L_hA_X0_search_101 p0 p1 p2 p3 p5 p6 p7 p8 p12 p13 p14 p15 p16 p17 p18 p19 p20 p21 p22 p23 f2 K n101 (l3_101 + (1 : Int32)) ma31_117 mg24_117 ma33_117 ma32_117) 200000 (0 : Int32) mg24_101 ma33_101 ma32_101 (upd ma31_101 l3_101.toNatClampNeg (0 : Int32))))
noncomputable def e_hA_X0_search (p0 : Int32) (p1 : Int32) (p2 : Int32) (p3 : Int32) (p4 : (Nat → Int32)) (p5 : Int32) (p6 : (Nat → Int32)) (p7 : (Nat → Int32)) (p8 : (Nat → Int64)) (p9 : Int32) (p10 : (Nat → Int32)) (p11 : (Nat → Int32)) (p12 : Int32) (p13 : Int32) (p14 : (Nat → Int32)) (p15 : (Nat → Int32)) (p16 : Int32) (p17 : (Nat → Int32)) (p18 : (Nat → Int32)) (p19 : (Nat → Int32)) (p20 : (Nat → Int32)) (p21 : (Nat → Int32)) (p22 : (Nat → Int32)) (p23 : (Nat → Int32))  : Option (Int32 × Int32 × Int32 × (Nat → Int32) × Int32 × (Nat → Int32) × (Nat → Int32)) :=
  if p0 = (0 : Int32) then L_hA_X0_search_23 (1 : Int32) p2 p3 p4 p5 p6 p7 p8 p12 p13 p14 p15 p16 p17 p18 p19 p20 p21 p22 p23  (fun l2_23 l3_23 mg27_23 mg24_23 ma33_23 ma32_23 => if l2_23 = (41 : Int32) then L_hA_X0_search_101 (1 : Int32) mg27_23 p2 (1 : Int32) p5 p6 p7 p8 p12 p13 p14 p15 p16 p17 p18 p19 p20 p21 p22 p23 l2_23 (fun l3_101 ma31_101 mg24_101 ma33_101 ma32_101 => some ((1 : Int32), mg27_23, (1 : Int32), ma31_101, mg24_101, ma33_101, ma32_101)) 200000 (0 : Int32) p4 mg24_23 ma33_23 ma32_23 else L_hA_X0_search_101 (1 : Int32) mg27_23 p2 (0 : Int32) p5 p6 p7 p8 p12 p13 p14 p15 p16 p17 p18 p19 p20 p21 p22 p23 l2_23 (fun l3_101 ma31_101 mg24_101 ma33_101 ma32_101 => some ((1 : Int32), mg27_23, (0 : Int32), ma31_101, mg24_101, ma33_101, ma32_101)) 200000 (0 : Int32) p4 mg24_23 ma33_23 ma32_23) 200000 (41 : Int32) (0 : Int32) (-1 : Int32) p9 p10 p11 else some (p0, p1, p3, p4, p9, p10, p11)
set_option maxRecDepth 100000 in
set_option maxHeartbeats 4000000 in
theorem lp_hA_X0_search_23 {g0 g1 g2 g3 g4 g5 g6 g7 g8 g9 g10 g11 g12 g13 g14 g15 g16 g17 g18 g19 g20 g21 g22 g23 g25 g26 g28 g29 g30 g31 g32 g33 g34 g35 g36 : Int32} {a0 a1 a2 a3 a4 a5 a6 a7 a8 a9 a10 a11 a12 a13 a14 a15 a16 a17 a18 a19 a20 a21 a22 a23 a24 a25 a26 a27 a28 a29 a30 a31 a34 a35 a36 a37 a38 a39 : (Nat → Int32)} {b0 b1 b2 b3 b4 : (Nat → Int64)} {w0 : Int64} (d n0 : Nat)  (res : Int32 × Int32 × Int32 × (Nat → Int32) × Int32 × (Nat → Int32) × (Nat → Int32)) (K : Int32 → Int32 → Int32 → Int32 → (Nat → Int32) → (Nat → Int32) → Option (Int32 × Int32 × Int32 × (Nat → Int32) × Int32 × (Nat → Int32) × (Nat → Int32))) (hK : ∀ (l2_23 : Int32) (l3_23 : Int32) (mg27_23 : Int32) (mg24_23 : Int32) (ma33_23 : (Nat → Int32)) (ma32_23 : (Nat → Int32)), K l2_23 l3_23 mg27_23 mg24_23 ma33_23 ma32_23 = some res → xW xks YX0_search (d + 5) 0 0 n0 (xZ 0 0 n0 none (hA g0 g1 g2 g3 g4 g5 g6 g7 g8 g9 g10 g11 g12 g13 g14 g15 g16 g17 g18 g19 g20 g21 g22 g23 res.2.2.2.2.1 res.1 res.2.2.1 res.2.1 g28 g29 g30 g31 g32 g33 g34 g35 g36 a0 a1 a2 a3 a4 a5 a6 a7 a8 a9 a10 a11 a12 a13 a14 a15 a16 a17 a18 a19 a20 a21 a22 a23 a24 a25 a26 a27 a28 a29 a30 res.2.2.2.1 res.2.2.2.2.2.2 res.2.2.2.2.2.1 a34 a35 a36 a37 a38 a39 b0 b1 b2 b3 b4 w0 (.ref 19) (.ref 1))) 0 0 84 [some (.ref 43), some (.ref 1), some (.int l2_23), none, none] [] (hA g0 g1 g2 g3 g4 g5 g6 g7 g8 g9 g10 g11 g12 g13 g14 g15 g16 g17 g18 g19 g20 g21 g22 g23 mg24_23 g25 g26 mg27_23 g28 g29 g30 g31 g32 g33 g34 g35 g36 a0 a1 a2 a3 a4 a5 a6 a7 a8 a9 a10 a11 a12 a13 a14 a15 a16 a17 a18 a19 a20 a21 a22 a23 a24 a25 a26 a27 a28 a29 a30 a31 ma32_23 ma33_23 a34 a35 a36 a37 a38 a39 b0 b1 b2 b3 b4 w0 (.ref 19) (.ref 1))) : ∀ (n : Nat) (l2_23 : Int32) (l3_23 : Int32) (mg27_23 : Int32) (mg24_23 : Int32) (ma33_23 : (Nat → Int32)) (ma32_23 : (Nat → Int32)), L_hA_X0_search_23 g25 g6 g26 a31 g4 a1 a3 b2 g5 g3 a0 a2 g0 a8 a5 a6 a7 a12 a10 a11  K n l2_23 l3_23 mg27_23 mg24_23 ma33_23 ma32_23 = some res → xW xks YX0_search (d + 5) 0 0 n0 (xZ 0 0 n0 none (hA g0 g1 g2 g3 g4 g5 g6 g7 g8 g9 g10 g11 g12 g13 g14 g15 g16 g17 g18 g19 g20 g21 g22 g23 res.2.2.2.2.1 res.1 res.2.2.1 res.2.1 g28 g29 g30 g31 g32 g33 g34 g35 g36 a0 a1 a2 a3 a4 a5 a6 a7 a8 a9 a10 a11 a12 a13 a14 a15 a16 a17 a18 a19 a20 a21 a22 a23 a24 a25 a26 a27 a28 a29 a30 res.2.2.2.1 res.2.2.2.2.2.2 res.2.2.2.2.2.1 a34 a35 a36 a37 a38 a39 b0 b1 b2 b3 b4 w0 (.ref 19) (.ref 1))) 0 0 23 [some (.ref 43), some (.ref 1), some (.int l2_23), some (.int l3_23), none] [] (hA g0 g1 g2 g3 g4 g5 g6 g7 g8 g9 g10 g11 g12 g13 g14 g15 g16 g17 g18 g19 g20 g21 g22 g23 mg24_23 g25 g26 mg27_23 g28 g29 g30 g31 g32 g33 g34 g35 g36 a0 a1 a2 a3 a4 a5 a6 a7 a8 a9 a10 a11 a12 a13 a14 a15 a16 a17 a18 a19 a20 a21 a22 a23 a24 a25 a26 a27 a28 a29 a30 a31 ma32_23 ma33_23 a34 a35 a36 a37 a38 a39 b0 b1 b2 b3 b4 w0 (.ref 19) (.ref 1)) := by
  intro n
  induction n with
  | zero =>
    intro l2_23 l3_23 mg27_23 mg24_23 ma33_23 ma32_23 h
    cases (show (none : Option (Int32 × Int32 × Int32 × (Nat → Int32) × Int32 × (Nat → Int32) × (Nat → Int32))) = some res from h)
  | succ n23 ih23 =>
    intro l2_23 l3_23 mg27_23 mg24_23 ma33_23 ma32_23 h
    unfold L_hA_X0_search_23 at h
    refine x_iload_n dX0_search_23 rfl ?_
    refine x_aload_n dX0_search_24 rfl ?_
    refine x_get fX0_53 dX0_search_25 rfl rfl rfl ?_
    refine x_get fX0_86 dX0_search_28 rfl rfl rfl ?_
    refine x_icmp_ge 84 dX0_search_31 (by decide) (fun q => ?_) (fun q => ?_)
    · have h := xif_t q h
      refine x_weak (pl2 := [some (.ref 43), some (.ref 1), some (.int l2_23), none, none]) ⟨rfl, rfl, rfl, trivial⟩ ?_
      exact hK l2_23 l3_23 mg27_23 mg24_23 ma33_23 ma32_23 h
    · have h := xif_f q h
      refine x_aload_n dX0_search_34 rfl ?_
      refine x_get fX0_53 dX0_search_35 rfl rfl rfl ?_
      refine x_get fX0_59 dX0_search_38 rfl rfl rfl ?_
      refine x_iload_n dX0_search_41 rfl ?_
      obtain ⟨q42, h⟩ := xix_of h
      refine x_iald dX0_search_42 rfl q42 ?_
      refine x_istore (pl' := [some (.ref 43), some (.ref 1), some (.int l2_23), some (.int l3_23), some (.int (a12 l3_23.toNatClampNeg))]) dX0_search_43 (by decide) rfl ?_
      refine x_aload_n dX0_search_45 rfl ?_
      refine x_aload_n dX0_search_46 rfl ?_
      refine x_get fX0_33 dX0_search_47 rfl rfl rfl ?_
      refine x_iload dX0_search_50 rfl ?_
      refine x_max dX0_search_52 kX0_89 kM_maxs kM_i kM_maxc (by omega) (Nat.le_of_ble_eq_true rfl) ?_
      refine x_put (h2 := (hA g0 g1 g2 g3 g4 g5 g6 g7 g8 g9 g10 g11 g12 g13 g14 g15 g16 g17 g18 g19 g20 g21 g22 g23 mg24_23 g25 g26 (if mg27_23 < (a12 l3_23.toNatClampNeg) then (a12 l3_23.toNatClampNeg) else mg27_23) g28 g29 g30 g31 g32 g33 g34 g35 g36 a0 a1 a2 a3 a4 a5 a6 a7 a8 a9 a10 a11 a12 a13 a14 a15 a16 a17 a18 a19 a20 a21 a22 a23 a24 a25 a26 a27 a28 a29 a30 a31 ma32_23 ma33_23 a34 a35 a36 a37 a38 a39 b0 b1 b2 b3 b4 w0 (.ref 19) (.ref 1))) fX0_33 dX0_search_55 rfl rfl (Nat.le_of_ble_eq_true rfl : 5 + 1 ≤ _) (fun α => ⟨rfl, rfl⟩) rfl ?_
      refine x_aload_n dX0_search_58 rfl ?_
      refine x_aload_n dX0_search_59 rfl ?_
      refine x_iload_n dX0_search_60 rfl ?_
      obtain ⟨z61, y61, h⟩ := xbind h
      refine x_callV (t_hA_X0_claimIsSo l3_23 z61 y61 (d + 1)) kX0_95 dX0_search_61 rfl rfl rfl rfl rfl (Nat.le_of_ble_eq_true rfl) (Nat.le_of_ble_eq_true rfl) rfl rfl (Or.inl rfl) ?_
      refine x_if_eq 71 dX0_search_64 (by decide) (fun q => ?_) (fun q => ?_)
      · have h := xif_t q h
        refine x_iload_n dX0_search_71 rfl ?_
        refine x_iload dX0_search_72 rfl ?_
        refine x_min dX0_search_74 kX0_99 kM_mins kM_i kM_minc (by omega) (Nat.le_of_ble_eq_true rfl) ?_
        refine x_istore_n (pl' := [some (.ref 43), some (.ref 1), some (.int (if (a12 l3_23.toNatClampNeg) < l2_23 then (a12 l3_23.toNatClampNeg) else l2_23)), some (.int l3_23), some (.int (a12 l3_23.toNatClampNeg))]) dX0_search_77 (by decide) rfl ?_
        refine x_iincK (1 : Int32) (pl' := [some (.ref 43), some (.ref 1), some (.int (if (a12 l3_23.toNatClampNeg) < l2_23 then (a12 l3_23.toNatClampNeg) else l2_23)), some (.int (l3_23 + (1 : Int32))), some (.int (a12 l3_23.toNatClampNeg))]) dX0_search_78 rfl (by decide) (by decide) rfl ?_
        refine x_goto 23 dX0_search_81 (by decide) ?_
        refine x_weak (pl2 := [some (.ref 43), some (.ref 1), some (.int (if (a12 l3_23.toNatClampNeg) < l2_23 then (a12 l3_23.toNatClampNeg) else l2_23)), some (.int (l3_23 + (1 : Int32))), none]) ⟨rfl, rfl, rfl, rfl, trivial⟩ ?_
        exact ih23 (if (a12 l3_23.toNatClampNeg) < l2_23 then (a12 l3_23.toNatClampNeg) else l2_23) (l3_23 + (1 : Int32)) (if mg27_23 < (a12 l3_23.toNatClampNeg) then (a12 l3_23.toNatClampNeg) else mg27_23) z61.2.1 z61.2.2.1 z61.2.2.2 h
      · have h := xif_f q h
        refine x_iload_n dX0_search_67 rfl ?_
        refine x_goto 77 dX0_search_68 (by decide) ?_
        refine x_istore_n (pl' := [some (.ref 43), some (.ref 1), some (.int l2_23), some (.int l3_23), some (.int (a12 l3_23.toNatClampNeg))]) dX0_search_77 (by decide) rfl ?_
        refine x_iincK (1 : Int32) (pl' := [some (.ref 43), some (.ref 1), some (.int l2_23), some (.int (l3_23 + (1 : Int32))), some (.int (a12 l3_23.toNatClampNeg))]) dX0_search_78 rfl (by decide) (by decide) rfl ?_
        refine x_goto 23 dX0_search_81 (by decide) ?_
        refine x_weak (pl2 := [some (.ref 43), some (.ref 1), some (.int l2_23), some (.int (l3_23 + (1 : Int32))), none]) ⟨rfl, rfl, rfl, rfl, trivial⟩ ?_
        exact ih23 l2_23 (l3_23 + (1 : Int32)) (if mg27_23 < (a12 l3_23.toNatClampNeg) then (a12 l3_23.toNatClampNeg) else mg27_23) z61.2.1 z61.2.2.1 z61.2.2.2 h
set_option maxRecDepth 100000 in
set_option maxHeartbeats 4000000 in
theorem lp_hA_X0_search_117 {g0 g1 g2 g3 g4 g5 g6 g7 g8 g9 g10 g11 g12 g13 g14 g15 g16 g17 g18 g19 g20 g21 g22 g23 g25 g26 g27 g28 g29 g30 g31 g32 g33 g34 g35 g36 : Int32} {a0 a1 a2 a3 a4 a5 a6 a7 a8 a9 a10 a11 a12 a13 a14 a15 a16 a17 a18 a19 a20 a21 a22 a23 a24 a25 a26 a27 a28 a29 a30 a34 a35 a36 a37 a38 a39 : (Nat → Int32)} {b0 b1 b2 b3 b4 : (Nat → Int64)} {w0 : Int64} (d n0 : Nat) (f2 : Int32) (f3 : Int32) (res : Int32 × Int32 × Int32 × (Nat → Int32) × Int32 × (Nat → Int32) × (Nat → Int32)) (K : Int32 → Int32 → (Nat → Int32) → (Nat → Int32) → (Nat → Int32) → Option (Int32 × Int32 × Int32 × (Nat → Int32) × Int32 × (Nat → Int32) × (Nat → Int32))) (hK : ∀ (l4_117 : Int32) (mg24_117 : Int32) (ma33_117 : (Nat → Int32)) (ma32_117 : (Nat → Int32)) (ma31_117 : (Nat → Int32)), K l4_117 mg24_117 ma33_117 ma32_117 ma31_117 = some res → xW xks YX0_search (d + 5) 0 0 n0 (xZ 0 0 n0 none (hA g0 g1 g2 g3 g4 g5 g6 g7 g8 g9 g10 g11 g12 g13 g14 g15 g16 g17 g18 g19 g20 g21 g22 g23 res.2.2.2.2.1 res.1 res.2.2.1 res.2.1 g28 g29 g30 g31 g32 g33 g34 g35 g36 a0 a1 a2 a3 a4 a5 a6 a7 a8 a9 a10 a11 a12 a13 a14 a15 a16 a17 a18 a19 a20 a21 a22 a23 a24 a25 a26 a27 a28 a29 a30 res.2.2.2.1 res.2.2.2.2.2.2 res.2.2.2.2.2.1 a34 a35 a36 a37 a38 a39 b0 b1 b2 b3 b4 w0 (.ref 19) (.ref 1))) 0 0 163 [some (.ref 43), some (.ref 1), some (.int f2), some (.int f3), none] [] (hA g0 g1 g2 g3 g4 g5 g6 g7 g8 g9 g10 g11 g12 g13 g14 g15 g16 g17 g18 g19 g20 g21 g22 g23 mg24_117 g25 g26 g27 g28 g29 g30 g31 g32 g33 g34 g35 g36 a0 a1 a2 a3 a4 a5 a6 a7 a8 a9 a10 a11 a12 a13 a14 a15 a16 a17 a18 a19 a20 a21 a22 a23 a24 a25 a26 a27 a28 a29 a30 ma31_117 ma32_117 ma33_117 a34 a35 a36 a37 a38 a39 b0 b1 b2 b3 b4 w0 (.ref 19) (.ref 1))) : ∀ (n : Nat) (l4_117 : Int32) (mg24_117 : Int32) (ma33_117 : (Nat → Int32)) (ma32_117 : (Nat → Int32)) (ma31_117 : (Nat → Int32)), L_hA_X0_search_117 g25 g27 g6 g26 g4 a1 a3 b2 g5 g3 a0 a2 g0 a8 a5 a6 a7 a12 a10 a11 f2 f3 K n l4_117 mg24_117 ma33_117 ma32_117 ma31_117 = some res → xW xks YX0_search (d + 5) 0 0 n0 (xZ 0 0 n0 none (hA g0 g1 g2 g3 g4 g5 g6 g7 g8 g9 g10 g11 g12 g13 g14 g15 g16 g17 g18 g19 g20 g21 g22 g23 res.2.2.2.2.1 res.1 res.2.2.1 res.2.1 g28 g29 g30 g31 g32 g33 g34 g35 g36 a0 a1 a2 a3 a4 a5 a6 a7 a8 a9 a10 a11 a12 a13 a14 a15 a16 a17 a18 a19 a20 a21 a22 a23 a24 a25 a26 a27 a28 a29 a30 res.2.2.2.1 res.2.2.2.2.2.2 res.2.2.2.2.2.1 a34 a35 a36 a37 a38 a39 b0 b1 b2 b3 b4 w0 (.ref 19) (.ref 1))) 0 0 117 [some (.ref 43), some (.ref 1), some (.int f2), some (.int f3), some (.int l4_117)] [] (hA g0 g1 g2 g3 g4 g5 g6 g7 g8 g9 g10 g11 g12 g13 g14 g15 g16 g17 g18 g19 g20 g21 g22 g23 mg24_117 g25 g26 g27 g28 g29 g30 g31 g32 g33 g34 g35 g36 a0 a1 a2 a3 a4 a5 a6 a7 a8 a9 a10 a11 a12 a13 a14 a15 a16 a17 a18 a19 a20 a21 a22 a23 a24 a25 a26 a27 a28 a29 a30 ma31_117 ma32_117 ma33_117 a34 a35 a36 a37 a38 a39 b0 b1 b2 b3 b4 w0 (.ref 19) (.ref 1)) := by
  intro n
  induction n with
  | zero =>
    intro l4_117 mg24_117 ma33_117 ma32_117 ma31_117 h
    cases (show (none : Option (Int32 × Int32 × Int32 × (Nat → Int32) × Int32 × (Nat → Int32) × (Nat → Int32))) = some res from h)
  | succ n117 ih117 =>
    intro l4_117 mg24_117 ma33_117 ma32_117 ma31_117 h
    unfold L_hA_X0_search_117 at h
    refine x_iload dX0_search_117 rfl ?_
    refine x_bipush (25 : Int32) dX0_search_119 (by decide) ?_
    refine x_icmp_ge 163 dX0_search_121 (by decide) (fun q => ?_) (fun q => ?_)
    · have h := xif_t q h
      refine x_weak (pl2 := [some (.ref 43), some (.ref 1), some (.int f2), some (.int f3), none]) ⟨rfl, rfl, rfl, rfl, trivial⟩ ?_
      exact hK l4_117 mg24_117 ma33_117 ma32_117 ma31_117 h
    · have h := xif_f q h
      refine x_iload_n dX0_search_124 rfl ?_
      refine x_iload_n dX0_search_125 rfl ?_
      refine x_icmp_gt 163 dX0_search_126 (by decide) (fun q => ?_) (fun q => ?_)
      · have h := xif_t q h
        refine x_weak (pl2 := [some (.ref 43), some (.ref 1), some (.int f2), some (.int f3), none]) ⟨rfl, rfl, rfl, rfl, trivial⟩ ?_
        exact hK l4_117 mg24_117 ma33_117 ma32_117 ma31_117 h
      · have h := xif_f q h
        refine x_aload_n dX0_search_129 rfl ?_
        refine x_get fX0_15 dX0_search_130 rfl rfl rfl ?_
        refine x_iload_n dX0_search_133 rfl ?_
        refine x_dup2 dX0_search_134 rfl rfl ?_
        obtain ⟨q135, h⟩ := xix_of h
        refine x_iald dX0_search_135 rfl q135 ?_
        refine x_aload_n dX0_search_136 rfl ?_
        refine x_aload_n dX0_search_137 rfl ?_
        refine x_iload_n dX0_search_138 rfl ?_
        refine x_iload dX0_search_139 rfl ?_
        obtain ⟨z141, y141, h⟩ := xbind h
        refine x_callV (t_hA_X0_fits f3 l4_117 z141 y141 (d + 0)) kX0_102 dX0_search_141 rfl rfl rfl rfl rfl (Nat.le_of_ble_eq_true rfl) (Nat.le_of_ble_eq_true rfl) rfl rfl (Or.inl rfl) ?_
        refine x_if_eq 154 dX0_search_144 (by decide) (fun q => ?_) (fun q => ?_)
        · have h := xif_t q h
          refine x_iconst (0 : Int32) dX0_search_154 (by decide) ?_
          refine x_ior dX0_search_155 ?_
          obtain ⟨q156, h⟩ := xix_of h
          refine x_iast (h2 := (hA g0 g1 g2 g3 g4 g5 g6 g7 g8 g9 g10 g11 g12 g13 g14 g15 g16 g17 g18 g19 g20 g21 g22 g23 z141.2.1 g25 g26 g27 g28 g29 g30 g31 g32 g33 g34 g35 g36 a0 a1 a2 a3 a4 a5 a6 a7 a8 a9 a10 a11 a12 a13 a14 a15 a16 a17 a18 a19 a20 a21 a22 a23 a24 a25 a26 a27 a28 a29 a30 (upd ma31_117 f3.toNatClampNeg ((ma31_117 f3.toNatClampNeg) ||| (0 : Int32))) z141.2.2.2 z141.2.2.1 a34 a35 a36 a37 a38 a39 b0 b1 b2 b3 b4 w0 (.ref 19) (.ref 1))) dX0_search_156 rfl q156 rfl ?_
          refine x_iincK (1 : Int32) (pl' := [some (.ref 43), some (.ref 1), some (.int f2), some (.int f3), some (.int (l4_117 + (1 : Int32)))]) dX0_search_157 rfl (by decide) (by decide) rfl ?_
          refine x_goto 117 dX0_search_160 (by decide) ?_
          refine x_weak (pl2 := [some (.ref 43), some (.ref 1), some (.int f2), some (.int f3), some (.int (l4_117 + (1 : Int32)))]) ⟨rfl, rfl, rfl, rfl, rfl, trivial⟩ ?_
          exact ih117 (l4_117 + (1 : Int32)) z141.2.1 z141.2.2.1 z141.2.2.2 (upd ma31_117 f3.toNatClampNeg ((ma31_117 f3.toNatClampNeg) ||| (0 : Int32))) h
        · have h := xif_f q h
          refine x_iconst (1 : Int32) dX0_search_147 (by decide) ?_
          refine x_iload dX0_search_148 rfl ?_
          refine x_ishl dX0_search_150 ?_
          refine x_goto 155 dX0_search_151 (by decide) ?_
          refine x_ior dX0_search_155 ?_
          obtain ⟨q156, h⟩ := xix_of h
          refine x_iast (h2 := (hA g0 g1 g2 g3 g4 g5 g6 g7 g8 g9 g10 g11 g12 g13 g14 g15 g16 g17 g18 g19 g20 g21 g22 g23 z141.2.1 g25 g26 g27 g28 g29 g30 g31 g32 g33 g34 g35 g36 a0 a1 a2 a3 a4 a5 a6 a7 a8 a9 a10 a11 a12 a13 a14 a15 a16 a17 a18 a19 a20 a21 a22 a23 a24 a25 a26 a27 a28 a29 a30 (upd ma31_117 f3.toNatClampNeg ((ma31_117 f3.toNatClampNeg) ||| ((1 : Int32) <<< (l4_117 &&& 31)))) z141.2.2.2 z141.2.2.1 a34 a35 a36 a37 a38 a39 b0 b1 b2 b3 b4 w0 (.ref 19) (.ref 1))) dX0_search_156 rfl q156 rfl ?_
          refine x_iincK (1 : Int32) (pl' := [some (.ref 43), some (.ref 1), some (.int f2), some (.int f3), some (.int (l4_117 + (1 : Int32)))]) dX0_search_157 rfl (by decide) (by decide) rfl ?_
          refine x_goto 117 dX0_search_160 (by decide) ?_
          refine x_weak (pl2 := [some (.ref 43), some (.ref 1), some (.int f2), some (.int f3), some (.int (l4_117 + (1 : Int32)))]) ⟨rfl, rfl, rfl, rfl, rfl, trivial⟩ ?_
          exact ih117 (l4_117 + (1 : Int32)) z141.2.1 z141.2.2.1 z141.2.2.2 (upd ma31_117 f3.toNatClampNeg ((ma31_117 f3.toNatClampNeg) ||| ((1 : Int32) <<< (l4_117 &&& 31)))) h
set_option maxRecDepth 100000 in
set_option maxHeartbeats 4000000 in
theorem lp_hA_X0_search_101 {g0 g1 g2 g3 g4 g5 g6 g7 g8 g9 g10 g11 g12 g13 g14 g15 g16 g17 g18 g19 g20 g21 g22 g23 g25 g26 g27 g28 g29 g30 g31 g32 g33 g34 g35 g36 : Int32} {a0 a1 a2 a3 a4 a5 a6 a7 a8 a9 a10 a11 a12 a13 a14 a15 a16 a17 a18 a19 a20 a21 a22 a23 a24 a25 a26 a27 a28 a29 a30 a34 a35 a36 a37 a38 a39 : (Nat → Int32)} {b0 b1 b2 b3 b4 : (Nat → Int64)} {w0 : Int64} (d n0 : Nat) (f2 : Int32) (res : Int32 × Int32 × Int32 × (Nat → Int32) × Int32 × (Nat → Int32) × (Nat → Int32)) (K : Int32 → (Nat → Int32) → Int32 → (Nat → Int32) → (Nat → Int32) → Option (Int32 × Int32 × Int32 × (Nat → Int32) × Int32 × (Nat → Int32) × (Nat → Int32))) (hK : ∀ (l3_101 : Int32) (ma31_101 : (Nat → Int32)) (mg24_101 : Int32) (ma33_101 : (Nat → Int32)) (ma32_101 : (Nat → Int32)), K l3_101 ma31_101 mg24_101 ma33_101 ma32_101 = some res → xW xks YX0_search (d + 5) 0 0 n0 (xZ 0 0 n0 none (hA g0 g1 g2 g3 g4 g5 g6 g7 g8 g9 g10 g11 g12 g13 g14 g15 g16 g17 g18 g19 g20 g21 g22 g23 res.2.2.2.2.1 res.1 res.2.2.1 res.2.1 g28 g29 g30 g31 g32 g33 g34 g35 g36 a0 a1 a2 a3 a4 a5 a6 a7 a8 a9 a10 a11 a12 a13 a14 a15 a16 a17 a18 a19 a20 a21 a22 a23 a24 a25 a26 a27 a28 a29 a30 res.2.2.2.1 res.2.2.2.2.2.2 res.2.2.2.2.2.1 a34 a35 a36 a37 a38 a39 b0 b1 b2 b3 b4 w0 (.ref 19) (.ref 1))) 0 0 169 [none, none, none, none, none] [] (hA g0 g1 g2 g3 g4 g5 g6 g7 g8 g9 g10 g11 g12 g13 g14 g15 g16 g17 g18 g19 g20 g21 g22 g23 mg24_101 g25 g26 g27 g28 g29 g30 g31 g32 g33 g34 g35 g36 a0 a1 a2 a3 a4 a5 a6 a7 a8 a9 a10 a11 a12 a13 a14 a15 a16 a17 a18 a19 a20 a21 a22 a23 a24 a25 a26 a27 a28 a29 a30 ma31_101 ma32_101 ma33_101 a34 a35 a36 a37 a38 a39 b0 b1 b2 b3 b4 w0 (.ref 19) (.ref 1))) : ∀ (n : Nat) (l3_101 : Int32) (ma31_101 : (Nat → Int32)) (mg24_101 : Int32) (ma33_101 : (Nat → Int32)) (ma32_101 : (Nat → Int32)), L_hA_X0_search_101 g25 g27 g6 g26 g4 a1 a3 b2 g5 g3 a0 a2 g0 a8 a5 a6 a7 a12 a10 a11 f2 K n l3_101 ma31_101 mg24_101 ma33_101 ma32_101 = some res → xW xks YX0_search (d + 5) 0 0 n0 (xZ 0 0 n0 none (hA g0 g1 g2 g3 g4 g5 g6 g7 g8 g9 g10 g11 g12 g13 g14 g15 g16 g17 g18 g19 g20 g21 g22 g23 res.2.2.2.2.1 res.1 res.2.2.1 res.2.1 g28 g29 g30 g31 g32 g33 g34 g35 g36 a0 a1 a2 a3 a4 a5 a6 a7 a8 a9 a10 a11 a12 a13 a14 a15 a16 a17 a18 a19 a20 a21 a22 a23 a24 a25 a26 a27 a28 a29 a30 res.2.2.2.1 res.2.2.2.2.2.2 res.2.2.2.2.2.1 a34 a35 a36 a37 a38 a39 b0 b1 b2 b3 b4 w0 (.ref 19) (.ref 1))) 0 0 101 [some (.ref 43), some (.ref 1), some (.int f2), some (.int l3_101), none] [] (hA g0 g1 g2 g3 g4 g5 g6 g7 g8 g9 g10 g11 g12 g13 g14 g15 g16 g17 g18 g19 g20 g21 g22 g23 mg24_101 g25 g26 g27 g28 g29 g30 g31 g32 g33 g34 g35 g36 a0 a1 a2 a3 a4 a5 a6 a7 a8 a9 a10 a11 a12 a13 a14 a15 a16 a17 a18 a19 a20 a21 a22 a23 a24 a25 a26 a27 a28 a29 a30 ma31_101 ma32_101 ma33_101 a34 a35 a36 a37 a38 a39 b0 b1 b2 b3 b4 w0 (.ref 19) (.ref 1)) := by
  intro n
  induction n with
  | zero =>
    intro l3_101 ma31_101 mg24_101 ma33_101 ma32_101 h
    cases (show (none : Option (Int32 × Int32 × Int32 × (Nat → Int32) × Int32 × (Nat → Int32) × (Nat → Int32))) = some res from h)
  | succ n101 ih101 =>
    intro l3_101 ma31_101 mg24_101 ma33_101 ma32_101 h
    unfold L_hA_X0_search_101 at h
    refine x_iload_n dX0_search_101 rfl ?_
    refine x_bipush (41 : Int32) dX0_search_102 (by decide) ?_
    refine x_icmp_ge 169 dX0_search_104 (by decide) (fun q => ?_) (fun q => ?_)
    · have h := xif_t q h
      refine x_weak (pl2 := [none, none, none, none, none]) trivial ?_
      exact hK l3_101 ma31_101 mg24_101 ma33_101 ma32_101 h
    · have h := xif_f q h
      refine x_aload_n dX0_search_107 rfl ?_
      refine x_get fX0_15 dX0_search_108 rfl rfl rfl ?_
      refine x_iload_n dX0_search_111 rfl ?_
      refine x_iconst (0 : Int32) dX0_search_112 (by decide) ?_
      obtain ⟨q113, h⟩ := xix_of h
      refine x_iast (h2 := (hA g0 g1 g2 g3 g4 g5 g6 g7 g8 g9 g10 g11 g12 g13 g14 g15 g16 g17 g18 g19 g20 g21 g22 g23 mg24_101 g25 g26 g27 g28 g29 g30 g31 g32 g33 g34 g35 g36 a0 a1 a2 a3 a4 a5 a6 a7 a8 a9 a10 a11 a12 a13 a14 a15 a16 a17 a18 a19 a20 a21 a22 a23 a24 a25 a26 a27 a28 a29 a30 (upd ma31_101 l3_101.toNatClampNeg (0 : Int32)) ma32_101 ma33_101 a34 a35 a36 a37 a38 a39 b0 b1 b2 b3 b4 w0 (.ref 19) (.ref 1))) dX0_search_113 rfl q113 rfl ?_
      refine x_iconst (0 : Int32) dX0_search_114 (by decide) ?_
      refine x_istore (pl' := [some (.ref 43), some (.ref 1), some (.int f2), some (.int l3_101), some (.int (0 : Int32))]) dX0_search_115 (by decide) rfl ?_
      refine x_weak (pl2 := [some (.ref 43), some (.ref 1), some (.int f2), some (.int l3_101), some (.int (0 : Int32))]) ⟨rfl, rfl, rfl, rfl, rfl, trivial⟩ ?_
      refine lp_hA_X0_search_117 d _ f2 l3_101 res _ (fun l4_117 mg24_117 ma33_117 ma32_117 ma31_117 h => ?_) 200000 (0 : Int32) mg24_101 ma33_101 ma32_101 (upd ma31_101 l3_101.toNatClampNeg (0 : Int32)) h
      refine x_iincK (1 : Int32) (pl' := [some (.ref 43), some (.ref 1), some (.int f2), some (.int (l3_101 + (1 : Int32))), none]) dX0_search_163 rfl (by decide) (by decide) rfl ?_
      refine x_goto 101 dX0_search_166 (by decide) ?_
      refine x_weak (pl2 := [some (.ref 43), some (.ref 1), some (.int f2), some (.int (l3_101 + (1 : Int32))), none]) ⟨rfl, rfl, rfl, rfl, trivial⟩ ?_
      exact ih101 (l3_101 + (1 : Int32)) ma31_117 mg24_117 ma33_117 ma32_117 h
set_option maxRecDepth 100000 in
set_option maxHeartbeats 4000000 in
theorem t_hA_X0_search {g0 g1 g2 g3 g4 g5 g6 g7 g8 g9 g10 g11 g12 g13 g14 g15 g16 g17 g18 g19 g20 g21 g22 g23 g24 g25 g26 g27 g28 g29 g30 g31 g32 g33 g34 g35 g36 : Int32} {a0 a1 a2 a3 a4 a5 a6 a7 a8 a9 a10 a11 a12 a13 a14 a15 a16 a17 a18 a19 a20 a21 a22 a23 a24 a25 a26 a27 a28 a29 a30 a31 a32 a33 a34 a35 a36 a37 a38 a39 : (Nat → Int32)} {b0 b1 b2 b3 b4 : (Nat → Int64)} {w0 : Int64}  (res : Int32 × Int32 × Int32 × (Nat → Int32) × Int32 × (Nat → Int32) × (Nat → Int32)) (h : e_hA_X0_search g25 g27 g6 g26 a31 g4 a1 a3 b2 g24 a33 a32 g5 g3 a0 a2 g0 a8 a5 a6 a7 a12 a10 a11  = some res) (d : Nat) : xMet xks YX0_search (d + 5) 0 0 [.ref 43, .ref 1] (hA g0 g1 g2 g3 g4 g5 g6 g7 g8 g9 g10 g11 g12 g13 g14 g15 g16 g17 g18 g19 g20 g21 g22 g23 g24 g25 g26 g27 g28 g29 g30 g31 g32 g33 g34 g35 g36 a0 a1 a2 a3 a4 a5 a6 a7 a8 a9 a10 a11 a12 a13 a14 a15 a16 a17 a18 a19 a20 a21 a22 a23 a24 a25 a26 a27 a28 a29 a30 a31 a32 a33 a34 a35 a36 a37 a38 a39 b0 b1 b2 b3 b4 w0 (.ref 19) (.ref 1)) none (hA g0 g1 g2 g3 g4 g5 g6 g7 g8 g9 g10 g11 g12 g13 g14 g15 g16 g17 g18 g19 g20 g21 g22 g23 res.2.2.2.2.1 res.1 res.2.2.1 res.2.1 g28 g29 g30 g31 g32 g33 g34 g35 g36 a0 a1 a2 a3 a4 a5 a6 a7 a8 a9 a10 a11 a12 a13 a14 a15 a16 a17 a18 a19 a20 a21 a22 a23 a24 a25 a26 a27 a28 a29 a30 res.2.2.2.1 res.2.2.2.2.2.2 res.2.2.2.2.2.1 a34 a35 a36 a37 a38 a39 b0 b1 b2 b3 b4 w0 (.ref 19) (.ref 1)) := by
  unfold e_hA_X0_search at h
  refine xMet_of (pl := [some (.ref 43), some (.ref 1), none, none, none]) (by decide) (Nat.le_of_ble_eq_true rfl) rfl (Nat.le_of_ble_eq_true rfl) ?_
  refine x_aload_n dX0_search_0 rfl ?_
  refine x_get fX0_26 dX0_search_1 rfl rfl rfl ?_
  refine x_if_eq 8 dX0_search_4 (by decide) (fun q => ?_) (fun q => ?_)
  · have h := xif_t q h
    refine x_aload_n dX0_search_8 rfl ?_
    refine x_iconst (1 : Int32) dX0_search_9 (by decide) ?_
    refine x_put (h2 := (hA g0 g1 g2 g3 g4 g5 g6 g7 g8 g9 g10 g11 g12 g13 g14 g15 g16 g17 g18 g19 g20 g21 g22 g23 g24 (1 : Int32) g26 g27 g28 g29 g30 g31 g32 g33 g34 g35 g36 a0 a1 a2 a3 a4 a5 a6 a7 a8 a9 a10 a11 a12 a13 a14 a15 a16 a17 a18 a19 a20 a21 a22 a23 a24 a25 a26 a27 a28 a29 a30 a31 a32 a33 a34 a35 a36 a37 a38 a39 b0 b1 b2 b3 b4 w0 (.ref 19) (.ref 1))) fX0_26 dX0_search_10 rfl rfl (Nat.le_of_ble_eq_true rfl : 3 + 1 ≤ _) (fun α => ⟨rfl, rfl⟩) rfl ?_
    refine x_bipush (41 : Int32) dX0_search_13 (by decide) ?_
    refine x_istore_n (pl' := [some (.ref 43), some (.ref 1), some (.int (41 : Int32)), none, none]) dX0_search_15 (by decide) rfl ?_
    refine x_aload_n dX0_search_16 rfl ?_
    refine x_iconst (-1 : Int32) dX0_search_17 (by decide) ?_
    refine x_put (h2 := (hA g0 g1 g2 g3 g4 g5 g6 g7 g8 g9 g10 g11 g12 g13 g14 g15 g16 g17 g18 g19 g20 g21 g22 g23 g24 (1 : Int32) g26 (-1 : Int32) g28 g29 g30 g31 g32 g33 g34 g35 g36 a0 a1 a2 a3 a4 a5 a6 a7 a8 a9 a10 a11 a12 a13 a14 a15 a16 a17 a18 a19 a20 a21 a22 a23 a24 a25 a26 a27 a28 a29 a30 a31 a32 a33 a34 a35 a36 a37 a38 a39 b0 b1 b2 b3 b4 w0 (.ref 19) (.ref 1))) fX0_33 dX0_search_18 rfl rfl (Nat.le_of_ble_eq_true rfl : 5 + 1 ≤ _) (fun α => ⟨rfl, rfl⟩) rfl ?_
    refine x_iconst (0 : Int32) dX0_search_21 (by decide) ?_
    refine x_istore_n (pl' := [some (.ref 43), some (.ref 1), some (.int (41 : Int32)), some (.int (0 : Int32)), none]) dX0_search_22 (by decide) rfl ?_
    refine x_weak (pl2 := [some (.ref 43), some (.ref 1), some (.int (41 : Int32)), some (.int (0 : Int32)), none]) ⟨rfl, rfl, rfl, rfl, trivial⟩ ?_
    refine lp_hA_X0_search_23 d _  res _ (fun l2_23 l3_23 mg27_23 mg24_23 ma33_23 ma32_23 h => ?_) 200000 (41 : Int32) (0 : Int32) (-1 : Int32) g24 a33 a32 h
    refine x_aload_n dX0_search_84 rfl ?_
    refine x_iload_n dX0_search_85 rfl ?_
    refine x_bipush (41 : Int32) dX0_search_86 (by decide) ?_
    refine x_icmp_ne 95 dX0_search_88 (by decide) (fun q => ?_) (fun q => ?_)
    · have h := xif_f q h
      refine x_iconst (0 : Int32) dX0_search_95 (by decide) ?_
      refine x_put (h2 := (hA g0 g1 g2 g3 g4 g5 g6 g7 g8 g9 g10 g11 g12 g13 g14 g15 g16 g17 g18 g19 g20 g21 g22 g23 mg24_23 (1 : Int32) (0 : Int32) mg27_23 g28 g29 g30 g31 g32 g33 g34 g35 g36 a0 a1 a2 a3 a4 a5 a6 a7 a8 a9 a10 a11 a12 a13 a14 a15 a16 a17 a18 a19 a20 a21 a22 a23 a24 a25 a26 a27 a28 a29 a30 a31 ma32_23 ma33_23 a34 a35 a36 a37 a38 a39 b0 b1 b2 b3 b4 w0 (.ref 19) (.ref 1))) fX0_30 dX0_search_96 rfl rfl (Nat.le_of_ble_eq_true rfl : 4 + 1 ≤ _) (fun α => ⟨rfl, rfl⟩) rfl ?_
      refine x_iconst (0 : Int32) dX0_search_99 (by decide) ?_
      refine x_istore_n (pl' := [some (.ref 43), some (.ref 1), some (.int l2_23), some (.int (0 : Int32)), none]) dX0_search_100 (by decide) rfl ?_
      refine x_weak (pl2 := [some (.ref 43), some (.ref 1), some (.int l2_23), some (.int (0 : Int32)), none]) ⟨rfl, rfl, rfl, rfl, trivial⟩ ?_
      refine lp_hA_X0_search_101 d _ l2_23 res _ (fun l3_101 ma31_101 mg24_101 ma33_101 ma32_101 h => ?_) 200000 (0 : Int32) a31 mg24_23 ma33_23 ma32_23 h
      cases h
      exact x_vret2 dX0_search_169 rfl rfl
    · have h := xif_t q h
      refine x_iconst (1 : Int32) dX0_search_91 (by decide) ?_
      refine x_goto 96 dX0_search_92 (by decide) ?_
      refine x_put (h2 := (hA g0 g1 g2 g3 g4 g5 g6 g7 g8 g9 g10 g11 g12 g13 g14 g15 g16 g17 g18 g19 g20 g21 g22 g23 mg24_23 (1 : Int32) (1 : Int32) mg27_23 g28 g29 g30 g31 g32 g33 g34 g35 g36 a0 a1 a2 a3 a4 a5 a6 a7 a8 a9 a10 a11 a12 a13 a14 a15 a16 a17 a18 a19 a20 a21 a22 a23 a24 a25 a26 a27 a28 a29 a30 a31 ma32_23 ma33_23 a34 a35 a36 a37 a38 a39 b0 b1 b2 b3 b4 w0 (.ref 19) (.ref 1))) fX0_30 dX0_search_96 rfl rfl (Nat.le_of_ble_eq_true rfl : 4 + 1 ≤ _) (fun α => ⟨rfl, rfl⟩) rfl ?_
      refine x_iconst (0 : Int32) dX0_search_99 (by decide) ?_
      refine x_istore_n (pl' := [some (.ref 43), some (.ref 1), some (.int l2_23), some (.int (0 : Int32)), none]) dX0_search_100 (by decide) rfl ?_
      refine x_weak (pl2 := [some (.ref 43), some (.ref 1), some (.int l2_23), some (.int (0 : Int32)), none]) ⟨rfl, rfl, rfl, rfl, trivial⟩ ?_
      refine lp_hA_X0_search_101 d _ l2_23 res _ (fun l3_101 ma31_101 mg24_101 ma33_101 ma32_101 h => ?_) 200000 (0 : Int32) a31 mg24_23 ma33_23 ma32_23 h
      cases h
      exact x_vret2 dX0_search_169 rfl rfl
  · have h := xif_f q h
    cases h
    exact x_vret2 dX0_search_7 rfl rfl
noncomputable def L_hA_X0_countWays_20 (p0 : Int32) (p1 : Int32) (p2 : Int32) (p3 : Int32) (p4 : (Nat → Int32)) (p5 : Int32) (p6 : (Nat → Int32)) (p7 : (Nat → Int32)) (p8 : (Nat → Int64)) (p9 : Int32) (p10 : (Nat → Int32)) (p11 : (Nat → Int32)) (p12 : Int32) (p13 : Int32) (p14 : (Nat → Int32)) (p15 : (Nat → Int32)) (p16 : Int32) (p17 : (Nat → Int32)) (p18 : (Nat → Int32)) (p19 : (Nat → Int32)) (p20 : (Nat → Int32)) (p21 : (Nat → Int32)) (p22 : (Nat → Int32)) (p23 : (Nat → Int32))   (K : Int32 → Int32 → Option (Int32 × Int32 × Int32 × Int32 × (Nat → Int32) × Int32 × (Nat → Int32) × (Nat → Int32))) : Nat → Int32 → Int32 → Option (Int32 × Int32 × Int32 × Int32 × (Nat → Int32) × Int32 × (Nat → Int32) × (Nat → Int32))
  | 0, _, _ => none
  | n20 + 1, l2_20, l3_20 => if (41 : Int32) ≤ l3_20 then K l2_20 l3_20 else (xix l3_20 41 (L_hA_X0_countWays_20 p0 p1 p2 p3 p4 p5 p6 p7 p8 p9 p10 p11 p12 p13 p14 p15 p16 p17 p18 p19 p20 p21 p22 p23  K n20 (l2_20 + (xbc (p4 l3_20.toNatClampNeg))) (l3_20 + (1 : Int32))))
noncomputable def e_hA_X0_countWays (p0 : Int32) (p1 : Int32) (p2 : Int32) (p3 : Int32) (p4 : (Nat → Int32)) (p5 : Int32) (p6 : (Nat → Int32)) (p7 : (Nat → Int32)) (p8 : (Nat → Int64)) (p9 : Int32) (p10 : (Nat → Int32)) (p11 : (Nat → Int32)) (p12 : Int32) (p13 : Int32) (p14 : (Nat → Int32)) (p15 : (Nat → Int32)) (p16 : Int32) (p17 : (Nat → Int32)) (p18 : (Nat → Int32)) (p19 : (Nat → Int32)) (p20 : (Nat → Int32)) (p21 : (Nat → Int32)) (p22 : (Nat → Int32)) (p23 : (Nat → Int32))  : Option (Int32 × Int32 × Int32 × Int32 × (Nat → Int32) × Int32 × (Nat → Int32) × (Nat → Int32)) :=
  ((e_hA_X0_search p0 p1 p2 p3 p4 p5 p6 p7 p8 p9 p10 p11 p12 p13 p14 p15 p16 p17 p18 p19 p20 p21 p22 p23).bind fun z2 => if z2.2.2.1 = (0 : Int32) then L_hA_X0_countWays_20 z2.1 z2.2.1 p2 z2.2.2.1 z2.2.2.2.1 p5 p6 p7 p8 z2.2.2.2.2.1 z2.2.2.2.2.2.1 z2.2.2.2.2.2.2 p12 p13 p14 p15 p16 p17 p18 p19 p20 p21 p22 p23  (fun l2_20 l3_20 => some (l2_20, z2.1, z2.2.1, z2.2.2.1, z2.2.2.2.1, z2.2.2.2.2.1, z2.2.2.2.2.2.1, z2.2.2.2.2.2.2)) 200000 (0 : Int32) (0 : Int32) else L_hA_X0_countWays_20 z2.1 z2.2.1 p2 z2.2.2.1 z2.2.2.2.1 p5 p6 p7 p8 z2.2.2.2.2.1 z2.2.2.2.2.2.1 z2.2.2.2.2.2.2 p12 p13 p14 p15 p16 p17 p18 p19 p20 p21 p22 p23  (fun l2_20 l3_20 => some (l2_20, z2.1, z2.2.1, z2.2.2.1, z2.2.2.2.1, z2.2.2.2.2.1, z2.2.2.2.2.2.1, z2.2.2.2.2.2.2)) 200000 (1 : Int32) (0 : Int32))
set_option maxRecDepth 100000 in
set_option maxHeartbeats 4000000 in
theorem lp_hA_X0_countWays_20 {g0 g1 g2 g3 g4 g5 g6 g7 g8 g9 g10 g11 g12 g13 g14 g15 g16 g17 g18 g19 g20 g21 g22 g23 g24 g25 g26 g27 g28 g29 g30 g31 g32 g33 g34 g35 g36 : Int32} {a0 a1 a2 a3 a4 a5 a6 a7 a8 a9 a10 a11 a12 a13 a14 a15 a16 a17 a18 a19 a20 a21 a22 a23 a24 a25 a26 a27 a28 a29 a30 a31 a32 a33 a34 a35 a36 a37 a38 a39 : (Nat → Int32)} {b0 b1 b2 b3 b4 : (Nat → Int64)} {w0 : Int64} (d n0 : Nat)  (res : Int32 × Int32 × Int32 × Int32 × (Nat → Int32) × Int32 × (Nat → Int32) × (Nat → Int32)) (K : Int32 → Int32 → Option (Int32 × Int32 × Int32 × Int32 × (Nat → Int32) × Int32 × (Nat → Int32) × (Nat → Int32))) (hK : ∀ (l2_20 : Int32) (l3_20 : Int32), K l2_20 l3_20 = some res → xW xks YX0_countWays (d + 6) 0 0 n0 (xZ 0 0 n0 (some (.int res.1)) (hA g0 g1 g2 g3 g4 g5 g6 g7 g8 g9 g10 g11 g12 g13 g14 g15 g16 g17 g18 g19 g20 g21 g22 g23 res.2.2.2.2.2.1 res.2.1 res.2.2.2.1 res.2.2.1 g28 g29 g30 g31 g32 g33 g34 g35 g36 a0 a1 a2 a3 a4 a5 a6 a7 a8 a9 a10 a11 a12 a13 a14 a15 a16 a17 a18 a19 a20 a21 a22 a23 a24 a25 a26 a27 a28 a29 a30 res.2.2.2.2.1 res.2.2.2.2.2.2.2 res.2.2.2.2.2.2.1 a34 a35 a36 a37 a38 a39 b0 b1 b2 b3 b4 w0 (.ref 19) (.ref 1))) 0 0 44 [none, none, some (.int l2_20), none] [] (hA g0 g1 g2 g3 g4 g5 g6 g7 g8 g9 g10 g11 g12 g13 g14 g15 g16 g17 g18 g19 g20 g21 g22 g23 g24 g25 g26 g27 g28 g29 g30 g31 g32 g33 g34 g35 g36 a0 a1 a2 a3 a4 a5 a6 a7 a8 a9 a10 a11 a12 a13 a14 a15 a16 a17 a18 a19 a20 a21 a22 a23 a24 a25 a26 a27 a28 a29 a30 a31 a32 a33 a34 a35 a36 a37 a38 a39 b0 b1 b2 b3 b4 w0 (.ref 19) (.ref 1))) : ∀ (n : Nat) (l2_20 : Int32) (l3_20 : Int32), L_hA_X0_countWays_20 g25 g27 g6 g26 a31 g4 a1 a3 b2 g24 a33 a32 g5 g3 a0 a2 g0 a8 a5 a6 a7 a12 a10 a11  K n l2_20 l3_20 = some res → xW xks YX0_countWays (d + 6) 0 0 n0 (xZ 0 0 n0 (some (.int res.1)) (hA g0 g1 g2 g3 g4 g5 g6 g7 g8 g9 g10 g11 g12 g13 g14 g15 g16 g17 g18 g19 g20 g21 g22 g23 res.2.2.2.2.2.1 res.2.1 res.2.2.2.1 res.2.2.1 g28 g29 g30 g31 g32 g33 g34 g35 g36 a0 a1 a2 a3 a4 a5 a6 a7 a8 a9 a10 a11 a12 a13 a14 a15 a16 a17 a18 a19 a20 a21 a22 a23 a24 a25 a26 a27 a28 a29 a30 res.2.2.2.2.1 res.2.2.2.2.2.2.2 res.2.2.2.2.2.2.1 a34 a35 a36 a37 a38 a39 b0 b1 b2 b3 b4 w0 (.ref 19) (.ref 1))) 0 0 20 [some (.ref 43), none, some (.int l2_20), some (.int l3_20)] [] (hA g0 g1 g2 g3 g4 g5 g6 g7 g8 g9 g10 g11 g12 g13 g14 g15 g16 g17 g18 g19 g20 g21 g22 g23 g24 g25 g26 g27 g28 g29 g30 g31 g32 g33 g34 g35 g36 a0 a1 a2 a3 a4 a5 a6 a7 a8 a9 a10 a11 a12 a13 a14 a15 a16 a17 a18 a19 a20 a21 a22 a23 a24 a25 a26 a27 a28 a29 a30 a31 a32 a33 a34 a35 a36 a37 a38 a39 b0 b1 b2 b3 b4 w0 (.ref 19) (.ref 1)) := by
  intro n
  induction n with
  | zero =>
    intro l2_20 l3_20 h
    cases (show (none : Option (Int32 × Int32 × Int32 × Int32 × (Nat → Int32) × Int32 × (Nat → Int32) × (Nat → Int32))) = some res from h)
  | succ n20 ih20 =>
    intro l2_20 l3_20 h
    unfold L_hA_X0_countWays_20 at h
    refine x_iload_n dX0_countWays_20 rfl ?_
    refine x_bipush (41 : Int32) dX0_countWays_21 (by decide) ?_
    refine x_icmp_ge 44 dX0_countWays_23 (by decide) (fun q => ?_) (fun q => ?_)
    · have h := xif_t q h
      refine x_weak (pl2 := [none, none, some (.int l2_20), none]) ⟨rfl, trivial⟩ ?_
      exact hK l2_20 l3_20 h
    · have h := xif_f q h
      refine x_iload_n dX0_countWays_26 rfl ?_
      refine x_aload_n dX0_countWays_27 rfl ?_
      refine x_get fX0_15 dX0_countWays_28 rfl rfl rfl ?_
      refine x_iload_n dX0_countWays_31 rfl ?_
      obtain ⟨q32, h⟩ := xix_of h
      refine x_iald dX0_countWays_32 rfl q32 ?_
      refine x_callS (t_bitCount (hA g0 g1 g2 g3 g4 g5 g6 g7 g8 g9 g10 g11 g12 g13 g14 g15 g16 g17 g18 g19 g20 g21 g22 g23 g24 g25 g26 g27 g28 g29 g30 g31 g32 g33 g34 g35 g36 a0 a1 a2 a3 a4 a5 a6 a7 a8 a9 a10 a11 a12 a13 a14 a15 a16 a17 a18 a19 a20 a21 a22 a23 a24 a25 a26 a27 a28 a29 a30 a31 a32 a33 a34 a35 a36 a37 a38 a39 b0 b1 b2 b3 b4 w0 (.ref 19) (.ref 1)) (Nat.le_of_ble_eq_true rfl) _ (d + 4)) kX0_80 dX0_countWays_33 rfl rfl (Nat.le_of_ble_eq_true rfl) (Nat.le_of_ble_eq_true rfl) rfl rfl (Or.inl rfl) ?_
      refine x_iadd dX0_countWays_36 ?_
      refine x_istore_n (pl' := [some (.ref 43), none, some (.int (l2_20 + (xbc (a31 l3_20.toNatClampNeg)))), some (.int l3_20)]) dX0_countWays_37 (by decide) rfl ?_
      refine x_iincK (1 : Int32) (pl' := [some (.ref 43), none, some (.int (l2_20 + (xbc (a31 l3_20.toNatClampNeg)))), some (.int (l3_20 + (1 : Int32)))]) dX0_countWays_38 rfl (by decide) (by decide) rfl ?_
      refine x_goto 20 dX0_countWays_41 (by decide) ?_
      refine x_weak (pl2 := [some (.ref 43), none, some (.int (l2_20 + (xbc (a31 l3_20.toNatClampNeg)))), some (.int (l3_20 + (1 : Int32)))]) ⟨rfl, rfl, rfl, trivial⟩ ?_
      exact ih20 (l2_20 + (xbc (a31 l3_20.toNatClampNeg))) (l3_20 + (1 : Int32)) h
set_option maxRecDepth 100000 in
set_option maxHeartbeats 4000000 in
theorem t_hA_X0_countWays {g0 g1 g2 g3 g4 g5 g6 g7 g8 g9 g10 g11 g12 g13 g14 g15 g16 g17 g18 g19 g20 g21 g22 g23 g24 g25 g26 g27 g28 g29 g30 g31 g32 g33 g34 g35 g36 : Int32} {a0 a1 a2 a3 a4 a5 a6 a7 a8 a9 a10 a11 a12 a13 a14 a15 a16 a17 a18 a19 a20 a21 a22 a23 a24 a25 a26 a27 a28 a29 a30 a31 a32 a33 a34 a35 a36 a37 a38 a39 : (Nat → Int32)} {b0 b1 b2 b3 b4 : (Nat → Int64)} {w0 : Int64}  (res : Int32 × Int32 × Int32 × Int32 × (Nat → Int32) × Int32 × (Nat → Int32) × (Nat → Int32)) (h : e_hA_X0_countWays g25 g27 g6 g26 a31 g4 a1 a3 b2 g24 a33 a32 g5 g3 a0 a2 g0 a8 a5 a6 a7 a12 a10 a11  = some res) (d : Nat) : xMet xks YX0_countWays (d + 6) 0 0 [.ref 43, .ref 1] (hA g0 g1 g2 g3 g4 g5 g6 g7 g8 g9 g10 g11 g12 g13 g14 g15 g16 g17 g18 g19 g20 g21 g22 g23 g24 g25 g26 g27 g28 g29 g30 g31 g32 g33 g34 g35 g36 a0 a1 a2 a3 a4 a5 a6 a7 a8 a9 a10 a11 a12 a13 a14 a15 a16 a17 a18 a19 a20 a21 a22 a23 a24 a25 a26 a27 a28 a29 a30 a31 a32 a33 a34 a35 a36 a37 a38 a39 b0 b1 b2 b3 b4 w0 (.ref 19) (.ref 1)) (some (.int res.1)) (hA g0 g1 g2 g3 g4 g5 g6 g7 g8 g9 g10 g11 g12 g13 g14 g15 g16 g17 g18 g19 g20 g21 g22 g23 res.2.2.2.2.2.1 res.2.1 res.2.2.2.1 res.2.2.1 g28 g29 g30 g31 g32 g33 g34 g35 g36 a0 a1 a2 a3 a4 a5 a6 a7 a8 a9 a10 a11 a12 a13 a14 a15 a16 a17 a18 a19 a20 a21 a22 a23 a24 a25 a26 a27 a28 a29 a30 res.2.2.2.2.1 res.2.2.2.2.2.2.2 res.2.2.2.2.2.2.1 a34 a35 a36 a37 a38 a39 b0 b1 b2 b3 b4 w0 (.ref 19) (.ref 1)) := by
  unfold e_hA_X0_countWays at h
  refine xMet_of (pl := [some (.ref 43), some (.ref 1), none, none]) (by decide) (Nat.le_of_ble_eq_true rfl) rfl (Nat.le_of_ble_eq_true rfl) ?_
  refine x_aload_n dX0_countWays_0 rfl ?_
  refine x_aload_n dX0_countWays_1 rfl ?_
  obtain ⟨z2, y2, h⟩ := xbind h
  refine x_callV (t_hA_X0_search  z2 y2 (d + 0)) kX0_77 dX0_countWays_2 rfl rfl rfl rfl rfl (Nat.le_of_ble_eq_true rfl) (Nat.le_of_ble_eq_true rfl) rfl rfl (Or.inl rfl) ?_
  refine x_aload_n dX0_countWays_5 rfl ?_
  refine x_get fX0_30 dX0_countWays_6 rfl rfl rfl ?_
  refine x_if_eq 16 dX0_countWays_9 (by decide) (fun q => ?_) (fun q => ?_)
  · have h := xif_t q h
    refine x_iconst (0 : Int32) dX0_countWays_16 (by decide) ?_
    refine x_istore_n (pl' := [some (.ref 43), some (.ref 1), some (.int (0 : Int32)), none]) dX0_countWays_17 (by decide) rfl ?_
    refine x_iconst (0 : Int32) dX0_countWays_18 (by decide) ?_
    refine x_istore_n (pl' := [some (.ref 43), some (.ref 1), some (.int (0 : Int32)), some (.int (0 : Int32))]) dX0_countWays_19 (by decide) rfl ?_
    refine x_weak (pl2 := [some (.ref 43), none, some (.int (0 : Int32)), some (.int (0 : Int32))]) ⟨rfl, rfl, rfl, trivial⟩ ?_
    refine lp_hA_X0_countWays_20 d _  res _ (fun l2_20 l3_20 h => ?_) 200000 (0 : Int32) (0 : Int32) h
    refine x_iload_n dX0_countWays_44 rfl ?_
    cases h
    exact x_iret2 dX0_countWays_45 rfl rfl
  · have h := xif_f q h
    refine x_iconst (1 : Int32) dX0_countWays_12 (by decide) ?_
    refine x_goto 17 dX0_countWays_13 (by decide) ?_
    refine x_istore_n (pl' := [some (.ref 43), some (.ref 1), some (.int (1 : Int32)), none]) dX0_countWays_17 (by decide) rfl ?_
    refine x_iconst (0 : Int32) dX0_countWays_18 (by decide) ?_
    refine x_istore_n (pl' := [some (.ref 43), some (.ref 1), some (.int (1 : Int32)), some (.int (0 : Int32))]) dX0_countWays_19 (by decide) rfl ?_
    refine x_weak (pl2 := [some (.ref 43), none, some (.int (1 : Int32)), some (.int (0 : Int32))]) ⟨rfl, rfl, rfl, trivial⟩ ?_
    refine lp_hA_X0_countWays_20 d _  res _ (fun l2_20 l3_20 h => ?_) 200000 (1 : Int32) (0 : Int32) h
    refine x_iload_n dX0_countWays_44 rfl ?_
    cases h
    exact x_iret2 dX0_countWays_45 rfl rfl
noncomputable def e_hA_X7_ways (p0 : Int32) (p1 : Int32) (p2 : Int32) (p3 : Int32) (p4 : Int32) (p5 : (Nat → Int32)) (p6 : (Nat → Int32)) (p7 : (Nat → Int32)) (p8 : (Nat → Int64)) (p9 : Int32) (p10 : (Nat → Int32)) (p11 : (Nat → Int32)) (p12 : Int32) (p13 : Int32) (p14 : (Nat → Int32)) (p15 : (Nat → Int32)) (p16 : Int32) (p17 : (Nat → Int32)) (p18 : (Nat → Int32)) (p19 : (Nat → Int32)) (p20 : (Nat → Int32)) (p21 : (Nat → Int32)) (p22 : (Nat → Int32)) (p23 : (Nat → Int32)) (p24 : Int32)  : Option (Int32 × Int32 × Int32 × Int32 × (Nat → Int32) × Int32 × (Nat → Int32) × (Nat → Int32) × Int32) :=
  ((e_hA_X7_isTold p0).bind fun z1 => if z1 = (0 : Int32) then ((e_hA_X7_refuse p24 (1 : Int32)).bind fun z9 => some (z9.1, p1, p2, p4, p5, p9, p10, p11, z9.2)) else ((e_hA_X0_countWays p1 p2 p3 p4 p5 p0 p6 p7 p8 p9 p10 p11 p12 p13 p14 p15 p16 p17 p18 p19 p20 p21 p22 p23).bind fun z22 => (e_hA_X7_answer p24 z22.1).bind fun z25 => some (z25.1, z22.2.1, z22.2.2.1, z22.2.2.2.1, z22.2.2.2.2.1, z22.2.2.2.2.2.1, z22.2.2.2.2.2.2.1, z22.2.2.2.2.2.2.2, z25.2)))
set_option maxRecDepth 100000 in
set_option maxHeartbeats 4000000 in
theorem t_hA_X7_ways {g0 g1 g2 g3 g4 g5 g6 g7 g8 g9 g10 g11 g12 g13 g14 g15 g16 g17 g18 g19 g20 g21 g22 g23 g24 g25 g26 g27 g28 g29 g30 g31 g32 g33 g34 g35 g36 : Int32} {a0 a1 a2 a3 a4 a5 a6 a7 a8 a9 a10 a11 a12 a13 a14 a15 a16 a17 a18 a19 a20 a21 a22 a23 a24 a25 a26 a27 a28 a29 a30 a31 a32 a33 a34 a35 a36 a37 a38 a39 : (Nat → Int32)} {b0 b1 b2 b3 b4 : (Nat → Int64)} {w0 : Int64}  (res : Int32 × Int32 × Int32 × Int32 × (Nat → Int32) × Int32 × (Nat → Int32) × (Nat → Int32) × Int32) (h : e_hA_X7_ways g4 g25 g27 g6 g26 a31 a1 a3 b2 g24 a33 a32 g5 g3 a0 a2 g0 a8 a5 a6 a7 a12 a10 a11 g34  = some res) (d : Nat) : xMet xks YX7_ways (d + 7) 0 0 [.ref 0] (hA g0 g1 g2 g3 g4 g5 g6 g7 g8 g9 g10 g11 g12 g13 g14 g15 g16 g17 g18 g19 g20 g21 g22 g23 g24 g25 g26 g27 g28 g29 g30 g31 g32 g33 g34 g35 g36 a0 a1 a2 a3 a4 a5 a6 a7 a8 a9 a10 a11 a12 a13 a14 a15 a16 a17 a18 a19 a20 a21 a22 a23 a24 a25 a26 a27 a28 a29 a30 a31 a32 a33 a34 a35 a36 a37 a38 a39 b0 b1 b2 b3 b4 w0 (.ref 19) (.ref 1)) (some (.int res.1)) (hA g0 g1 g2 g3 g4 g5 g6 g7 g8 g9 g10 g11 g12 g13 g14 g15 g16 g17 g18 g19 g20 g21 g22 g23 res.2.2.2.2.2.1 res.2.1 res.2.2.2.1 res.2.2.1 g28 g29 g30 g31 g32 g33 res.2.2.2.2.2.2.2.2 g35 g36 a0 a1 a2 a3 a4 a5 a6 a7 a8 a9 a10 a11 a12 a13 a14 a15 a16 a17 a18 a19 a20 a21 a22 a23 a24 a25 a26 a27 a28 a29 a30 res.2.2.2.2.1 res.2.2.2.2.2.2.2.1 res.2.2.2.2.2.2.1 a34 a35 a36 a37 a38 a39 b0 b1 b2 b3 b4 w0 (.ref 19) (.ref 1)) := by
  unfold e_hA_X7_ways at h
  refine xMet_of (pl := [some (.ref 0)]) (by decide) (Nat.le_of_ble_eq_true rfl) rfl (Nat.le_of_ble_eq_true rfl) ?_
  refine x_aload_n dX7_ways_0 rfl ?_
  obtain ⟨z1, y1, h⟩ := xbind h
  refine x_callV (t_hA_X7_isTold  z1 y1 (d + 5)) kX7_149 dX7_ways_1 rfl rfl rfl rfl rfl (Nat.le_of_ble_eq_true rfl) (Nat.le_of_ble_eq_true rfl) rfl rfl (Or.inl rfl) ?_
  refine x_if_ne 13 dX7_ways_4 (by decide) (fun q => ?_) (fun q => ?_)
  · have h := xif_f q h
    refine x_aload_n dX7_ways_13 rfl ?_
    refine x_aload_n dX7_ways_14 rfl ?_
    refine x_get fX7_46 dX7_ways_15 rfl rfl rfl ?_
    refine x_aload_n dX7_ways_18 rfl ?_
    refine x_get fX7_10 dX7_ways_19 rfl rfl rfl ?_
    obtain ⟨z22, y22, h⟩ := xbind h
    refine x_callV (t_hA_X0_countWays  z22 y22 (d + 0)) kX7_184 dX7_ways_22 rfl rfl rfl rfl rfl (Nat.le_of_ble_eq_true rfl) (Nat.le_of_ble_eq_true rfl) rfl rfl (Or.inl rfl) ?_
    obtain ⟨z25, y25, h⟩ := xbind h
    refine x_callV (t_hA_X7_answer_2 z22.1 z25 y25 (d + 5)) kX7_110 dX7_ways_25 rfl rfl rfl rfl rfl (Nat.le_of_ble_eq_true rfl) (Nat.le_of_ble_eq_true rfl) rfl rfl (Or.inl rfl) ?_
    cases h
    exact x_iret2 dX7_ways_28 rfl rfl
  · have h := xif_t q h
    refine x_aload_n dX7_ways_7 rfl ?_
    refine x_iconst (1 : Int32) dX7_ways_8 (by decide) ?_
    obtain ⟨z9, y9, h⟩ := xbind h
    refine x_callV (t_hA_X7_refuse (1 : Int32) z9 y9 (d + 5)) kX7_84 dX7_ways_9 rfl rfl rfl rfl rfl (Nat.le_of_ble_eq_true rfl) (Nat.le_of_ble_eq_true rfl) rfl rfl (Or.inl rfl) ?_
    cases h
    exact x_iret2 dX7_ways_12 rfl rfl
noncomputable def L_hA_X0_findWay_32 (p0 : Int32) (p1 : (Nat → Int32))  (f1 : Int32) (f3 : Int32) (K : Int32 → Int32 → Option (Int32)) : Nat → Int32 → Int32 → Option (Int32)
  | 0, _, _ => none
  | n32 + 1, l2_32, l4_32 => if (25 : Int32) ≤ l4_32 then K l2_32 l4_32 else (xix f3 41 (if (((p1 f3.toNatClampNeg) >>> (l4_32 &&& 31)) &&& (1 : Int32)) = (0 : Int32) then L_hA_X0_findWay_32 p0 p1 f1 f3 K n32 l2_32 (l4_32 + (1 : Int32)) else if l2_32 = f1 then some ((((100 : Int32) * f3) + ((10 : Int32) * (l4_32 / (5 : Int32)))) + (l4_32 - l4_32 / (5 : Int32) * (5 : Int32))) else L_hA_X0_findWay_32 p0 p1 f1 f3 K n32 (l2_32 + (1 : Int32)) (l4_32 + (1 : Int32))))
noncomputable def L_hA_X0_findWay_23 (p0 : Int32) (p1 : (Nat → Int32))  (f1 : Int32) (K : Int32 → Int32 → Option (Int32)) : Nat → Int32 → Int32 → Option (Int32)
  | 0, _, _ => none
  | n23 + 1, l2_23, l3_23 => if (41 : Int32) ≤ l3_23 then K l2_23 l3_23 else L_hA_X0_findWay_32 p0 p1 f1 l3_23 (fun l2_32 l4_32 => L_hA_X0_findWay_23 p0 p1 f1 K n23 l2_32 (l3_23 + (1 : Int32))) 200000 l2_23 (0 : Int32)
noncomputable def e_hA_X0_findWay (p0 : Int32) (p1 : (Nat → Int32)) (x1 : Int32) : Option (Int32) :=
  if p0 = (0 : Int32) then if (0 : Int32) ≤ x1 then L_hA_X0_findWay_23 p0 p1 x1 (fun l2_23 l3_23 => some (-1 : Int32)) 200000 (0 : Int32) (0 : Int32) else some (-2 : Int32) else if (1 : Int32) ≤ x1 then L_hA_X0_findWay_23 p0 p1 x1 (fun l2_23 l3_23 => some (-1 : Int32)) 200000 (1 : Int32) (0 : Int32) else some (-2 : Int32)
set_option maxRecDepth 100000 in
set_option maxHeartbeats 4000000 in
theorem lp_hA_X0_findWay_32 {g0 g1 g2 g3 g4 g5 g6 g7 g8 g9 g10 g11 g12 g13 g14 g15 g16 g17 g18 g19 g20 g21 g22 g23 g24 g25 g26 g27 g28 g29 g30 g31 g32 g33 g34 g35 g36 : Int32} {a0 a1 a2 a3 a4 a5 a6 a7 a8 a9 a10 a11 a12 a13 a14 a15 a16 a17 a18 a19 a20 a21 a22 a23 a24 a25 a26 a27 a28 a29 a30 a31 a32 a33 a34 a35 a36 a37 a38 a39 : (Nat → Int32)} {b0 b1 b2 b3 b4 : (Nat → Int64)} {w0 : Int64} (d n0 : Nat) (f1 : Int32) (f3 : Int32) (res : Int32) (K : Int32 → Int32 → Option (Int32)) (hK : ∀ (l2_32 : Int32) (l4_32 : Int32), K l2_32 l4_32 = some res → xW xks YX0_findWay (d + 1) 0 0 n0 (xZ 0 0 n0 (some (.int res)) (hA g0 g1 g2 g3 g4 g5 g6 g7 g8 g9 g10 g11 g12 g13 g14 g15 g16 g17 g18 g19 g20 g21 g22 g23 g24 g25 g26 g27 g28 g29 g30 g31 g32 g33 g34 g35 g36 a0 a1 a2 a3 a4 a5 a6 a7 a8 a9 a10 a11 a12 a13 a14 a15 a16 a17 a18 a19 a20 a21 a22 a23 a24 a25 a26 a27 a28 a29 a30 a31 a32 a33 a34 a35 a36 a37 a38 a39 b0 b1 b2 b3 b4 w0 (.ref 19) (.ref 1))) 0 0 88 [some (.ref 43), some (.int f1), some (.int l2_32), some (.int f3), none] [] (hA g0 g1 g2 g3 g4 g5 g6 g7 g8 g9 g10 g11 g12 g13 g14 g15 g16 g17 g18 g19 g20 g21 g22 g23 g24 g25 g26 g27 g28 g29 g30 g31 g32 g33 g34 g35 g36 a0 a1 a2 a3 a4 a5 a6 a7 a8 a9 a10 a11 a12 a13 a14 a15 a16 a17 a18 a19 a20 a21 a22 a23 a24 a25 a26 a27 a28 a29 a30 a31 a32 a33 a34 a35 a36 a37 a38 a39 b0 b1 b2 b3 b4 w0 (.ref 19) (.ref 1))) : ∀ (n : Nat) (l2_32 : Int32) (l4_32 : Int32), L_hA_X0_findWay_32 g26 a31 f1 f3 K n l2_32 l4_32 = some res → xW xks YX0_findWay (d + 1) 0 0 n0 (xZ 0 0 n0 (some (.int res)) (hA g0 g1 g2 g3 g4 g5 g6 g7 g8 g9 g10 g11 g12 g13 g14 g15 g16 g17 g18 g19 g20 g21 g22 g23 g24 g25 g26 g27 g28 g29 g30 g31 g32 g33 g34 g35 g36 a0 a1 a2 a3 a4 a5 a6 a7 a8 a9 a10 a11 a12 a13 a14 a15 a16 a17 a18 a19 a20 a21 a22 a23 a24 a25 a26 a27 a28 a29 a30 a31 a32 a33 a34 a35 a36 a37 a38 a39 b0 b1 b2 b3 b4 w0 (.ref 19) (.ref 1))) 0 0 32 [some (.ref 43), some (.int f1), some (.int l2_32), some (.int f3), some (.int l4_32)] [] (hA g0 g1 g2 g3 g4 g5 g6 g7 g8 g9 g10 g11 g12 g13 g14 g15 g16 g17 g18 g19 g20 g21 g22 g23 g24 g25 g26 g27 g28 g29 g30 g31 g32 g33 g34 g35 g36 a0 a1 a2 a3 a4 a5 a6 a7 a8 a9 a10 a11 a12 a13 a14 a15 a16 a17 a18 a19 a20 a21 a22 a23 a24 a25 a26 a27 a28 a29 a30 a31 a32 a33 a34 a35 a36 a37 a38 a39 b0 b1 b2 b3 b4 w0 (.ref 19) (.ref 1)) := by
  intro n
  induction n with
  | zero =>
    intro l2_32 l4_32 h
    cases (show (none : Option (Int32)) = some res from h)
  | succ n32 ih32 =>
    intro l2_32 l4_32 h
    unfold L_hA_X0_findWay_32 at h
    refine x_iload dX0_findWay_32 rfl ?_
    refine x_bipush (25 : Int32) dX0_findWay_34 (by decide) ?_
    refine x_icmp_ge 88 dX0_findWay_36 (by decide) (fun q => ?_) (fun q => ?_)
    · have h := xif_t q h
      refine x_weak (pl2 := [some (.ref 43), some (.int f1), some (.int l2_32), some (.int f3), none]) ⟨rfl, rfl, rfl, rfl, trivial⟩ ?_
      exact hK l2_32 l4_32 h
    · have h := xif_f q h
      refine x_aload_n dX0_findWay_39 rfl ?_
      refine x_get fX0_15 dX0_findWay_40 rfl rfl rfl ?_
      refine x_iload_n dX0_findWay_43 rfl ?_
      obtain ⟨q44, h⟩ := xix_of h
      refine x_iald dX0_findWay_44 rfl q44 ?_
      refine x_iload dX0_findWay_45 rfl ?_
      refine x_ishr dX0_findWay_47 ?_
      refine x_iconst (1 : Int32) dX0_findWay_48 (by decide) ?_
      refine x_iand dX0_findWay_49 ?_
      refine x_if_ne 56 dX0_findWay_50 (by decide) (fun q => ?_) (fun q => ?_)
      · have h := xif_f q h
        refine x_iload_n dX0_findWay_56 rfl ?_
        refine x_iload_n dX0_findWay_57 rfl ?_
        refine x_icmp_ne 79 dX0_findWay_58 (by decide) (fun q => ?_) (fun q => ?_)
        · have h := xif_f q h
          refine x_iincK (1 : Int32) (pl' := [some (.ref 43), some (.int f1), some (.int (l2_32 + (1 : Int32))), some (.int f3), some (.int l4_32)]) dX0_findWay_79 rfl (by decide) (by decide) rfl ?_
          refine x_iincK (1 : Int32) (pl' := [some (.ref 43), some (.int f1), some (.int (l2_32 + (1 : Int32))), some (.int f3), some (.int (l4_32 + (1 : Int32)))]) dX0_findWay_82 rfl (by decide) (by decide) rfl ?_
          refine x_goto 32 dX0_findWay_85 (by decide) ?_
          refine x_weak (pl2 := [some (.ref 43), some (.int f1), some (.int (l2_32 + (1 : Int32))), some (.int f3), some (.int (l4_32 + (1 : Int32)))]) ⟨rfl, rfl, rfl, rfl, rfl, trivial⟩ ?_
          exact ih32 (l2_32 + (1 : Int32)) (l4_32 + (1 : Int32)) h
        · have h := xif_t q h
          refine x_bipush (100 : Int32) dX0_findWay_61 (by decide) ?_
          refine x_iload_n dX0_findWay_63 rfl ?_
          refine x_imul dX0_findWay_64 ?_
          refine x_bipush (10 : Int32) dX0_findWay_65 (by decide) ?_
          refine x_iload dX0_findWay_67 rfl ?_
          refine x_iconst (5 : Int32) dX0_findWay_69 (by decide) ?_
          refine x_idiv dX0_findWay_70 (by decide) ?_
          refine x_imul dX0_findWay_71 ?_
          refine x_iadd dX0_findWay_72 ?_
          refine x_iload dX0_findWay_73 rfl ?_
          refine x_iconst (5 : Int32) dX0_findWay_75 (by decide) ?_
          refine x_irem dX0_findWay_76 (by decide) ?_
          refine x_iadd dX0_findWay_77 ?_
          cases h
          exact x_iret2 dX0_findWay_78 rfl rfl
      · have h := xif_t q h
        refine x_goto 82 dX0_findWay_53 (by decide) ?_
        refine x_iincK (1 : Int32) (pl' := [some (.ref 43), some (.int f1), some (.int l2_32), some (.int f3), some (.int (l4_32 + (1 : Int32)))]) dX0_findWay_82 rfl (by decide) (by decide) rfl ?_
        refine x_goto 32 dX0_findWay_85 (by decide) ?_
        refine x_weak (pl2 := [some (.ref 43), some (.int f1), some (.int l2_32), some (.int f3), some (.int (l4_32 + (1 : Int32)))]) ⟨rfl, rfl, rfl, rfl, rfl, trivial⟩ ?_
        exact ih32 l2_32 (l4_32 + (1 : Int32)) h
set_option maxRecDepth 100000 in
set_option maxHeartbeats 4000000 in
theorem lp_hA_X0_findWay_23 {g0 g1 g2 g3 g4 g5 g6 g7 g8 g9 g10 g11 g12 g13 g14 g15 g16 g17 g18 g19 g20 g21 g22 g23 g24 g25 g26 g27 g28 g29 g30 g31 g32 g33 g34 g35 g36 : Int32} {a0 a1 a2 a3 a4 a5 a6 a7 a8 a9 a10 a11 a12 a13 a14 a15 a16 a17 a18 a19 a20 a21 a22 a23 a24 a25 a26 a27 a28 a29 a30 a31 a32 a33 a34 a35 a36 a37 a38 a39 : (Nat → Int32)} {b0 b1 b2 b3 b4 : (Nat → Int64)} {w0 : Int64} (d n0 : Nat) (f1 : Int32) (res : Int32) (K : Int32 → Int32 → Option (Int32)) (hK : ∀ (l2_23 : Int32) (l3_23 : Int32), K l2_23 l3_23 = some res → xW xks YX0_findWay (d + 1) 0 0 n0 (xZ 0 0 n0 (some (.int res)) (hA g0 g1 g2 g3 g4 g5 g6 g7 g8 g9 g10 g11 g12 g13 g14 g15 g16 g17 g18 g19 g20 g21 g22 g23 g24 g25 g26 g27 g28 g29 g30 g31 g32 g33 g34 g35 g36 a0 a1 a2 a3 a4 a5 a6 a7 a8 a9 a10 a11 a12 a13 a14 a15 a16 a17 a18 a19 a20 a21 a22 a23 a24 a25 a26 a27 a28 a29 a30 a31 a32 a33 a34 a35 a36 a37 a38 a39 b0 b1 b2 b3 b4 w0 (.ref 19) (.ref 1))) 0 0 94 [none, none, none, none, none] [] (hA g0 g1 g2 g3 g4 g5 g6 g7 g8 g9 g10 g11 g12 g13 g14 g15 g16 g17 g18 g19 g20 g21 g22 g23 g24 g25 g26 g27 g28 g29 g30 g31 g32 g33 g34 g35 g36 a0 a1 a2 a3 a4 a5 a6 a7 a8 a9 a10 a11 a12 a13 a14 a15 a16 a17 a18 a19 a20 a21 a22 a23 a24 a25 a26 a27 a28 a29 a30 a31 a32 a33 a34 a35 a36 a37 a38 a39 b0 b1 b2 b3 b4 w0 (.ref 19) (.ref 1))) : ∀ (n : Nat) (l2_23 : Int32) (l3_23 : Int32), L_hA_X0_findWay_23 g26 a31 f1 K n l2_23 l3_23 = some res → xW xks YX0_findWay (d + 1) 0 0 n0 (xZ 0 0 n0 (some (.int res)) (hA g0 g1 g2 g3 g4 g5 g6 g7 g8 g9 g10 g11 g12 g13 g14 g15 g16 g17 g18 g19 g20 g21 g22 g23 g24 g25 g26 g27 g28 g29 g30 g31 g32 g33 g34 g35 g36 a0 a1 a2 a3 a4 a5 a6 a7 a8 a9 a10 a11 a12 a13 a14 a15 a16 a17 a18 a19 a20 a21 a22 a23 a24 a25 a26 a27 a28 a29 a30 a31 a32 a33 a34 a35 a36 a37 a38 a39 b0 b1 b2 b3 b4 w0 (.ref 19) (.ref 1))) 0 0 23 [some (.ref 43), some (.int f1), some (.int l2_23), some (.int l3_23), none] [] (hA g0 g1 g2 g3 g4 g5 g6 g7 g8 g9 g10 g11 g12 g13 g14 g15 g16 g17 g18 g19 g20 g21 g22 g23 g24 g25 g26 g27 g28 g29 g30 g31 g32 g33 g34 g35 g36 a0 a1 a2 a3 a4 a5 a6 a7 a8 a9 a10 a11 a12 a13 a14 a15 a16 a17 a18 a19 a20 a21 a22 a23 a24 a25 a26 a27 a28 a29 a30 a31 a32 a33 a34 a35 a36 a37 a38 a39 b0 b1 b2 b3 b4 w0 (.ref 19) (.ref 1)) := by
  intro n
  induction n with
  | zero =>
    intro l2_23 l3_23 h
    cases (show (none : Option (Int32)) = some res from h)
  | succ n23 ih23 =>
    intro l2_23 l3_23 h
    unfold L_hA_X0_findWay_23 at h
    refine x_iload_n dX0_findWay_23 rfl ?_
    refine x_bipush (41 : Int32) dX0_findWay_24 (by decide) ?_
    refine x_icmp_ge 94 dX0_findWay_26 (by decide) (fun q => ?_) (fun q => ?_)
    · have h := xif_t q h
      refine x_weak (pl2 := [none, none, none, none, none]) trivial ?_
      exact hK l2_23 l3_23 h
    · have h := xif_f q h
      refine x_iconst (0 : Int32) dX0_findWay_29 (by decide) ?_
      refine x_istore (pl' := [some (.ref 43), some (.int f1), some (.int l2_23), some (.int l3_23), some (.int (0 : Int32))]) dX0_findWay_30 (by decide) rfl ?_
      refine x_weak (pl2 := [some (.ref 43), some (.int f1), some (.int l2_23), some (.int l3_23), some (.int (0 : Int32))]) ⟨rfl, rfl, rfl, rfl, rfl, trivial⟩ ?_
      refine lp_hA_X0_findWay_32 d _ f1 l3_23 res _ (fun l2_32 l4_32 h => ?_) 200000 l2_23 (0 : Int32) h
      refine x_iincK (1 : Int32) (pl' := [some (.ref 43), some (.int f1), some (.int l2_32), some (.int (l3_23 + (1 : Int32))), none]) dX0_findWay_88 rfl (by decide) (by decide) rfl ?_
      refine x_goto 23 dX0_findWay_91 (by decide) ?_
      refine x_weak (pl2 := [some (.ref 43), some (.int f1), some (.int l2_32), some (.int (l3_23 + (1 : Int32))), none]) ⟨rfl, rfl, rfl, rfl, trivial⟩ ?_
      exact ih23 l2_32 (l3_23 + (1 : Int32)) h
set_option maxRecDepth 100000 in
set_option maxHeartbeats 4000000 in
theorem t_hA_X0_findWay {g0 g1 g2 g3 g4 g5 g6 g7 g8 g9 g10 g11 g12 g13 g14 g15 g16 g17 g18 g19 g20 g21 g22 g23 g24 g25 g26 g27 g28 g29 g30 g31 g32 g33 g34 g35 g36 : Int32} {a0 a1 a2 a3 a4 a5 a6 a7 a8 a9 a10 a11 a12 a13 a14 a15 a16 a17 a18 a19 a20 a21 a22 a23 a24 a25 a26 a27 a28 a29 a30 a31 a32 a33 a34 a35 a36 a37 a38 a39 : (Nat → Int32)} {b0 b1 b2 b3 b4 : (Nat → Int64)} {w0 : Int64} (x1 : Int32) (res : Int32) (h : e_hA_X0_findWay g26 a31 x1 = some res) (d : Nat) : xMet xks YX0_findWay (d + 1) 0 0 [.ref 43, .int x1] (hA g0 g1 g2 g3 g4 g5 g6 g7 g8 g9 g10 g11 g12 g13 g14 g15 g16 g17 g18 g19 g20 g21 g22 g23 g24 g25 g26 g27 g28 g29 g30 g31 g32 g33 g34 g35 g36 a0 a1 a2 a3 a4 a5 a6 a7 a8 a9 a10 a11 a12 a13 a14 a15 a16 a17 a18 a19 a20 a21 a22 a23 a24 a25 a26 a27 a28 a29 a30 a31 a32 a33 a34 a35 a36 a37 a38 a39 b0 b1 b2 b3 b4 w0 (.ref 19) (.ref 1)) (some (.int res)) (hA g0 g1 g2 g3 g4 g5 g6 g7 g8 g9 g10 g11 g12 g13 g14 g15 g16 g17 g18 g19 g20 g21 g22 g23 g24 g25 g26 g27 g28 g29 g30 g31 g32 g33 g34 g35 g36 a0 a1 a2 a3 a4 a5 a6 a7 a8 a9 a10 a11 a12 a13 a14 a15 a16 a17 a18 a19 a20 a21 a22 a23 a24 a25 a26 a27 a28 a29 a30 a31 a32 a33 a34 a35 a36 a37 a38 a39 b0 b1 b2 b3 b4 w0 (.ref 19) (.ref 1)) := by
  unfold e_hA_X0_findWay at h
  refine xMet_of (pl := [some (.ref 43), some (.int x1), none, none, none]) (by decide) (Nat.le_of_ble_eq_true rfl) rfl (Nat.le_of_ble_eq_true rfl) ?_
  refine x_aload_n dX0_findWay_0 rfl ?_
  refine x_get fX0_30 dX0_findWay_1 rfl rfl rfl ?_
  refine x_if_eq 11 dX0_findWay_4 (by decide) (fun q => ?_) (fun q => ?_)
  · have h := xif_t q h
    refine x_iconst (0 : Int32) dX0_findWay_11 (by decide) ?_
    refine x_istore_n (pl' := [some (.ref 43), some (.int x1), some (.int (0 : Int32)), none, none]) dX0_findWay_12 (by decide) rfl ?_
    refine x_iload_n dX0_findWay_13 rfl ?_
    refine x_iload_n dX0_findWay_14 rfl ?_
    refine x_icmp_ge 21 dX0_findWay_15 (by decide) (fun q => ?_) (fun q => ?_)
    · have h := xif_t q h
      refine x_iconst (0 : Int32) dX0_findWay_21 (by decide) ?_
      refine x_istore_n (pl' := [some (.ref 43), some (.int x1), some (.int (0 : Int32)), some (.int (0 : Int32)), none]) dX0_findWay_22 (by decide) rfl ?_
      refine x_weak (pl2 := [some (.ref 43), some (.int x1), some (.int (0 : Int32)), some (.int (0 : Int32)), none]) ⟨rfl, rfl, rfl, rfl, trivial⟩ ?_
      refine lp_hA_X0_findWay_23 d _ x1 res _ (fun l2_23 l3_23 h => ?_) 200000 (0 : Int32) (0 : Int32) h
      refine x_iconst (-1 : Int32) dX0_findWay_94 (by decide) ?_
      cases h
      exact x_iret2 dX0_findWay_95 rfl rfl
    · have h := xif_f q h
      refine x_bipush (-2 : Int32) dX0_findWay_18 (by decide) ?_
      cases h
      exact x_iret2 dX0_findWay_20 rfl rfl
  · have h := xif_f q h
    refine x_iconst (1 : Int32) dX0_findWay_7 (by decide) ?_
    refine x_goto 12 dX0_findWay_8 (by decide) ?_
    refine x_istore_n (pl' := [some (.ref 43), some (.int x1), some (.int (1 : Int32)), none, none]) dX0_findWay_12 (by decide) rfl ?_
    refine x_iload_n dX0_findWay_13 rfl ?_
    refine x_iload_n dX0_findWay_14 rfl ?_
    refine x_icmp_ge 21 dX0_findWay_15 (by decide) (fun q => ?_) (fun q => ?_)
    · have h := xif_t q h
      refine x_iconst (0 : Int32) dX0_findWay_21 (by decide) ?_
      refine x_istore_n (pl' := [some (.ref 43), some (.int x1), some (.int (1 : Int32)), some (.int (0 : Int32)), none]) dX0_findWay_22 (by decide) rfl ?_
      refine x_weak (pl2 := [some (.ref 43), some (.int x1), some (.int (1 : Int32)), some (.int (0 : Int32)), none]) ⟨rfl, rfl, rfl, rfl, trivial⟩ ?_
      refine lp_hA_X0_findWay_23 d _ x1 res _ (fun l2_23 l3_23 h => ?_) 200000 (1 : Int32) (0 : Int32) h
      refine x_iconst (-1 : Int32) dX0_findWay_94 (by decide) ?_
      cases h
      exact x_iret2 dX0_findWay_95 rfl rfl
    · have h := xif_f q h
      refine x_bipush (-2 : Int32) dX0_findWay_18 (by decide) ?_
      cases h
      exact x_iret2 dX0_findWay_20 rfl rfl
noncomputable def e_hA_X7_wayAt (p0 : Int32) (p1 : Int32) (p2 : Int32) (p3 : Int32) (p4 : Int32) (p5 : Int32) (p6 : (Nat → Int32)) (p7 : (Nat → Int32)) (p8 : (Nat → Int32)) (p9 : (Nat → Int64)) (p10 : Int32) (p11 : (Nat → Int32)) (p12 : (Nat → Int32)) (p13 : Int32) (p14 : Int32) (p15 : (Nat → Int32)) (p16 : (Nat → Int32)) (p17 : Int32) (p18 : (Nat → Int32)) (p19 : (Nat → Int32)) (p20 : (Nat → Int32)) (p21 : (Nat → Int32)) (p22 : (Nat → Int32)) (p23 : (Nat → Int32)) (p24 : (Nat → Int32)) (x1 : Int32) : Option (Int32 × Int32 × Int32 × Int32 × Int32 × (Nat → Int32) × Int32 × (Nat → Int32) × (Nat → Int32)) :=
  ((e_hA_X7_isTold p0).bind fun z1 => if z1 = (0 : Int32) then ((e_hA_X7_refuse p1 (1 : Int32)).bind fun z28 => some (z28.1, z28.2, p2, p3, p5, p6, p10, p11, p12)) else if x1 < (0 : Int32) then ((e_hA_X7_refuse p1 (1 : Int32)).bind fun z28 => some (z28.1, z28.2, p2, p3, p5, p6, p10, p11, p12)) else ((e_hA_X0_countWays p2 p3 p4 p5 p6 p0 p7 p8 p9 p10 p11 p12 p13 p14 p15 p16 p17 p18 p19 p20 p21 p22 p23 p24).bind fun z20 => if x1 < z20.1 then ((e_hA_X0_findWay z20.2.2.2.1 z20.2.2.2.2.1 x1).bind fun z38 => (e_hA_X7_answer p1 z38).bind fun z41 => some (z41.1, z41.2, z20.2.1, z20.2.2.1, z20.2.2.2.1, z20.2.2.2.2.1, z20.2.2.2.2.2.1, z20.2.2.2.2.2.2.1, z20.2.2.2.2.2.2.2)) else ((e_hA_X7_refuse p1 (1 : Int32)).bind fun z28 => some (z28.1, z28.2, z20.2.1, z20.2.2.1, z20.2.2.2.1, z20.2.2.2.2.1, z20.2.2.2.2.2.1, z20.2.2.2.2.2.2.1, z20.2.2.2.2.2.2.2))))
set_option maxRecDepth 100000 in
set_option maxHeartbeats 4000000 in
theorem t_hA_X7_wayAt {g0 g1 g2 g3 g4 g5 g6 g7 g8 g9 g10 g11 g12 g13 g14 g15 g16 g17 g18 g19 g20 g21 g22 g23 g24 g25 g26 g27 g28 g29 g30 g31 g32 g33 g34 g35 g36 : Int32} {a0 a1 a2 a3 a4 a5 a6 a7 a8 a9 a10 a11 a12 a13 a14 a15 a16 a17 a18 a19 a20 a21 a22 a23 a24 a25 a26 a27 a28 a29 a30 a31 a32 a33 a34 a35 a36 a37 a38 a39 : (Nat → Int32)} {b0 b1 b2 b3 b4 : (Nat → Int64)} {w0 : Int64} (x1 : Int32) (res : Int32 × Int32 × Int32 × Int32 × Int32 × (Nat → Int32) × Int32 × (Nat → Int32) × (Nat → Int32)) (h : e_hA_X7_wayAt g4 g34 g25 g27 g6 g26 a31 a1 a3 b2 g24 a33 a32 g5 g3 a0 a2 g0 a8 a5 a6 a7 a12 a10 a11 x1 = some res) (d : Nat) : xMet xks YX7_wayAt (d + 7) 0 0 [.ref 0, .int x1] (hA g0 g1 g2 g3 g4 g5 g6 g7 g8 g9 g10 g11 g12 g13 g14 g15 g16 g17 g18 g19 g20 g21 g22 g23 g24 g25 g26 g27 g28 g29 g30 g31 g32 g33 g34 g35 g36 a0 a1 a2 a3 a4 a5 a6 a7 a8 a9 a10 a11 a12 a13 a14 a15 a16 a17 a18 a19 a20 a21 a22 a23 a24 a25 a26 a27 a28 a29 a30 a31 a32 a33 a34 a35 a36 a37 a38 a39 b0 b1 b2 b3 b4 w0 (.ref 19) (.ref 1)) (some (.int res.1)) (hA g0 g1 g2 g3 g4 g5 g6 g7 g8 g9 g10 g11 g12 g13 g14 g15 g16 g17 g18 g19 g20 g21 g22 g23 res.2.2.2.2.2.2.1 res.2.2.1 res.2.2.2.2.1 res.2.2.2.1 g28 g29 g30 g31 g32 g33 res.2.1 g35 g36 a0 a1 a2 a3 a4 a5 a6 a7 a8 a9 a10 a11 a12 a13 a14 a15 a16 a17 a18 a19 a20 a21 a22 a23 a24 a25 a26 a27 a28 a29 a30 res.2.2.2.2.2.1 res.2.2.2.2.2.2.2.2 res.2.2.2.2.2.2.2.1 a34 a35 a36 a37 a38 a39 b0 b1 b2 b3 b4 w0 (.ref 19) (.ref 1)) := by
  unfold e_hA_X7_wayAt at h
  refine xMet_of (pl := [some (.ref 0), some (.int x1)]) (by decide) (Nat.le_of_ble_eq_true rfl) rfl (Nat.le_of_ble_eq_true rfl) ?_
  refine x_aload_n dX7_wayAt_0 rfl ?_
  obtain ⟨z1, y1, h⟩ := xbind h
  refine x_callV (t_hA_X7_isTold  z1 y1 (d + 5)) kX7_149 dX7_wayAt_1 rfl rfl rfl rfl rfl (Nat.le_of_ble_eq_true rfl) (Nat.le_of_ble_eq_true rfl) rfl rfl (Or.inl rfl) ?_
  refine x_if_eq 26 dX7_wayAt_4 (by decide) (fun q => ?_) (fun q => ?_)
  · have h := xif_t q h
    refine x_aload_n dX7_wayAt_26 rfl ?_
    refine x_iconst (1 : Int32) dX7_wayAt_27 (by decide) ?_
    obtain ⟨z28, y28, h⟩ := xbind h
    refine x_callV (t_hA_X7_refuse (1 : Int32) z28 y28 (d + 5)) kX7_84 dX7_wayAt_28 rfl rfl rfl rfl rfl (Nat.le_of_ble_eq_true rfl) (Nat.le_of_ble_eq_true rfl) rfl rfl (Or.inl rfl) ?_
    cases h
    exact x_iret2 dX7_wayAt_31 rfl rfl
  · have h := xif_f q h
    refine x_iload_n dX7_wayAt_7 rfl ?_
    refine x_if_lt 26 dX7_wayAt_8 (by decide) (fun q => ?_) (fun q => ?_)
    · have h := xif_t q h
      refine x_aload_n dX7_wayAt_26 rfl ?_
      refine x_iconst (1 : Int32) dX7_wayAt_27 (by decide) ?_
      obtain ⟨z28, y28, h⟩ := xbind h
      refine x_callV (t_hA_X7_refuse (1 : Int32) z28 y28 (d + 5)) kX7_84 dX7_wayAt_28 rfl rfl rfl rfl rfl (Nat.le_of_ble_eq_true rfl) (Nat.le_of_ble_eq_true rfl) rfl rfl (Or.inl rfl) ?_
      cases h
      exact x_iret2 dX7_wayAt_31 rfl rfl
    · have h := xif_f q h
      refine x_iload_n dX7_wayAt_11 rfl ?_
      refine x_aload_n dX7_wayAt_12 rfl ?_
      refine x_get fX7_46 dX7_wayAt_13 rfl rfl rfl ?_
      refine x_aload_n dX7_wayAt_16 rfl ?_
      refine x_get fX7_10 dX7_wayAt_17 rfl rfl rfl ?_
      obtain ⟨z20, y20, h⟩ := xbind h
      refine x_callV (t_hA_X0_countWays  z20 y20 (d + 0)) kX7_184 dX7_wayAt_20 rfl rfl rfl rfl rfl (Nat.le_of_ble_eq_true rfl) (Nat.le_of_ble_eq_true rfl) rfl rfl (Or.inl rfl) ?_
      refine x_icmp_lt 32 dX7_wayAt_23 (by decide) (fun q => ?_) (fun q => ?_)
      · have h := xif_t q h
        refine x_aload_n dX7_wayAt_32 rfl ?_
        refine x_aload_n dX7_wayAt_33 rfl ?_
        refine x_get fX7_46 dX7_wayAt_34 rfl rfl rfl ?_
        refine x_iload_n dX7_wayAt_37 rfl ?_
        obtain ⟨z38, y38, h⟩ := xbind h
        refine x_callV (t_hA_X0_findWay x1 z38 y38 (d + 5)) kX7_187 dX7_wayAt_38 rfl rfl rfl rfl rfl (Nat.le_of_ble_eq_true rfl) (Nat.le_of_ble_eq_true rfl) rfl rfl (Or.inl rfl) ?_
        obtain ⟨z41, y41, h⟩ := xbind h
        refine x_callV (t_hA_X7_answer_2 z38 z41 y41 (d + 5)) kX7_110 dX7_wayAt_41 rfl rfl rfl rfl rfl (Nat.le_of_ble_eq_true rfl) (Nat.le_of_ble_eq_true rfl) rfl rfl (Or.inl rfl) ?_
        cases h
        exact x_iret2 dX7_wayAt_44 rfl rfl
      · have h := xif_f q h
        refine x_aload_n dX7_wayAt_26 rfl ?_
        refine x_iconst (1 : Int32) dX7_wayAt_27 (by decide) ?_
        obtain ⟨z28, y28, h⟩ := xbind h
        refine x_callV (t_hA_X7_refuse (1 : Int32) z28 y28 (d + 5)) kX7_84 dX7_wayAt_28 rfl rfl rfl rfl rfl (Nat.le_of_ble_eq_true rfl) (Nat.le_of_ble_eq_true rfl) rfl rfl (Or.inl rfl) ?_
        cases h
        exact x_iret2 dX7_wayAt_31 rfl rfl
noncomputable def L_hA_X7_longest_25 (p0 : Int32) (p1 : Int32) (p2 : (Nat → Int64))  (f1 : Int32) (K : Int32 → Int32 → Int32 → Int32 → Int32 → (Nat → Int32) → (Nat → Int32) → Option (Int32 × Int32 × Int32 × (Nat → Int32) × (Nat → Int32))) : Nat → Int32 → Int32 → Int32 → Int32 → Int32 → (Nat → Int32) → (Nat → Int32) → Option (Int32 × Int32 × Int32 × (Nat → Int32) × (Nat → Int32))
  | 0, _, _, _, _, _, _, _ => none
  | n25 + 1, l2_25, l3_25, l4_25, l5_25, mg24_25, ma33_25, ma32_25 => if (41 : Int32) ≤ l5_25 then K l2_25 l3_25 l4_25 l5_25 mg24_25 ma33_25 ma32_25 else ((e_hA_X0_behind p2 mg24_25 ma33_25 ma32_25 l5_25).bind fun z38 => xix f1 5 (if (z38.2.1 f1.toNatClampNeg) = (-2 : Int32) then L_hA_X7_longest_25 p0 p1 p2 f1 K n25 (if l2_25 < (0 : Int32) then (0 : Int32) else l2_25) (0 : Int32) (z38.2.1 f1.toNatClampNeg) (l5_25 + (1 : Int32)) z38.1 z38.2.1 z38.2.2 else if (z38.2.1 f1.toNatClampNeg) = l4_25 then L_hA_X7_longest_25 p0 p1 p2 f1 K n25 (if l2_25 < (l3_25 + (1 : Int32)) then (l3_25 + (1 : Int32)) else l2_25) (l3_25 + (1 : Int32)) (z38.2.1 f1.toNatClampNeg) (l5_25 + (1 : Int32)) z38.1 z38.2.1 z38.2.2 else L_hA_X7_longest_25 p0 p1 p2 f1 K n25 (if l2_25 < (1 : Int32) then (1 : Int32) else l2_25) (1 : Int32) (z38.2.1 f1.toNatClampNeg) (l5_25 + (1 : Int32)) z38.1 z38.2.1 z38.2.2))
noncomputable def e_hA_X7_longest (p0 : Int32) (p1 : Int32) (p2 : (Nat → Int64)) (p3 : Int32) (p4 : (Nat → Int32)) (p5 : (Nat → Int32)) (x1 : Int32) : Option (Int32 × Int32 × Int32 × (Nat → Int32) × (Nat → Int32)) :=
  ((e_hA_X7_isUmbrella p0 x1).bind fun z2 => if z2 = (0 : Int32) then ((e_hA_X7_refuse p1 (1 : Int32)).bind fun z10 => some (z10.1, z10.2, p3, p4, p5)) else L_hA_X7_longest_25 p0 p1 p2 x1 (fun l2_25 l3_25 l4_25 l5_25 mg24_25 ma33_25 ma32_25 => ((e_hA_X7_answer p1 l2_25).bind fun z92 => some (z92.1, z92.2, mg24_25, ma33_25, ma32_25))) 200000 (0 : Int32) (0 : Int32) (-2 : Int32) (0 : Int32) p3 p4 p5)
set_option maxRecDepth 100000 in
set_option maxHeartbeats 4000000 in
theorem lp_hA_X7_longest_25 {g0 g1 g2 g3 g4 g5 g6 g7 g8 g9 g10 g11 g12 g13 g14 g15 g16 g17 g18 g19 g20 g21 g22 g23 g25 g26 g27 g28 g29 g30 g31 g32 g33 g34 g35 g36 : Int32} {a0 a1 a2 a3 a4 a5 a6 a7 a8 a9 a10 a11 a12 a13 a14 a15 a16 a17 a18 a19 a20 a21 a22 a23 a24 a25 a26 a27 a28 a29 a30 a31 a34 a35 a36 a37 a38 a39 : (Nat → Int32)} {b0 b1 b2 b3 b4 : (Nat → Int64)} {w0 : Int64} (d n0 : Nat) (f1 : Int32) (res : Int32 × Int32 × Int32 × (Nat → Int32) × (Nat → Int32)) (K : Int32 → Int32 → Int32 → Int32 → Int32 → (Nat → Int32) → (Nat → Int32) → Option (Int32 × Int32 × Int32 × (Nat → Int32) × (Nat → Int32))) (hK : ∀ (l2_25 : Int32) (l3_25 : Int32) (l4_25 : Int32) (l5_25 : Int32) (mg24_25 : Int32) (ma33_25 : (Nat → Int32)) (ma32_25 : (Nat → Int32)), K l2_25 l3_25 l4_25 l5_25 mg24_25 ma33_25 ma32_25 = some res → xW xks YX7_longest (d + 3) 0 0 n0 (xZ 0 0 n0 (some (.int res.1)) (hA g0 g1 g2 g3 g4 g5 g6 g7 g8 g9 g10 g11 g12 g13 g14 g15 g16 g17 g18 g19 g20 g21 g22 g23 res.2.2.1 g25 g26 g27 g28 g29 g30 g31 g32 g33 res.2.1 g35 g36 a0 a1 a2 a3 a4 a5 a6 a7 a8 a9 a10 a11 a12 a13 a14 a15 a16 a17 a18 a19 a20 a21 a22 a23 a24 a25 a26 a27 a28 a29 a30 a31 res.2.2.2.2 res.2.2.2.1 a34 a35 a36 a37 a38 a39 b0 b1 b2 b3 b4 w0 (.ref 19) (.ref 1))) 0 0 90 [some (.ref 0), none, some (.int l2_25), none, none, none, none] [] (hA g0 g1 g2 g3 g4 g5 g6 g7 g8 g9 g10 g11 g12 g13 g14 g15 g16 g17 g18 g19 g20 g21 g22 g23 mg24_25 g25 g26 g27 g28 g29 g30 g31 g32 g33 g34 g35 g36 a0 a1 a2 a3 a4 a5 a6 a7 a8 a9 a10 a11 a12 a13 a14 a15 a16 a17 a18 a19 a20 a21 a22 a23 a24 a25 a26 a27 a28 a29 a30 a31 ma32_25 ma33_25 a34 a35 a36 a37 a38 a39 b0 b1 b2 b3 b4 w0 (.ref 19) (.ref 1))) : ∀ (n : Nat) (l2_25 : Int32) (l3_25 : Int32) (l4_25 : Int32) (l5_25 : Int32) (mg24_25 : Int32) (ma33_25 : (Nat → Int32)) (ma32_25 : (Nat → Int32)), L_hA_X7_longest_25 g4 g34 b2 f1 K n l2_25 l3_25 l4_25 l5_25 mg24_25 ma33_25 ma32_25 = some res → xW xks YX7_longest (d + 3) 0 0 n0 (xZ 0 0 n0 (some (.int res.1)) (hA g0 g1 g2 g3 g4 g5 g6 g7 g8 g9 g10 g11 g12 g13 g14 g15 g16 g17 g18 g19 g20 g21 g22 g23 res.2.2.1 g25 g26 g27 g28 g29 g30 g31 g32 g33 res.2.1 g35 g36 a0 a1 a2 a3 a4 a5 a6 a7 a8 a9 a10 a11 a12 a13 a14 a15 a16 a17 a18 a19 a20 a21 a22 a23 a24 a25 a26 a27 a28 a29 a30 a31 res.2.2.2.2 res.2.2.2.1 a34 a35 a36 a37 a38 a39 b0 b1 b2 b3 b4 w0 (.ref 19) (.ref 1))) 0 0 25 [some (.ref 0), some (.int f1), some (.int l2_25), some (.int l3_25), some (.int l4_25), some (.int l5_25), none] [] (hA g0 g1 g2 g3 g4 g5 g6 g7 g8 g9 g10 g11 g12 g13 g14 g15 g16 g17 g18 g19 g20 g21 g22 g23 mg24_25 g25 g26 g27 g28 g29 g30 g31 g32 g33 g34 g35 g36 a0 a1 a2 a3 a4 a5 a6 a7 a8 a9 a10 a11 a12 a13 a14 a15 a16 a17 a18 a19 a20 a21 a22 a23 a24 a25 a26 a27 a28 a29 a30 a31 ma32_25 ma33_25 a34 a35 a36 a37 a38 a39 b0 b1 b2 b3 b4 w0 (.ref 19) (.ref 1)) := by
  intro n
  induction n with
  | zero =>
    intro l2_25 l3_25 l4_25 l5_25 mg24_25 ma33_25 ma32_25 h
    cases (show (none : Option (Int32 × Int32 × Int32 × (Nat → Int32) × (Nat → Int32))) = some res from h)
  | succ n25 ih25 =>
    intro l2_25 l3_25 l4_25 l5_25 mg24_25 ma33_25 ma32_25 h
    unfold L_hA_X7_longest_25 at h
    refine x_iload dX7_longest_25 rfl ?_
    refine x_bipush (41 : Int32) dX7_longest_27 (by decide) ?_
    refine x_icmp_ge 90 dX7_longest_29 (by decide) (fun q => ?_) (fun q => ?_)
    · have h := xif_t q h
      refine x_weak (pl2 := [some (.ref 0), none, some (.int l2_25), none, none, none, none]) ⟨rfl, rfl, trivial⟩ ?_
      exact hK l2_25 l3_25 l4_25 l5_25 mg24_25 ma33_25 ma32_25 h
    · have h := xif_f q h
      refine x_aload_n dX7_longest_32 rfl ?_
      refine x_get fX7_46 dX7_longest_33 rfl rfl rfl ?_
      refine x_iload dX7_longest_36 rfl ?_
      obtain ⟨z38, y38, h⟩ := xbind h
      refine x_callV (t_hA_X0_behind l5_25 z38 y38 (d + 0)) kX7_163 dX7_longest_38 rfl rfl rfl rfl rfl (Nat.le_of_ble_eq_true rfl) (Nat.le_of_ble_eq_true rfl) rfl rfl (Or.inl rfl) ?_
      refine x_get fX7_129 dX7_longest_41 rfl rfl rfl ?_
      refine x_iload_n dX7_longest_44 rfl ?_
      obtain ⟨q45, h⟩ := xix_of h
      refine x_iald dX7_longest_45 rfl q45 ?_
      refine x_istore (pl' := [some (.ref 0), some (.int f1), some (.int l2_25), some (.int l3_25), some (.int l4_25), some (.int l5_25), some (.int (z38.2.1 f1.toNatClampNeg))]) dX7_longest_46 (by decide) rfl ?_
      refine x_iload dX7_longest_48 rfl ?_
      refine x_bipush (-2 : Int32) dX7_longest_50 (by decide) ?_
      refine x_icmp_ne 59 dX7_longest_52 (by decide) (fun q => ?_) (fun q => ?_)
      · have h := xif_f q h
        refine x_iload dX7_longest_59 rfl ?_
        refine x_iload dX7_longest_61 rfl ?_
        refine x_icmp_ne 72 dX7_longest_63 (by decide) (fun q => ?_) (fun q => ?_)
        · have h := xif_f q h
          refine x_iconst (1 : Int32) dX7_longest_72 (by decide) ?_
          refine x_istore_n (pl' := [some (.ref 0), some (.int f1), some (.int l2_25), some (.int (1 : Int32)), some (.int l4_25), some (.int l5_25), some (.int (z38.2.1 f1.toNatClampNeg))]) dX7_longest_73 (by decide) rfl ?_
          refine x_iload dX7_longest_74 rfl ?_
          refine x_istore (pl' := [some (.ref 0), some (.int f1), some (.int l2_25), some (.int (1 : Int32)), some (.int (z38.2.1 f1.toNatClampNeg)), some (.int l5_25), some (.int (z38.2.1 f1.toNatClampNeg))]) dX7_longest_76 (by decide) rfl ?_
          refine x_iload_n dX7_longest_78 rfl ?_
          refine x_iload_n dX7_longest_79 rfl ?_
          refine x_max dX7_longest_80 kX7_190 kM_maxs kM_i kM_maxc (by omega) (Nat.le_of_ble_eq_true rfl) ?_
          refine x_istore_n (pl' := [some (.ref 0), some (.int f1), some (.int (if l2_25 < (1 : Int32) then (1 : Int32) else l2_25)), some (.int (1 : Int32)), some (.int (z38.2.1 f1.toNatClampNeg)), some (.int l5_25), some (.int (z38.2.1 f1.toNatClampNeg))]) dX7_longest_83 (by decide) rfl ?_
          refine x_iincK (1 : Int32) (pl' := [some (.ref 0), some (.int f1), some (.int (if l2_25 < (1 : Int32) then (1 : Int32) else l2_25)), some (.int (1 : Int32)), some (.int (z38.2.1 f1.toNatClampNeg)), some (.int (l5_25 + (1 : Int32))), some (.int (z38.2.1 f1.toNatClampNeg))]) dX7_longest_84 rfl (by decide) (by decide) rfl ?_
          refine x_goto 25 dX7_longest_87 (by decide) ?_
          refine x_weak (pl2 := [some (.ref 0), some (.int f1), some (.int (if l2_25 < (1 : Int32) then (1 : Int32) else l2_25)), some (.int (1 : Int32)), some (.int (z38.2.1 f1.toNatClampNeg)), some (.int (l5_25 + (1 : Int32))), none]) ⟨rfl, rfl, rfl, rfl, rfl, rfl, trivial⟩ ?_
          exact ih25 (if l2_25 < (1 : Int32) then (1 : Int32) else l2_25) (1 : Int32) (z38.2.1 f1.toNatClampNeg) (l5_25 + (1 : Int32)) z38.1 z38.2.1 z38.2.2 h
        · have h := xif_t q h
          refine x_iload_n dX7_longest_66 rfl ?_
          refine x_iconst (1 : Int32) dX7_longest_67 (by decide) ?_
          refine x_iadd dX7_longest_68 ?_
          refine x_goto 73 dX7_longest_69 (by decide) ?_
          refine x_istore_n (pl' := [some (.ref 0), some (.int f1), some (.int l2_25), some (.int (l3_25 + (1 : Int32))), some (.int l4_25), some (.int l5_25), some (.int (z38.2.1 f1.toNatClampNeg))]) dX7_longest_73 (by decide) rfl ?_
          refine x_iload dX7_longest_74 rfl ?_
          refine x_istore (pl' := [some (.ref 0), some (.int f1), some (.int l2_25), some (.int (l3_25 + (1 : Int32))), some (.int (z38.2.1 f1.toNatClampNeg)), some (.int l5_25), some (.int (z38.2.1 f1.toNatClampNeg))]) dX7_longest_76 (by decide) rfl ?_
          refine x_iload_n dX7_longest_78 rfl ?_
          refine x_iload_n dX7_longest_79 rfl ?_
          refine x_max dX7_longest_80 kX7_190 kM_maxs kM_i kM_maxc (by omega) (Nat.le_of_ble_eq_true rfl) ?_
          refine x_istore_n (pl' := [some (.ref 0), some (.int f1), some (.int (if l2_25 < (l3_25 + (1 : Int32)) then (l3_25 + (1 : Int32)) else l2_25)), some (.int (l3_25 + (1 : Int32))), some (.int (z38.2.1 f1.toNatClampNeg)), some (.int l5_25), some (.int (z38.2.1 f1.toNatClampNeg))]) dX7_longest_83 (by decide) rfl ?_
          refine x_iincK (1 : Int32) (pl' := [some (.ref 0), some (.int f1), some (.int (if l2_25 < (l3_25 + (1 : Int32)) then (l3_25 + (1 : Int32)) else l2_25)), some (.int (l3_25 + (1 : Int32))), some (.int (z38.2.1 f1.toNatClampNeg)), some (.int (l5_25 + (1 : Int32))), some (.int (z38.2.1 f1.toNatClampNeg))]) dX7_longest_84 rfl (by decide) (by decide) rfl ?_
          refine x_goto 25 dX7_longest_87 (by decide) ?_
          refine x_weak (pl2 := [some (.ref 0), some (.int f1), some (.int (if l2_25 < (l3_25 + (1 : Int32)) then (l3_25 + (1 : Int32)) else l2_25)), some (.int (l3_25 + (1 : Int32))), some (.int (z38.2.1 f1.toNatClampNeg)), some (.int (l5_25 + (1 : Int32))), none]) ⟨rfl, rfl, rfl, rfl, rfl, rfl, trivial⟩ ?_
          exact ih25 (if l2_25 < (l3_25 + (1 : Int32)) then (l3_25 + (1 : Int32)) else l2_25) (l3_25 + (1 : Int32)) (z38.2.1 f1.toNatClampNeg) (l5_25 + (1 : Int32)) z38.1 z38.2.1 z38.2.2 h
      · have h := xif_t q h
        refine x_iconst (0 : Int32) dX7_longest_55 (by decide) ?_
        refine x_goto 73 dX7_longest_56 (by decide) ?_
        refine x_istore_n (pl' := [some (.ref 0), some (.int f1), some (.int l2_25), some (.int (0 : Int32)), some (.int l4_25), some (.int l5_25), some (.int (z38.2.1 f1.toNatClampNeg))]) dX7_longest_73 (by decide) rfl ?_
        refine x_iload dX7_longest_74 rfl ?_
        refine x_istore (pl' := [some (.ref 0), some (.int f1), some (.int l2_25), some (.int (0 : Int32)), some (.int (z38.2.1 f1.toNatClampNeg)), some (.int l5_25), some (.int (z38.2.1 f1.toNatClampNeg))]) dX7_longest_76 (by decide) rfl ?_
        refine x_iload_n dX7_longest_78 rfl ?_
        refine x_iload_n dX7_longest_79 rfl ?_
        refine x_max dX7_longest_80 kX7_190 kM_maxs kM_i kM_maxc (by omega) (Nat.le_of_ble_eq_true rfl) ?_
        refine x_istore_n (pl' := [some (.ref 0), some (.int f1), some (.int (if l2_25 < (0 : Int32) then (0 : Int32) else l2_25)), some (.int (0 : Int32)), some (.int (z38.2.1 f1.toNatClampNeg)), some (.int l5_25), some (.int (z38.2.1 f1.toNatClampNeg))]) dX7_longest_83 (by decide) rfl ?_
        refine x_iincK (1 : Int32) (pl' := [some (.ref 0), some (.int f1), some (.int (if l2_25 < (0 : Int32) then (0 : Int32) else l2_25)), some (.int (0 : Int32)), some (.int (z38.2.1 f1.toNatClampNeg)), some (.int (l5_25 + (1 : Int32))), some (.int (z38.2.1 f1.toNatClampNeg))]) dX7_longest_84 rfl (by decide) (by decide) rfl ?_
        refine x_goto 25 dX7_longest_87 (by decide) ?_
        refine x_weak (pl2 := [some (.ref 0), some (.int f1), some (.int (if l2_25 < (0 : Int32) then (0 : Int32) else l2_25)), some (.int (0 : Int32)), some (.int (z38.2.1 f1.toNatClampNeg)), some (.int (l5_25 + (1 : Int32))), none]) ⟨rfl, rfl, rfl, rfl, rfl, rfl, trivial⟩ ?_
        exact ih25 (if l2_25 < (0 : Int32) then (0 : Int32) else l2_25) (0 : Int32) (z38.2.1 f1.toNatClampNeg) (l5_25 + (1 : Int32)) z38.1 z38.2.1 z38.2.2 h
set_option maxRecDepth 100000 in
set_option maxHeartbeats 4000000 in
theorem t_hA_X7_longest {g0 g1 g2 g3 g4 g5 g6 g7 g8 g9 g10 g11 g12 g13 g14 g15 g16 g17 g18 g19 g20 g21 g22 g23 g24 g25 g26 g27 g28 g29 g30 g31 g32 g33 g34 g35 g36 : Int32} {a0 a1 a2 a3 a4 a5 a6 a7 a8 a9 a10 a11 a12 a13 a14 a15 a16 a17 a18 a19 a20 a21 a22 a23 a24 a25 a26 a27 a28 a29 a30 a31 a32 a33 a34 a35 a36 a37 a38 a39 : (Nat → Int32)} {b0 b1 b2 b3 b4 : (Nat → Int64)} {w0 : Int64} (x1 : Int32) (res : Int32 × Int32 × Int32 × (Nat → Int32) × (Nat → Int32)) (h : e_hA_X7_longest g4 g34 b2 g24 a33 a32 x1 = some res) (d : Nat) : xMet xks YX7_longest (d + 3) 0 0 [.ref 0, .int x1] (hA g0 g1 g2 g3 g4 g5 g6 g7 g8 g9 g10 g11 g12 g13 g14 g15 g16 g17 g18 g19 g20 g21 g22 g23 g24 g25 g26 g27 g28 g29 g30 g31 g32 g33 g34 g35 g36 a0 a1 a2 a3 a4 a5 a6 a7 a8 a9 a10 a11 a12 a13 a14 a15 a16 a17 a18 a19 a20 a21 a22 a23 a24 a25 a26 a27 a28 a29 a30 a31 a32 a33 a34 a35 a36 a37 a38 a39 b0 b1 b2 b3 b4 w0 (.ref 19) (.ref 1)) (some (.int res.1)) (hA g0 g1 g2 g3 g4 g5 g6 g7 g8 g9 g10 g11 g12 g13 g14 g15 g16 g17 g18 g19 g20 g21 g22 g23 res.2.2.1 g25 g26 g27 g28 g29 g30 g31 g32 g33 res.2.1 g35 g36 a0 a1 a2 a3 a4 a5 a6 a7 a8 a9 a10 a11 a12 a13 a14 a15 a16 a17 a18 a19 a20 a21 a22 a23 a24 a25 a26 a27 a28 a29 a30 a31 res.2.2.2.2 res.2.2.2.1 a34 a35 a36 a37 a38 a39 b0 b1 b2 b3 b4 w0 (.ref 19) (.ref 1)) := by
  unfold e_hA_X7_longest at h
  refine xMet_of (pl := [some (.ref 0), some (.int x1), none, none, none, none, none]) (by decide) (Nat.le_of_ble_eq_true rfl) rfl (Nat.le_of_ble_eq_true rfl) ?_
  refine x_aload_n dX7_longest_0 rfl ?_
  refine x_iload_n dX7_longest_1 rfl ?_
  obtain ⟨z2, y2, h⟩ := xbind h
  refine x_callV (t_hA_X7_isUmbrella x1 z2 y2 (d + 1)) kX7_113 dX7_longest_2 rfl rfl rfl rfl rfl (Nat.le_of_ble_eq_true rfl) (Nat.le_of_ble_eq_true rfl) rfl rfl (Or.inl rfl) ?_
  refine x_if_ne 14 dX7_longest_5 (by decide) (fun q => ?_) (fun q => ?_)
  · have h := xif_f q h
    refine x_iconst (0 : Int32) dX7_longest_14 (by decide) ?_
    refine x_istore_n (pl' := [some (.ref 0), some (.int x1), some (.int (0 : Int32)), none, none, none, none]) dX7_longest_15 (by decide) rfl ?_
    refine x_iconst (0 : Int32) dX7_longest_16 (by decide) ?_
    refine x_istore_n (pl' := [some (.ref 0), some (.int x1), some (.int (0 : Int32)), some (.int (0 : Int32)), none, none, none]) dX7_longest_17 (by decide) rfl ?_
    refine x_bipush (-2 : Int32) dX7_longest_18 (by decide) ?_
    refine x_istore (pl' := [some (.ref 0), some (.int x1), some (.int (0 : Int32)), some (.int (0 : Int32)), some (.int (-2 : Int32)), none, none]) dX7_longest_20 (by decide) rfl ?_
    refine x_iconst (0 : Int32) dX7_longest_22 (by decide) ?_
    refine x_istore (pl' := [some (.ref 0), some (.int x1), some (.int (0 : Int32)), some (.int (0 : Int32)), some (.int (-2 : Int32)), some (.int (0 : Int32)), none]) dX7_longest_23 (by decide) rfl ?_
    refine x_weak (pl2 := [some (.ref 0), some (.int x1), some (.int (0 : Int32)), some (.int (0 : Int32)), some (.int (-2 : Int32)), some (.int (0 : Int32)), none]) ⟨rfl, rfl, rfl, rfl, rfl, rfl, trivial⟩ ?_
    refine lp_hA_X7_longest_25 d _ x1 res _ (fun l2_25 l3_25 l4_25 l5_25 mg24_25 ma33_25 ma32_25 h => ?_) 200000 (0 : Int32) (0 : Int32) (-2 : Int32) (0 : Int32) g24 a33 a32 h
    refine x_aload_n dX7_longest_90 rfl ?_
    refine x_iload_n dX7_longest_91 rfl ?_
    obtain ⟨z92, y92, h⟩ := xbind h
    refine x_callV (t_hA_X7_answer_2 l2_25 z92 y92 (d + 1)) kX7_110 dX7_longest_92 rfl rfl rfl rfl rfl (Nat.le_of_ble_eq_true rfl) (Nat.le_of_ble_eq_true rfl) rfl rfl (Or.inl rfl) ?_
    cases h
    exact x_iret2 dX7_longest_95 rfl rfl
  · have h := xif_t q h
    refine x_aload_n dX7_longest_8 rfl ?_
    refine x_iconst (1 : Int32) dX7_longest_9 (by decide) ?_
    obtain ⟨z10, y10, h⟩ := xbind h
    refine x_callV (t_hA_X7_refuse (1 : Int32) z10 y10 (d + 1)) kX7_84 dX7_longest_10 rfl rfl rfl rfl rfl (Nat.le_of_ble_eq_true rfl) (Nat.le_of_ble_eq_true rfl) rfl rfl (Or.inl rfl) ?_
    cases h
    exact x_iret2 dX7_longest_13 rfl rfl
noncomputable def L_hA_X7_worstDay_19 (p0 : Int32) (p1 : Int32) (p2 : (Nat → Int64)) (p6 : (Nat → Int32))   (K : Int32 → Int32 → Int32 → Int32 → (Nat → Int32) → (Nat → Int32) → Option (Int32 × Int32 × Int32 × (Nat → Int32) × (Nat → Int32))) : Nat → Int32 → Int32 → Int32 → Int32 → (Nat → Int32) → (Nat → Int32) → Option (Int32 × Int32 × Int32 × (Nat → Int32) × (Nat → Int32))
  | 0, _, _, _, _, _, _ => none
  | n19 + 1, l1_19, l2_19, l3_19, mg24_19, ma33_19, ma32_19 => if (41 : Int32) ≤ l3_19 then K l1_19 l2_19 l3_19 mg24_19 ma33_19 ma32_19 else ((e_hA_X0_behind p2 mg24_19 ma33_19 ma32_19 l3_19).bind fun z30 => (e_hA_X3_landsFor p0 z30.2.1 p6 (-2 : Int32)).bind fun z39 => if z39 ≤ l2_19 then L_hA_X7_worstDay_19 p0 p1 p2 p6  K n19 l1_19 l2_19 (l3_19 + (1 : Int32)) z30.1 z30.2.1 z30.2.2 else L_hA_X7_worstDay_19 p0 p1 p2 p6  K n19 l3_19 z39 (l3_19 + (1 : Int32)) z30.1 z30.2.1 z30.2.2)
noncomputable def e_hA_X7_worstDay (p0 : Int32) (p1 : Int32) (p2 : (Nat → Int64)) (p3 : Int32) (p4 : (Nat → Int32)) (p5 : (Nat → Int32)) (p6 : (Nat → Int32))  : Option (Int32 × Int32 × Int32 × (Nat → Int32) × (Nat → Int32)) :=
  ((e_hA_X7_isTold p0).bind fun z1 => if z1 = (0 : Int32) then ((e_hA_X7_refuse p1 (1 : Int32)).bind fun z9 => some (z9.1, z9.2, p3, p4, p5)) else L_hA_X7_worstDay_19 p0 p1 p2 p6  (fun l1_19 l2_19 l3_19 mg24_19 ma33_19 ma32_19 => ((e_hA_X7_answer p1 l1_19).bind fun z63 => some (z63.1, z63.2, mg24_19, ma33_19, ma32_19))) 200000 (0 : Int32) (-1 : Int32) (0 : Int32) p3 p4 p5)
set_option maxRecDepth 100000 in
set_option maxHeartbeats 4000000 in
theorem lp_hA_X7_worstDay_19 {g0 g1 g2 g3 g4 g5 g6 g7 g8 g9 g10 g11 g12 g13 g14 g15 g16 g17 g18 g19 g20 g21 g22 g23 g25 g26 g27 g28 g29 g30 g31 g32 g33 g34 g35 g36 : Int32} {a0 a1 a2 a3 a4 a5 a6 a7 a8 a9 a10 a11 a12 a13 a14 a15 a16 a17 a18 a19 a20 a21 a22 a23 a24 a25 a26 a27 a28 a29 a30 a31 a34 a35 a36 a37 a38 a39 : (Nat → Int32)} {b0 b1 b2 b3 b4 : (Nat → Int64)} {w0 : Int64} (d n0 : Nat)  (res : Int32 × Int32 × Int32 × (Nat → Int32) × (Nat → Int32)) (K : Int32 → Int32 → Int32 → Int32 → (Nat → Int32) → (Nat → Int32) → Option (Int32 × Int32 × Int32 × (Nat → Int32) × (Nat → Int32))) (hK : ∀ (l1_19 : Int32) (l2_19 : Int32) (l3_19 : Int32) (mg24_19 : Int32) (ma33_19 : (Nat → Int32)) (ma32_19 : (Nat → Int32)), K l1_19 l2_19 l3_19 mg24_19 ma33_19 ma32_19 = some res → xW xks YX7_worstDay (d + 3) 0 0 n0 (xZ 0 0 n0 (some (.int res.1)) (hA g0 g1 g2 g3 g4 g5 g6 g7 g8 g9 g10 g11 g12 g13 g14 g15 g16 g17 g18 g19 g20 g21 g22 g23 res.2.2.1 g25 g26 g27 g28 g29 g30 g31 g32 g33 res.2.1 g35 g36 a0 a1 a2 a3 a4 a5 a6 a7 a8 a9 a10 a11 a12 a13 a14 a15 a16 a17 a18 a19 a20 a21 a22 a23 a24 a25 a26 a27 a28 a29 a30 a31 res.2.2.2.2 res.2.2.2.1 a34 a35 a36 a37 a38 a39 b0 b1 b2 b3 b4 w0 (.ref 19) (.ref 1))) 0 0 61 [some (.ref 0), some (.int l1_19), none, none, none] [] (hA g0 g1 g2 g3 g4 g5 g6 g7 g8 g9 g10 g11 g12 g13 g14 g15 g16 g17 g18 g19 g20 g21 g22 g23 mg24_19 g25 g26 g27 g28 g29 g30 g31 g32 g33 g34 g35 g36 a0 a1 a2 a3 a4 a5 a6 a7 a8 a9 a10 a11 a12 a13 a14 a15 a16 a17 a18 a19 a20 a21 a22 a23 a24 a25 a26 a27 a28 a29 a30 a31 ma32_19 ma33_19 a34 a35 a36 a37 a38 a39 b0 b1 b2 b3 b4 w0 (.ref 19) (.ref 1))) : ∀ (n : Nat) (l1_19 : Int32) (l2_19 : Int32) (l3_19 : Int32) (mg24_19 : Int32) (ma33_19 : (Nat → Int32)) (ma32_19 : (Nat → Int32)), L_hA_X7_worstDay_19 g4 g34 b2 a2  K n l1_19 l2_19 l3_19 mg24_19 ma33_19 ma32_19 = some res → xW xks YX7_worstDay (d + 3) 0 0 n0 (xZ 0 0 n0 (some (.int res.1)) (hA g0 g1 g2 g3 g4 g5 g6 g7 g8 g9 g10 g11 g12 g13 g14 g15 g16 g17 g18 g19 g20 g21 g22 g23 res.2.2.1 g25 g26 g27 g28 g29 g30 g31 g32 g33 res.2.1 g35 g36 a0 a1 a2 a3 a4 a5 a6 a7 a8 a9 a10 a11 a12 a13 a14 a15 a16 a17 a18 a19 a20 a21 a22 a23 a24 a25 a26 a27 a28 a29 a30 a31 res.2.2.2.2 res.2.2.2.1 a34 a35 a36 a37 a38 a39 b0 b1 b2 b3 b4 w0 (.ref 19) (.ref 1))) 0 0 19 [some (.ref 0), some (.int l1_19), some (.int l2_19), some (.int l3_19), none] [] (hA g0 g1 g2 g3 g4 g5 g6 g7 g8 g9 g10 g11 g12 g13 g14 g15 g16 g17 g18 g19 g20 g21 g22 g23 mg24_19 g25 g26 g27 g28 g29 g30 g31 g32 g33 g34 g35 g36 a0 a1 a2 a3 a4 a5 a6 a7 a8 a9 a10 a11 a12 a13 a14 a15 a16 a17 a18 a19 a20 a21 a22 a23 a24 a25 a26 a27 a28 a29 a30 a31 ma32_19 ma33_19 a34 a35 a36 a37 a38 a39 b0 b1 b2 b3 b4 w0 (.ref 19) (.ref 1)) := by
  intro n
  induction n with
  | zero =>
    intro l1_19 l2_19 l3_19 mg24_19 ma33_19 ma32_19 h
    cases (show (none : Option (Int32 × Int32 × Int32 × (Nat → Int32) × (Nat → Int32))) = some res from h)
  | succ n19 ih19 =>
    intro l1_19 l2_19 l3_19 mg24_19 ma33_19 ma32_19 h
    unfold L_hA_X7_worstDay_19 at h
    refine x_iload_n dX7_worstDay_19 rfl ?_
    refine x_bipush (41 : Int32) dX7_worstDay_20 (by decide) ?_
    refine x_icmp_ge 61 dX7_worstDay_22 (by decide) (fun q => ?_) (fun q => ?_)
    · have h := xif_t q h
      refine x_weak (pl2 := [some (.ref 0), some (.int l1_19), none, none, none]) ⟨rfl, rfl, trivial⟩ ?_
      exact hK l1_19 l2_19 l3_19 mg24_19 ma33_19 ma32_19 h
    · have h := xif_f q h
      refine x_aload_n dX7_worstDay_25 rfl ?_
      refine x_get fX7_46 dX7_worstDay_26 rfl rfl rfl ?_
      refine x_iload_n dX7_worstDay_29 rfl ?_
      obtain ⟨z30, y30, h⟩ := xbind h
      refine x_callV (t_hA_X0_behind l3_19 z30 y30 (d + 0)) kX7_163 dX7_worstDay_30 rfl rfl rfl rfl rfl (Nat.le_of_ble_eq_true rfl) (Nat.le_of_ble_eq_true rfl) rfl rfl (Or.inl rfl) ?_
      refine x_aload_n dX7_worstDay_33 rfl ?_
      refine x_get fX7_10 dX7_worstDay_34 rfl rfl rfl ?_
      refine x_bipush (-2 : Int32) dX7_worstDay_37 (by decide) ?_
      obtain ⟨z39, y39, h⟩ := xbind h
      refine x_callV (t_hA_X3_landsFor_2 (-2 : Int32) z39 y39 (d + 1)) kX7_142 dX7_worstDay_39 rfl rfl rfl rfl rfl (Nat.le_of_ble_eq_true rfl) (Nat.le_of_ble_eq_true rfl) rfl rfl (Or.inl rfl) ?_
      refine x_istore (pl' := [some (.ref 0), some (.int l1_19), some (.int l2_19), some (.int l3_19), some (.int z39)]) dX7_worstDay_42 (by decide) rfl ?_
      refine x_iload dX7_worstDay_44 rfl ?_
      refine x_iload_n dX7_worstDay_46 rfl ?_
      refine x_icmp_le 55 dX7_worstDay_47 (by decide) (fun q => ?_) (fun q => ?_)
      · have h := xif_t q h
        refine x_iincK (1 : Int32) (pl' := [some (.ref 0), some (.int l1_19), some (.int l2_19), some (.int (l3_19 + (1 : Int32))), some (.int z39)]) dX7_worstDay_55 rfl (by decide) (by decide) rfl ?_
        refine x_goto 19 dX7_worstDay_58 (by decide) ?_
        refine x_weak (pl2 := [some (.ref 0), some (.int l1_19), some (.int l2_19), some (.int (l3_19 + (1 : Int32))), none]) ⟨rfl, rfl, rfl, rfl, trivial⟩ ?_
        exact ih19 l1_19 l2_19 (l3_19 + (1 : Int32)) z30.1 z30.2.1 z30.2.2 h
      · have h := xif_f q h
        refine x_iload dX7_worstDay_50 rfl ?_
        refine x_istore_n (pl' := [some (.ref 0), some (.int l1_19), some (.int z39), some (.int l3_19), some (.int z39)]) dX7_worstDay_52 (by decide) rfl ?_
        refine x_iload_n dX7_worstDay_53 rfl ?_
        refine x_istore_n (pl' := [some (.ref 0), some (.int l3_19), some (.int z39), some (.int l3_19), some (.int z39)]) dX7_worstDay_54 (by decide) rfl ?_
        refine x_iincK (1 : Int32) (pl' := [some (.ref 0), some (.int l3_19), some (.int z39), some (.int (l3_19 + (1 : Int32))), some (.int z39)]) dX7_worstDay_55 rfl (by decide) (by decide) rfl ?_
        refine x_goto 19 dX7_worstDay_58 (by decide) ?_
        refine x_weak (pl2 := [some (.ref 0), some (.int l3_19), some (.int z39), some (.int (l3_19 + (1 : Int32))), none]) ⟨rfl, rfl, rfl, rfl, trivial⟩ ?_
        exact ih19 l3_19 z39 (l3_19 + (1 : Int32)) z30.1 z30.2.1 z30.2.2 h
set_option maxRecDepth 100000 in
set_option maxHeartbeats 4000000 in
theorem t_hA_X7_worstDay {g0 g1 g2 g3 g4 g5 g6 g7 g8 g9 g10 g11 g12 g13 g14 g15 g16 g17 g18 g19 g20 g21 g22 g23 g24 g25 g26 g27 g28 g29 g30 g31 g32 g33 g34 g35 g36 : Int32} {a0 a1 a2 a3 a4 a5 a6 a7 a8 a9 a10 a11 a12 a13 a14 a15 a16 a17 a18 a19 a20 a21 a22 a23 a24 a25 a26 a27 a28 a29 a30 a31 a32 a33 a34 a35 a36 a37 a38 a39 : (Nat → Int32)} {b0 b1 b2 b3 b4 : (Nat → Int64)} {w0 : Int64}  (res : Int32 × Int32 × Int32 × (Nat → Int32) × (Nat → Int32)) (h : e_hA_X7_worstDay g4 g34 b2 g24 a33 a32 a2  = some res) (d : Nat) : xMet xks YX7_worstDay (d + 3) 0 0 [.ref 0] (hA g0 g1 g2 g3 g4 g5 g6 g7 g8 g9 g10 g11 g12 g13 g14 g15 g16 g17 g18 g19 g20 g21 g22 g23 g24 g25 g26 g27 g28 g29 g30 g31 g32 g33 g34 g35 g36 a0 a1 a2 a3 a4 a5 a6 a7 a8 a9 a10 a11 a12 a13 a14 a15 a16 a17 a18 a19 a20 a21 a22 a23 a24 a25 a26 a27 a28 a29 a30 a31 a32 a33 a34 a35 a36 a37 a38 a39 b0 b1 b2 b3 b4 w0 (.ref 19) (.ref 1)) (some (.int res.1)) (hA g0 g1 g2 g3 g4 g5 g6 g7 g8 g9 g10 g11 g12 g13 g14 g15 g16 g17 g18 g19 g20 g21 g22 g23 res.2.2.1 g25 g26 g27 g28 g29 g30 g31 g32 g33 res.2.1 g35 g36 a0 a1 a2 a3 a4 a5 a6 a7 a8 a9 a10 a11 a12 a13 a14 a15 a16 a17 a18 a19 a20 a21 a22 a23 a24 a25 a26 a27 a28 a29 a30 a31 res.2.2.2.2 res.2.2.2.1 a34 a35 a36 a37 a38 a39 b0 b1 b2 b3 b4 w0 (.ref 19) (.ref 1)) := by
  unfold e_hA_X7_worstDay at h
  refine xMet_of (pl := [some (.ref 0), none, none, none, none]) (by decide) (Nat.le_of_ble_eq_true rfl) rfl (Nat.le_of_ble_eq_true rfl) ?_
  refine x_aload_n dX7_worstDay_0 rfl ?_
  obtain ⟨z1, y1, h⟩ := xbind h
  refine x_callV (t_hA_X7_isTold  z1 y1 (d + 1)) kX7_149 dX7_worstDay_1 rfl rfl rfl rfl rfl (Nat.le_of_ble_eq_true rfl) (Nat.le_of_ble_eq_true rfl) rfl rfl (Or.inl rfl) ?_
  refine x_if_ne 13 dX7_worstDay_4 (by decide) (fun q => ?_) (fun q => ?_)
  · have h := xif_f q h
    refine x_iconst (0 : Int32) dX7_worstDay_13 (by decide) ?_
    refine x_istore_n (pl' := [some (.ref 0), some (.int (0 : Int32)), none, none, none]) dX7_worstDay_14 (by decide) rfl ?_
    refine x_iconst (-1 : Int32) dX7_worstDay_15 (by decide) ?_
    refine x_istore_n (pl' := [some (.ref 0), some (.int (0 : Int32)), some (.int (-1 : Int32)), none, none]) dX7_worstDay_16 (by decide) rfl ?_
    refine x_iconst (0 : Int32) dX7_worstDay_17 (by decide) ?_
    refine x_istore_n (pl' := [some (.ref 0), some (.int (0 : Int32)), some (.int (-1 : Int32)), some (.int (0 : Int32)), none]) dX7_worstDay_18 (by decide) rfl ?_
    refine x_weak (pl2 := [some (.ref 0), some (.int (0 : Int32)), some (.int (-1 : Int32)), some (.int (0 : Int32)), none]) ⟨rfl, rfl, rfl, rfl, trivial⟩ ?_
    refine lp_hA_X7_worstDay_19 d _  res _ (fun l1_19 l2_19 l3_19 mg24_19 ma33_19 ma32_19 h => ?_) 200000 (0 : Int32) (-1 : Int32) (0 : Int32) g24 a33 a32 h
    refine x_aload_n dX7_worstDay_61 rfl ?_
    refine x_iload_n dX7_worstDay_62 rfl ?_
    obtain ⟨z63, y63, h⟩ := xbind h
    refine x_callV (t_hA_X7_answer_2 l1_19 z63 y63 (d + 1)) kX7_110 dX7_worstDay_63 rfl rfl rfl rfl rfl (Nat.le_of_ble_eq_true rfl) (Nat.le_of_ble_eq_true rfl) rfl rfl (Or.inl rfl) ?_
    cases h
    exact x_iret2 dX7_worstDay_66 rfl rfl
  · have h := xif_t q h
    refine x_aload_n dX7_worstDay_7 rfl ?_
    refine x_iconst (1 : Int32) dX7_worstDay_8 (by decide) ?_
    obtain ⟨z9, y9, h⟩ := xbind h
    refine x_callV (t_hA_X7_refuse (1 : Int32) z9 y9 (d + 1)) kX7_84 dX7_worstDay_9 rfl rfl rfl rfl rfl (Nat.le_of_ble_eq_true rfl) (Nat.le_of_ble_eq_true rfl) rfl rfl (Or.inl rfl) ?_
    cases h
    exact x_iret2 dX7_worstDay_12 rfl rfl
noncomputable def L_hA_X7_owing_32 (p0 : Int32) (p1 : Int32) (p2 : Int32) (p3 : (Nat → Int32)) (p4 : (Nat → Int32))  (f1 : Int32) (f2 : Int32) (K : Int32 → Int32 → Option (Int32 × Int32)) : Nat → Int32 → Int32 → Option (Int32 × Int32)
  | 0, _, _ => none
  | n32 + 1, l3_32, l4_32 => if p2 ≤ l4_32 then K l3_32 l4_32 else (xix l4_32 5 (if (p3 l4_32.toNatClampNeg) = f1 then (xix l4_32 5 (if (p4 l4_32.toNatClampNeg) = f2 then L_hA_X7_owing_32 p0 p1 p2 p3 p4 f1 f2 K n32 (l3_32 ||| ((1 : Int32) <<< (l4_32 &&& 31))) (l4_32 + (1 : Int32)) else L_hA_X7_owing_32 p0 p1 p2 p3 p4 f1 f2 K n32 l3_32 (l4_32 + (1 : Int32)))) else L_hA_X7_owing_32 p0 p1 p2 p3 p4 f1 f2 K n32 l3_32 (l4_32 + (1 : Int32))))
noncomputable def e_hA_X7_owing (p0 : Int32) (p1 : Int32) (p2 : Int32) (p3 : (Nat → Int32)) (p4 : (Nat → Int32)) (x1 : Int32) (x2 : Int32) : Option (Int32 × Int32) :=
  ((e_hA_X7_isPerson p0 x1).bind fun z2 => if z2 = (0 : Int32) then ((e_hA_X7_refuse p1 (1 : Int32)).bind fun z23 => some (z23.1, z23.2)) else ((e_hA_X7_isPerson p0 x2).bind fun z10 => if z10 = (0 : Int32) then ((e_hA_X7_refuse p1 (1 : Int32)).bind fun z23 => some (z23.1, z23.2)) else if x1 = x2 then ((e_hA_X7_refuse p1 (1 : Int32)).bind fun z23 => some (z23.1, z23.2)) else L_hA_X7_owing_32 p0 p1 p2 p3 p4 x1 x2 (fun l3_32 l4_32 => ((e_hA_X7_answer p1 l3_32).bind fun z87 => some (z87.1, z87.2))) 200000 (0 : Int32) (0 : Int32)))
set_option maxRecDepth 100000 in
set_option maxHeartbeats 4000000 in
theorem lp_hA_X7_owing_32 {g0 g1 g2 g3 g4 g5 g6 g7 g8 g9 g10 g11 g12 g13 g14 g15 g16 g17 g18 g19 g20 g21 g22 g23 g24 g25 g26 g27 g28 g29 g30 g31 g32 g33 g34 g35 g36 : Int32} {a0 a1 a2 a3 a4 a5 a6 a7 a8 a9 a10 a11 a12 a13 a14 a15 a16 a17 a18 a19 a20 a21 a22 a23 a24 a25 a26 a27 a28 a29 a30 a31 a32 a33 a34 a35 a36 a37 a38 a39 : (Nat → Int32)} {b0 b1 b2 b3 b4 : (Nat → Int64)} {w0 : Int64} (d n0 : Nat) (f1 : Int32) (f2 : Int32) (res : Int32 × Int32) (K : Int32 → Int32 → Option (Int32 × Int32)) (hK : ∀ (l3_32 : Int32) (l4_32 : Int32), K l3_32 l4_32 = some res → xW xks YX7_owing (d + 2) 0 0 n0 (xZ 0 0 n0 (some (.int res.1)) (hA g0 g1 g2 g3 g4 g5 g6 g7 g8 g9 g10 g11 g12 g13 g14 g15 g16 g17 g18 g19 g20 g21 g22 g23 g24 g25 g26 g27 g28 g29 g30 g31 g32 g33 res.2 g35 g36 a0 a1 a2 a3 a4 a5 a6 a7 a8 a9 a10 a11 a12 a13 a14 a15 a16 a17 a18 a19 a20 a21 a22 a23 a24 a25 a26 a27 a28 a29 a30 a31 a32 a33 a34 a35 a36 a37 a38 a39 b0 b1 b2 b3 b4 w0 (.ref 19) (.ref 1))) 0 0 85 [some (.ref 0), none, none, some (.int l3_32), none] [] (hA g0 g1 g2 g3 g4 g5 g6 g7 g8 g9 g10 g11 g12 g13 g14 g15 g16 g17 g18 g19 g20 g21 g22 g23 g24 g25 g26 g27 g28 g29 g30 g31 g32 g33 g34 g35 g36 a0 a1 a2 a3 a4 a5 a6 a7 a8 a9 a10 a11 a12 a13 a14 a15 a16 a17 a18 a19 a20 a21 a22 a23 a24 a25 a26 a27 a28 a29 a30 a31 a32 a33 a34 a35 a36 a37 a38 a39 b0 b1 b2 b3 b4 w0 (.ref 19) (.ref 1))) : ∀ (n : Nat) (l3_32 : Int32) (l4_32 : Int32), L_hA_X7_owing_32 g3 g34 g4 a28 a27 f1 f2 K n l3_32 l4_32 = some res → xW xks YX7_owing (d + 2) 0 0 n0 (xZ 0 0 n0 (some (.int res.1)) (hA g0 g1 g2 g3 g4 g5 g6 g7 g8 g9 g10 g11 g12 g13 g14 g15 g16 g17 g18 g19 g20 g21 g22 g23 g24 g25 g26 g27 g28 g29 g30 g31 g32 g33 res.2 g35 g36 a0 a1 a2 a3 a4 a5 a6 a7 a8 a9 a10 a11 a12 a13 a14 a15 a16 a17 a18 a19 a20 a21 a22 a23 a24 a25 a26 a27 a28 a29 a30 a31 a32 a33 a34 a35 a36 a37 a38 a39 b0 b1 b2 b3 b4 w0 (.ref 19) (.ref 1))) 0 0 32 [some (.ref 0), some (.int f1), some (.int f2), some (.int l3_32), some (.int l4_32)] [] (hA g0 g1 g2 g3 g4 g5 g6 g7 g8 g9 g10 g11 g12 g13 g14 g15 g16 g17 g18 g19 g20 g21 g22 g23 g24 g25 g26 g27 g28 g29 g30 g31 g32 g33 g34 g35 g36 a0 a1 a2 a3 a4 a5 a6 a7 a8 a9 a10 a11 a12 a13 a14 a15 a16 a17 a18 a19 a20 a21 a22 a23 a24 a25 a26 a27 a28 a29 a30 a31 a32 a33 a34 a35 a36 a37 a38 a39 b0 b1 b2 b3 b4 w0 (.ref 19) (.ref 1)) := by
  intro n
  induction n with
  | zero =>
    intro l3_32 l4_32 h
    cases (show (none : Option (Int32 × Int32)) = some res from h)
  | succ n32 ih32 =>
    intro l3_32 l4_32 h
    unfold L_hA_X7_owing_32 at h
    refine x_iload dX7_owing_32 rfl ?_
    refine x_aload_n dX7_owing_34 rfl ?_
    refine x_get fX7_10 dX7_owing_35 rfl rfl rfl ?_
    refine x_get fX7_107 dX7_owing_38 rfl rfl rfl ?_
    refine x_icmp_ge 85 dX7_owing_41 (by decide) (fun q => ?_) (fun q => ?_)
    · have h := xif_t q h
      refine x_weak (pl2 := [some (.ref 0), none, none, some (.int l3_32), none]) ⟨rfl, rfl, trivial⟩ ?_
      exact hK l3_32 l4_32 h
    · have h := xif_f q h
      refine x_aload_n dX7_owing_44 rfl ?_
      refine x_get fX7_36 dX7_owing_45 rfl rfl rfl ?_
      refine x_get fX7_129 dX7_owing_48 rfl rfl rfl ?_
      refine x_iload dX7_owing_51 rfl ?_
      obtain ⟨q53, h⟩ := xix_of h
      refine x_iald dX7_owing_53 rfl q53 ?_
      refine x_iload_n dX7_owing_54 rfl ?_
      refine x_icmp_ne 79 dX7_owing_55 (by decide) (fun q => ?_) (fun q => ?_)
      · have h := xif_f q h
        refine x_iincK (1 : Int32) (pl' := [some (.ref 0), some (.int f1), some (.int f2), some (.int l3_32), some (.int (l4_32 + (1 : Int32)))]) dX7_owing_79 rfl (by decide) (by decide) rfl ?_
        refine x_goto 32 dX7_owing_82 (by decide) ?_
        refine x_weak (pl2 := [some (.ref 0), some (.int f1), some (.int f2), some (.int l3_32), some (.int (l4_32 + (1 : Int32)))]) ⟨rfl, rfl, rfl, rfl, rfl, trivial⟩ ?_
        exact ih32 l3_32 (l4_32 + (1 : Int32)) h
      · have h := xif_t q h
        refine x_aload_n dX7_owing_58 rfl ?_
        refine x_get fX7_36 dX7_owing_59 rfl rfl rfl ?_
        refine x_get fX7_126 dX7_owing_62 rfl rfl rfl ?_
        refine x_iload dX7_owing_65 rfl ?_
        obtain ⟨q67, h⟩ := xix_of h
        refine x_iald dX7_owing_67 rfl q67 ?_
        refine x_iload_n dX7_owing_68 rfl ?_
        refine x_icmp_ne 79 dX7_owing_69 (by decide) (fun q => ?_) (fun q => ?_)
        · have h := xif_f q h
          refine x_iincK (1 : Int32) (pl' := [some (.ref 0), some (.int f1), some (.int f2), some (.int l3_32), some (.int (l4_32 + (1 : Int32)))]) dX7_owing_79 rfl (by decide) (by decide) rfl ?_
          refine x_goto 32 dX7_owing_82 (by decide) ?_
          refine x_weak (pl2 := [some (.ref 0), some (.int f1), some (.int f2), some (.int l3_32), some (.int (l4_32 + (1 : Int32)))]) ⟨rfl, rfl, rfl, rfl, rfl, trivial⟩ ?_
          exact ih32 l3_32 (l4_32 + (1 : Int32)) h
        · have h := xif_t q h
          refine x_iload_n dX7_owing_72 rfl ?_
          refine x_iconst (1 : Int32) dX7_owing_73 (by decide) ?_
          refine x_iload dX7_owing_74 rfl ?_
          refine x_ishl dX7_owing_76 ?_
          refine x_ior dX7_owing_77 ?_
          refine x_istore_n (pl' := [some (.ref 0), some (.int f1), some (.int f2), some (.int (l3_32 ||| ((1 : Int32) <<< (l4_32 &&& 31)))), some (.int l4_32)]) dX7_owing_78 (by decide) rfl ?_
          refine x_iincK (1 : Int32) (pl' := [some (.ref 0), some (.int f1), some (.int f2), some (.int (l3_32 ||| ((1 : Int32) <<< (l4_32 &&& 31)))), some (.int (l4_32 + (1 : Int32)))]) dX7_owing_79 rfl (by decide) (by decide) rfl ?_
          refine x_goto 32 dX7_owing_82 (by decide) ?_
          refine x_weak (pl2 := [some (.ref 0), some (.int f1), some (.int f2), some (.int (l3_32 ||| ((1 : Int32) <<< (l4_32 &&& 31)))), some (.int (l4_32 + (1 : Int32)))]) ⟨rfl, rfl, rfl, rfl, rfl, trivial⟩ ?_
          exact ih32 (l3_32 ||| ((1 : Int32) <<< (l4_32 &&& 31))) (l4_32 + (1 : Int32)) h
set_option maxRecDepth 100000 in
set_option maxHeartbeats 4000000 in
theorem t_hA_X7_owing {g0 g1 g2 g3 g4 g5 g6 g7 g8 g9 g10 g11 g12 g13 g14 g15 g16 g17 g18 g19 g20 g21 g22 g23 g24 g25 g26 g27 g28 g29 g30 g31 g32 g33 g34 g35 g36 : Int32} {a0 a1 a2 a3 a4 a5 a6 a7 a8 a9 a10 a11 a12 a13 a14 a15 a16 a17 a18 a19 a20 a21 a22 a23 a24 a25 a26 a27 a28 a29 a30 a31 a32 a33 a34 a35 a36 a37 a38 a39 : (Nat → Int32)} {b0 b1 b2 b3 b4 : (Nat → Int64)} {w0 : Int64} (x1 : Int32) (x2 : Int32) (res : Int32 × Int32) (h : e_hA_X7_owing g3 g34 g4 a28 a27 x1 x2 = some res) (d : Nat) : xMet xks YX7_owing (d + 2) 0 0 [.ref 0, .int x1, .int x2] (hA g0 g1 g2 g3 g4 g5 g6 g7 g8 g9 g10 g11 g12 g13 g14 g15 g16 g17 g18 g19 g20 g21 g22 g23 g24 g25 g26 g27 g28 g29 g30 g31 g32 g33 g34 g35 g36 a0 a1 a2 a3 a4 a5 a6 a7 a8 a9 a10 a11 a12 a13 a14 a15 a16 a17 a18 a19 a20 a21 a22 a23 a24 a25 a26 a27 a28 a29 a30 a31 a32 a33 a34 a35 a36 a37 a38 a39 b0 b1 b2 b3 b4 w0 (.ref 19) (.ref 1)) (some (.int res.1)) (hA g0 g1 g2 g3 g4 g5 g6 g7 g8 g9 g10 g11 g12 g13 g14 g15 g16 g17 g18 g19 g20 g21 g22 g23 g24 g25 g26 g27 g28 g29 g30 g31 g32 g33 res.2 g35 g36 a0 a1 a2 a3 a4 a5 a6 a7 a8 a9 a10 a11 a12 a13 a14 a15 a16 a17 a18 a19 a20 a21 a22 a23 a24 a25 a26 a27 a28 a29 a30 a31 a32 a33 a34 a35 a36 a37 a38 a39 b0 b1 b2 b3 b4 w0 (.ref 19) (.ref 1)) := by
  unfold e_hA_X7_owing at h
  refine xMet_of (pl := [some (.ref 0), some (.int x1), some (.int x2), none, none]) (by decide) (Nat.le_of_ble_eq_true rfl) rfl (Nat.le_of_ble_eq_true rfl) ?_
  refine x_aload_n dX7_owing_0 rfl ?_
  refine x_iload_n dX7_owing_1 rfl ?_
  obtain ⟨z2, y2, h⟩ := xbind h
  refine x_callV (t_hA_X7_isPerson x1 z2 y2 (d + 0)) kX7_132 dX7_owing_2 rfl rfl rfl rfl rfl (Nat.le_of_ble_eq_true rfl) (Nat.le_of_ble_eq_true rfl) rfl rfl (Or.inl rfl) ?_
  refine x_if_eq 21 dX7_owing_5 (by decide) (fun q => ?_) (fun q => ?_)
  · have h := xif_t q h
    refine x_aload_n dX7_owing_21 rfl ?_
    refine x_iconst (1 : Int32) dX7_owing_22 (by decide) ?_
    obtain ⟨z23, y23, h⟩ := xbind h
    refine x_callV (t_hA_X7_refuse (1 : Int32) z23 y23 (d + 0)) kX7_84 dX7_owing_23 rfl rfl rfl rfl rfl (Nat.le_of_ble_eq_true rfl) (Nat.le_of_ble_eq_true rfl) rfl rfl (Or.inl rfl) ?_
    cases h
    exact x_iret2 dX7_owing_26 rfl rfl
  · have h := xif_f q h
    refine x_aload_n dX7_owing_8 rfl ?_
    refine x_iload_n dX7_owing_9 rfl ?_
    obtain ⟨z10, y10, h⟩ := xbind h
    refine x_callV (t_hA_X7_isPerson x2 z10 y10 (d + 0)) kX7_132 dX7_owing_10 rfl rfl rfl rfl rfl (Nat.le_of_ble_eq_true rfl) (Nat.le_of_ble_eq_true rfl) rfl rfl (Or.inl rfl) ?_
    refine x_if_eq 21 dX7_owing_13 (by decide) (fun q => ?_) (fun q => ?_)
    · have h := xif_t q h
      refine x_aload_n dX7_owing_21 rfl ?_
      refine x_iconst (1 : Int32) dX7_owing_22 (by decide) ?_
      obtain ⟨z23, y23, h⟩ := xbind h
      refine x_callV (t_hA_X7_refuse (1 : Int32) z23 y23 (d + 0)) kX7_84 dX7_owing_23 rfl rfl rfl rfl rfl (Nat.le_of_ble_eq_true rfl) (Nat.le_of_ble_eq_true rfl) rfl rfl (Or.inl rfl) ?_
      cases h
      exact x_iret2 dX7_owing_26 rfl rfl
    · have h := xif_f q h
      refine x_iload_n dX7_owing_16 rfl ?_
      refine x_iload_n dX7_owing_17 rfl ?_
      refine x_icmp_ne 27 dX7_owing_18 (by decide) (fun q => ?_) (fun q => ?_)
      · have h := xif_f q h
        refine x_iconst (0 : Int32) dX7_owing_27 (by decide) ?_
        refine x_istore_n (pl' := [some (.ref 0), some (.int x1), some (.int x2), some (.int (0 : Int32)), none]) dX7_owing_28 (by decide) rfl ?_
        refine x_iconst (0 : Int32) dX7_owing_29 (by decide) ?_
        refine x_istore (pl' := [some (.ref 0), some (.int x1), some (.int x2), some (.int (0 : Int32)), some (.int (0 : Int32))]) dX7_owing_30 (by decide) rfl ?_
        refine x_weak (pl2 := [some (.ref 0), some (.int x1), some (.int x2), some (.int (0 : Int32)), some (.int (0 : Int32))]) ⟨rfl, rfl, rfl, rfl, rfl, trivial⟩ ?_
        refine lp_hA_X7_owing_32 d _ x1 x2 res _ (fun l3_32 l4_32 h => ?_) 200000 (0 : Int32) (0 : Int32) h
        refine x_aload_n dX7_owing_85 rfl ?_
        refine x_iload_n dX7_owing_86 rfl ?_
        obtain ⟨z87, y87, h⟩ := xbind h
        refine x_callV (t_hA_X7_answer_2 l3_32 z87 y87 (d + 0)) kX7_110 dX7_owing_87 rfl rfl rfl rfl rfl (Nat.le_of_ble_eq_true rfl) (Nat.le_of_ble_eq_true rfl) rfl rfl (Or.inl rfl) ?_
        cases h
        exact x_iret2 dX7_owing_90 rfl rfl
      · have h := xif_t q h
        refine x_aload_n dX7_owing_21 rfl ?_
        refine x_iconst (1 : Int32) dX7_owing_22 (by decide) ?_
        obtain ⟨z23, y23, h⟩ := xbind h
        refine x_callV (t_hA_X7_refuse (1 : Int32) z23 y23 (d + 0)) kX7_84 dX7_owing_23 rfl rfl rfl rfl rfl (Nat.le_of_ble_eq_true rfl) (Nat.le_of_ble_eq_true rfl) rfl rfl (Or.inl rfl) ?_
        cases h
        exact x_iret2 dX7_owing_26 rfl rfl
noncomputable def L_hA_X3_copyFrom_2 (p0 : Int32) (p1 : Int32) (p2 : (Nat → Int32)) (p4 : (Nat → Int32))   (K : Int32 → (Nat → Int32) → (Nat → Int32) → Option (Int32 × (Nat → Int32) × (Nat → Int32))) : Nat → Int32 → (Nat → Int32) → (Nat → Int32) → Option (Int32 × (Nat → Int32) × (Nat → Int32))
  | 0, _, _, _ => none
  | n2 + 1, l2_2, ma29_2, ma30_2 => if (5 : Int32) ≤ l2_2 then K l2_2 ma29_2 ma30_2 else (xix l2_2 5 (xix l2_2 5 (xix l2_2 5 (xix l2_2 5 (L_hA_X3_copyFrom_2 p0 p1 p2 p4  K n2 (l2_2 + (1 : Int32)) (upd ma29_2 l2_2.toNatClampNeg (p2 l2_2.toNatClampNeg)) (upd ma30_2 l2_2.toNatClampNeg (p4 l2_2.toNatClampNeg)))))))
noncomputable def e_hA_X3_copyFrom (p0 : Int32) (p1 : Int32) (p2 : (Nat → Int32)) (p3 : (Nat → Int32)) (p4 : (Nat → Int32)) (p5 : (Nat → Int32))  : Option (Int32 × (Nat → Int32) × (Nat → Int32)) :=
  L_hA_X3_copyFrom_2 p0 p1 p2 p4  (fun l2_2 ma29_2 ma30_2 => some (p0, ma29_2, ma30_2)) 200000 (0 : Int32) p3 p5
set_option maxRecDepth 100000 in
set_option maxHeartbeats 4000000 in
theorem lp_hA_X3_copyFrom_2 {g0 g1 g2 g3 g4 g5 g6 g7 g8 g9 g10 g11 g12 g13 g14 g15 g16 g17 g18 g19 g20 g21 g22 g23 g24 g25 g26 g27 g28 g29 g30 g31 g32 g33 g34 g35 g36 : Int32} {a0 a1 a2 a3 a4 a5 a6 a7 a8 a9 a10 a11 a12 a13 a14 a15 a16 a17 a18 a19 a20 a21 a22 a23 a24 a25 a26 a27 a28 a31 a32 a33 a34 a35 a36 a37 a38 a39 : (Nat → Int32)} {b0 b1 b2 b3 b4 : (Nat → Int64)} {w0 : Int64} (d n0 : Nat)  (res : Int32 × (Nat → Int32) × (Nat → Int32)) (K : Int32 → (Nat → Int32) → (Nat → Int32) → Option (Int32 × (Nat → Int32) × (Nat → Int32))) (hK : ∀ (l2_2 : Int32) (ma29_2 : (Nat → Int32)) (ma30_2 : (Nat → Int32)), K l2_2 ma29_2 ma30_2 = some res → xW xks YX3_copyFrom (d + 1) 0 0 n0 (xZ 0 0 n0 none (hA g0 g1 g2 g3 g4 g5 g6 g7 g8 g9 g10 g11 g12 g13 g14 g15 g16 g17 g18 g19 g20 g21 g22 res.1 g24 g25 g26 g27 g28 g29 g30 g31 g32 g33 g34 g35 g36 a0 a1 a2 a3 a4 a5 a6 a7 a8 a9 a10 a11 a12 a13 a14 a15 a16 a17 a18 a19 a20 a21 a22 a23 a24 a25 a26 a27 a28 res.2.1 res.2.2 a31 a32 a33 a34 a35 a36 a37 a38 a39 b0 b1 b2 b3 b4 w0 (.ref 19) (.ref 1))) 0 0 37 [some (.ref 40), some (.ref 37), none] [] (hA g0 g1 g2 g3 g4 g5 g6 g7 g8 g9 g10 g11 g12 g13 g14 g15 g16 g17 g18 g19 g20 g21 g22 g23 g24 g25 g26 g27 g28 g29 g30 g31 g32 g33 g34 g35 g36 a0 a1 a2 a3 a4 a5 a6 a7 a8 a9 a10 a11 a12 a13 a14 a15 a16 a17 a18 a19 a20 a21 a22 a23 a24 a25 a26 a27 a28 ma29_2 ma30_2 a31 a32 a33 a34 a35 a36 a37 a38 a39 b0 b1 b2 b3 b4 w0 (.ref 19) (.ref 1))) : ∀ (n : Nat) (l2_2 : Int32) (ma29_2 : (Nat → Int32)) (ma30_2 : (Nat → Int32)), L_hA_X3_copyFrom_2 g22 g23 a27 a28  K n l2_2 ma29_2 ma30_2 = some res → xW xks YX3_copyFrom (d + 1) 0 0 n0 (xZ 0 0 n0 none (hA g0 g1 g2 g3 g4 g5 g6 g7 g8 g9 g10 g11 g12 g13 g14 g15 g16 g17 g18 g19 g20 g21 g22 res.1 g24 g25 g26 g27 g28 g29 g30 g31 g32 g33 g34 g35 g36 a0 a1 a2 a3 a4 a5 a6 a7 a8 a9 a10 a11 a12 a13 a14 a15 a16 a17 a18 a19 a20 a21 a22 a23 a24 a25 a26 a27 a28 res.2.1 res.2.2 a31 a32 a33 a34 a35 a36 a37 a38 a39 b0 b1 b2 b3 b4 w0 (.ref 19) (.ref 1))) 0 0 2 [some (.ref 40), some (.ref 37), some (.int l2_2)] [] (hA g0 g1 g2 g3 g4 g5 g6 g7 g8 g9 g10 g11 g12 g13 g14 g15 g16 g17 g18 g19 g20 g21 g22 g23 g24 g25 g26 g27 g28 g29 g30 g31 g32 g33 g34 g35 g36 a0 a1 a2 a3 a4 a5 a6 a7 a8 a9 a10 a11 a12 a13 a14 a15 a16 a17 a18 a19 a20 a21 a22 a23 a24 a25 a26 a27 a28 ma29_2 ma30_2 a31 a32 a33 a34 a35 a36 a37 a38 a39 b0 b1 b2 b3 b4 w0 (.ref 19) (.ref 1)) := by
  intro n
  induction n with
  | zero =>
    intro l2_2 ma29_2 ma30_2 h
    cases (show (none : Option (Int32 × (Nat → Int32) × (Nat → Int32))) = some res from h)
  | succ n2 ih2 =>
    intro l2_2 ma29_2 ma30_2 h
    unfold L_hA_X3_copyFrom_2 at h
    refine x_iload_n dX3_copyFrom_2 rfl ?_
    refine x_iconst (5 : Int32) dX3_copyFrom_3 (by decide) ?_
    refine x_icmp_ge 37 dX3_copyFrom_4 (by decide) (fun q => ?_) (fun q => ?_)
    · have h := xif_t q h
      refine x_weak (pl2 := [some (.ref 40), some (.ref 37), none]) ⟨rfl, rfl, trivial⟩ ?_
      exact hK l2_2 ma29_2 ma30_2 h
    · have h := xif_f q h
      refine x_aload_n dX3_copyFrom_7 rfl ?_
      refine x_get fX3_9 dX3_copyFrom_8 rfl rfl rfl ?_
      refine x_iload_n dX3_copyFrom_11 rfl ?_
      refine x_aload_n dX3_copyFrom_12 rfl ?_
      refine x_get fX3_9 dX3_copyFrom_13 rfl rfl rfl ?_
      refine x_iload_n dX3_copyFrom_16 rfl ?_
      obtain ⟨q17, h⟩ := xix_of h
      refine x_iald dX3_copyFrom_17 rfl q17 ?_
      obtain ⟨q18, h⟩ := xix_of h
      refine x_iast (h2 := (hA g0 g1 g2 g3 g4 g5 g6 g7 g8 g9 g10 g11 g12 g13 g14 g15 g16 g17 g18 g19 g20 g21 g22 g23 g24 g25 g26 g27 g28 g29 g30 g31 g32 g33 g34 g35 g36 a0 a1 a2 a3 a4 a5 a6 a7 a8 a9 a10 a11 a12 a13 a14 a15 a16 a17 a18 a19 a20 a21 a22 a23 a24 a25 a26 a27 a28 (upd ma29_2 l2_2.toNatClampNeg (a27 l2_2.toNatClampNeg)) ma30_2 a31 a32 a33 a34 a35 a36 a37 a38 a39 b0 b1 b2 b3 b4 w0 (.ref 19) (.ref 1))) dX3_copyFrom_18 rfl q18 rfl ?_
      refine x_aload_n dX3_copyFrom_19 rfl ?_
      refine x_get fX3_15 dX3_copyFrom_20 rfl rfl rfl ?_
      refine x_iload_n dX3_copyFrom_23 rfl ?_
      refine x_aload_n dX3_copyFrom_24 rfl ?_
      refine x_get fX3_15 dX3_copyFrom_25 rfl rfl rfl ?_
      refine x_iload_n dX3_copyFrom_28 rfl ?_
      obtain ⟨q29, h⟩ := xix_of h
      refine x_iald dX3_copyFrom_29 rfl q29 ?_
      obtain ⟨q30, h⟩ := xix_of h
      refine x_iast (h2 := (hA g0 g1 g2 g3 g4 g5 g6 g7 g8 g9 g10 g11 g12 g13 g14 g15 g16 g17 g18 g19 g20 g21 g22 g23 g24 g25 g26 g27 g28 g29 g30 g31 g32 g33 g34 g35 g36 a0 a1 a2 a3 a4 a5 a6 a7 a8 a9 a10 a11 a12 a13 a14 a15 a16 a17 a18 a19 a20 a21 a22 a23 a24 a25 a26 a27 a28 (upd ma29_2 l2_2.toNatClampNeg (a27 l2_2.toNatClampNeg)) (upd ma30_2 l2_2.toNatClampNeg (a28 l2_2.toNatClampNeg)) a31 a32 a33 a34 a35 a36 a37 a38 a39 b0 b1 b2 b3 b4 w0 (.ref 19) (.ref 1))) dX3_copyFrom_30 rfl q30 rfl ?_
      refine x_iincK (1 : Int32) (pl' := [some (.ref 40), some (.ref 37), some (.int (l2_2 + (1 : Int32)))]) dX3_copyFrom_31 rfl (by decide) (by decide) rfl ?_
      refine x_goto 2 dX3_copyFrom_34 (by decide) ?_
      refine x_weak (pl2 := [some (.ref 40), some (.ref 37), some (.int (l2_2 + (1 : Int32)))]) ⟨rfl, rfl, rfl, trivial⟩ ?_
      exact ih2 (l2_2 + (1 : Int32)) (upd ma29_2 l2_2.toNatClampNeg (a27 l2_2.toNatClampNeg)) (upd ma30_2 l2_2.toNatClampNeg (a28 l2_2.toNatClampNeg)) h
set_option maxRecDepth 100000 in
set_option maxHeartbeats 4000000 in
theorem t_hA_X3_copyFrom {g0 g1 g2 g3 g4 g5 g6 g7 g8 g9 g10 g11 g12 g13 g14 g15 g16 g17 g18 g19 g20 g21 g22 g23 g24 g25 g26 g27 g28 g29 g30 g31 g32 g33 g34 g35 g36 : Int32} {a0 a1 a2 a3 a4 a5 a6 a7 a8 a9 a10 a11 a12 a13 a14 a15 a16 a17 a18 a19 a20 a21 a22 a23 a24 a25 a26 a27 a28 a29 a30 a31 a32 a33 a34 a35 a36 a37 a38 a39 : (Nat → Int32)} {b0 b1 b2 b3 b4 : (Nat → Int64)} {w0 : Int64}  (res : Int32 × (Nat → Int32) × (Nat → Int32)) (h : e_hA_X3_copyFrom g22 g23 a27 a29 a28 a30  = some res) (d : Nat) : xMet xks YX3_copyFrom (d + 1) 0 0 [.ref 40, .ref 37] (hA g0 g1 g2 g3 g4 g5 g6 g7 g8 g9 g10 g11 g12 g13 g14 g15 g16 g17 g18 g19 g20 g21 g22 g23 g24 g25 g26 g27 g28 g29 g30 g31 g32 g33 g34 g35 g36 a0 a1 a2 a3 a4 a5 a6 a7 a8 a9 a10 a11 a12 a13 a14 a15 a16 a17 a18 a19 a20 a21 a22 a23 a24 a25 a26 a27 a28 a29 a30 a31 a32 a33 a34 a35 a36 a37 a38 a39 b0 b1 b2 b3 b4 w0 (.ref 19) (.ref 1)) none (hA g0 g1 g2 g3 g4 g5 g6 g7 g8 g9 g10 g11 g12 g13 g14 g15 g16 g17 g18 g19 g20 g21 g22 res.1 g24 g25 g26 g27 g28 g29 g30 g31 g32 g33 g34 g35 g36 a0 a1 a2 a3 a4 a5 a6 a7 a8 a9 a10 a11 a12 a13 a14 a15 a16 a17 a18 a19 a20 a21 a22 a23 a24 a25 a26 a27 a28 res.2.1 res.2.2 a31 a32 a33 a34 a35 a36 a37 a38 a39 b0 b1 b2 b3 b4 w0 (.ref 19) (.ref 1)) := by
  unfold e_hA_X3_copyFrom at h
  refine xMet_of (pl := [some (.ref 40), some (.ref 37), none]) (by decide) (Nat.le_of_ble_eq_true rfl) rfl (Nat.le_of_ble_eq_true rfl) ?_
  refine x_iconst (0 : Int32) dX3_copyFrom_0 (by decide) ?_
  refine x_istore_n (pl' := [some (.ref 40), some (.ref 37), some (.int (0 : Int32))]) dX3_copyFrom_1 (by decide) rfl ?_
  refine x_weak (pl2 := [some (.ref 40), some (.ref 37), some (.int (0 : Int32))]) ⟨rfl, rfl, rfl, trivial⟩ ?_
  refine lp_hA_X3_copyFrom_2 d _  res _ (fun l2_2 ma29_2 ma30_2 h => ?_) 200000 (0 : Int32) a29 a30 h
  refine x_aload_n dX3_copyFrom_37 rfl ?_
  refine x_aload_n dX3_copyFrom_38 rfl ?_
  refine x_get fX3_18 dX3_copyFrom_39 rfl rfl rfl ?_
  refine x_put (h2 := (hA g0 g1 g2 g3 g4 g5 g6 g7 g8 g9 g10 g11 g12 g13 g14 g15 g16 g17 g18 g19 g20 g21 g22 g22 g24 g25 g26 g27 g28 g29 g30 g31 g32 g33 g34 g35 g36 a0 a1 a2 a3 a4 a5 a6 a7 a8 a9 a10 a11 a12 a13 a14 a15 a16 a17 a18 a19 a20 a21 a22 a23 a24 a25 a26 a27 a28 ma29_2 ma30_2 a31 a32 a33 a34 a35 a36 a37 a38 a39 b0 b1 b2 b3 b4 w0 (.ref 19) (.ref 1))) fX3_18 dX3_copyFrom_42 rfl rfl (Nat.le_of_ble_eq_true rfl : 2 + 1 ≤ _) (fun α => ⟨rfl, rfl⟩) rfl ?_
  cases h
  exact x_vret2 dX3_copyFrom_45 rfl rfl
set_option maxRecDepth 100000 in
set_option maxHeartbeats 4000000 in
theorem lp_hA_X3_forgetOne_3_8 {g0 g1 g2 g3 g4 g5 g6 g7 g8 g9 g10 g11 g12 g13 g14 g15 g16 g17 g18 g19 g20 g21 g22 g23 g24 g25 g26 g27 g28 g29 g30 g31 g32 g33 g34 g35 g36 : Int32} {a0 a1 a2 a3 a4 a5 a6 a7 a8 a9 a10 a11 a12 a13 a14 a15 a16 a17 a18 a19 a20 a21 a22 a23 a24 a25 a26 a27 a28 a29 a30 a31 a32 a33 a34 a35 a36 a37 a38 a39 : (Nat → Int32)} {b0 b1 b2 b3 b4 : (Nat → Int64)} {w0 : Int64} (d n0 : Nat) (f2 : Int32) (res : (Nat → Int32)) (K : Int32 → Int32 → Int32 → Option ((Nat → Int32))) (hK : ∀ (l3_8 : Int32) (l4_8 : Int32) (l5_8 : Int32), K l3_8 l4_8 l5_8 = some res → xW xks YX3_forgetOne (d + 1) 0 0 n0 (xZ 0 0 n0 none (hA g0 g1 g2 g3 g4 g5 g6 g7 g8 g9 g10 g11 g12 g13 g14 g15 g16 g17 g18 g19 g20 g21 g22 g23 g24 g25 g26 g27 g28 g29 g30 g31 g32 g33 g34 g35 g36 a0 a1 a2 a3 a4 a5 a6 a7 a8 a9 a10 a11 a12 a13 a14 a15 a16 a17 a18 a19 a20 a21 a22 a23 a24 a25 a26 a27 a28 res a30 a31 a32 a33 a34 a35 a36 a37 a38 a39 b0 b1 b2 b3 b4 w0 (.ref 19) (.ref 1))) 0 0 69 [some (.ref 40), none, none, some (.int l3_8), some (.int l4_8), none] [] (hA g0 g1 g2 g3 g4 g5 g6 g7 g8 g9 g10 g11 g12 g13 g14 g15 g16 g17 g18 g19 g20 g21 g22 g23 g24 g25 g26 g27 g28 g29 g30 g31 g32 g33 g34 g35 g36 a0 a1 a2 a3 a4 a5 a6 a7 a8 a9 a10 a11 a12 a13 a14 a15 a16 a17 a18 a19 a20 a21 a22 a23 a24 a25 a26 a27 a28 a29 a30 a31 a32 a33 a34 a35 a36 a37 a38 a39 b0 b1 b2 b3 b4 w0 (.ref 19) (.ref 1))) : ∀ (n : Nat) (l3_8 : Int32) (l4_8 : Int32) (l5_8 : Int32), L_hA_X3_forgetOne_8 g4 a29 a2 f2 K n l3_8 l4_8 l5_8 = some res → xW xks YX3_forgetOne (d + 1) 0 0 n0 (xZ 0 0 n0 none (hA g0 g1 g2 g3 g4 g5 g6 g7 g8 g9 g10 g11 g12 g13 g14 g15 g16 g17 g18 g19 g20 g21 g22 g23 g24 g25 g26 g27 g28 g29 g30 g31 g32 g33 g34 g35 g36 a0 a1 a2 a3 a4 a5 a6 a7 a8 a9 a10 a11 a12 a13 a14 a15 a16 a17 a18 a19 a20 a21 a22 a23 a24 a25 a26 a27 a28 res a30 a31 a32 a33 a34 a35 a36 a37 a38 a39 b0 b1 b2 b3 b4 w0 (.ref 19) (.ref 1))) 0 0 8 [some (.ref 40), some (.ref 1), some (.int f2), some (.int l3_8), some (.int l4_8), some (.int l5_8)] [] (hA g0 g1 g2 g3 g4 g5 g6 g7 g8 g9 g10 g11 g12 g13 g14 g15 g16 g17 g18 g19 g20 g21 g22 g23 g24 g25 g26 g27 g28 g29 g30 g31 g32 g33 g34 g35 g36 a0 a1 a2 a3 a4 a5 a6 a7 a8 a9 a10 a11 a12 a13 a14 a15 a16 a17 a18 a19 a20 a21 a22 a23 a24 a25 a26 a27 a28 a29 a30 a31 a32 a33 a34 a35 a36 a37 a38 a39 b0 b1 b2 b3 b4 w0 (.ref 19) (.ref 1)) := by
  intro n
  induction n with
  | zero =>
    intro l3_8 l4_8 l5_8 h
    cases (show (none : Option ((Nat → Int32))) = some res from h)
  | succ n8 ih8 =>
    intro l3_8 l4_8 l5_8 h
    unfold L_hA_X3_forgetOne_8 at h
    refine x_iload dX3_forgetOne_8 rfl ?_
    refine x_aload_n dX3_forgetOne_10 rfl ?_
    refine x_get fX3_22 dX3_forgetOne_11 rfl rfl rfl ?_
    refine x_icmp_ge 69 dX3_forgetOne_14 (by decide) (fun q => ?_) (fun q => ?_)
    · have h := xif_t q h
      refine x_weak (pl2 := [some (.ref 40), none, none, some (.int l3_8), some (.int l4_8), none]) ⟨rfl, rfl, rfl, trivial⟩ ?_
      exact hK l3_8 l4_8 l5_8 h
    · have h := xif_f q h
      refine x_aload_n dX3_forgetOne_17 rfl ?_
      refine x_get fX3_9 dX3_forgetOne_18 rfl rfl rfl ?_
      refine x_iload dX3_forgetOne_21 rfl ?_
      obtain ⟨q23, h⟩ := xix_of h
      refine x_iald dX3_forgetOne_23 rfl q23 ?_
      refine x_iload_n dX3_forgetOne_24 rfl ?_
      refine x_icmp_ne 63 dX3_forgetOne_25 (by decide) (fun q => ?_) (fun q => ?_)
      · have h := xif_f q h
        refine x_iincK (1 : Int32) (pl' := [some (.ref 40), some (.ref 1), some (.int f2), some (.int l3_8), some (.int l4_8), some (.int (l5_8 + (1 : Int32)))]) dX3_forgetOne_63 rfl (by decide) (by decide) rfl ?_
        refine x_goto 8 dX3_forgetOne_66 (by decide) ?_
        refine x_weak (pl2 := [some (.ref 40), some (.ref 1), some (.int f2), some (.int l3_8), some (.int l4_8), some (.int (l5_8 + (1 : Int32)))]) ⟨rfl, rfl, rfl, rfl, rfl, rfl, trivial⟩ ?_
        exact ih8 l3_8 l4_8 (l5_8 + (1 : Int32)) h
      · have h := xif_t q h
        refine x_iincK (1 : Int32) (pl' := [some (.ref 40), some (.ref 1), some (.int f2), some (.int (l3_8 + (1 : Int32))), some (.int l4_8), some (.int l5_8)]) dX3_forgetOne_28 rfl (by decide) (by decide) rfl ?_
        refine x_iload dX3_forgetOne_31 rfl ?_
        refine x_iconst (-1 : Int32) dX3_forgetOne_33 (by decide) ?_
        refine x_icmp_eq 54 dX3_forgetOne_34 (by decide) (fun q => ?_) (fun q => ?_)
        · have h := xif_t q h
          refine x_iload dX3_forgetOne_54 rfl ?_
          refine x_goto 61 dX3_forgetOne_56 (by decide) ?_
          refine x_istore (pl' := [some (.ref 40), some (.ref 1), some (.int f2), some (.int (l3_8 + (1 : Int32))), some (.int l5_8), some (.int l5_8)]) dX3_forgetOne_61 (by decide) rfl ?_
          refine x_iincK (1 : Int32) (pl' := [some (.ref 40), some (.ref 1), some (.int f2), some (.int (l3_8 + (1 : Int32))), some (.int l5_8), some (.int (l5_8 + (1 : Int32)))]) dX3_forgetOne_63 rfl (by decide) (by decide) rfl ?_
          refine x_goto 8 dX3_forgetOne_66 (by decide) ?_
          refine x_weak (pl2 := [some (.ref 40), some (.ref 1), some (.int f2), some (.int (l3_8 + (1 : Int32))), some (.int l5_8), some (.int (l5_8 + (1 : Int32)))]) ⟨rfl, rfl, rfl, rfl, rfl, rfl, trivial⟩ ?_
          exact ih8 (l3_8 + (1 : Int32)) l5_8 (l5_8 + (1 : Int32)) h
        · have h := xif_f q h
          refine x_aload_n dX3_forgetOne_37 rfl ?_
          refine x_get fX3_64 dX3_forgetOne_38 rfl rfl rfl ?_
          refine x_iload dX3_forgetOne_41 rfl ?_
          obtain ⟨q43, h⟩ := xix_of h
          refine x_iald dX3_forgetOne_43 rfl q43 ?_
          refine x_aload_n dX3_forgetOne_44 rfl ?_
          refine x_get fX3_64 dX3_forgetOne_45 rfl rfl rfl ?_
          refine x_iload dX3_forgetOne_48 rfl ?_
          obtain ⟨q50, h⟩ := xix_of h
          refine x_iald dX3_forgetOne_50 rfl q50 ?_
          refine x_icmp_ge 59 dX3_forgetOne_51 (by decide) (fun q => ?_) (fun q => ?_)
          · have h := xif_t q h
            refine x_iload dX3_forgetOne_59 rfl ?_
            refine x_istore (pl' := [some (.ref 40), some (.ref 1), some (.int f2), some (.int (l3_8 + (1 : Int32))), some (.int l4_8), some (.int l5_8)]) dX3_forgetOne_61 (by decide) rfl ?_
            refine x_iincK (1 : Int32) (pl' := [some (.ref 40), some (.ref 1), some (.int f2), some (.int (l3_8 + (1 : Int32))), some (.int l4_8), some (.int (l5_8 + (1 : Int32)))]) dX3_forgetOne_63 rfl (by decide) (by decide) rfl ?_
            refine x_goto 8 dX3_forgetOne_66 (by decide) ?_
            refine x_weak (pl2 := [some (.ref 40), some (.ref 1), some (.int f2), some (.int (l3_8 + (1 : Int32))), some (.int l4_8), some (.int (l5_8 + (1 : Int32)))]) ⟨rfl, rfl, rfl, rfl, rfl, rfl, trivial⟩ ?_
            exact ih8 (l3_8 + (1 : Int32)) l4_8 (l5_8 + (1 : Int32)) h
          · have h := xif_f q h
            refine x_iload dX3_forgetOne_54 rfl ?_
            refine x_goto 61 dX3_forgetOne_56 (by decide) ?_
            refine x_istore (pl' := [some (.ref 40), some (.ref 1), some (.int f2), some (.int (l3_8 + (1 : Int32))), some (.int l5_8), some (.int l5_8)]) dX3_forgetOne_61 (by decide) rfl ?_
            refine x_iincK (1 : Int32) (pl' := [some (.ref 40), some (.ref 1), some (.int f2), some (.int (l3_8 + (1 : Int32))), some (.int l5_8), some (.int (l5_8 + (1 : Int32)))]) dX3_forgetOne_63 rfl (by decide) (by decide) rfl ?_
            refine x_goto 8 dX3_forgetOne_66 (by decide) ?_
            refine x_weak (pl2 := [some (.ref 40), some (.ref 1), some (.int f2), some (.int (l3_8 + (1 : Int32))), some (.int l5_8), some (.int (l5_8 + (1 : Int32)))]) ⟨rfl, rfl, rfl, rfl, rfl, rfl, trivial⟩ ?_
            exact ih8 (l3_8 + (1 : Int32)) l5_8 (l5_8 + (1 : Int32)) h
set_option maxRecDepth 100000 in
set_option maxHeartbeats 4000000 in
theorem t_hA_X3_forgetOne_3 {g0 g1 g2 g3 g4 g5 g6 g7 g8 g9 g10 g11 g12 g13 g14 g15 g16 g17 g18 g19 g20 g21 g22 g23 g24 g25 g26 g27 g28 g29 g30 g31 g32 g33 g34 g35 g36 : Int32} {a0 a1 a2 a3 a4 a5 a6 a7 a8 a9 a10 a11 a12 a13 a14 a15 a16 a17 a18 a19 a20 a21 a22 a23 a24 a25 a26 a27 a28 a29 a30 a31 a32 a33 a34 a35 a36 a37 a38 a39 : (Nat → Int32)} {b0 b1 b2 b3 b4 : (Nat → Int64)} {w0 : Int64} (x2 : Int32) (res : (Nat → Int32)) (h : e_hA_X3_forgetOne g4 a29 a2 x2 = some res) (d : Nat) : xMet xks YX3_forgetOne (d + 1) 0 0 [.ref 40, .ref 1, .int x2] (hA g0 g1 g2 g3 g4 g5 g6 g7 g8 g9 g10 g11 g12 g13 g14 g15 g16 g17 g18 g19 g20 g21 g22 g23 g24 g25 g26 g27 g28 g29 g30 g31 g32 g33 g34 g35 g36 a0 a1 a2 a3 a4 a5 a6 a7 a8 a9 a10 a11 a12 a13 a14 a15 a16 a17 a18 a19 a20 a21 a22 a23 a24 a25 a26 a27 a28 a29 a30 a31 a32 a33 a34 a35 a36 a37 a38 a39 b0 b1 b2 b3 b4 w0 (.ref 19) (.ref 1)) none (hA g0 g1 g2 g3 g4 g5 g6 g7 g8 g9 g10 g11 g12 g13 g14 g15 g16 g17 g18 g19 g20 g21 g22 g23 g24 g25 g26 g27 g28 g29 g30 g31 g32 g33 g34 g35 g36 a0 a1 a2 a3 a4 a5 a6 a7 a8 a9 a10 a11 a12 a13 a14 a15 a16 a17 a18 a19 a20 a21 a22 a23 a24 a25 a26 a27 a28 res a30 a31 a32 a33 a34 a35 a36 a37 a38 a39 b0 b1 b2 b3 b4 w0 (.ref 19) (.ref 1)) := by
  unfold e_hA_X3_forgetOne at h
  refine xMet_of (pl := [some (.ref 40), some (.ref 1), some (.int x2), none, none, none]) (by decide) (Nat.le_of_ble_eq_true rfl) rfl (Nat.le_of_ble_eq_true rfl) ?_
  refine x_iconst (0 : Int32) dX3_forgetOne_0 (by decide) ?_
  refine x_istore_n (pl' := [some (.ref 40), some (.ref 1), some (.int x2), some (.int (0 : Int32)), none, none]) dX3_forgetOne_1 (by decide) rfl ?_
  refine x_iconst (-1 : Int32) dX3_forgetOne_2 (by decide) ?_
  refine x_istore (pl' := [some (.ref 40), some (.ref 1), some (.int x2), some (.int (0 : Int32)), some (.int (-1 : Int32)), none]) dX3_forgetOne_3 (by decide) rfl ?_
  refine x_iconst (0 : Int32) dX3_forgetOne_5 (by decide) ?_
  refine x_istore (pl' := [some (.ref 40), some (.ref 1), some (.int x2), some (.int (0 : Int32)), some (.int (-1 : Int32)), some (.int (0 : Int32))]) dX3_forgetOne_6 (by decide) rfl ?_
  refine x_weak (pl2 := [some (.ref 40), some (.ref 1), some (.int x2), some (.int (0 : Int32)), some (.int (-1 : Int32)), some (.int (0 : Int32))]) ⟨rfl, rfl, rfl, rfl, rfl, rfl, trivial⟩ ?_
  refine lp_hA_X3_forgetOne_3_8 d _ x2 res _ (fun l3_8 l4_8 l5_8 h => ?_) 200000 (0 : Int32) (-1 : Int32) (0 : Int32) h
  refine x_iload_n dX3_forgetOne_69 rfl ?_
  refine x_iconst (1 : Int32) dX3_forgetOne_70 (by decide) ?_
  refine x_icmp_le 88 dX3_forgetOne_71 (by decide) (fun q => ?_) (fun q => ?_)
  · have h := xif_t q h
    cases h
    exact x_vret2 dX3_forgetOne_88 rfl rfl
  · have h := xif_f q h
    refine x_iload dX3_forgetOne_74 rfl ?_
    refine x_if_lt 88 dX3_forgetOne_76 (by decide) (fun q => ?_) (fun q => ?_)
    · have h := xif_t q h
      cases h
      exact x_vret2 dX3_forgetOne_88 rfl rfl
    · have h := xif_f q h
      refine x_aload_n dX3_forgetOne_79 rfl ?_
      refine x_get fX3_9 dX3_forgetOne_80 rfl rfl rfl ?_
      refine x_iload dX3_forgetOne_83 rfl ?_
      refine x_bipush (-2 : Int32) dX3_forgetOne_85 (by decide) ?_
      obtain ⟨q87, h⟩ := xix_of h
      refine x_iast (h2 := (hA g0 g1 g2 g3 g4 g5 g6 g7 g8 g9 g10 g11 g12 g13 g14 g15 g16 g17 g18 g19 g20 g21 g22 g23 g24 g25 g26 g27 g28 g29 g30 g31 g32 g33 g34 g35 g36 a0 a1 a2 a3 a4 a5 a6 a7 a8 a9 a10 a11 a12 a13 a14 a15 a16 a17 a18 a19 a20 a21 a22 a23 a24 a25 a26 a27 a28 (upd a29 l4_8.toNatClampNeg (-2 : Int32)) a30 a31 a32 a33 a34 a35 a36 a37 a38 a39 b0 b1 b2 b3 b4 w0 (.ref 19) (.ref 1))) dX3_forgetOne_87 rfl q87 rfl ?_
      cases h
      exact x_vret2 dX3_forgetOne_88 rfl rfl
