noncomputable def e_hA_X6_dangerOf (p0 : (Nat → Int32)) (p1 : (Nat → Int32)) (x2 : Int32) (x3 : Int32) : Option (Int32) :=
  (xix x3 5 (if (p0 x3.toNatClampNeg) = x2 then some (0 : Int32) else (xix x3 5 (some (p1 x3.toNatClampNeg)))))
set_option maxRecDepth 100000 in
set_option maxHeartbeats 4000000 in
theorem t_hA_X6_dangerOf {g0 g1 g2 g3 g4 g5 g6 g7 g8 g9 g10 g11 g12 g13 g14 g15 g16 g17 g18 g19 g20 g21 g22 g23 g24 g25 g26 g27 g28 g29 g30 g31 g32 g33 g34 g35 g36 : Int32} {a0 a1 a2 a3 a4 a5 a6 a7 a8 a9 a10 a11 a12 a13 a14 a15 a16 a17 a18 a19 a20 a21 a22 a23 a24 a25 a26 a27 a28 a29 a30 a31 a32 a33 a34 a35 a36 a37 a38 a39 : (Nat → Int32)} {b0 b1 b2 b3 b4 : (Nat → Int64)} {w0 : Int64} (x2 : Int32) (x3 : Int32) (res : Int32) (h : e_hA_X6_dangerOf a28 a2 x2 x3 = some res) (d : Nat) : xMet xks YX6_dangerOf (d + 1) 0 0 [.ref 1, .ref 37, .int x2, .int x3] (hA g0 g1 g2 g3 g4 g5 g6 g7 g8 g9 g10 g11 g12 g13 g14 g15 g16 g17 g18 g19 g20 g21 g22 g23 g24 g25 g26 g27 g28 g29 g30 g31 g32 g33 g34 g35 g36 a0 a1 a2 a3 a4 a5 a6 a7 a8 a9 a10 a11 a12 a13 a14 a15 a16 a17 a18 a19 a20 a21 a22 a23 a24 a25 a26 a27 a28 a29 a30 a31 a32 a33 a34 a35 a36 a37 a38 a39 b0 b1 b2 b3 b4 w0 (.ref 19) (.ref 1)) (some (.int res)) (hA g0 g1 g2 g3 g4 g5 g6 g7 g8 g9 g10 g11 g12 g13 g14 g15 g16 g17 g18 g19 g20 g21 g22 g23 g24 g25 g26 g27 g28 g29 g30 g31 g32 g33 g34 g35 g36 a0 a1 a2 a3 a4 a5 a6 a7 a8 a9 a10 a11 a12 a13 a14 a15 a16 a17 a18 a19 a20 a21 a22 a23 a24 a25 a26 a27 a28 a29 a30 a31 a32 a33 a34 a35 a36 a37 a38 a39 b0 b1 b2 b3 b4 w0 (.ref 19) (.ref 1)) := by
  unfold e_hA_X6_dangerOf at h
  refine xMet_of (pl := [some (.ref 1), some (.ref 37), some (.int x2), some (.int x3)]) (by decide) (Nat.le_of_ble_eq_true rfl) rfl (Nat.le_of_ble_eq_true rfl) ?_
  refine x_aload_n dX6_dangerOf_0 rfl ?_
  refine x_get fX6_65 dX6_dangerOf_1 rfl rfl rfl ?_
  refine x_iload_n dX6_dangerOf_4 rfl ?_
  obtain ⟨q5, h⟩ := xix_of h
  refine x_iald dX6_dangerOf_5 rfl q5 ?_
  refine x_iload_n dX6_dangerOf_6 rfl ?_
  refine x_icmp_ne 14 dX6_dangerOf_7 (by decide) (fun q => ?_) (fun q => ?_)
  · have h := xif_f q h
    refine x_aload_n dX6_dangerOf_14 rfl ?_
    refine x_get fX6_70 dX6_dangerOf_15 rfl rfl rfl ?_
    refine x_iload_n dX6_dangerOf_18 rfl ?_
    obtain ⟨q19, h⟩ := xix_of h
    refine x_iald dX6_dangerOf_19 rfl q19 ?_
    cases h
    exact x_iret2 dX6_dangerOf_20 rfl rfl
  · have h := xif_t q h
    refine x_iconst (0 : Int32) dX6_dangerOf_10 (by decide) ?_
    refine x_goto 20 dX6_dangerOf_11 (by decide) ?_
    cases h
    exact x_iret2 dX6_dangerOf_20 rfl rfl
noncomputable def L_hA_X6_countLeast_22 (p0 : (Nat → Int32)) (p1 : Int32) (p2 : (Nat → Int32)) (p3 : (Nat → Int32)) (p4 : (Nat → Int32))  (f3 : Int32) (f4 : Int32) (K : Int32 → Int32 → Option ((Nat → Int32))) : Nat → Int32 → Int32 → Option ((Nat → Int32))
  | 0, _, _ => none
  | n22 + 1, l5, l6 => if p1 ≤ l6 then K l5 l6 else if ((f3 >>> (f4 &&& 31)) &&& (1 : Int32)) = (1 : Int32) then ((e_hA_X6_dangerOf p2 p3 f4 l6).bind fun z47 => xix l6 5 (if (p4 l6.toNatClampNeg) ≤ (0 : Int32) then L_hA_X6_countLeast_22 p0 p1 p2 p3 p4 f3 f4 K n22 l5 (l6 + (1 : Int32)) else if l5 = (-1 : Int32) then L_hA_X6_countLeast_22 p0 p1 p2 p3 p4 f3 f4 K n22 z47 (l6 + (1 : Int32)) else if l5 ≤ z47 then L_hA_X6_countLeast_22 p0 p1 p2 p3 p4 f3 f4 K n22 l5 (l6 + (1 : Int32)) else L_hA_X6_countLeast_22 p0 p1 p2 p3 p4 f3 f4 K n22 z47 (l6 + (1 : Int32)))) else K l5 l6
noncomputable def L_hA_X6_countLeast_11 (p1 : Int32) (p2 : (Nat → Int32)) (p3 : (Nat → Int32)) (p4 : (Nat → Int32))  (f3 : Int32) (K : Int32 → (Nat → Int32) → Option ((Nat → Int32))) : Nat → Int32 → (Nat → Int32) → Option ((Nat → Int32))
  | 0, _, _ => none
  | n11 + 1, l4, ma37 => if l4 < (0 : Int32) then K l4 ma37 else L_hA_X6_countLeast_22 ma37 p1 p2 p3 p4 f3 l4 (fun l5 l6 => (xix (l4 + (1 : Int32)) 7 (xix l4 7 (L_hA_X6_countLeast_11 p1 p2 p3 p4 f3 K n11 (l4 + (-1 : Int32)) (upd ma37 l4.toNatClampNeg ((ma37 (l4 + (1 : Int32)).toNatClampNeg) + (if l5 < (0 : Int32) then (0 : Int32) else l5))))))) 200000 (-1 : Int32) (0 : Int32)
noncomputable def e_hA_X6_countLeast (p0 : (Nat → Int32)) (p1 : Int32) (p2 : (Nat → Int32)) (p3 : (Nat → Int32)) (p4 : (Nat → Int32)) (x3 : Int32) : Option ((Nat → Int32)) :=
  L_hA_X6_countLeast_11 p1 p2 p3 p4 x3 (fun l4 ma37 => some ma37) 200000 (5 : Int32) (upd p0 (6 : Int32).toNatClampNeg (0 : Int32))
set_option maxRecDepth 100000 in
set_option maxHeartbeats 4000000 in
theorem lp_hA_X6_countLeast_22 {g0 g1 g2 g3 g4 g5 g6 g7 g8 g9 g10 g11 g12 g13 g14 g15 g16 g17 g18 g19 g20 g21 g22 g23 g24 g25 g26 g27 g28 g29 g30 g31 g32 g33 g34 g35 g36 : Int32} {a0 a1 a2 a3 a4 a5 a6 a7 a8 a9 a10 a11 a12 a13 a14 a15 a16 a17 a18 a19 a20 a21 a22 a23 a24 a25 a26 a27 a28 a29 a30 a31 a32 a33 a34 a35 a36 a37 a38 a39 : (Nat → Int32)} {b0 b1 b2 b3 b4 : (Nat → Int64)} {w0 : Int64} (d n0 : Nat) (f3 : Int32) (f4 : Int32) (res : (Nat → Int32)) (K : Int32 → Int32 → Option ((Nat → Int32))) (hK : ∀ (l5 : Int32) (l6 : Int32), K l5 l6 = some res → xW xks YX6_countLeast (d + 2) 0 0 n0 (xZ 0 0 n0 none (hA g0 g1 g2 g3 g4 g5 g6 g7 g8 g9 g10 g11 g12 g13 g14 g15 g16 g17 g18 g19 g20 g21 g22 g23 g24 g25 g26 g27 g28 g29 g30 g31 g32 g33 g34 g35 g36 a0 a1 a2 a3 a4 a5 a6 a7 a8 a9 a10 a11 a12 a13 a14 a15 a16 a17 a18 a19 a20 a21 a22 a23 a24 a25 a26 a27 a28 a29 a30 a31 a32 a33 a34 a35 a36 res a38 a39 b0 b1 b2 b3 b4 w0 (.ref 19) (.ref 1))) 0 0 90 [some (.ref 49), some (.ref 1), some (.ref 37), some (.int f3), some (.int f4), some (.int l5), none, none] [] (hA g0 g1 g2 g3 g4 g5 g6 g7 g8 g9 g10 g11 g12 g13 g14 g15 g16 g17 g18 g19 g20 g21 g22 g23 g24 g25 g26 g27 g28 g29 g30 g31 g32 g33 g34 g35 g36 a0 a1 a2 a3 a4 a5 a6 a7 a8 a9 a10 a11 a12 a13 a14 a15 a16 a17 a18 a19 a20 a21 a22 a23 a24 a25 a26 a27 a28 a29 a30 a31 a32 a33 a34 a35 a36 a37 a38 a39 b0 b1 b2 b3 b4 w0 (.ref 19) (.ref 1))) : ∀ (n : Nat) (l5 : Int32) (l6 : Int32), L_hA_X6_countLeast_22 a37 g4 a28 a2 a34 f3 f4 K n l5 l6 = some res → xW xks YX6_countLeast (d + 2) 0 0 n0 (xZ 0 0 n0 none (hA g0 g1 g2 g3 g4 g5 g6 g7 g8 g9 g10 g11 g12 g13 g14 g15 g16 g17 g18 g19 g20 g21 g22 g23 g24 g25 g26 g27 g28 g29 g30 g31 g32 g33 g34 g35 g36 a0 a1 a2 a3 a4 a5 a6 a7 a8 a9 a10 a11 a12 a13 a14 a15 a16 a17 a18 a19 a20 a21 a22 a23 a24 a25 a26 a27 a28 a29 a30 a31 a32 a33 a34 a35 a36 res a38 a39 b0 b1 b2 b3 b4 w0 (.ref 19) (.ref 1))) 0 0 22 [some (.ref 49), some (.ref 1), some (.ref 37), some (.int f3), some (.int f4), some (.int l5), some (.int l6), none] [] (hA g0 g1 g2 g3 g4 g5 g6 g7 g8 g9 g10 g11 g12 g13 g14 g15 g16 g17 g18 g19 g20 g21 g22 g23 g24 g25 g26 g27 g28 g29 g30 g31 g32 g33 g34 g35 g36 a0 a1 a2 a3 a4 a5 a6 a7 a8 a9 a10 a11 a12 a13 a14 a15 a16 a17 a18 a19 a20 a21 a22 a23 a24 a25 a26 a27 a28 a29 a30 a31 a32 a33 a34 a35 a36 a37 a38 a39 b0 b1 b2 b3 b4 w0 (.ref 19) (.ref 1)) := by
  intro n
  induction n with
  | zero =>
    intro l5 l6 h
    cases (show (none : Option ((Nat → Int32))) = some res from h)
  | succ n22 ih22 =>
    intro l5 l6 h
    unfold L_hA_X6_countLeast_22 at h
    refine x_iload dX6_countLeast_22 rfl ?_
    refine x_aload_n dX6_countLeast_24 rfl ?_
    refine x_get fX6_50 dX6_countLeast_25 rfl rfl rfl ?_
    refine x_icmp_ge 90 dX6_countLeast_28 (by decide) (fun q => ?_) (fun q => ?_)
    · have h := xif_t q h
      refine x_weak (pl2 := [some (.ref 49), some (.ref 1), some (.ref 37), some (.int f3), some (.int f4), some (.int l5), none, none]) ⟨rfl, rfl, rfl, rfl, rfl, rfl, trivial⟩ ?_
      exact hK l5 l6 h
    · have h := xif_f q h
      refine x_iload_n dX6_countLeast_31 rfl ?_
      refine x_iload dX6_countLeast_32 rfl ?_
      refine x_ishr dX6_countLeast_34 ?_
      refine x_iconst (1 : Int32) dX6_countLeast_35 (by decide) ?_
      refine x_iand dX6_countLeast_36 ?_
      refine x_iconst (1 : Int32) dX6_countLeast_37 (by decide) ?_
      refine x_icmp_ne 90 dX6_countLeast_38 (by decide) (fun q => ?_) (fun q => ?_)
      · have h := xif_f q h
        refine x_weak (pl2 := [some (.ref 49), some (.ref 1), some (.ref 37), some (.int f3), some (.int f4), some (.int l5), none, none]) ⟨rfl, rfl, rfl, rfl, rfl, rfl, trivial⟩ ?_
        exact hK l5 l6 h
      · have h := xif_t q h
        refine x_aload_n dX6_countLeast_41 rfl ?_
        refine x_aload_n dX6_countLeast_42 rfl ?_
        refine x_iload dX6_countLeast_43 rfl ?_
        refine x_iload dX6_countLeast_45 rfl ?_
        obtain ⟨z47, y47, h⟩ := xbind h
        refine x_callS (t_hA_X6_dangerOf f4 l6 z47 y47 (d + 0)) kX6_55 dX6_countLeast_47 rfl rfl (Nat.le_of_ble_eq_true rfl) (Nat.le_of_ble_eq_true rfl) rfl rfl (Or.inl rfl) ?_
        refine x_istore (pl' := [some (.ref 49), some (.ref 1), some (.ref 37), some (.int f3), some (.int f4), some (.int l5), some (.int l6), some (.int z47)]) dX6_countLeast_50 (by decide) rfl ?_
        refine x_aload_n dX6_countLeast_52 rfl ?_
        refine x_get fX6_9 dX6_countLeast_53 rfl rfl rfl ?_
        refine x_iload dX6_countLeast_56 rfl ?_
        obtain ⟨q58, h⟩ := xix_of h
        refine x_iald dX6_countLeast_58 rfl q58 ?_
        refine x_if_le 80 dX6_countLeast_59 (by decide) (fun q => ?_) (fun q => ?_)
        · have h := xif_t q h
          refine x_iload dX6_countLeast_80 rfl ?_
          refine x_istore (pl' := [some (.ref 49), some (.ref 1), some (.ref 37), some (.int f3), some (.int f4), some (.int l5), some (.int l6), some (.int z47)]) dX6_countLeast_82 (by decide) rfl ?_
          refine x_iincK (1 : Int32) (pl' := [some (.ref 49), some (.ref 1), some (.ref 37), some (.int f3), some (.int f4), some (.int l5), some (.int (l6 + (1 : Int32))), some (.int z47)]) dX6_countLeast_84 rfl (by decide) (by decide) rfl ?_
          refine x_goto 22 dX6_countLeast_87 (by decide) ?_
          refine x_weak (pl2 := [some (.ref 49), some (.ref 1), some (.ref 37), some (.int f3), some (.int f4), some (.int l5), some (.int (l6 + (1 : Int32))), none]) ⟨rfl, rfl, rfl, rfl, rfl, rfl, rfl, trivial⟩ ?_
          exact ih22 l5 (l6 + (1 : Int32)) h
        · have h := xif_f q h
          refine x_iload dX6_countLeast_62 rfl ?_
          refine x_iconst (-1 : Int32) dX6_countLeast_64 (by decide) ?_
          refine x_icmp_eq 75 dX6_countLeast_65 (by decide) (fun q => ?_) (fun q => ?_)
          · have h := xif_t q h
            refine x_iload dX6_countLeast_75 rfl ?_
            refine x_goto 82 dX6_countLeast_77 (by decide) ?_
            refine x_istore (pl' := [some (.ref 49), some (.ref 1), some (.ref 37), some (.int f3), some (.int f4), some (.int z47), some (.int l6), some (.int z47)]) dX6_countLeast_82 (by decide) rfl ?_
            refine x_iincK (1 : Int32) (pl' := [some (.ref 49), some (.ref 1), some (.ref 37), some (.int f3), some (.int f4), some (.int z47), some (.int (l6 + (1 : Int32))), some (.int z47)]) dX6_countLeast_84 rfl (by decide) (by decide) rfl ?_
            refine x_goto 22 dX6_countLeast_87 (by decide) ?_
            refine x_weak (pl2 := [some (.ref 49), some (.ref 1), some (.ref 37), some (.int f3), some (.int f4), some (.int z47), some (.int (l6 + (1 : Int32))), none]) ⟨rfl, rfl, rfl, rfl, rfl, rfl, rfl, trivial⟩ ?_
            exact ih22 z47 (l6 + (1 : Int32)) h
          · have h := xif_f q h
            refine x_iload dX6_countLeast_68 rfl ?_
            refine x_iload dX6_countLeast_70 rfl ?_
            refine x_icmp_ge 80 dX6_countLeast_72 (by decide) (fun q => ?_) (fun q => ?_)
            · have h := xif_t q h
              refine x_iload dX6_countLeast_80 rfl ?_
              refine x_istore (pl' := [some (.ref 49), some (.ref 1), some (.ref 37), some (.int f3), some (.int f4), some (.int l5), some (.int l6), some (.int z47)]) dX6_countLeast_82 (by decide) rfl ?_
              refine x_iincK (1 : Int32) (pl' := [some (.ref 49), some (.ref 1), some (.ref 37), some (.int f3), some (.int f4), some (.int l5), some (.int (l6 + (1 : Int32))), some (.int z47)]) dX6_countLeast_84 rfl (by decide) (by decide) rfl ?_
              refine x_goto 22 dX6_countLeast_87 (by decide) ?_
              refine x_weak (pl2 := [some (.ref 49), some (.ref 1), some (.ref 37), some (.int f3), some (.int f4), some (.int l5), some (.int (l6 + (1 : Int32))), none]) ⟨rfl, rfl, rfl, rfl, rfl, rfl, rfl, trivial⟩ ?_
              exact ih22 l5 (l6 + (1 : Int32)) h
            · have h := xif_f q h
              refine x_iload dX6_countLeast_75 rfl ?_
              refine x_goto 82 dX6_countLeast_77 (by decide) ?_
              refine x_istore (pl' := [some (.ref 49), some (.ref 1), some (.ref 37), some (.int f3), some (.int f4), some (.int z47), some (.int l6), some (.int z47)]) dX6_countLeast_82 (by decide) rfl ?_
              refine x_iincK (1 : Int32) (pl' := [some (.ref 49), some (.ref 1), some (.ref 37), some (.int f3), some (.int f4), some (.int z47), some (.int (l6 + (1 : Int32))), some (.int z47)]) dX6_countLeast_84 rfl (by decide) (by decide) rfl ?_
              refine x_goto 22 dX6_countLeast_87 (by decide) ?_
              refine x_weak (pl2 := [some (.ref 49), some (.ref 1), some (.ref 37), some (.int f3), some (.int f4), some (.int z47), some (.int (l6 + (1 : Int32))), none]) ⟨rfl, rfl, rfl, rfl, rfl, rfl, rfl, trivial⟩ ?_
              exact ih22 z47 (l6 + (1 : Int32)) h
set_option maxRecDepth 100000 in
set_option maxHeartbeats 4000000 in
theorem lp_hA_X6_countLeast_11 {g0 g1 g2 g3 g4 g5 g6 g7 g8 g9 g10 g11 g12 g13 g14 g15 g16 g17 g18 g19 g20 g21 g22 g23 g24 g25 g26 g27 g28 g29 g30 g31 g32 g33 g34 g35 g36 : Int32} {a0 a1 a2 a3 a4 a5 a6 a7 a8 a9 a10 a11 a12 a13 a14 a15 a16 a17 a18 a19 a20 a21 a22 a23 a24 a25 a26 a27 a28 a29 a30 a31 a32 a33 a34 a35 a36 a38 a39 : (Nat → Int32)} {b0 b1 b2 b3 b4 : (Nat → Int64)} {w0 : Int64} (d n0 : Nat) (f3 : Int32) (res : (Nat → Int32)) (K : Int32 → (Nat → Int32) → Option ((Nat → Int32))) (hK : ∀ (l4 : Int32) (ma37 : (Nat → Int32)), K l4 ma37 = some res → xW xks YX6_countLeast (d + 2) 0 0 n0 (xZ 0 0 n0 none (hA g0 g1 g2 g3 g4 g5 g6 g7 g8 g9 g10 g11 g12 g13 g14 g15 g16 g17 g18 g19 g20 g21 g22 g23 g24 g25 g26 g27 g28 g29 g30 g31 g32 g33 g34 g35 g36 a0 a1 a2 a3 a4 a5 a6 a7 a8 a9 a10 a11 a12 a13 a14 a15 a16 a17 a18 a19 a20 a21 a22 a23 a24 a25 a26 a27 a28 a29 a30 a31 a32 a33 a34 a35 a36 res a38 a39 b0 b1 b2 b3 b4 w0 (.ref 19) (.ref 1))) 0 0 119 [none, none, none, none, none, none, none, none] [] (hA g0 g1 g2 g3 g4 g5 g6 g7 g8 g9 g10 g11 g12 g13 g14 g15 g16 g17 g18 g19 g20 g21 g22 g23 g24 g25 g26 g27 g28 g29 g30 g31 g32 g33 g34 g35 g36 a0 a1 a2 a3 a4 a5 a6 a7 a8 a9 a10 a11 a12 a13 a14 a15 a16 a17 a18 a19 a20 a21 a22 a23 a24 a25 a26 a27 a28 a29 a30 a31 a32 a33 a34 a35 a36 ma37 a38 a39 b0 b1 b2 b3 b4 w0 (.ref 19) (.ref 1))) : ∀ (n : Nat) (l4 : Int32) (ma37 : (Nat → Int32)), L_hA_X6_countLeast_11 g4 a28 a2 a34 f3 K n l4 ma37 = some res → xW xks YX6_countLeast (d + 2) 0 0 n0 (xZ 0 0 n0 none (hA g0 g1 g2 g3 g4 g5 g6 g7 g8 g9 g10 g11 g12 g13 g14 g15 g16 g17 g18 g19 g20 g21 g22 g23 g24 g25 g26 g27 g28 g29 g30 g31 g32 g33 g34 g35 g36 a0 a1 a2 a3 a4 a5 a6 a7 a8 a9 a10 a11 a12 a13 a14 a15 a16 a17 a18 a19 a20 a21 a22 a23 a24 a25 a26 a27 a28 a29 a30 a31 a32 a33 a34 a35 a36 res a38 a39 b0 b1 b2 b3 b4 w0 (.ref 19) (.ref 1))) 0 0 11 [some (.ref 49), some (.ref 1), some (.ref 37), some (.int f3), some (.int l4), none, none, none] [] (hA g0 g1 g2 g3 g4 g5 g6 g7 g8 g9 g10 g11 g12 g13 g14 g15 g16 g17 g18 g19 g20 g21 g22 g23 g24 g25 g26 g27 g28 g29 g30 g31 g32 g33 g34 g35 g36 a0 a1 a2 a3 a4 a5 a6 a7 a8 a9 a10 a11 a12 a13 a14 a15 a16 a17 a18 a19 a20 a21 a22 a23 a24 a25 a26 a27 a28 a29 a30 a31 a32 a33 a34 a35 a36 ma37 a38 a39 b0 b1 b2 b3 b4 w0 (.ref 19) (.ref 1)) := by
  intro n
  induction n with
  | zero =>
    intro l4 ma37 h
    cases (show (none : Option ((Nat → Int32))) = some res from h)
  | succ n11 ih11 =>
    intro l4 ma37 h
    unfold L_hA_X6_countLeast_11 at h
    refine x_iload dX6_countLeast_11 rfl ?_
    refine x_if_lt 119 dX6_countLeast_13 (by decide) (fun q => ?_) (fun q => ?_)
    · have h := xif_t q h
      refine x_weak (pl2 := [none, none, none, none, none, none, none, none]) trivial ?_
      exact hK l4 ma37 h
    · have h := xif_f q h
      refine x_iconst (-1 : Int32) dX6_countLeast_16 (by decide) ?_
      refine x_istore (pl' := [some (.ref 49), some (.ref 1), some (.ref 37), some (.int f3), some (.int l4), some (.int (-1 : Int32)), none, none]) dX6_countLeast_17 (by decide) rfl ?_
      refine x_iconst (0 : Int32) dX6_countLeast_19 (by decide) ?_
      refine x_istore (pl' := [some (.ref 49), some (.ref 1), some (.ref 37), some (.int f3), some (.int l4), some (.int (-1 : Int32)), some (.int (0 : Int32)), none]) dX6_countLeast_20 (by decide) rfl ?_
      refine x_weak (pl2 := [some (.ref 49), some (.ref 1), some (.ref 37), some (.int f3), some (.int l4), some (.int (-1 : Int32)), some (.int (0 : Int32)), none]) ⟨rfl, rfl, rfl, rfl, rfl, rfl, rfl, trivial⟩ ?_
      refine lp_hA_X6_countLeast_22 d _ f3 l4 res _ (fun l5 l6 h => ?_) 200000 (-1 : Int32) (0 : Int32) h
      refine x_aload_n dX6_countLeast_90 rfl ?_
      refine x_get fX6_21 dX6_countLeast_91 rfl rfl rfl ?_
      refine x_iload dX6_countLeast_94 rfl ?_
      refine x_aload_n dX6_countLeast_96 rfl ?_
      refine x_get fX6_21 dX6_countLeast_97 rfl rfl rfl ?_
      refine x_iload dX6_countLeast_100 rfl ?_
      refine x_iconst (1 : Int32) dX6_countLeast_102 (by decide) ?_
      refine x_iadd dX6_countLeast_103 ?_
      obtain ⟨q104, h⟩ := xix_of h
      refine x_iald dX6_countLeast_104 rfl q104 ?_
      refine x_iload dX6_countLeast_105 rfl ?_
      refine x_iconst (0 : Int32) dX6_countLeast_107 (by decide) ?_
      refine x_max dX6_countLeast_108 kX6_59 kM_maxs kM_i kM_maxc (by omega) (Nat.le_of_ble_eq_true rfl) ?_
      refine x_iadd dX6_countLeast_111 ?_
      obtain ⟨q112, h⟩ := xix_of h
      refine x_iast (h2 := (hA g0 g1 g2 g3 g4 g5 g6 g7 g8 g9 g10 g11 g12 g13 g14 g15 g16 g17 g18 g19 g20 g21 g22 g23 g24 g25 g26 g27 g28 g29 g30 g31 g32 g33 g34 g35 g36 a0 a1 a2 a3 a4 a5 a6 a7 a8 a9 a10 a11 a12 a13 a14 a15 a16 a17 a18 a19 a20 a21 a22 a23 a24 a25 a26 a27 a28 a29 a30 a31 a32 a33 a34 a35 a36 (upd ma37 l4.toNatClampNeg ((ma37 (l4 + (1 : Int32)).toNatClampNeg) + (if l5 < (0 : Int32) then (0 : Int32) else l5))) a38 a39 b0 b1 b2 b3 b4 w0 (.ref 19) (.ref 1))) dX6_countLeast_112 rfl q112 rfl ?_
      refine x_iincK (-1 : Int32) (pl' := [some (.ref 49), some (.ref 1), some (.ref 37), some (.int f3), some (.int (l4 + (-1 : Int32))), some (.int l5), none, none]) dX6_countLeast_113 rfl (by decide) (by decide) rfl ?_
      refine x_goto 11 dX6_countLeast_116 (by decide) ?_
      refine x_weak (pl2 := [some (.ref 49), some (.ref 1), some (.ref 37), some (.int f3), some (.int (l4 + (-1 : Int32))), none, none, none]) ⟨rfl, rfl, rfl, rfl, rfl, trivial⟩ ?_
      exact ih11 (l4 + (-1 : Int32)) (upd ma37 l4.toNatClampNeg ((ma37 (l4 + (1 : Int32)).toNatClampNeg) + (if l5 < (0 : Int32) then (0 : Int32) else l5))) h
set_option maxRecDepth 100000 in
set_option maxHeartbeats 4000000 in
theorem t_hA_X6_countLeast {g0 g1 g2 g3 g4 g5 g6 g7 g8 g9 g10 g11 g12 g13 g14 g15 g16 g17 g18 g19 g20 g21 g22 g23 g24 g25 g26 g27 g28 g29 g30 g31 g32 g33 g34 g35 g36 : Int32} {a0 a1 a2 a3 a4 a5 a6 a7 a8 a9 a10 a11 a12 a13 a14 a15 a16 a17 a18 a19 a20 a21 a22 a23 a24 a25 a26 a27 a28 a29 a30 a31 a32 a33 a34 a35 a36 a37 a38 a39 : (Nat → Int32)} {b0 b1 b2 b3 b4 : (Nat → Int64)} {w0 : Int64} (x3 : Int32) (res : (Nat → Int32)) (h : e_hA_X6_countLeast a37 g4 a28 a2 a34 x3 = some res) (d : Nat) : xMet xks YX6_countLeast (d + 2) 0 0 [.ref 49, .ref 1, .ref 37, .int x3] (hA g0 g1 g2 g3 g4 g5 g6 g7 g8 g9 g10 g11 g12 g13 g14 g15 g16 g17 g18 g19 g20 g21 g22 g23 g24 g25 g26 g27 g28 g29 g30 g31 g32 g33 g34 g35 g36 a0 a1 a2 a3 a4 a5 a6 a7 a8 a9 a10 a11 a12 a13 a14 a15 a16 a17 a18 a19 a20 a21 a22 a23 a24 a25 a26 a27 a28 a29 a30 a31 a32 a33 a34 a35 a36 a37 a38 a39 b0 b1 b2 b3 b4 w0 (.ref 19) (.ref 1)) none (hA g0 g1 g2 g3 g4 g5 g6 g7 g8 g9 g10 g11 g12 g13 g14 g15 g16 g17 g18 g19 g20 g21 g22 g23 g24 g25 g26 g27 g28 g29 g30 g31 g32 g33 g34 g35 g36 a0 a1 a2 a3 a4 a5 a6 a7 a8 a9 a10 a11 a12 a13 a14 a15 a16 a17 a18 a19 a20 a21 a22 a23 a24 a25 a26 a27 a28 a29 a30 a31 a32 a33 a34 a35 a36 res a38 a39 b0 b1 b2 b3 b4 w0 (.ref 19) (.ref 1)) := by
  unfold e_hA_X6_countLeast at h
  refine xMet_of (pl := [some (.ref 49), some (.ref 1), some (.ref 37), some (.int x3), none, none, none, none]) (by decide) (Nat.le_of_ble_eq_true rfl) rfl (Nat.le_of_ble_eq_true rfl) ?_
  refine x_aload_n dX6_countLeast_0 rfl ?_
  refine x_get fX6_21 dX6_countLeast_1 rfl rfl rfl ?_
  refine x_bipush (6 : Int32) dX6_countLeast_4 (by decide) ?_
  refine x_iconst (0 : Int32) dX6_countLeast_6 (by decide) ?_
  refine x_iast (h2 := (hA g0 g1 g2 g3 g4 g5 g6 g7 g8 g9 g10 g11 g12 g13 g14 g15 g16 g17 g18 g19 g20 g21 g22 g23 g24 g25 g26 g27 g28 g29 g30 g31 g32 g33 g34 g35 g36 a0 a1 a2 a3 a4 a5 a6 a7 a8 a9 a10 a11 a12 a13 a14 a15 a16 a17 a18 a19 a20 a21 a22 a23 a24 a25 a26 a27 a28 a29 a30 a31 a32 a33 a34 a35 a36 (upd a37 (6 : Int32).toNatClampNeg (0 : Int32)) a38 a39 b0 b1 b2 b3 b4 w0 (.ref 19) (.ref 1))) dX6_countLeast_7 rfl (show vp_in _ _ from (by decide : ¬ ((6 : Int32) < 0 ∨ 7 ≤ (6 : Int32).toNatClampNeg))) rfl ?_
  refine x_iconst (5 : Int32) dX6_countLeast_8 (by decide) ?_
  refine x_istore (pl' := [some (.ref 49), some (.ref 1), some (.ref 37), some (.int x3), some (.int (5 : Int32)), none, none, none]) dX6_countLeast_9 (by decide) rfl ?_
  refine x_weak (pl2 := [some (.ref 49), some (.ref 1), some (.ref 37), some (.int x3), some (.int (5 : Int32)), none, none, none]) ⟨rfl, rfl, rfl, rfl, rfl, trivial⟩ ?_
  refine lp_hA_X6_countLeast_11 d _ x3 res _ (fun l4 ma37 h => ?_) 200000 (5 : Int32) (upd a37 (6 : Int32).toNatClampNeg (0 : Int32)) h
  cases h
  exact x_vret2 dX6_countLeast_119 rfl rfl
