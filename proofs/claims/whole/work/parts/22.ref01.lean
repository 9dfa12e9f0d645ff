noncomputable def L_hB_X9_bits_4    (K : Int32 → Int32 → Option (Int32)) : Nat → Int32 → Int32 → Option (Int32)
  | 0, _, _ => none
  | n4 + 1, l1_4, l2_4 => if l2_4 = (0 : Int32) then K l1_4 l2_4 else L_hB_X9_bits_4   K n4 (l1_4 + (1 : Int32)) (l2_4 &&& (l2_4 - (1 : Int32)))
noncomputable def e_hB_X9_bits  (x0 : Int32) : Option (Int32) :=
  L_hB_X9_bits_4   (fun l1_4 l2_4 => some l1_4) 200000 (0 : Int32) x0
set_option maxRecDepth 100000 in
set_option maxHeartbeats 4000000 in
theorem lp_hB_X9_bits_4 {g0 g1 g2 g3 g4 g5 g6 g7 g8 g9 g10 g11 g12 g13 g14 g15 g16 g17 g18 g19 g20 g21 g22 g23 g24 g25 g26 : Int32} {a0 a1 a2 a3 a4 a5 a6 a7 a8 a9 a10 a11 a12 a13 a14 a15 a16 a17 a18 a19 a20 a21 a22 a23 : (Nat → Int32)} {b0 : (Nat → Int64)} {w0 : Int64} {rv : Value} (d n0 : Nat)  (res : Int32) (K : Int32 → Int32 → Option (Int32)) (hK : ∀ (l1_4 : Int32) (l2_4 : Int32), K l1_4 l2_4 = some res → xW xks YX9_bits (d + 1) 0 0 n0 (xZ 0 0 n0 (some (.int res)) (hB g0 g1 g2 g3 g4 g5 g6 g7 g8 g9 g10 g11 g12 g13 g14 g15 g16 g17 g18 g19 g20 g21 g22 g23 g24 g25 g26 a0 a1 a2 a3 a4 a5 a6 a7 a8 a9 a10 a11 a12 a13 a14 a15 a16 a17 a18 a19 a20 a21 a22 a23 b0 w0 (.ref 11) rv)) 0 0 20 [none, some (.int l1_4), none] [] (hB g0 g1 g2 g3 g4 g5 g6 g7 g8 g9 g10 g11 g12 g13 g14 g15 g16 g17 g18 g19 g20 g21 g22 g23 g24 g25 g26 a0 a1 a2 a3 a4 a5 a6 a7 a8 a9 a10 a11 a12 a13 a14 a15 a16 a17 a18 a19 a20 a21 a22 a23 b0 w0 (.ref 11) rv)) : ∀ (n : Nat) (l1_4 : Int32) (l2_4 : Int32), L_hB_X9_bits_4   K n l1_4 l2_4 = some res → xW xks YX9_bits (d + 1) 0 0 n0 (xZ 0 0 n0 (some (.int res)) (hB g0 g1 g2 g3 g4 g5 g6 g7 g8 g9 g10 g11 g12 g13 g14 g15 g16 g17 g18 g19 g20 g21 g22 g23 g24 g25 g26 a0 a1 a2 a3 a4 a5 a6 a7 a8 a9 a10 a11 a12 a13 a14 a15 a16 a17 a18 a19 a20 a21 a22 a23 b0 w0 (.ref 11) rv)) 0 0 4 [none, some (.int l1_4), some (.int l2_4)] [] (hB g0 g1 g2 g3 g4 g5 g6 g7 g8 g9 g10 g11 g12 g13 g14 g15 g16 g17 g18 g19 g20 g21 g22 g23 g24 g25 g26 a0 a1 a2 a3 a4 a5 a6 a7 a8 a9 a10 a11 a12 a13 a14 a15 a16 a17 a18 a19 a20 a21 a22 a23 b0 w0 (.ref 11) rv) := by
  intro n
  induction n with
  | zero =>
    intro l1_4 l2_4 h
    cases (show (none : Option (Int32)) = some res from h)
  | succ n4 ih4 =>
    intro l1_4 l2_4 h
    unfold L_hB_X9_bits_4 at h
    refine x_iload_n dX9_bits_4 rfl ?_
    refine x_if_eq 20 dX9_bits_5 (by decide) (fun q => ?_) (fun q => ?_)
    · have h := xif_t q h
      refine x_weak (pl2 := [none, some (.int l1_4), none]) ⟨rfl, trivial⟩ ?_
      exact hK l1_4 l2_4 h
    · have h := xif_f q h
      refine x_iincK (1 : Int32) (pl' := [none, some (.int (l1_4 + (1 : Int32))), some (.int l2_4)]) dX9_bits_8 rfl (by decide) (by decide) rfl ?_
      refine x_iload_n dX9_bits_11 rfl ?_
      refine x_iload_n dX9_bits_12 rfl ?_
      refine x_iconst (1 : Int32) dX9_bits_13 (by decide) ?_
      refine x_isub dX9_bits_14 ?_
      refine x_iand dX9_bits_15 ?_
      refine x_istore_n (pl' := [none, some (.int (l1_4 + (1 : Int32))), some (.int (l2_4 &&& (l2_4 - (1 : Int32))))]) dX9_bits_16 (by decide) rfl ?_
      refine x_goto 4 dX9_bits_17 (by decide) ?_
      refine x_weak (pl2 := [none, some (.int (l1_4 + (1 : Int32))), some (.int (l2_4 &&& (l2_4 - (1 : Int32))))]) ⟨rfl, rfl, trivial⟩ ?_
      exact ih4 (l1_4 + (1 : Int32)) (l2_4 &&& (l2_4 - (1 : Int32))) h
set_option maxRecDepth 100000 in
set_option maxHeartbeats 4000000 in
theorem t_hB_X9_bits {g0 g1 g2 g3 g4 g5 g6 g7 g8 g9 g10 g11 g12 g13 g14 g15 g16 g17 g18 g19 g20 g21 g22 g23 g24 g25 g26 : Int32} {a0 a1 a2 a3 a4 a5 a6 a7 a8 a9 a10 a11 a12 a13 a14 a15 a16 a17 a18 a19 a20 a21 a22 a23 : (Nat → Int32)} {b0 : (Nat → Int64)} {w0 : Int64} {rv : Value} (x0 : Int32) (res : Int32) (h : e_hB_X9_bits  x0 = some res) (d : Nat) : xMet xks YX9_bits (d + 1) 0 0 [.int x0] (hB g0 g1 g2 g3 g4 g5 g6 g7 g8 g9 g10 g11 g12 g13 g14 g15 g16 g17 g18 g19 g20 g21 g22 g23 g24 g25 g26 a0 a1 a2 a3 a4 a5 a6 a7 a8 a9 a10 a11 a12 a13 a14 a15 a16 a17 a18 a19 a20 a21 a22 a23 b0 w0 (.ref 11) rv) (some (.int res)) (hB g0 g1 g2 g3 g4 g5 g6 g7 g8 g9 g10 g11 g12 g13 g14 g15 g16 g17 g18 g19 g20 g21 g22 g23 g24 g25 g26 a0 a1 a2 a3 a4 a5 a6 a7 a8 a9 a10 a11 a12 a13 a14 a15 a16 a17 a18 a19 a20 a21 a22 a23 b0 w0 (.ref 11) rv) := by
  unfold e_hB_X9_bits at h
  refine xMet_of (pl := [some (.int x0), none, none]) (by decide) (Nat.le_of_ble_eq_true rfl) rfl (Nat.le_of_ble_eq_true rfl) ?_
  refine x_iconst (0 : Int32) dX9_bits_0 (by decide) ?_
  refine x_istore_n (pl' := [some (.int x0), some (.int (0 : Int32)), none]) dX9_bits_1 (by decide) rfl ?_
  refine x_iload_n dX9_bits_2 rfl ?_
  refine x_istore_n (pl' := [some (.int x0), some (.int (0 : Int32)), some (.int x0)]) dX9_bits_3 (by decide) rfl ?_
  refine x_weak (pl2 := [none, some (.int (0 : Int32)), some (.int x0)]) ⟨rfl, rfl, trivial⟩ ?_
  refine lp_hB_X9_bits_4 d _  res _ (fun l1_4 l2_4 h => ?_) 200000 (0 : Int32) x0 h
  refine x_iload_n dX9_bits_20 rfl ?_
  cases h
  exact x_iret2 dX9_bits_21 rfl rfl
noncomputable def L_hB_X9_forgets_19 (p0 : Int32) (p1 : (Nat → Int32)) (p2 : (Nat → Int32))  (f2 : Int32) (K : Int32 → Int32 → Option ((Nat → Int32))) : Nat → Int32 → Int32 → Option ((Nat → Int32))
  | 0, _, _ => none
  | n19 + 1, l3_19, l4_19 => if p0 ≤ l4_19 then K l3_19 l4_19 else (xix ((0 : Int32) + l4_19) 11 (if (p1 ((0 : Int32) + l4_19).toNatClampNeg) = f2 then if l3_19 = (-1 : Int32) then L_hB_X9_forgets_19 p0 p1 p2 f2 K n19 l4_19 (l4_19 + (1 : Int32)) else (xix l4_19 5 (xix l3_19 5 (if (p2 l3_19.toNatClampNeg) ≤ (p2 l4_19.toNatClampNeg) then L_hB_X9_forgets_19 p0 p1 p2 f2 K n19 l3_19 (l4_19 + (1 : Int32)) else L_hB_X9_forgets_19 p0 p1 p2 f2 K n19 l4_19 (l4_19 + (1 : Int32))))) else L_hB_X9_forgets_19 p0 p1 p2 f2 K n19 l3_19 (l4_19 + (1 : Int32))))
noncomputable def e_hB_X9_forgets (p0 : Int32) (p1 : (Nat → Int32)) (p2 : (Nat → Int32)) (x2 : Int32) : Option ((Nat → Int32)) :=
  ((e_hB_X9_hadBy p0 p1 x2).bind fun z3 => (e_hB_X9_bits z3).bind fun z6 => if (2 : Int32) ≤ z6 then L_hB_X9_forgets_19 p0 p1 p2 x2 (fun l3_19 l4_19 => (xix ((0 : Int32) + l3_19) 11 (some (upd p1 ((0 : Int32) + l3_19).toNatClampNeg (-2 : Int32))))) 200000 (-1 : Int32) (0 : Int32) else some p1)
set_option maxRecDepth 100000 in
set_option maxHeartbeats 4000000 in
theorem lp_hB_X9_forgets_19 {g0 g1 g2 g3 g4 g5 g6 g7 g8 g9 g10 g11 g12 g13 g14 g15 g16 g17 g18 g19 g20 g21 g22 g23 g24 g25 g26 : Int32} {a0 a1 a2 a3 a4 a5 a6 a7 a8 a9 a10 a11 a12 a13 a14 a15 a16 a17 a18 a19 a20 a21 a22 a23 : (Nat → Int32)} {b0 : (Nat → Int64)} {w0 : Int64} {rv : Value} (d n0 : Nat) (f2 : Int32) (res : (Nat → Int32)) (K : Int32 → Int32 → Option ((Nat → Int32))) (hK : ∀ (l3_19 : Int32) (l4_19 : Int32), K l3_19 l4_19 = some res → xW xks YX9_forgets (d + 2) 0 0 n0 (xZ 0 0 n0 none (hB g0 g1 g2 g3 g4 g5 g6 g7 g8 g9 g10 g11 g12 g13 g14 g15 g16 g17 g18 g19 g20 g21 g22 g23 g24 g25 g26 a0 a1 res a3 a4 a5 a6 a7 a8 a9 a10 a11 a12 a13 a14 a15 a16 a17 a18 a19 a20 a21 a22 a23 b0 w0 (.ref 11) rv)) 0 0 80 [none, some (.ref 3), none, some (.int l3_19), none] [] (hB g0 g1 g2 g3 g4 g5 g6 g7 g8 g9 g10 g11 g12 g13 g14 g15 g16 g17 g18 g19 g20 g21 g22 g23 g24 g25 g26 a0 a1 a2 a3 a4 a5 a6 a7 a8 a9 a10 a11 a12 a13 a14 a15 a16 a17 a18 a19 a20 a21 a22 a23 b0 w0 (.ref 11) rv)) : ∀ (n : Nat) (l3_19 : Int32) (l4_19 : Int32), L_hB_X9_forgets_19 g23 a2 a12 f2 K n l3_19 l4_19 = some res → xW xks YX9_forgets (d + 2) 0 0 n0 (xZ 0 0 n0 none (hB g0 g1 g2 g3 g4 g5 g6 g7 g8 g9 g10 g11 g12 g13 g14 g15 g16 g17 g18 g19 g20 g21 g22 g23 g24 g25 g26 a0 a1 res a3 a4 a5 a6 a7 a8 a9 a10 a11 a12 a13 a14 a15 a16 a17 a18 a19 a20 a21 a22 a23 b0 w0 (.ref 11) rv)) 0 0 19 [some (.ref 0), some (.ref 3), some (.int f2), some (.int l3_19), some (.int l4_19)] [] (hB g0 g1 g2 g3 g4 g5 g6 g7 g8 g9 g10 g11 g12 g13 g14 g15 g16 g17 g18 g19 g20 g21 g22 g23 g24 g25 g26 a0 a1 a2 a3 a4 a5 a6 a7 a8 a9 a10 a11 a12 a13 a14 a15 a16 a17 a18 a19 a20 a21 a22 a23 b0 w0 (.ref 11) rv) := by
  intro n
  induction n with
  | zero =>
    intro l3_19 l4_19 h
    cases (show (none : Option ((Nat → Int32))) = some res from h)
  | succ n19 ih19 =>
    intro l3_19 l4_19 h
    unfold L_hB_X9_forgets_19 at h
    refine x_iload dX9_forgets_19 rfl ?_
    refine x_aload_n dX9_forgets_21 rfl ?_
    refine x_get fX9_316 dX9_forgets_22 rfl rfl rfl ?_
    refine x_get fX9_194 dX9_forgets_25 rfl rfl rfl ?_
    refine x_icmp_ge 80 dX9_forgets_28 (by decide) (fun q => ?_) (fun q => ?_)
    · have h := xif_t q h
      refine x_weak (pl2 := [none, some (.ref 3), none, some (.int l3_19), none]) ⟨rfl, rfl, trivial⟩ ?_
      exact hK l3_19 l4_19 h
    · have h := xif_f q h
      refine x_aload_n dX9_forgets_31 rfl ?_
      refine x_iconst (0 : Int32) dX9_forgets_32 (by decide) ?_
      refine x_iload dX9_forgets_33 rfl ?_
      refine x_iadd dX9_forgets_35 ?_
      obtain ⟨q36, h⟩ := xix_of h
      refine x_iald dX9_forgets_36 rfl q36 ?_
      refine x_iload_n dX9_forgets_37 rfl ?_
      refine x_icmp_eq 44 dX9_forgets_38 (by decide) (fun q => ?_) (fun q => ?_)
      · have h := xif_t q h
        refine x_iload_n dX9_forgets_44 rfl ?_
        refine x_iconst (-1 : Int32) dX9_forgets_45 (by decide) ?_
        refine x_icmp_eq 71 dX9_forgets_46 (by decide) (fun q => ?_) (fun q => ?_)
        · have h := xif_t q h
          refine x_iload dX9_forgets_71 rfl ?_
          refine x_istore_n (pl' := [some (.ref 0), some (.ref 3), some (.int f2), some (.int l4_19), some (.int l4_19)]) dX9_forgets_73 (by decide) rfl ?_
          refine x_iincK (1 : Int32) (pl' := [some (.ref 0), some (.ref 3), some (.int f2), some (.int l4_19), some (.int (l4_19 + (1 : Int32)))]) dX9_forgets_74 rfl (by decide) (by decide) rfl ?_
          refine x_goto 19 dX9_forgets_77 (by decide) ?_
          refine x_weak (pl2 := [some (.ref 0), some (.ref 3), some (.int f2), some (.int l4_19), some (.int (l4_19 + (1 : Int32)))]) ⟨rfl, rfl, rfl, rfl, rfl, trivial⟩ ?_
          exact ih19 l4_19 (l4_19 + (1 : Int32)) h
        · have h := xif_f q h
          refine x_aload_n dX9_forgets_49 rfl ?_
          refine x_get fX9_316 dX9_forgets_50 rfl rfl rfl ?_
          refine x_get fX9_273 dX9_forgets_53 rfl rfl rfl ?_
          refine x_iload dX9_forgets_56 rfl ?_
          obtain ⟨q58, h⟩ := xix_of h
          refine x_iald dX9_forgets_58 rfl q58 ?_
          refine x_aload_n dX9_forgets_59 rfl ?_
          refine x_get fX9_316 dX9_forgets_60 rfl rfl rfl ?_
          refine x_get fX9_273 dX9_forgets_63 rfl rfl rfl ?_
          refine x_iload_n dX9_forgets_66 rfl ?_
          obtain ⟨q67, h⟩ := xix_of h
          refine x_iald dX9_forgets_67 rfl q67 ?_
          refine x_icmp_ge 74 dX9_forgets_68 (by decide) (fun q => ?_) (fun q => ?_)
          · have h := xif_t q h
            refine x_iincK (1 : Int32) (pl' := [some (.ref 0), some (.ref 3), some (.int f2), some (.int l3_19), some (.int (l4_19 + (1 : Int32)))]) dX9_forgets_74 rfl (by decide) (by decide) rfl ?_
            refine x_goto 19 dX9_forgets_77 (by decide) ?_
            refine x_weak (pl2 := [some (.ref 0), some (.ref 3), some (.int f2), some (.int l3_19), some (.int (l4_19 + (1 : Int32)))]) ⟨rfl, rfl, rfl, rfl, rfl, trivial⟩ ?_
            exact ih19 l3_19 (l4_19 + (1 : Int32)) h
          · have h := xif_f q h
            refine x_iload dX9_forgets_71 rfl ?_
            refine x_istore_n (pl' := [some (.ref 0), some (.ref 3), some (.int f2), some (.int l4_19), some (.int l4_19)]) dX9_forgets_73 (by decide) rfl ?_
            refine x_iincK (1 : Int32) (pl' := [some (.ref 0), some (.ref 3), some (.int f2), some (.int l4_19), some (.int (l4_19 + (1 : Int32)))]) dX9_forgets_74 rfl (by decide) (by decide) rfl ?_
            refine x_goto 19 dX9_forgets_77 (by decide) ?_
            refine x_weak (pl2 := [some (.ref 0), some (.ref 3), some (.int f2), some (.int l4_19), some (.int (l4_19 + (1 : Int32)))]) ⟨rfl, rfl, rfl, rfl, rfl, trivial⟩ ?_
            exact ih19 l4_19 (l4_19 + (1 : Int32)) h
      · have h := xif_f q h
        refine x_goto 74 dX9_forgets_41 (by decide) ?_
        refine x_iincK (1 : Int32) (pl' := [some (.ref 0), some (.ref 3), some (.int f2), some (.int l3_19), some (.int (l4_19 + (1 : Int32)))]) dX9_forgets_74 rfl (by decide) (by decide) rfl ?_
        refine x_goto 19 dX9_forgets_77 (by decide) ?_
        refine x_weak (pl2 := [some (.ref 0), some (.ref 3), some (.int f2), some (.int l3_19), some (.int (l4_19 + (1 : Int32)))]) ⟨rfl, rfl, rfl, rfl, rfl, trivial⟩ ?_
        exact ih19 l3_19 (l4_19 + (1 : Int32)) h
set_option maxRecDepth 100000 in
set_option maxHeartbeats 4000000 in
theorem t_hB_X9_forgets {g0 g1 g2 g3 g4 g5 g6 g7 g8 g9 g10 g11 g12 g13 g14 g15 g16 g17 g18 g19 g20 g21 g22 g23 g24 g25 g26 : Int32} {a0 a1 a2 a3 a4 a5 a6 a7 a8 a9 a10 a11 a12 a13 a14 a15 a16 a17 a18 a19 a20 a21 a22 a23 : (Nat → Int32)} {b0 : (Nat → Int64)} {w0 : Int64} {rv : Value} (x2 : Int32) (res : (Nat → Int32)) (h : e_hB_X9_forgets g23 a2 a12 x2 = some res) (d : Nat) : xMet xks YX9_forgets (d + 2) 0 0 [.ref 0, .ref 3, .int x2] (hB g0 g1 g2 g3 g4 g5 g6 g7 g8 g9 g10 g11 g12 g13 g14 g15 g16 g17 g18 g19 g20 g21 g22 g23 g24 g25 g26 a0 a1 a2 a3 a4 a5 a6 a7 a8 a9 a10 a11 a12 a13 a14 a15 a16 a17 a18 a19 a20 a21 a22 a23 b0 w0 (.ref 11) rv) none (hB g0 g1 g2 g3 g4 g5 g6 g7 g8 g9 g10 g11 g12 g13 g14 g15 g16 g17 g18 g19 g20 g21 g22 g23 g24 g25 g26 a0 a1 res a3 a4 a5 a6 a7 a8 a9 a10 a11 a12 a13 a14 a15 a16 a17 a18 a19 a20 a21 a22 a23 b0 w0 (.ref 11) rv) := by
  unfold e_hB_X9_forgets at h
  refine xMet_of (pl := [some (.ref 0), some (.ref 3), some (.int x2), none, none]) (by decide) (Nat.le_of_ble_eq_true rfl) rfl (Nat.le_of_ble_eq_true rfl) ?_
  refine x_aload_n dX9_forgets_0 rfl ?_
  refine x_aload_n dX9_forgets_1 rfl ?_
  refine x_iload_n dX9_forgets_2 rfl ?_
  obtain ⟨z3, y3, h⟩ := xbind h
  refine x_callV (t_hB_X9_hadBy_2 x2 z3 y3 (d + 0)) kX9_338 dX9_forgets_3 rfl rfl rfl rfl rfl (Nat.le_of_ble_eq_true rfl) (Nat.le_of_ble_eq_true rfl) rfl rfl (Or.inl rfl) ?_
  obtain ⟨z6, y6, h⟩ := xbind h
  refine x_callS (t_hB_X9_bits z3 z6 y6 (d + 0)) kX9_342 dX9_forgets_6 rfl rfl (Nat.le_of_ble_eq_true rfl) (Nat.le_of_ble_eq_true rfl) rfl rfl (Or.inl rfl) ?_
  refine x_iconst (2 : Int32) dX9_forgets_9 (by decide) ?_
  refine x_icmp_ge 14 dX9_forgets_10 (by decide) (fun q => ?_) (fun q => ?_)
  · have h := xif_t q h
    refine x_iconst (-1 : Int32) dX9_forgets_14 (by decide) ?_
    refine x_istore_n (pl' := [some (.ref 0), some (.ref 3), some (.int x2), some (.int (-1 : Int32)), none]) dX9_forgets_15 (by decide) rfl ?_
    refine x_iconst (0 : Int32) dX9_forgets_16 (by decide) ?_
    refine x_istore (pl' := [some (.ref 0), some (.ref 3), some (.int x2), some (.int (-1 : Int32)), some (.int (0 : Int32))]) dX9_forgets_17 (by decide) rfl ?_
    refine x_weak (pl2 := [some (.ref 0), some (.ref 3), some (.int x2), some (.int (-1 : Int32)), some (.int (0 : Int32))]) ⟨rfl, rfl, rfl, rfl, rfl, trivial⟩ ?_
    refine lp_hB_X9_forgets_19 d _ x2 res _ (fun l3_19 l4_19 h => ?_) 200000 (-1 : Int32) (0 : Int32) h
    refine x_aload_n dX9_forgets_80 rfl ?_
    refine x_iconst (0 : Int32) dX9_forgets_81 (by decide) ?_
    refine x_iload_n dX9_forgets_82 rfl ?_
    refine x_iadd dX9_forgets_83 ?_
    refine x_bipush (-2 : Int32) dX9_forgets_84 (by decide) ?_
    obtain ⟨q86, h⟩ := xix_of h
    refine x_iast (h2 := (hB g0 g1 g2 g3 g4 g5 g6 g7 g8 g9 g10 g11 g12 g13 g14 g15 g16 g17 g18 g19 g20 g21 g22 g23 g24 g25 g26 a0 a1 (upd a2 ((0 : Int32) + l3_19).toNatClampNeg (-2 : Int32)) a3 a4 a5 a6 a7 a8 a9 a10 a11 a12 a13 a14 a15 a16 a17 a18 a19 a20 a21 a22 a23 b0 w0 (.ref 11) rv)) dX9_forgets_86 rfl q86 rfl ?_
    cases h
    exact x_vret2 dX9_forgets_87 rfl rfl
  · have h := xif_f q h
    cases h
    exact x_vret2 dX9_forgets_13 rfl rfl
noncomputable def L_hB_X9_lapses_2 (p0 : Int32) (p1 : (Nat → Int32))   (K : Int32 → (Nat → Int32) → Option ((Nat → Int32))) : Nat → Int32 → (Nat → Int32) → Option ((Nat → Int32))
  | 0, _, _ => none
  | n2 + 1, l2_2, ma2_2 => if p0 ≤ l2_2 then K l2_2 ma2_2 else (xix l2_2 5 (if (p1 l2_2.toNatClampNeg) = (0 : Int32) then L_hB_X9_lapses_2 p0 p1  K n2 (l2_2 + (1 : Int32)) ma2_2 else (xix ((5 : Int32) + l2_2) 11 (L_hB_X9_lapses_2 p0 p1  K n2 (l2_2 + (1 : Int32)) (upd ma2_2 ((5 : Int32) + l2_2).toNatClampNeg (-2 : Int32))))))
noncomputable def e_hB_X9_lapses (p0 : Int32) (p1 : (Nat → Int32)) (p2 : (Nat → Int32))  : Option ((Nat → Int32)) :=
  L_hB_X9_lapses_2 p0 p1  (fun l2_2 ma2_2 => some ma2_2) 200000 (0 : Int32) p2
set_option maxRecDepth 100000 in
set_option maxHeartbeats 4000000 in
theorem lp_hB_X9_lapses_2 {g0 g1 g2 g3 g4 g5 g6 g7 g8 g9 g10 g11 g12 g13 g14 g15 g16 g17 g18 g19 g20 g21 g22 g23 g24 g25 g26 : Int32} {a0 a1 a3 a4 a5 a6 a7 a8 a9 a10 a11 a12 a13 a14 a15 a16 a17 a18 a19 a20 a21 a22 a23 : (Nat → Int32)} {b0 : (Nat → Int64)} {w0 : Int64} {rv : Value} (d n0 : Nat)  (res : (Nat → Int32)) (K : Int32 → (Nat → Int32) → Option ((Nat → Int32))) (hK : ∀ (l2_2 : Int32) (ma2_2 : (Nat → Int32)), K l2_2 ma2_2 = some res → xW xks YX9_lapses (d + 1) 0 0 n0 (xZ 0 0 n0 none (hB g0 g1 g2 g3 g4 g5 g6 g7 g8 g9 g10 g11 g12 g13 g14 g15 g16 g17 g18 g19 g20 g21 g22 g23 g24 g25 g26 a0 a1 res a3 a4 a5 a6 a7 a8 a9 a10 a11 a12 a13 a14 a15 a16 a17 a18 a19 a20 a21 a22 a23 b0 w0 (.ref 11) rv)) 0 0 38 [none, none, none] [] (hB g0 g1 g2 g3 g4 g5 g6 g7 g8 g9 g10 g11 g12 g13 g14 g15 g16 g17 g18 g19 g20 g21 g22 g23 g24 g25 g26 a0 a1 ma2_2 a3 a4 a5 a6 a7 a8 a9 a10 a11 a12 a13 a14 a15 a16 a17 a18 a19 a20 a21 a22 a23 b0 w0 (.ref 11) rv)) : ∀ (n : Nat) (l2_2 : Int32) (ma2_2 : (Nat → Int32)), L_hB_X9_lapses_2 g23 a11  K n l2_2 ma2_2 = some res → xW xks YX9_lapses (d + 1) 0 0 n0 (xZ 0 0 n0 none (hB g0 g1 g2 g3 g4 g5 g6 g7 g8 g9 g10 g11 g12 g13 g14 g15 g16 g17 g18 g19 g20 g21 g22 g23 g24 g25 g26 a0 a1 res a3 a4 a5 a6 a7 a8 a9 a10 a11 a12 a13 a14 a15 a16 a17 a18 a19 a20 a21 a22 a23 b0 w0 (.ref 11) rv)) 0 0 2 [some (.ref 0), some (.ref 3), some (.int l2_2)] [] (hB g0 g1 g2 g3 g4 g5 g6 g7 g8 g9 g10 g11 g12 g13 g14 g15 g16 g17 g18 g19 g20 g21 g22 g23 g24 g25 g26 a0 a1 ma2_2 a3 a4 a5 a6 a7 a8 a9 a10 a11 a12 a13 a14 a15 a16 a17 a18 a19 a20 a21 a22 a23 b0 w0 (.ref 11) rv) := by
  intro n
  induction n with
  | zero =>
    intro l2_2 ma2_2 h
    cases (show (none : Option ((Nat → Int32))) = some res from h)
  | succ n2 ih2 =>
    intro l2_2 ma2_2 h
    unfold L_hB_X9_lapses_2 at h
    refine x_iload_n dX9_lapses_2 rfl ?_
    refine x_aload_n dX9_lapses_3 rfl ?_
    refine x_get fX9_316 dX9_lapses_4 rfl rfl rfl ?_
    refine x_get fX9_194 dX9_lapses_7 rfl rfl rfl ?_
    refine x_icmp_ge 38 dX9_lapses_10 (by decide) (fun q => ?_) (fun q => ?_)
    · have h := xif_t q h
      refine x_weak (pl2 := [none, none, none]) trivial ?_
      exact hK l2_2 ma2_2 h
    · have h := xif_f q h
      refine x_aload_n dX9_lapses_13 rfl ?_
      refine x_get fX9_316 dX9_lapses_14 rfl rfl rfl ?_
      refine x_get fX9_270 dX9_lapses_17 rfl rfl rfl ?_
      refine x_iload_n dX9_lapses_20 rfl ?_
      obtain ⟨q21, h⟩ := xix_of h
      refine x_iald dX9_lapses_21 rfl q21 ?_
      refine x_if_eq 32 dX9_lapses_22 (by decide) (fun q => ?_) (fun q => ?_)
      · have h := xif_t q h
        refine x_iincK (1 : Int32) (pl' := [some (.ref 0), some (.ref 3), some (.int (l2_2 + (1 : Int32)))]) dX9_lapses_32 rfl (by decide) (by decide) rfl ?_
        refine x_goto 2 dX9_lapses_35 (by decide) ?_
        refine x_weak (pl2 := [some (.ref 0), some (.ref 3), some (.int (l2_2 + (1 : Int32)))]) ⟨rfl, rfl, rfl, trivial⟩ ?_
        exact ih2 (l2_2 + (1 : Int32)) ma2_2 h
      · have h := xif_f q h
        refine x_aload_n dX9_lapses_25 rfl ?_
        refine x_iconst (5 : Int32) dX9_lapses_26 (by decide) ?_
        refine x_iload_n dX9_lapses_27 rfl ?_
        refine x_iadd dX9_lapses_28 ?_
        refine x_bipush (-2 : Int32) dX9_lapses_29 (by decide) ?_
        obtain ⟨q31, h⟩ := xix_of h
        refine x_iast (h2 := (hB g0 g1 g2 g3 g4 g5 g6 g7 g8 g9 g10 g11 g12 g13 g14 g15 g16 g17 g18 g19 g20 g21 g22 g23 g24 g25 g26 a0 a1 (upd ma2_2 ((5 : Int32) + l2_2).toNatClampNeg (-2 : Int32)) a3 a4 a5 a6 a7 a8 a9 a10 a11 a12 a13 a14 a15 a16 a17 a18 a19 a20 a21 a22 a23 b0 w0 (.ref 11) rv)) dX9_lapses_31 rfl q31 rfl ?_
        refine x_iincK (1 : Int32) (pl' := [some (.ref 0), some (.ref 3), some (.int (l2_2 + (1 : Int32)))]) dX9_lapses_32 rfl (by decide) (by decide) rfl ?_
        refine x_goto 2 dX9_lapses_35 (by decide) ?_
        refine x_weak (pl2 := [some (.ref 0), some (.ref 3), some (.int (l2_2 + (1 : Int32)))]) ⟨rfl, rfl, rfl, trivial⟩ ?_
        exact ih2 (l2_2 + (1 : Int32)) (upd ma2_2 ((5 : Int32) + l2_2).toNatClampNeg (-2 : Int32)) h
set_option maxRecDepth 100000 in
set_option maxHeartbeats 4000000 in
theorem t_hB_X9_lapses {g0 g1 g2 g3 g4 g5 g6 g7 g8 g9 g10 g11 g12 g13 g14 g15 g16 g17 g18 g19 g20 g21 g22 g23 g24 g25 g26 : Int32} {a0 a1 a2 a3 a4 a5 a6 a7 a8 a9 a10 a11 a12 a13 a14 a15 a16 a17 a18 a19 a20 a21 a22 a23 : (Nat → Int32)} {b0 : (Nat → Int64)} {w0 : Int64} {rv : Value}  (res : (Nat → Int32)) (h : e_hB_X9_lapses g23 a11 a2  = some res) (d : Nat) : xMet xks YX9_lapses (d + 1) 0 0 [.ref 0, .ref 3] (hB g0 g1 g2 g3 g4 g5 g6 g7 g8 g9 g10 g11 g12 g13 g14 g15 g16 g17 g18 g19 g20 g21 g22 g23 g24 g25 g26 a0 a1 a2 a3 a4 a5 a6 a7 a8 a9 a10 a11 a12 a13 a14 a15 a16 a17 a18 a19 a20 a21 a22 a23 b0 w0 (.ref 11) rv) none (hB g0 g1 g2 g3 g4 g5 g6 g7 g8 g9 g10 g11 g12 g13 g14 g15 g16 g17 g18 g19 g20 g21 g22 g23 g24 g25 g26 a0 a1 res a3 a4 a5 a6 a7 a8 a9 a10 a11 a12 a13 a14 a15 a16 a17 a18 a19 a20 a21 a22 a23 b0 w0 (.ref 11) rv) := by
  unfold e_hB_X9_lapses at h
  refine xMet_of (pl := [some (.ref 0), some (.ref 3), none]) (by decide) (Nat.le_of_ble_eq_true rfl) rfl (Nat.le_of_ble_eq_true rfl) ?_
  refine x_iconst (0 : Int32) dX9_lapses_0 (by decide) ?_
  refine x_istore_n (pl' := [some (.ref 0), some (.ref 3), some (.int (0 : Int32))]) dX9_lapses_1 (by decide) rfl ?_
  refine x_weak (pl2 := [some (.ref 0), some (.ref 3), some (.int (0 : Int32))]) ⟨rfl, rfl, rfl, trivial⟩ ?_
  refine lp_hB_X9_lapses_2 d _  res _ (fun l2_2 ma2_2 h => ?_) 200000 (0 : Int32) a2 h
  cases h
  exact x_vret2 dX9_lapses_38 rfl rfl
noncomputable def L_hB_X9_ends_2 (p0 : Int32) (p2 : Int32) (p3 : Int32) (p4 : (Nat → Int32)) (p5 : (Nat → Int32)) (p6 : (Nat → Int32))  (f2 : Int32) (K : Int32 → (Nat → Int32) → Option ((Nat → Int32))) : Nat → Int32 → (Nat → Int32) → Option ((Nat → Int32))
  | 0, _, _ => none
  | n2 + 1, l3_2, ma2_2 => if p0 ≤ l3_2 then K l3_2 ma2_2 else (xix ((0 : Int32) + l3_2) 11 (xix l3_2 5 (if (p6 l3_2.toNatClampNeg) = (3 : Int32) then if f2 = (0 : Int32) then if (1 : Int32) = (0 : Int32) then L_hB_X9_ends_2 p0 p2 p3 p4 p5 p6 f2 K n2 (l3_2 + (1 : Int32)) ma2_2 else if (ma2_2 ((0 : Int32) + l3_2).toNatClampNeg) = (-2 : Int32) then L_hB_X9_ends_2 p0 p2 p3 p4 p5 p6 f2 K n2 (l3_2 + (1 : Int32)) ma2_2 else ((e_hB_X9_isChild p4 (ma2_2 ((0 : Int32) + l3_2).toNatClampNeg)).bind fun z84 => if z84 = (0 : Int32) then (xix ((5 : Int32) + l3_2) 11 (L_hB_X9_ends_2 p0 p2 p3 p4 p5 p6 f2 K n2 (l3_2 + (1 : Int32)) (upd ma2_2 ((5 : Int32) + l3_2).toNatClampNeg (ma2_2 ((0 : Int32) + l3_2).toNatClampNeg)))) else L_hB_X9_ends_2 p0 p2 p3 p4 p5 p6 f2 K n2 (l3_2 + (1 : Int32)) ma2_2) else if (0 : Int32) = (0 : Int32) then L_hB_X9_ends_2 p0 p2 p3 p4 p5 p6 f2 K n2 (l3_2 + (1 : Int32)) ma2_2 else if (ma2_2 ((0 : Int32) + l3_2).toNatClampNeg) = (-2 : Int32) then L_hB_X9_ends_2 p0 p2 p3 p4 p5 p6 f2 K n2 (l3_2 + (1 : Int32)) ma2_2 else ((e_hB_X9_isChild p4 (ma2_2 ((0 : Int32) + l3_2).toNatClampNeg)).bind fun z84 => if z84 = (0 : Int32) then (xix ((5 : Int32) + l3_2) 11 (L_hB_X9_ends_2 p0 p2 p3 p4 p5 p6 f2 K n2 (l3_2 + (1 : Int32)) (upd ma2_2 ((5 : Int32) + l3_2).toNatClampNeg (ma2_2 ((0 : Int32) + l3_2).toNatClampNeg)))) else L_hB_X9_ends_2 p0 p2 p3 p4 p5 p6 f2 K n2 (l3_2 + (1 : Int32)) ma2_2) else if f2 = (0 : Int32) then if (0 : Int32) = (0 : Int32) then L_hB_X9_ends_2 p0 p2 p3 p4 p5 p6 f2 K n2 (l3_2 + (1 : Int32)) ma2_2 else if (ma2_2 ((0 : Int32) + l3_2).toNatClampNeg) = (-2 : Int32) then L_hB_X9_ends_2 p0 p2 p3 p4 p5 p6 f2 K n2 (l3_2 + (1 : Int32)) ma2_2 else ((e_hB_X9_isChild p4 (ma2_2 ((0 : Int32) + l3_2).toNatClampNeg)).bind fun z84 => if z84 = (0 : Int32) then (xix ((5 : Int32) + l3_2) 11 (L_hB_X9_ends_2 p0 p2 p3 p4 p5 p6 f2 K n2 (l3_2 + (1 : Int32)) (upd ma2_2 ((5 : Int32) + l3_2).toNatClampNeg (ma2_2 ((0 : Int32) + l3_2).toNatClampNeg)))) else L_hB_X9_ends_2 p0 p2 p3 p4 p5 p6 f2 K n2 (l3_2 + (1 : Int32)) ma2_2) else (xix l3_2 5 (if (p6 l3_2.toNatClampNeg) = (2 : Int32) then if (0 : Int32) = (0 : Int32) then L_hB_X9_ends_2 p0 p2 p3 p4 p5 p6 f2 K n2 (l3_2 + (1 : Int32)) ma2_2 else if (ma2_2 ((0 : Int32) + l3_2).toNatClampNeg) = (-2 : Int32) then L_hB_X9_ends_2 p0 p2 p3 p4 p5 p6 f2 K n2 (l3_2 + (1 : Int32)) ma2_2 else ((e_hB_X9_isChild p4 (ma2_2 ((0 : Int32) + l3_2).toNatClampNeg)).bind fun z84 => if z84 = (0 : Int32) then (xix ((5 : Int32) + l3_2) 11 (L_hB_X9_ends_2 p0 p2 p3 p4 p5 p6 f2 K n2 (l3_2 + (1 : Int32)) (upd ma2_2 ((5 : Int32) + l3_2).toNatClampNeg (ma2_2 ((0 : Int32) + l3_2).toNatClampNeg)))) else L_hB_X9_ends_2 p0 p2 p3 p4 p5 p6 f2 K n2 (l3_2 + (1 : Int32)) ma2_2) else if (1 : Int32) = (0 : Int32) then L_hB_X9_ends_2 p0 p2 p3 p4 p5 p6 f2 K n2 (l3_2 + (1 : Int32)) ma2_2 else if (ma2_2 ((0 : Int32) + l3_2).toNatClampNeg) = (-2 : Int32) then L_hB_X9_ends_2 p0 p2 p3 p4 p5 p6 f2 K n2 (l3_2 + (1 : Int32)) ma2_2 else ((e_hB_X9_isChild p4 (ma2_2 ((0 : Int32) + l3_2).toNatClampNeg)).bind fun z84 => if z84 = (0 : Int32) then (xix ((5 : Int32) + l3_2) 11 (L_hB_X9_ends_2 p0 p2 p3 p4 p5 p6 f2 K n2 (l3_2 + (1 : Int32)) (upd ma2_2 ((5 : Int32) + l3_2).toNatClampNeg (ma2_2 ((0 : Int32) + l3_2).toNatClampNeg)))) else L_hB_X9_ends_2 p0 p2 p3 p4 p5 p6 f2 K n2 (l3_2 + (1 : Int32)) ma2_2))))))
noncomputable def L_hB_X9_ends_153 (p0 : Int32) (p2 : Int32) (p3 : Int32) (p4 : (Nat → Int32)) (p5 : (Nat → Int32)) (p6 : (Nat → Int32))   (K : Int32 → (Nat → Int32) → Option ((Nat → Int32))) : Nat → Int32 → (Nat → Int32) → Option ((Nat → Int32))
  | 0, _, _ => none
  | n153 + 1, l3_153, ma2_153 => if p3 ≤ l3_153 then K l3_153 ma2_153 else (xix l3_153 6 (if (p4 l3_153.toNatClampNeg) = (2 : Int32) then ((e_hB_X9_forgets p0 ma2_153 p5 l3_153).bind fun z180 => L_hB_X9_ends_153 p0 p2 p3 p4 p5 p6  K n153 (l3_153 + (1 : Int32)) z180) else L_hB_X9_ends_153 p0 p2 p3 p4 p5 p6  K n153 (l3_153 + (1 : Int32)) ma2_153))
noncomputable def e_hB_X9_ends (p0 : Int32) (p1 : (Nat → Int32)) (p2 : Int32) (p3 : Int32) (p4 : (Nat → Int32)) (p5 : (Nat → Int32)) (p6 : (Nat → Int32)) (x2 : Int32) : Option ((Nat → Int32)) :=
  L_hB_X9_ends_2 p0 p2 p3 p4 p5 p6 x2 (fun l3_2 ma2_2 => if x2 = (0 : Int32) then if (30 : Int32) ≤ (ma2_2 (10 : Int32).toNatClampNeg) then if (ma2_2 (10 : Int32).toNatClampNeg) < p2 then L_hB_X9_ends_153 p0 p2 p3 p4 p5 p6  (fun l3_153 ma2_153 => some ma2_153) 200000 (0 : Int32) ma2_2 else ((e_hB_X9_lapses p0 p6 ma2_2).bind fun z148 => L_hB_X9_ends_153 p0 p2 p3 p4 p5 p6  (fun l3_153 ma2_153 => some ma2_153) 200000 (0 : Int32) z148) else if ((upd ma2_2 (10 : Int32).toNatClampNeg ((ma2_2 (10 : Int32).toNatClampNeg) + (1 : Int32))) (10 : Int32).toNatClampNeg) < p2 then L_hB_X9_ends_153 p0 p2 p3 p4 p5 p6  (fun l3_153 ma2_153 => some ma2_153) 200000 (0 : Int32) (upd ma2_2 (10 : Int32).toNatClampNeg ((ma2_2 (10 : Int32).toNatClampNeg) + (1 : Int32))) else ((e_hB_X9_lapses p0 p6 (upd ma2_2 (10 : Int32).toNatClampNeg ((ma2_2 (10 : Int32).toNatClampNeg) + (1 : Int32)))).bind fun z148 => L_hB_X9_ends_153 p0 p2 p3 p4 p5 p6  (fun l3_153 ma2_153 => some ma2_153) 200000 (0 : Int32) z148) else if ((upd ma2_2 (10 : Int32).toNatClampNeg (0 : Int32)) (10 : Int32).toNatClampNeg) < p2 then L_hB_X9_ends_153 p0 p2 p3 p4 p5 p6  (fun l3_153 ma2_153 => some ma2_153) 200000 (0 : Int32) (upd ma2_2 (10 : Int32).toNatClampNeg (0 : Int32)) else ((e_hB_X9_lapses p0 p6 (upd ma2_2 (10 : Int32).toNatClampNeg (0 : Int32))).bind fun z148 => L_hB_X9_ends_153 p0 p2 p3 p4 p5 p6  (fun l3_153 ma2_153 => some ma2_153) 200000 (0 : Int32) z148)) 200000 (0 : Int32) p1
set_option maxRecDepth 100000 in
set_option maxHeartbeats 4000000 in
theorem lp_hB_X9_ends_2 {g0 g1 g2 g3 g4 g5 g6 g7 g8 g9 g10 g11 g12 g13 g14 g15 g16 g17 g18 g19 g20 g21 g22 g23 g24 g25 g26 : Int32} {a0 a1 a3 a4 a5 a6 a7 a8 a9 a10 a11 a12 a13 a14 a15 a16 a17 a18 a19 a20 a21 a22 a23 : (Nat → Int32)} {b0 : (Nat → Int64)} {w0 : Int64} {rv : Value} (d n0 : Nat) (f2 : Int32) (res : (Nat → Int32)) (K : Int32 → (Nat → Int32) → Option ((Nat → Int32))) (hK : ∀ (l3_2 : Int32) (ma2_2 : (Nat → Int32)), K l3_2 ma2_2 = some res → xW xks YX9_ends (d + 3) 0 0 n0 (xZ 0 0 n0 none (hB g0 g1 g2 g3 g4 g5 g6 g7 g8 g9 g10 g11 g12 g13 g14 g15 g16 g17 g18 g19 g20 g21 g22 g23 g24 g25 g26 a0 a1 res a3 a4 a5 a6 a7 a8 a9 a10 a11 a12 a13 a14 a15 a16 a17 a18 a19 a20 a21 a22 a23 b0 w0 (.ref 11) rv)) 0 0 103 [some (.ref 0), some (.ref 3), some (.int f2), none, none, none] [] (hB g0 g1 g2 g3 g4 g5 g6 g7 g8 g9 g10 g11 g12 g13 g14 g15 g16 g17 g18 g19 g20 g21 g22 g23 g24 g25 g26 a0 a1 ma2_2 a3 a4 a5 a6 a7 a8 a9 a10 a11 a12 a13 a14 a15 a16 a17 a18 a19 a20 a21 a22 a23 b0 w0 (.ref 11) rv)) : ∀ (n : Nat) (l3_2 : Int32) (ma2_2 : (Nat → Int32)), L_hB_X9_ends_2 g23 g19 g22 a10 a12 a11 f2 K n l3_2 ma2_2 = some res → xW xks YX9_ends (d + 3) 0 0 n0 (xZ 0 0 n0 none (hB g0 g1 g2 g3 g4 g5 g6 g7 g8 g9 g10 g11 g12 g13 g14 g15 g16 g17 g18 g19 g20 g21 g22 g23 g24 g25 g26 a0 a1 res a3 a4 a5 a6 a7 a8 a9 a10 a11 a12 a13 a14 a15 a16 a17 a18 a19 a20 a21 a22 a23 b0 w0 (.ref 11) rv)) 0 0 2 [some (.ref 0), some (.ref 3), some (.int f2), some (.int l3_2), none, none] [] (hB g0 g1 g2 g3 g4 g5 g6 g7 g8 g9 g10 g11 g12 g13 g14 g15 g16 g17 g18 g19 g20 g21 g22 g23 g24 g25 g26 a0 a1 ma2_2 a3 a4 a5 a6 a7 a8 a9 a10 a11 a12 a13 a14 a15 a16 a17 a18 a19 a20 a21 a22 a23 b0 w0 (.ref 11) rv) := by
  intro n
  induction n with
  | zero =>
    intro l3_2 ma2_2 h
    cases (show (none : Option ((Nat → Int32))) = some res from h)
  | succ n2 ih2 =>
    intro l3_2 ma2_2 h
    unfold L_hB_X9_ends_2 at h
    refine x_iload_n dX9_ends_2 rfl ?_
    refine x_aload_n dX9_ends_3 rfl ?_
    refine x_get fX9_316 dX9_ends_4 rfl rfl rfl ?_
    refine x_get fX9_194 dX9_ends_7 rfl rfl rfl ?_
    refine x_icmp_ge 103 dX9_ends_10 (by decide) (fun q => ?_) (fun q => ?_)
    · have h := xif_t q h
      refine x_weak (pl2 := [some (.ref 0), some (.ref 3), some (.int f2), none, none, none]) ⟨rfl, rfl, rfl, trivial⟩ ?_
      exact hK l3_2 ma2_2 h
    · have h := xif_f q h
      refine x_aload_n dX9_ends_13 rfl ?_
      refine x_iconst (0 : Int32) dX9_ends_14 (by decide) ?_
      refine x_iload_n dX9_ends_15 rfl ?_
      refine x_iadd dX9_ends_16 ?_
      obtain ⟨q17, h⟩ := xix_of h
      refine x_iald dX9_ends_17 rfl q17 ?_
      refine x_istore (pl' := [some (.ref 0), some (.ref 3), some (.int f2), some (.int l3_2), some (.int (ma2_2 ((0 : Int32) + l3_2).toNatClampNeg)), none]) dX9_ends_18 (by decide) rfl ?_
      refine x_aload_n dX9_ends_20 rfl ?_
      refine x_get fX9_316 dX9_ends_21 rfl rfl rfl ?_
      refine x_get fX9_270 dX9_ends_24 rfl rfl rfl ?_
      refine x_iload_n dX9_ends_27 rfl ?_
      obtain ⟨q28, h⟩ := xix_of h
      refine x_iald dX9_ends_28 rfl q28 ?_
      refine x_iconst (3 : Int32) dX9_ends_29 (by decide) ?_
      refine x_icmp_ne 45 dX9_ends_30 (by decide) (fun q => ?_) (fun q => ?_)
      · have h := xif_f q h
        refine x_iload_n dX9_ends_45 rfl ?_
        refine x_if_eq 66 dX9_ends_46 (by decide) (fun q => ?_) (fun q => ?_)
        · have h := xif_t q h
          refine x_iconst (0 : Int32) dX9_ends_66 (by decide) ?_
          refine x_istore (pl' := [some (.ref 0), some (.ref 3), some (.int f2), some (.int l3_2), some (.int (ma2_2 ((0 : Int32) + l3_2).toNatClampNeg)), some (.int (0 : Int32))]) dX9_ends_67 (by decide) rfl ?_
          refine x_iload dX9_ends_69 rfl ?_
          refine x_if_eq 97 dX9_ends_71 (by decide) (fun q => ?_) (fun q => ?_)
          · have h := xif_t q h
            refine x_iincK (1 : Int32) (pl' := [some (.ref 0), some (.ref 3), some (.int f2), some (.int (l3_2 + (1 : Int32))), some (.int (ma2_2 ((0 : Int32) + l3_2).toNatClampNeg)), some (.int (0 : Int32))]) dX9_ends_97 rfl (by decide) (by decide) rfl ?_
            refine x_goto 2 dX9_ends_100 (by decide) ?_
            refine x_weak (pl2 := [some (.ref 0), some (.ref 3), some (.int f2), some (.int (l3_2 + (1 : Int32))), none, none]) ⟨rfl, rfl, rfl, rfl, trivial⟩ ?_
            exact ih2 (l3_2 + (1 : Int32)) ma2_2 h
          · have h := xif_f q h
            refine x_iload dX9_ends_74 rfl ?_
            refine x_bipush (-2 : Int32) dX9_ends_76 (by decide) ?_
            refine x_icmp_eq 97 dX9_ends_78 (by decide) (fun q => ?_) (fun q => ?_)
            · have h := xif_t q h
              refine x_iincK (1 : Int32) (pl' := [some (.ref 0), some (.ref 3), some (.int f2), some (.int (l3_2 + (1 : Int32))), some (.int (ma2_2 ((0 : Int32) + l3_2).toNatClampNeg)), some (.int (0 : Int32))]) dX9_ends_97 rfl (by decide) (by decide) rfl ?_
              refine x_goto 2 dX9_ends_100 (by decide) ?_
              refine x_weak (pl2 := [some (.ref 0), some (.ref 3), some (.int f2), some (.int (l3_2 + (1 : Int32))), none, none]) ⟨rfl, rfl, rfl, rfl, trivial⟩ ?_
              exact ih2 (l3_2 + (1 : Int32)) ma2_2 h
            · have h := xif_f q h
              refine x_aload_n dX9_ends_81 rfl ?_
              refine x_iload dX9_ends_82 rfl ?_
              obtain ⟨z84, y84, h⟩ := xbind h
              refine x_callV (t_hB_X9_isChild (ma2_2 ((0 : Int32) + l3_2).toNatClampNeg) z84 y84 (d + 1)) kX9_328 dX9_ends_84 rfl rfl rfl rfl rfl (Nat.le_of_ble_eq_true rfl) (Nat.le_of_ble_eq_true rfl) rfl rfl (Or.inl rfl) ?_
              refine x_if_ne 97 dX9_ends_87 (by decide) (fun q => ?_) (fun q => ?_)
              · have h := xif_f q h
                refine x_iincK (1 : Int32) (pl' := [some (.ref 0), some (.ref 3), some (.int f2), some (.int (l3_2 + (1 : Int32))), some (.int (ma2_2 ((0 : Int32) + l3_2).toNatClampNeg)), some (.int (0 : Int32))]) dX9_ends_97 rfl (by decide) (by decide) rfl ?_
                refine x_goto 2 dX9_ends_100 (by decide) ?_
                refine x_weak (pl2 := [some (.ref 0), some (.ref 3), some (.int f2), some (.int (l3_2 + (1 : Int32))), none, none]) ⟨rfl, rfl, rfl, rfl, trivial⟩ ?_
                exact ih2 (l3_2 + (1 : Int32)) ma2_2 h
              · have h := xif_t q h
                refine x_aload_n dX9_ends_90 rfl ?_
                refine x_iconst (5 : Int32) dX9_ends_91 (by decide) ?_
                refine x_iload_n dX9_ends_92 rfl ?_
                refine x_iadd dX9_ends_93 ?_
                refine x_iload dX9_ends_94 rfl ?_
                obtain ⟨q96, h⟩ := xix_of h
                refine x_iast (h2 := (hB g0 g1 g2 g3 g4 g5 g6 g7 g8 g9 g10 g11 g12 g13 g14 g15 g16 g17 g18 g19 g20 g21 g22 g23 g24 g25 g26 a0 a1 (upd ma2_2 ((5 : Int32) + l3_2).toNatClampNeg (ma2_2 ((0 : Int32) + l3_2).toNatClampNeg)) a3 a4 a5 a6 a7 a8 a9 a10 a11 a12 a13 a14 a15 a16 a17 a18 a19 a20 a21 a22 a23 b0 w0 (.ref 11) rv)) dX9_ends_96 rfl q96 rfl ?_
                refine x_iincK (1 : Int32) (pl' := [some (.ref 0), some (.ref 3), some (.int f2), some (.int (l3_2 + (1 : Int32))), some (.int (ma2_2 ((0 : Int32) + l3_2).toNatClampNeg)), some (.int (0 : Int32))]) dX9_ends_97 rfl (by decide) (by decide) rfl ?_
                refine x_goto 2 dX9_ends_100 (by decide) ?_
                refine x_weak (pl2 := [some (.ref 0), some (.ref 3), some (.int f2), some (.int (l3_2 + (1 : Int32))), none, none]) ⟨rfl, rfl, rfl, rfl, trivial⟩ ?_
                exact ih2 (l3_2 + (1 : Int32)) (upd ma2_2 ((5 : Int32) + l3_2).toNatClampNeg (ma2_2 ((0 : Int32) + l3_2).toNatClampNeg)) h
        · have h := xif_f q h
          refine x_aload_n dX9_ends_49 rfl ?_
          refine x_get fX9_316 dX9_ends_50 rfl rfl rfl ?_
          refine x_get fX9_270 dX9_ends_53 rfl rfl rfl ?_
          refine x_iload_n dX9_ends_56 rfl ?_
          obtain ⟨q57, h⟩ := xix_of h
          refine x_iald dX9_ends_57 rfl q57 ?_
          refine x_iconst (2 : Int32) dX9_ends_58 (by decide) ?_
          refine x_icmp_eq 66 dX9_ends_59 (by decide) (fun q => ?_) (fun q => ?_)
          · have h := xif_t q h
            refine x_iconst (0 : Int32) dX9_ends_66 (by decide) ?_
            refine x_istore (pl' := [some (.ref 0), some (.ref 3), some (.int f2), some (.int l3_2), some (.int (ma2_2 ((0 : Int32) + l3_2).toNatClampNeg)), some (.int (0 : Int32))]) dX9_ends_67 (by decide) rfl ?_
            refine x_iload dX9_ends_69 rfl ?_
            refine x_if_eq 97 dX9_ends_71 (by decide) (fun q => ?_) (fun q => ?_)
            · have h := xif_t q h
              refine x_iincK (1 : Int32) (pl' := [some (.ref 0), some (.ref 3), some (.int f2), some (.int (l3_2 + (1 : Int32))), some (.int (ma2_2 ((0 : Int32) + l3_2).toNatClampNeg)), some (.int (0 : Int32))]) dX9_ends_97 rfl (by decide) (by decide) rfl ?_
              refine x_goto 2 dX9_ends_100 (by decide) ?_
              refine x_weak (pl2 := [some (.ref 0), some (.ref 3), some (.int f2), some (.int (l3_2 + (1 : Int32))), none, none]) ⟨rfl, rfl, rfl, rfl, trivial⟩ ?_
              exact ih2 (l3_2 + (1 : Int32)) ma2_2 h
            · have h := xif_f q h
              refine x_iload dX9_ends_74 rfl ?_
              refine x_bipush (-2 : Int32) dX9_ends_76 (by decide) ?_
              refine x_icmp_eq 97 dX9_ends_78 (by decide) (fun q => ?_) (fun q => ?_)
              · have h := xif_t q h
                refine x_iincK (1 : Int32) (pl' := [some (.ref 0), some (.ref 3), some (.int f2), some (.int (l3_2 + (1 : Int32))), some (.int (ma2_2 ((0 : Int32) + l3_2).toNatClampNeg)), some (.int (0 : Int32))]) dX9_ends_97 rfl (by decide) (by decide) rfl ?_
                refine x_goto 2 dX9_ends_100 (by decide) ?_
                refine x_weak (pl2 := [some (.ref 0), some (.ref 3), some (.int f2), some (.int (l3_2 + (1 : Int32))), none, none]) ⟨rfl, rfl, rfl, rfl, trivial⟩ ?_
                exact ih2 (l3_2 + (1 : Int32)) ma2_2 h
              · have h := xif_f q h
                refine x_aload_n dX9_ends_81 rfl ?_
                refine x_iload dX9_ends_82 rfl ?_
                obtain ⟨z84, y84, h⟩ := xbind h
                refine x_callV (t_hB_X9_isChild (ma2_2 ((0 : Int32) + l3_2).toNatClampNeg) z84 y84 (d + 1)) kX9_328 dX9_ends_84 rfl rfl rfl rfl rfl (Nat.le_of_ble_eq_true rfl) (Nat.le_of_ble_eq_true rfl) rfl rfl (Or.inl rfl) ?_
                refine x_if_ne 97 dX9_ends_87 (by decide) (fun q => ?_) (fun q => ?_)
                · have h := xif_f q h
                  refine x_iincK (1 : Int32) (pl' := [some (.ref 0), some (.ref 3), some (.int f2), some (.int (l3_2 + (1 : Int32))), some (.int (ma2_2 ((0 : Int32) + l3_2).toNatClampNeg)), some (.int (0 : Int32))]) dX9_ends_97 rfl (by decide) (by decide) rfl ?_
                  refine x_goto 2 dX9_ends_100 (by decide) ?_
                  refine x_weak (pl2 := [some (.ref 0), some (.ref 3), some (.int f2), some (.int (l3_2 + (1 : Int32))), none, none]) ⟨rfl, rfl, rfl, rfl, trivial⟩ ?_
                  exact ih2 (l3_2 + (1 : Int32)) ma2_2 h
                · have h := xif_t q h
                  refine x_aload_n dX9_ends_90 rfl ?_
                  refine x_iconst (5 : Int32) dX9_ends_91 (by decide) ?_
                  refine x_iload_n dX9_ends_92 rfl ?_
                  refine x_iadd dX9_ends_93 ?_
                  refine x_iload dX9_ends_94 rfl ?_
                  obtain ⟨q96, h⟩ := xix_of h
                  refine x_iast (h2 := (hB g0 g1 g2 g3 g4 g5 g6 g7 g8 g9 g10 g11 g12 g13 g14 g15 g16 g17 g18 g19 g20 g21 g22 g23 g24 g25 g26 a0 a1 (upd ma2_2 ((5 : Int32) + l3_2).toNatClampNeg (ma2_2 ((0 : Int32) + l3_2).toNatClampNeg)) a3 a4 a5 a6 a7 a8 a9 a10 a11 a12 a13 a14 a15 a16 a17 a18 a19 a20 a21 a22 a23 b0 w0 (.ref 11) rv)) dX9_ends_96 rfl q96 rfl ?_
                  refine x_iincK (1 : Int32) (pl' := [some (.ref 0), some (.ref 3), some (.int f2), some (.int (l3_2 + (1 : Int32))), some (.int (ma2_2 ((0 : Int32) + l3_2).toNatClampNeg)), some (.int (0 : Int32))]) dX9_ends_97 rfl (by decide) (by decide) rfl ?_
                  refine x_goto 2 dX9_ends_100 (by decide) ?_
                  refine x_weak (pl2 := [some (.ref 0), some (.ref 3), some (.int f2), some (.int (l3_2 + (1 : Int32))), none, none]) ⟨rfl, rfl, rfl, rfl, trivial⟩ ?_
                  exact ih2 (l3_2 + (1 : Int32)) (upd ma2_2 ((5 : Int32) + l3_2).toNatClampNeg (ma2_2 ((0 : Int32) + l3_2).toNatClampNeg)) h
          · have h := xif_f q h
            refine x_iconst (1 : Int32) dX9_ends_62 (by decide) ?_
            refine x_goto 67 dX9_ends_63 (by decide) ?_
            refine x_istore (pl' := [some (.ref 0), some (.ref 3), some (.int f2), some (.int l3_2), some (.int (ma2_2 ((0 : Int32) + l3_2).toNatClampNeg)), some (.int (1 : Int32))]) dX9_ends_67 (by decide) rfl ?_
            refine x_iload dX9_ends_69 rfl ?_
            refine x_if_eq 97 dX9_ends_71 (by decide) (fun q => ?_) (fun q => ?_)
            · have h := xif_t q h
              refine x_iincK (1 : Int32) (pl' := [some (.ref 0), some (.ref 3), some (.int f2), some (.int (l3_2 + (1 : Int32))), some (.int (ma2_2 ((0 : Int32) + l3_2).toNatClampNeg)), some (.int (1 : Int32))]) dX9_ends_97 rfl (by decide) (by decide) rfl ?_
              refine x_goto 2 dX9_ends_100 (by decide) ?_
              refine x_weak (pl2 := [some (.ref 0), some (.ref 3), some (.int f2), some (.int (l3_2 + (1 : Int32))), none, none]) ⟨rfl, rfl, rfl, rfl, trivial⟩ ?_
              exact ih2 (l3_2 + (1 : Int32)) ma2_2 h
            · have h := xif_f q h
              refine x_iload dX9_ends_74 rfl ?_
              refine x_bipush (-2 : Int32) dX9_ends_76 (by decide) ?_
              refine x_icmp_eq 97 dX9_ends_78 (by decide) (fun q => ?_) (fun q => ?_)
              · have h := xif_t q h
                refine x_iincK (1 : Int32) (pl' := [some (.ref 0), some (.ref 3), some (.int f2), some (.int (l3_2 + (1 : Int32))), some (.int (ma2_2 ((0 : Int32) + l3_2).toNatClampNeg)), some (.int (1 : Int32))]) dX9_ends_97 rfl (by decide) (by decide) rfl ?_
                refine x_goto 2 dX9_ends_100 (by decide) ?_
                refine x_weak (pl2 := [some (.ref 0), some (.ref 3), some (.int f2), some (.int (l3_2 + (1 : Int32))), none, none]) ⟨rfl, rfl, rfl, rfl, trivial⟩ ?_
                exact ih2 (l3_2 + (1 : Int32)) ma2_2 h
              · have h := xif_f q h
                refine x_aload_n dX9_ends_81 rfl ?_
                refine x_iload dX9_ends_82 rfl ?_
                obtain ⟨z84, y84, h⟩ := xbind h
                refine x_callV (t_hB_X9_isChild (ma2_2 ((0 : Int32) + l3_2).toNatClampNeg) z84 y84 (d + 1)) kX9_328 dX9_ends_84 rfl rfl rfl rfl rfl (Nat.le_of_ble_eq_true rfl) (Nat.le_of_ble_eq_true rfl) rfl rfl (Or.inl rfl) ?_
                refine x_if_ne 97 dX9_ends_87 (by decide) (fun q => ?_) (fun q => ?_)
                · have h := xif_f q h
                  refine x_iincK (1 : Int32) (pl' := [some (.ref 0), some (.ref 3), some (.int f2), some (.int (l3_2 + (1 : Int32))), some (.int (ma2_2 ((0 : Int32) + l3_2).toNatClampNeg)), some (.int (1 : Int32))]) dX9_ends_97 rfl (by decide) (by decide) rfl ?_
                  refine x_goto 2 dX9_ends_100 (by decide) ?_
                  refine x_weak (pl2 := [some (.ref 0), some (.ref 3), some (.int f2), some (.int (l3_2 + (1 : Int32))), none, none]) ⟨rfl, rfl, rfl, rfl, trivial⟩ ?_
                  exact ih2 (l3_2 + (1 : Int32)) ma2_2 h
                · have h := xif_t q h
                  refine x_aload_n dX9_ends_90 rfl ?_
                  refine x_iconst (5 : Int32) dX9_ends_91 (by decide) ?_
                  refine x_iload_n dX9_ends_92 rfl ?_
                  refine x_iadd dX9_ends_93 ?_
                  refine x_iload dX9_ends_94 rfl ?_
                  obtain ⟨q96, h⟩ := xix_of h
                  refine x_iast (h2 := (hB g0 g1 g2 g3 g4 g5 g6 g7 g8 g9 g10 g11 g12 g13 g14 g15 g16 g17 g18 g19 g20 g21 g22 g23 g24 g25 g26 a0 a1 (upd ma2_2 ((5 : Int32) + l3_2).toNatClampNeg (ma2_2 ((0 : Int32) + l3_2).toNatClampNeg)) a3 a4 a5 a6 a7 a8 a9 a10 a11 a12 a13 a14 a15 a16 a17 a18 a19 a20 a21 a22 a23 b0 w0 (.ref 11) rv)) dX9_ends_96 rfl q96 rfl ?_
                  refine x_iincK (1 : Int32) (pl' := [some (.ref 0), some (.ref 3), some (.int f2), some (.int (l3_2 + (1 : Int32))), some (.int (ma2_2 ((0 : Int32) + l3_2).toNatClampNeg)), some (.int (1 : Int32))]) dX9_ends_97 rfl (by decide) (by decide) rfl ?_
                  refine x_goto 2 dX9_ends_100 (by decide) ?_
                  refine x_weak (pl2 := [some (.ref 0), some (.ref 3), some (.int f2), some (.int (l3_2 + (1 : Int32))), none, none]) ⟨rfl, rfl, rfl, rfl, trivial⟩ ?_
                  exact ih2 (l3_2 + (1 : Int32)) (upd ma2_2 ((5 : Int32) + l3_2).toNatClampNeg (ma2_2 ((0 : Int32) + l3_2).toNatClampNeg)) h
      · have h := xif_t q h
        refine x_iload_n dX9_ends_33 rfl ?_
        refine x_if_ne 41 dX9_ends_34 (by decide) (fun q => ?_) (fun q => ?_)
        · have h := xif_f q h
          refine x_iconst (0 : Int32) dX9_ends_41 (by decide) ?_
          refine x_goto 67 dX9_ends_42 (by decide) ?_
          refine x_istore (pl' := [some (.ref 0), some (.ref 3), some (.int f2), some (.int l3_2), some (.int (ma2_2 ((0 : Int32) + l3_2).toNatClampNeg)), some (.int (0 : Int32))]) dX9_ends_67 (by decide) rfl ?_
          refine x_iload dX9_ends_69 rfl ?_
          refine x_if_eq 97 dX9_ends_71 (by decide) (fun q => ?_) (fun q => ?_)
          · have h := xif_t q h
            refine x_iincK (1 : Int32) (pl' := [some (.ref 0), some (.ref 3), some (.int f2), some (.int (l3_2 + (1 : Int32))), some (.int (ma2_2 ((0 : Int32) + l3_2).toNatClampNeg)), some (.int (0 : Int32))]) dX9_ends_97 rfl (by decide) (by decide) rfl ?_
            refine x_goto 2 dX9_ends_100 (by decide) ?_
            refine x_weak (pl2 := [some (.ref 0), some (.ref 3), some (.int f2), some (.int (l3_2 + (1 : Int32))), none, none]) ⟨rfl, rfl, rfl, rfl, trivial⟩ ?_
            exact ih2 (l3_2 + (1 : Int32)) ma2_2 h
          · have h := xif_f q h
            refine x_iload dX9_ends_74 rfl ?_
            refine x_bipush (-2 : Int32) dX9_ends_76 (by decide) ?_
            refine x_icmp_eq 97 dX9_ends_78 (by decide) (fun q => ?_) (fun q => ?_)
            · have h := xif_t q h
              refine x_iincK (1 : Int32) (pl' := [some (.ref 0), some (.ref 3), some (.int f2), some (.int (l3_2 + (1 : Int32))), some (.int (ma2_2 ((0 : Int32) + l3_2).toNatClampNeg)), some (.int (0 : Int32))]) dX9_ends_97 rfl (by decide) (by decide) rfl ?_
              refine x_goto 2 dX9_ends_100 (by decide) ?_
              refine x_weak (pl2 := [some (.ref 0), some (.ref 3), some (.int f2), some (.int (l3_2 + (1 : Int32))), none, none]) ⟨rfl, rfl, rfl, rfl, trivial⟩ ?_
              exact ih2 (l3_2 + (1 : Int32)) ma2_2 h
            · have h := xif_f q h
              refine x_aload_n dX9_ends_81 rfl ?_
              refine x_iload dX9_ends_82 rfl ?_
              obtain ⟨z84, y84, h⟩ := xbind h
              refine x_callV (t_hB_X9_isChild (ma2_2 ((0 : Int32) + l3_2).toNatClampNeg) z84 y84 (d + 1)) kX9_328 dX9_ends_84 rfl rfl rfl rfl rfl (Nat.le_of_ble_eq_true rfl) (Nat.le_of_ble_eq_true rfl) rfl rfl (Or.inl rfl) ?_
              refine x_if_ne 97 dX9_ends_87 (by decide) (fun q => ?_) (fun q => ?_)
              · have h := xif_f q h
                refine x_iincK (1 : Int32) (pl' := [some (.ref 0), some (.ref 3), some (.int f2), some (.int (l3_2 + (1 : Int32))), some (.int (ma2_2 ((0 : Int32) + l3_2).toNatClampNeg)), some (.int (0 : Int32))]) dX9_ends_97 rfl (by decide) (by decide) rfl ?_
                refine x_goto 2 dX9_ends_100 (by decide) ?_
                refine x_weak (pl2 := [some (.ref 0), some (.ref 3), some (.int f2), some (.int (l3_2 + (1 : Int32))), none, none]) ⟨rfl, rfl, rfl, rfl, trivial⟩ ?_
                exact ih2 (l3_2 + (1 : Int32)) ma2_2 h
              · have h := xif_t q h
                refine x_aload_n dX9_ends_90 rfl ?_
                refine x_iconst (5 : Int32) dX9_ends_91 (by decide) ?_
                refine x_iload_n dX9_ends_92 rfl ?_
                refine x_iadd dX9_ends_93 ?_
                refine x_iload dX9_ends_94 rfl ?_
                obtain ⟨q96, h⟩ := xix_of h
                refine x_iast (h2 := (hB g0 g1 g2 g3 g4 g5 g6 g7 g8 g9 g10 g11 g12 g13 g14 g15 g16 g17 g18 g19 g20 g21 g22 g23 g24 g25 g26 a0 a1 (upd ma2_2 ((5 : Int32) + l3_2).toNatClampNeg (ma2_2 ((0 : Int32) + l3_2).toNatClampNeg)) a3 a4 a5 a6 a7 a8 a9 a10 a11 a12 a13 a14 a15 a16 a17 a18 a19 a20 a21 a22 a23 b0 w0 (.ref 11) rv)) dX9_ends_96 rfl q96 rfl ?_
                refine x_iincK (1 : Int32) (pl' := [some (.ref 0), some (.ref 3), some (.int f2), some (.int (l3_2 + (1 : Int32))), some (.int (ma2_2 ((0 : Int32) + l3_2).toNatClampNeg)), some (.int (0 : Int32))]) dX9_ends_97 rfl (by decide) (by decide) rfl ?_
                refine x_goto 2 dX9_ends_100 (by decide) ?_
                refine x_weak (pl2 := [some (.ref 0), some (.ref 3), some (.int f2), some (.int (l3_2 + (1 : Int32))), none, none]) ⟨rfl, rfl, rfl, rfl, trivial⟩ ?_
                exact ih2 (l3_2 + (1 : Int32)) (upd ma2_2 ((5 : Int32) + l3_2).toNatClampNeg (ma2_2 ((0 : Int32) + l3_2).toNatClampNeg)) h
        · have h := xif_t q h
          refine x_iconst (1 : Int32) dX9_ends_37 (by decide) ?_
          refine x_goto 67 dX9_ends_38 (by decide) ?_
          refine x_istore (pl' := [some (.ref 0), some (.ref 3), some (.int f2), some (.int l3_2), some (.int (ma2_2 ((0 : Int32) + l3_2).toNatClampNeg)), some (.int (1 : Int32))]) dX9_ends_67 (by decide) rfl ?_
          refine x_iload dX9_ends_69 rfl ?_
          refine x_if_eq 97 dX9_ends_71 (by decide) (fun q => ?_) (fun q => ?_)
          · have h := xif_t q h
            refine x_iincK (1 : Int32) (pl' := [some (.ref 0), some (.ref 3), some (.int f2), some (.int (l3_2 + (1 : Int32))), some (.int (ma2_2 ((0 : Int32) + l3_2).toNatClampNeg)), some (.int (1 : Int32))]) dX9_ends_97 rfl (by decide) (by decide) rfl ?_
            refine x_goto 2 dX9_ends_100 (by decide) ?_
            refine x_weak (pl2 := [some (.ref 0), some (.ref 3), some (.int f2), some (.int (l3_2 + (1 : Int32))), none, none]) ⟨rfl, rfl, rfl, rfl, trivial⟩ ?_
            exact ih2 (l3_2 + (1 : Int32)) ma2_2 h
          · have h := xif_f q h
            refine x_iload dX9_ends_74 rfl ?_
            refine x_bipush (-2 : Int32) dX9_ends_76 (by decide) ?_
            refine x_icmp_eq 97 dX9_ends_78 (by decide) (fun q => ?_) (fun q => ?_)
            · have h := xif_t q h
              refine x_iincK (1 : Int32) (pl' := [some (.ref 0), some (.ref 3), some (.int f2), some (.int (l3_2 + (1 : Int32))), some (.int (ma2_2 ((0 : Int32) + l3_2).toNatClampNeg)), some (.int (1 : Int32))]) dX9_ends_97 rfl (by decide) (by decide) rfl ?_
              refine x_goto 2 dX9_ends_100 (by decide) ?_
              refine x_weak (pl2 := [some (.ref 0), some (.ref 3), some (.int f2), some (.int (l3_2 + (1 : Int32))), none, none]) ⟨rfl, rfl, rfl, rfl, trivial⟩ ?_
              exact ih2 (l3_2 + (1 : Int32)) ma2_2 h
            · have h := xif_f q h
              refine x_aload_n dX9_ends_81 rfl ?_
              refine x_iload dX9_ends_82 rfl ?_
              obtain ⟨z84, y84, h⟩ := xbind h
              refine x_callV (t_hB_X9_isChild (ma2_2 ((0 : Int32) + l3_2).toNatClampNeg) z84 y84 (d + 1)) kX9_328 dX9_ends_84 rfl rfl rfl rfl rfl (Nat.le_of_ble_eq_true rfl) (Nat.le_of_ble_eq_true rfl) rfl rfl (Or.inl rfl) ?_
              refine x_if_ne 97 dX9_ends_87 (by decide) (fun q => ?_) (fun q => ?_)
              · have h := xif_f q h
                refine x_iincK (1 : Int32) (pl' := [some (.ref 0), some (.ref 3), some (.int f2), some (.int (l3_2 + (1 : Int32))), some (.int (ma2_2 ((0 : Int32) + l3_2).toNatClampNeg)), some (.int (1 : Int32))]) dX9_ends_97 rfl (by decide) (by decide) rfl ?_
                refine x_goto 2 dX9_ends_100 (by decide) ?_
                refine x_weak (pl2 := [some (.ref 0), some (.ref 3), some (.int f2), some (.int (l3_2 + (1 : Int32))), none, none]) ⟨rfl, rfl, rfl, rfl, trivial⟩ ?_
                exact ih2 (l3_2 + (1 : Int32)) ma2_2 h
              · have h := xif_t q h
                refine x_aload_n dX9_ends_90 rfl ?_
                refine x_iconst (5 : Int32) dX9_ends_91 (by decide) ?_
                refine x_iload_n dX9_ends_92 rfl ?_
                refine x_iadd dX9_ends_93 ?_
                refine x_iload dX9_ends_94 rfl ?_
                obtain ⟨q96, h⟩ := xix_of h
                refine x_iast (h2 := (hB g0 g1 g2 g3 g4 g5 g6 g7 g8 g9 g10 g11 g12 g13 g14 g15 g16 g17 g18 g19 g20 g21 g22 g23 g24 g25 g26 a0 a1 (upd ma2_2 ((5 : Int32) + l3_2).toNatClampNeg (ma2_2 ((0 : Int32) + l3_2).toNatClampNeg)) a3 a4 a5 a6 a7 a8 a9 a10 a11 a12 a13 a14 a15 a16 a17 a18 a19 a20 a21 a22 a23 b0 w0 (.ref 11) rv)) dX9_ends_96 rfl q96 rfl ?_
                refine x_iincK (1 : Int32) (pl' := [some (.ref 0), some (.ref 3), some (.int f2), some (.int (l3_2 + (1 : Int32))), some (.int (ma2_2 ((0 : Int32) + l3_2).toNatClampNeg)), some (.int (1 : Int32))]) dX9_ends_97 rfl (by decide) (by decide) rfl ?_
                refine x_goto 2 dX9_ends_100 (by decide) ?_
                refine x_weak (pl2 := [some (.ref 0), some (.ref 3), some (.int f2), some (.int (l3_2 + (1 : Int32))), none, none]) ⟨rfl, rfl, rfl, rfl, trivial⟩ ?_
                exact ih2 (l3_2 + (1 : Int32)) (upd ma2_2 ((5 : Int32) + l3_2).toNatClampNeg (ma2_2 ((0 : Int32) + l3_2).toNatClampNeg)) h
set_option maxRecDepth 100000 in
set_option maxHeartbeats 4000000 in
theorem lp_hB_X9_ends_153 {g0 g1 g2 g3 g4 g5 g6 g7 g8 g9 g10 g11 g12 g13 g14 g15 g16 g17 g18 g19 g20 g21 g22 g23 g24 g25 g26 : Int32} {a0 a1 a3 a4 a5 a6 a7 a8 a9 a10 a11 a12 a13 a14 a15 a16 a17 a18 a19 a20 a21 a22 a23 : (Nat → Int32)} {b0 : (Nat → Int64)} {w0 : Int64} {rv : Value} (d n0 : Nat)  (res : (Nat → Int32)) (K : Int32 → (Nat → Int32) → Option ((Nat → Int32))) (hK : ∀ (l3_153 : Int32) (ma2_153 : (Nat → Int32)), K l3_153 ma2_153 = some res → xW xks YX9_ends (d + 3) 0 0 n0 (xZ 0 0 n0 none (hB g0 g1 g2 g3 g4 g5 g6 g7 g8 g9 g10 g11 g12 g13 g14 g15 g16 g17 g18 g19 g20 g21 g22 g23 g24 g25 g26 a0 a1 res a3 a4 a5 a6 a7 a8 a9 a10 a11 a12 a13 a14 a15 a16 a17 a18 a19 a20 a21 a22 a23 b0 w0 (.ref 11) rv)) 0 0 189 [none, none, none, none, none, none] [] (hB g0 g1 g2 g3 g4 g5 g6 g7 g8 g9 g10 g11 g12 g13 g14 g15 g16 g17 g18 g19 g20 g21 g22 g23 g24 g25 g26 a0 a1 ma2_153 a3 a4 a5 a6 a7 a8 a9 a10 a11 a12 a13 a14 a15 a16 a17 a18 a19 a20 a21 a22 a23 b0 w0 (.ref 11) rv)) : ∀ (n : Nat) (l3_153 : Int32) (ma2_153 : (Nat → Int32)), L_hB_X9_ends_153 g23 g19 g22 a10 a12 a11  K n l3_153 ma2_153 = some res → xW xks YX9_ends (d + 3) 0 0 n0 (xZ 0 0 n0 none (hB g0 g1 g2 g3 g4 g5 g6 g7 g8 g9 g10 g11 g12 g13 g14 g15 g16 g17 g18 g19 g20 g21 g22 g23 g24 g25 g26 a0 a1 res a3 a4 a5 a6 a7 a8 a9 a10 a11 a12 a13 a14 a15 a16 a17 a18 a19 a20 a21 a22 a23 b0 w0 (.ref 11) rv)) 0 0 153 [some (.ref 0), some (.ref 3), none, some (.int l3_153), none, none] [] (hB g0 g1 g2 g3 g4 g5 g6 g7 g8 g9 g10 g11 g12 g13 g14 g15 g16 g17 g18 g19 g20 g21 g22 g23 g24 g25 g26 a0 a1 ma2_153 a3 a4 a5 a6 a7 a8 a9 a10 a11 a12 a13 a14 a15 a16 a17 a18 a19 a20 a21 a22 a23 b0 w0 (.ref 11) rv) := by
  intro n
  induction n with
  | zero =>
    intro l3_153 ma2_153 h
    cases (show (none : Option ((Nat → Int32))) = some res from h)
  | succ n153 ih153 =>
    intro l3_153 ma2_153 h
    unfold L_hB_X9_ends_153 at h
    refine x_iload_n dX9_ends_153 rfl ?_
    refine x_aload_n dX9_ends_154 rfl ?_
    refine x_get fX9_316 dX9_ends_155 rfl rfl rfl ?_
    refine x_get fX9_191 dX9_ends_158 rfl rfl rfl ?_
    refine x_icmp_ge 189 dX9_ends_161 (by decide) (fun q => ?_) (fun q => ?_)
    · have h := xif_t q h
      refine x_weak (pl2 := [none, none, none, none, none, none]) trivial ?_
      exact hK l3_153 ma2_153 h
    · have h := xif_f q h
      refine x_aload_n dX9_ends_164 rfl ?_
      refine x_get fX9_316 dX9_ends_165 rfl rfl rfl ?_
      refine x_get fX9_251 dX9_ends_168 rfl rfl rfl ?_
      refine x_iload_n dX9_ends_171 rfl ?_
      obtain ⟨q172, h⟩ := xix_of h
      refine x_iald dX9_ends_172 rfl q172 ?_
      refine x_iconst (2 : Int32) dX9_ends_173 (by decide) ?_
      refine x_icmp_ne 183 dX9_ends_174 (by decide) (fun q => ?_) (fun q => ?_)
      · have h := xif_f q h
        refine x_iincK (1 : Int32) (pl' := [some (.ref 0), some (.ref 3), none, some (.int (l3_153 + (1 : Int32))), none, none]) dX9_ends_183 rfl (by decide) (by decide) rfl ?_
        refine x_goto 153 dX9_ends_186 (by decide) ?_
        refine x_weak (pl2 := [some (.ref 0), some (.ref 3), none, some (.int (l3_153 + (1 : Int32))), none, none]) ⟨rfl, rfl, rfl, trivial⟩ ?_
        exact ih153 (l3_153 + (1 : Int32)) ma2_153 h
      · have h := xif_t q h
        refine x_aload_n dX9_ends_177 rfl ?_
        refine x_aload_n dX9_ends_178 rfl ?_
        refine x_iload_n dX9_ends_179 rfl ?_
        obtain ⟨z180, y180, h⟩ := xbind h
        refine x_callV (t_hB_X9_forgets l3_153 z180 y180 (d + 0)) kX9_334 dX9_ends_180 rfl rfl rfl rfl rfl (Nat.le_of_ble_eq_true rfl) (Nat.le_of_ble_eq_true rfl) rfl rfl (Or.inl rfl) ?_
        refine x_iincK (1 : Int32) (pl' := [some (.ref 0), some (.ref 3), none, some (.int (l3_153 + (1 : Int32))), none, none]) dX9_ends_183 rfl (by decide) (by decide) rfl ?_
        refine x_goto 153 dX9_ends_186 (by decide) ?_
        refine x_weak (pl2 := [some (.ref 0), some (.ref 3), none, some (.int (l3_153 + (1 : Int32))), none, none]) ⟨rfl, rfl, rfl, trivial⟩ ?_
        exact ih153 (l3_153 + (1 : Int32)) z180 h
set_option maxRecDepth 100000 in
set_option maxHeartbeats 4000000 in
theorem t_hB_X9_ends {g0 g1 g2 g3 g4 g5 g6 g7 g8 g9 g10 g11 g12 g13 g14 g15 g16 g17 g18 g19 g20 g21 g22 g23 g24 g25 g26 : Int32} {a0 a1 a2 a3 a4 a5 a6 a7 a8 a9 a10 a11 a12 a13 a14 a15 a16 a17 a18 a19 a20 a21 a22 a23 : (Nat → Int32)} {b0 : (Nat → Int64)} {w0 : Int64} {rv : Value} (x2 : Int32) (res : (Nat → Int32)) (h : e_hB_X9_ends g23 a2 g19 g22 a10 a12 a11 x2 = some res) (d : Nat) : xMet xks YX9_ends (d + 3) 0 0 [.ref 0, .ref 3, .int x2] (hB g0 g1 g2 g3 g4 g5 g6 g7 g8 g9 g10 g11 g12 g13 g14 g15 g16 g17 g18 g19 g20 g21 g22 g23 g24 g25 g26 a0 a1 a2 a3 a4 a5 a6 a7 a8 a9 a10 a11 a12 a13 a14 a15 a16 a17 a18 a19 a20 a21 a22 a23 b0 w0 (.ref 11) rv) none (hB g0 g1 g2 g3 g4 g5 g6 g7 g8 g9 g10 g11 g12 g13 g14 g15 g16 g17 g18 g19 g20 g21 g22 g23 g24 g25 g26 a0 a1 res a3 a4 a5 a6 a7 a8 a9 a10 a11 a12 a13 a14 a15 a16 a17 a18 a19 a20 a21 a22 a23 b0 w0 (.ref 11) rv) := by
  unfold e_hB_X9_ends at h
  refine xMet_of (pl := [some (.ref 0), some (.ref 3), some (.int x2), none, none, none]) (by decide) (Nat.le_of_ble_eq_true rfl) rfl (Nat.le_of_ble_eq_true rfl) ?_
  refine x_iconst (0 : Int32) dX9_ends_0 (by decide) ?_
  refine x_istore_n (pl' := [some (.ref 0), some (.ref 3), some (.int x2), some (.int (0 : Int32)), none, none]) dX9_ends_1 (by decide) rfl ?_
  refine x_weak (pl2 := [some (.ref 0), some (.ref 3), some (.int x2), some (.int (0 : Int32)), none, none]) ⟨rfl, rfl, rfl, rfl, trivial⟩ ?_
  refine lp_hB_X9_ends_2 d _ x2 res _ (fun l3_2 ma2_2 h => ?_) 200000 (0 : Int32) a2 h
  refine x_iload_n dX9_ends_103 rfl ?_
  refine x_if_eq 115 dX9_ends_104 (by decide) (fun q => ?_) (fun q => ?_)
  · have h := xif_t q h
    refine x_aload_n dX9_ends_115 rfl ?_
    refine x_bipush (10 : Int32) dX9_ends_116 (by decide) ?_
    refine x_iald dX9_ends_118 rfl (show vp_in _ _ from (by decide : ¬ ((10 : Int32) < 0 ∨ 11 ≤ (10 : Int32).toNatClampNeg))) ?_
    refine x_bipush (30 : Int32) dX9_ends_119 (by decide) ?_
    refine x_icmp_ge 132 dX9_ends_121 (by decide) (fun q => ?_) (fun q => ?_)
    · have h := xif_t q h
      refine x_aload_n dX9_ends_132 rfl ?_
      refine x_bipush (10 : Int32) dX9_ends_133 (by decide) ?_
      refine x_iald dX9_ends_135 rfl (show vp_in _ _ from (by decide : ¬ ((10 : Int32) < 0 ∨ 11 ≤ (10 : Int32).toNatClampNeg))) ?_
      refine x_aload_n dX9_ends_136 rfl ?_
      refine x_get fX9_316 dX9_ends_137 rfl rfl rfl ?_
      refine x_get fX9_156 dX9_ends_140 rfl rfl rfl ?_
      refine x_icmp_lt 151 dX9_ends_143 (by decide) (fun q => ?_) (fun q => ?_)
      · have h := xif_t q h
        refine x_iconst (0 : Int32) dX9_ends_151 (by decide) ?_
        refine x_istore_n (pl' := [some (.ref 0), some (.ref 3), some (.int x2), some (.int (0 : Int32)), none, none]) dX9_ends_152 (by decide) rfl ?_
        refine x_weak (pl2 := [some (.ref 0), some (.ref 3), none, some (.int (0 : Int32)), none, none]) ⟨rfl, rfl, rfl, trivial⟩ ?_
        refine lp_hB_X9_ends_153 d _  res _ (fun l3_153 ma2_153 h => ?_) 200000 (0 : Int32) ma2_2 h
        cases h
        exact x_vret2 dX9_ends_189 rfl rfl
      · have h := xif_f q h
        refine x_aload_n dX9_ends_146 rfl ?_
        refine x_aload_n dX9_ends_147 rfl ?_
        obtain ⟨z148, y148, h⟩ := xbind h
        refine x_callV (t_hB_X9_lapses  z148 y148 (d + 1)) kX9_331 dX9_ends_148 rfl rfl rfl rfl rfl (Nat.le_of_ble_eq_true rfl) (Nat.le_of_ble_eq_true rfl) rfl rfl (Or.inl rfl) ?_
        refine x_iconst (0 : Int32) dX9_ends_151 (by decide) ?_
        refine x_istore_n (pl' := [some (.ref 0), some (.ref 3), some (.int x2), some (.int (0 : Int32)), none, none]) dX9_ends_152 (by decide) rfl ?_
        refine x_weak (pl2 := [some (.ref 0), some (.ref 3), none, some (.int (0 : Int32)), none, none]) ⟨rfl, rfl, rfl, trivial⟩ ?_
        refine lp_hB_X9_ends_153 d _  res _ (fun l3_153 ma2_153 h => ?_) 200000 (0 : Int32) z148 h
        cases h
        exact x_vret2 dX9_ends_189 rfl rfl
    · have h := xif_f q h
      refine x_aload_n dX9_ends_124 rfl ?_
      refine x_bipush (10 : Int32) dX9_ends_125 (by decide) ?_
      refine x_dup2 dX9_ends_127 rfl rfl ?_
      refine x_iald dX9_ends_128 rfl (show vp_in _ _ from (by decide : ¬ ((10 : Int32) < 0 ∨ 11 ≤ (10 : Int32).toNatClampNeg))) ?_
      refine x_iconst (1 : Int32) dX9_ends_129 (by decide) ?_
      refine x_iadd dX9_ends_130 ?_
      refine x_iast (h2 := (hB g0 g1 g2 g3 g4 g5 g6 g7 g8 g9 g10 g11 g12 g13 g14 g15 g16 g17 g18 g19 g20 g21 g22 g23 g24 g25 g26 a0 a1 (upd ma2_2 (10 : Int32).toNatClampNeg ((ma2_2 (10 : Int32).toNatClampNeg) + (1 : Int32))) a3 a4 a5 a6 a7 a8 a9 a10 a11 a12 a13 a14 a15 a16 a17 a18 a19 a20 a21 a22 a23 b0 w0 (.ref 11) rv)) dX9_ends_131 rfl (show vp_in _ _ from (by decide : ¬ ((10 : Int32) < 0 ∨ 11 ≤ (10 : Int32).toNatClampNeg))) rfl ?_
      refine x_aload_n dX9_ends_132 rfl ?_
      refine x_bipush (10 : Int32) dX9_ends_133 (by decide) ?_
      refine x_iald dX9_ends_135 rfl (show vp_in _ _ from (by decide : ¬ ((10 : Int32) < 0 ∨ 11 ≤ (10 : Int32).toNatClampNeg))) ?_
      refine x_aload_n dX9_ends_136 rfl ?_
      refine x_get fX9_316 dX9_ends_137 rfl rfl rfl ?_
      refine x_get fX9_156 dX9_ends_140 rfl rfl rfl ?_
      refine x_icmp_lt 151 dX9_ends_143 (by decide) (fun q => ?_) (fun q => ?_)
      · have h := xif_t q h
        refine x_iconst (0 : Int32) dX9_ends_151 (by decide) ?_
        refine x_istore_n (pl' := [some (.ref 0), some (.ref 3), some (.int x2), some (.int (0 : Int32)), none, none]) dX9_ends_152 (by decide) rfl ?_
        refine x_weak (pl2 := [some (.ref 0), some (.ref 3), none, some (.int (0 : Int32)), none, none]) ⟨rfl, rfl, rfl, trivial⟩ ?_
        refine lp_hB_X9_ends_153 d _  res _ (fun l3_153 ma2_153 h => ?_) 200000 (0 : Int32) (upd ma2_2 (10 : Int32).toNatClampNeg ((ma2_2 (10 : Int32).toNatClampNeg) + (1 : Int32))) h
        cases h
        exact x_vret2 dX9_ends_189 rfl rfl
      · have h := xif_f q h
        refine x_aload_n dX9_ends_146 rfl ?_
        refine x_aload_n dX9_ends_147 rfl ?_
        obtain ⟨z148, y148, h⟩ := xbind h
        refine x_callV (t_hB_X9_lapses  z148 y148 (d + 1)) kX9_331 dX9_ends_148 rfl rfl rfl rfl rfl (Nat.le_of_ble_eq_true rfl) (Nat.le_of_ble_eq_true rfl) rfl rfl (Or.inl rfl) ?_
        refine x_iconst (0 : Int32) dX9_ends_151 (by decide) ?_
        refine x_istore_n (pl' := [some (.ref 0), some (.ref 3), some (.int x2), some (.int (0 : Int32)), none, none]) dX9_ends_152 (by decide) rfl ?_
        refine x_weak (pl2 := [some (.ref 0), some (.ref 3), none, some (.int (0 : Int32)), none, none]) ⟨rfl, rfl, rfl, trivial⟩ ?_
        refine lp_hB_X9_ends_153 d _  res _ (fun l3_153 ma2_153 h => ?_) 200000 (0 : Int32) z148 h
        cases h
        exact x_vret2 dX9_ends_189 rfl rfl
  · have h := xif_f q h
    refine x_aload_n dX9_ends_107 rfl ?_
    refine x_bipush (10 : Int32) dX9_ends_108 (by decide) ?_
    refine x_iconst (0 : Int32) dX9_ends_110 (by decide) ?_
    refine x_iast (h2 := (hB g0 g1 g2 g3 g4 g5 g6 g7 g8 g9 g10 g11 g12 g13 g14 g15 g16 g17 g18 g19 g20 g21 g22 g23 g24 g25 g26 a0 a1 (upd ma2_2 (10 : Int32).toNatClampNeg (0 : Int32)) a3 a4 a5 a6 a7 a8 a9 a10 a11 a12 a13 a14 a15 a16 a17 a18 a19 a20 a21 a22 a23 b0 w0 (.ref 11) rv)) dX9_ends_111 rfl (show vp_in _ _ from (by decide : ¬ ((10 : Int32) < 0 ∨ 11 ≤ (10 : Int32).toNatClampNeg))) rfl ?_
    refine x_goto 132 dX9_ends_112 (by decide) ?_
    refine x_aload_n dX9_ends_132 rfl ?_
    refine x_bipush (10 : Int32) dX9_ends_133 (by decide) ?_
    refine x_iald dX9_ends_135 rfl (show vp_in _ _ from (by decide : ¬ ((10 : Int32) < 0 ∨ 11 ≤ (10 : Int32).toNatClampNeg))) ?_
    refine x_aload_n dX9_ends_136 rfl ?_
    refine x_get fX9_316 dX9_ends_137 rfl rfl rfl ?_
    refine x_get fX9_156 dX9_ends_140 rfl rfl rfl ?_
    refine x_icmp_lt 151 dX9_ends_143 (by decide) (fun q => ?_) (fun q => ?_)
    · have h := xif_t q h
      refine x_iconst (0 : Int32) dX9_ends_151 (by decide) ?_
      refine x_istore_n (pl' := [some (.ref 0), some (.ref 3), some (.int x2), some (.int (0 : Int32)), none, none]) dX9_ends_152 (by decide) rfl ?_
      refine x_weak (pl2 := [some (.ref 0), some (.ref 3), none, some (.int (0 : Int32)), none, none]) ⟨rfl, rfl, rfl, trivial⟩ ?_
      refine lp_hB_X9_ends_153 d _  res _ (fun l3_153 ma2_153 h => ?_) 200000 (0 : Int32) (upd ma2_2 (10 : Int32).toNatClampNeg (0 : Int32)) h
      cases h
      exact x_vret2 dX9_ends_189 rfl rfl
    · have h := xif_f q h
      refine x_aload_n dX9_ends_146 rfl ?_
      refine x_aload_n dX9_ends_147 rfl ?_
      obtain ⟨z148, y148, h⟩ := xbind h
      refine x_callV (t_hB_X9_lapses  z148 y148 (d + 1)) kX9_331 dX9_ends_148 rfl rfl rfl rfl rfl (Nat.le_of_ble_eq_true rfl) (Nat.le_of_ble_eq_true rfl) rfl rfl (Or.inl rfl) ?_
      refine x_iconst (0 : Int32) dX9_ends_151 (by decide) ?_
      refine x_istore_n (pl' := [some (.ref 0), some (.ref 3), some (.int x2), some (.int (0 : Int32)), none, none]) dX9_ends_152 (by decide) rfl ?_
      refine x_weak (pl2 := [some (.ref 0), some (.ref 3), none, some (.int (0 : Int32)), none, none]) ⟨rfl, rfl, rfl, trivial⟩ ?_
      refine lp_hB_X9_ends_153 d _  res _ (fun l3_153 ma2_153 h => ?_) 200000 (0 : Int32) z148 h
      cases h
      exact x_vret2 dX9_ends_189 rfl rfl
noncomputable def e_hB_X9_goesBy (p0 : Int32) (p1 : (Nat → Int32)) (p2 : (Nat → Int32)) (p3 : (Nat → Int32)) (p4 : (Nat → Int32)) (p5 : (Nat → Int32)) (p6 : Int32) (p7 : Int32) (p8 : Int32) (p9 : (Nat → Int32)) (p10 : (Nat → Int32)) (p11 : (Nat → Int32)) (x1 : Int32) : Option ((Nat → Int32)) :=
  ((e_hB_X9_happens p0 p1 p2 p3 p4 p5 x1).bind fun z7 => (e_hB_X9_ends p6 z7.2 p7 p8 p9 p10 p11 z7.1).bind fun z10 => some z10)
set_option maxRecDepth 100000 in
set_option maxHeartbeats 4000000 in
theorem t_hB_X9_goesBy {g0 g1 g2 g3 g4 g5 g6 g7 g8 g9 g10 g11 g12 g13 g14 g15 g16 g17 g18 g19 g20 g21 g22 g23 g24 g25 g26 : Int32} {a0 a1 a2 a3 a4 a5 a6 a7 a8 a9 a10 a11 a12 a13 a14 a15 a16 a17 a18 a19 a20 a21 a22 a23 : (Nat → Int32)} {b0 : (Nat → Int64)} {w0 : Int64} {rv : Value} (x1 : Int32) (res : (Nat → Int32)) (h : e_hB_X9_goesBy g24 a18 a16 a15 a17 a2 g23 g19 g22 a10 a12 a11 x1 = some res) (d : Nat) : xMet xks YX9_goesBy (d + 4) 0 0 [.ref 0, .int x1] (hB g0 g1 g2 g3 g4 g5 g6 g7 g8 g9 g10 g11 g12 g13 g14 g15 g16 g17 g18 g19 g20 g21 g22 g23 g24 g25 g26 a0 a1 a2 a3 a4 a5 a6 a7 a8 a9 a10 a11 a12 a13 a14 a15 a16 a17 a18 a19 a20 a21 a22 a23 b0 w0 (.ref 11) rv) none (hB g0 g1 g2 g3 g4 g5 g6 g7 g8 g9 g10 g11 g12 g13 g14 g15 g16 g17 g18 g19 g20 g21 g22 g23 g24 g25 g26 a0 a1 res a3 a4 a5 a6 a7 a8 a9 a10 a11 a12 a13 a14 a15 a16 a17 a18 a19 a20 a21 a22 a23 b0 w0 (.ref 11) rv) := by
  unfold e_hB_X9_goesBy at h
  refine xMet_of (pl := [some (.ref 0), some (.int x1)]) (by decide) (Nat.le_of_ble_eq_true rfl) rfl (Nat.le_of_ble_eq_true rfl) ?_
  refine x_aload_n dX9_goesBy_0 rfl ?_
  refine x_aload_n dX9_goesBy_1 rfl ?_
  refine x_get fX9_21 dX9_goesBy_2 rfl rfl rfl ?_
  refine x_aload_n dX9_goesBy_5 rfl ?_
  refine x_iload_n dX9_goesBy_6 rfl ?_
  obtain ⟨z7, y7, h⟩ := xbind h
  refine x_callV (t_hB_X9_happens x1 z7 y7 (d + 1)) kX9_349 dX9_goesBy_7 rfl rfl rfl rfl rfl (Nat.le_of_ble_eq_true rfl) (Nat.le_of_ble_eq_true rfl) rfl rfl (Or.inl rfl) ?_
  obtain ⟨z10, y10, h⟩ := xbind h
  refine x_callV (t_hB_X9_ends z7.1 z10 y10 (d + 0)) kX9_352 dX9_goesBy_10 rfl rfl rfl rfl rfl (Nat.le_of_ble_eq_true rfl) (Nat.le_of_ble_eq_true rfl) rfl rfl (Or.inl rfl) ?_
  cases h
  exact x_vret2 dX9_goesBy_13 rfl rfl
noncomputable def L_hB_X9_behind_10 (p1 : Int32) (p2 : (Nat → Int32)) (p3 : (Nat → Int32)) (p4 : (Nat → Int32)) (p5 : Int32) (p6 : (Nat → Int32)) (p7 : (Nat → Int32)) (p8 : (Nat → Int32)) (p9 : (Nat → Int32)) (p10 : Int32) (p11 : Int32) (p12 : (Nat → Int32))  (f1 : Int32) (K : Int32 → (Nat → Int32) → Option ((Nat → Int32))) : Nat → Int32 → (Nat → Int32) → Option ((Nat → Int32))
  | 0, _, _ => none
  | n10 + 1, l2_10, ma2_10 => if f1 < l2_10 then K l2_10 ma2_10 else ((e_hB_X9_goesBy p5 p6 p7 p8 p9 ma2_10 p1 p10 p11 p3 p12 p2 l2_10).bind fun z17 => L_hB_X9_behind_10 p1 p2 p3 p4 p5 p6 p7 p8 p9 p10 p11 p12 f1 K n10 (l2_10 + (1 : Int32)) z17)
noncomputable def e_hB_X9_behind (p0 : (Nat → Int32)) (p1 : Int32) (p2 : (Nat → Int32)) (p3 : (Nat → Int32)) (p4 : (Nat → Int32)) (p5 : Int32) (p6 : (Nat → Int32)) (p7 : (Nat → Int32)) (p8 : (Nat → Int32)) (p9 : (Nat → Int32)) (p10 : Int32) (p11 : Int32) (p12 : (Nat → Int32)) (x1 : Int32) : Option ((Nat → Int32)) :=
  ((e_hB_X9_starts p0 p1 p2 p3 p4).bind fun z5 => L_hB_X9_behind_10 p1 p2 p3 p4 p5 p6 p7 p8 p9 p10 p11 p12 x1 (fun l2_10 ma2_10 => some ma2_10) 200000 (0 : Int32) z5)
set_option maxRecDepth 100000 in
set_option maxHeartbeats 4000000 in
theorem lp_hB_X9_behind_10 {g0 g1 g2 g3 g4 g5 g6 g7 g8 g9 g10 g11 g12 g13 g14 g15 g16 g17 g18 g19 g20 g21 g22 g23 g24 g25 g26 : Int32} {a0 a1 a3 a4 a5 a6 a7 a8 a9 a10 a11 a12 a13 a14 a15 a16 a17 a18 a19 a20 a21 a22 a23 : (Nat → Int32)} {b0 : (Nat → Int64)} {w0 : Int64} {rv : Value} (d n0 : Nat) (f1 : Int32) (res : (Nat → Int32)) (K : Int32 → (Nat → Int32) → Option ((Nat → Int32))) (hK : ∀ (l2_10 : Int32) (ma2_10 : (Nat → Int32)), K l2_10 ma2_10 = some res → xW xks YX9_behind (d + 5) 0 0 n0 (xZ 0 0 n0 none (hB g0 g1 g2 g3 g4 g5 g6 g7 g8 g9 g10 g11 g12 g13 g14 g15 g16 g17 g18 g19 g20 g21 g22 g23 g24 g25 g26 a0 a1 res a3 a4 a5 a6 a7 a8 a9 a10 a11 a12 a13 a14 a15 a16 a17 a18 a19 a20 a21 a22 a23 b0 w0 (.ref 11) rv)) 0 0 26 [none, none, none] [] (hB g0 g1 g2 g3 g4 g5 g6 g7 g8 g9 g10 g11 g12 g13 g14 g15 g16 g17 g18 g19 g20 g21 g22 g23 g24 g25 g26 a0 a1 ma2_10 a3 a4 a5 a6 a7 a8 a9 a10 a11 a12 a13 a14 a15 a16 a17 a18 a19 a20 a21 a22 a23 b0 w0 (.ref 11) rv)) : ∀ (n : Nat) (l2_10 : Int32) (ma2_10 : (Nat → Int32)), L_hB_X9_behind_10 g23 a11 a10 a14 g24 a18 a16 a15 a17 g19 g22 a12 f1 K n l2_10 ma2_10 = some res → xW xks YX9_behind (d + 5) 0 0 n0 (xZ 0 0 n0 none (hB g0 g1 g2 g3 g4 g5 g6 g7 g8 g9 g10 g11 g12 g13 g14 g15 g16 g17 g18 g19 g20 g21 g22 g23 g24 g25 g26 a0 a1 res a3 a4 a5 a6 a7 a8 a9 a10 a11 a12 a13 a14 a15 a16 a17 a18 a19 a20 a21 a22 a23 b0 w0 (.ref 11) rv)) 0 0 10 [some (.ref 0), some (.int f1), some (.int l2_10)] [] (hB g0 g1 g2 g3 g4 g5 g6 g7 g8 g9 g10 g11 g12 g13 g14 g15 g16 g17 g18 g19 g20 g21 g22 g23 g24 g25 g26 a0 a1 ma2_10 a3 a4 a5 a6 a7 a8 a9 a10 a11 a12 a13 a14 a15 a16 a17 a18 a19 a20 a21 a22 a23 b0 w0 (.ref 11) rv) := by
  intro n
  induction n with
  | zero =>
    intro l2_10 ma2_10 h
    cases (show (none : Option ((Nat → Int32))) = some res from h)
  | succ n10 ih10 =>
    intro l2_10 ma2_10 h
    unfold L_hB_X9_behind_10 at h
    refine x_iload_n dX9_behind_10 rfl ?_
    refine x_iload_n dX9_behind_11 rfl ?_
    refine x_icmp_gt 26 dX9_behind_12 (by decide) (fun q => ?_) (fun q => ?_)
    · have h := xif_t q h
      refine x_weak (pl2 := [none, none, none]) trivial ?_
      exact hK l2_10 ma2_10 h
    · have h := xif_f q h
      refine x_aload_n dX9_behind_15 rfl ?_
      refine x_iload_n dX9_behind_16 rfl ?_
      obtain ⟨z17, y17, h⟩ := xbind h
      refine x_callV (t_hB_X9_goesBy l2_10 z17 y17 (d + 0)) kX9_356 dX9_behind_17 rfl rfl rfl rfl rfl (Nat.le_of_ble_eq_true rfl) (Nat.le_of_ble_eq_true rfl) rfl rfl (Or.inl rfl) ?_
      refine x_iincK (1 : Int32) (pl' := [some (.ref 0), some (.int f1), some (.int (l2_10 + (1 : Int32)))]) dX9_behind_20 rfl (by decide) (by decide) rfl ?_
      refine x_goto 10 dX9_behind_23 (by decide) ?_
      refine x_weak (pl2 := [some (.ref 0), some (.int f1), some (.int (l2_10 + (1 : Int32)))]) ⟨rfl, rfl, rfl, trivial⟩ ?_
      exact ih10 (l2_10 + (1 : Int32)) z17 h
set_option maxRecDepth 100000 in
set_option maxHeartbeats 4000000 in
theorem t_hB_X9_behind {g0 g1 g2 g3 g4 g5 g6 g7 g8 g9 g10 g11 g12 g13 g14 g15 g16 g17 g18 g19 g20 g21 g22 g23 g24 g25 g26 : Int32} {a0 a1 a2 a3 a4 a5 a6 a7 a8 a9 a10 a11 a12 a13 a14 a15 a16 a17 a18 a19 a20 a21 a22 a23 : (Nat → Int32)} {b0 : (Nat → Int64)} {w0 : Int64} {rv : Value} (x1 : Int32) (res : (Nat → Int32)) (h : e_hB_X9_behind a2 g23 a11 a10 a14 g24 a18 a16 a15 a17 g19 g22 a12 x1 = some res) (d : Nat) : xMet xks YX9_behind (d + 5) 0 0 [.ref 0, .int x1] (hB g0 g1 g2 g3 g4 g5 g6 g7 g8 g9 g10 g11 g12 g13 g14 g15 g16 g17 g18 g19 g20 g21 g22 g23 g24 g25 g26 a0 a1 a2 a3 a4 a5 a6 a7 a8 a9 a10 a11 a12 a13 a14 a15 a16 a17 a18 a19 a20 a21 a22 a23 b0 w0 (.ref 11) rv) none (hB g0 g1 g2 g3 g4 g5 g6 g7 g8 g9 g10 g11 g12 g13 g14 g15 g16 g17 g18 g19 g20 g21 g22 g23 g24 g25 g26 a0 a1 res a3 a4 a5 a6 a7 a8 a9 a10 a11 a12 a13 a14 a15 a16 a17 a18 a19 a20 a21 a22 a23 b0 w0 (.ref 11) rv) := by
  unfold e_hB_X9_behind at h
  refine xMet_of (pl := [some (.ref 0), some (.int x1), none]) (by decide) (Nat.le_of_ble_eq_true rfl) rfl (Nat.le_of_ble_eq_true rfl) ?_
  refine x_aload_n dX9_behind_0 rfl ?_
  refine x_aload_n dX9_behind_1 rfl ?_
  refine x_get fX9_21 dX9_behind_2 rfl rfl rfl ?_
  obtain ⟨z5, y5, h⟩ := xbind h
  refine x_callV (t_hB_X9_starts  z5 y5 (d + 2)) kX9_318 dX9_behind_5 rfl rfl rfl rfl rfl (Nat.le_of_ble_eq_true rfl) (Nat.le_of_ble_eq_true rfl) rfl rfl (Or.inl rfl) ?_
  refine x_iconst (0 : Int32) dX9_behind_8 (by decide) ?_
  refine x_istore_n (pl' := [some (.ref 0), some (.int x1), some (.int (0 : Int32))]) dX9_behind_9 (by decide) rfl ?_
  refine x_weak (pl2 := [some (.ref 0), some (.int x1), some (.int (0 : Int32))]) ⟨rfl, rfl, rfl, trivial⟩ ?_
  refine lp_hB_X9_behind_10 d _ x1 res _ (fun l2_10 ma2_10 h => ?_) 200000 (0 : Int32) z5 h
  cases h
  exact x_vret2 dX9_behind_26 rfl rfl
noncomputable def e_hB_X9_asks (p0 : (Nat → Int32)) (p1 : Int32) (p2 : (Nat → Int32)) (p3 : (Nat → Int32)) (p4 : (Nat → Int32)) (p5 : Int32) (p6 : (Nat → Int32)) (p7 : (Nat → Int32)) (p8 : (Nat → Int32)) (p9 : (Nat → Int32)) (p10 : Int32) (p11 : Int32) (p12 : (Nat → Int32)) (x1 : Int32) (x2 : Int32) : Option (Int32 × (Nat → Int32)) :=
  if x1 = (0 : Int32) then some ((1 : Int32), p0) else ((e_hB_X9_in x2 (0 : Int32) (40 : Int32)).bind fun z10 => if z10 = (0 : Int32) then some ((2 : Int32), p0) else ((e_hB_X9_behind p0 p1 p2 p3 p4 p5 p6 p7 p8 p9 p10 p11 p12 x2).bind fun z20 => some ((0 : Int32), z20)))
set_option maxRecDepth 100000 in
set_option maxHeartbeats 4000000 in
theorem t_hB_X9_asks {g0 g1 g2 g3 g4 g5 g6 g7 g8 g9 g10 g11 g12 g13 g14 g15 g16 g17 g18 g19 g20 g21 g22 g23 g24 g25 g26 : Int32} {a0 a1 a2 a3 a4 a5 a6 a7 a8 a9 a10 a11 a12 a13 a14 a15 a16 a17 a18 a19 a20 a21 a22 a23 : (Nat → Int32)} {b0 : (Nat → Int64)} {w0 : Int64} {rv : Value} (x1 : Int32) (x2 : Int32) (res : Int32 × (Nat → Int32)) (h : e_hB_X9_asks a2 g23 a11 a10 a14 g24 a18 a16 a15 a17 g19 g22 a12 x1 x2 = some res) (d : Nat) : xMet xks YX9_asks (d + 6) 0 0 [.ref 0, .int x1, .int x2] (hB g0 g1 g2 g3 g4 g5 g6 g7 g8 g9 g10 g11 g12 g13 g14 g15 g16 g17 g18 g19 g20 g21 g22 g23 g24 g25 g26 a0 a1 a2 a3 a4 a5 a6 a7 a8 a9 a10 a11 a12 a13 a14 a15 a16 a17 a18 a19 a20 a21 a22 a23 b0 w0 (.ref 11) rv) (some (.int res.1)) (hB g0 g1 g2 g3 g4 g5 g6 g7 g8 g9 g10 g11 g12 g13 g14 g15 g16 g17 g18 g19 g20 g21 g22 g23 g24 g25 g26 a0 a1 res.2 a3 a4 a5 a6 a7 a8 a9 a10 a11 a12 a13 a14 a15 a16 a17 a18 a19 a20 a21 a22 a23 b0 w0 (.ref 11) rv) := by
  unfold e_hB_X9_asks at h
  refine xMet_of (pl := [some (.ref 0), some (.int x1), some (.int x2)]) (by decide) (Nat.le_of_ble_eq_true rfl) rfl (Nat.le_of_ble_eq_true rfl) ?_
  refine x_iload_n dX9_asks_0 rfl ?_
  refine x_if_ne 6 dX9_asks_1 (by decide) (fun q => ?_) (fun q => ?_)
  · have h := xif_f q h
    refine x_iload_n dX9_asks_6 rfl ?_
    refine x_iconst (0 : Int32) dX9_asks_7 (by decide) ?_
    refine x_bipush (40 : Int32) dX9_asks_8 (by decide) ?_
    obtain ⟨z10, y10, h⟩ := xbind h
    refine x_callS (t_hB_X9_in x2 (0 : Int32) (40 : Int32) z10 y10 (d + 4)) kX9_124 dX9_asks_10 rfl rfl (Nat.le_of_ble_eq_true rfl) (Nat.le_of_ble_eq_true rfl) rfl rfl (Or.inl rfl) ?_
    refine x_if_ne 18 dX9_asks_13 (by decide) (fun q => ?_) (fun q => ?_)
    · have h := xif_f q h
      refine x_aload_n dX9_asks_18 rfl ?_
      refine x_iload_n dX9_asks_19 rfl ?_
      obtain ⟨z20, y20, h⟩ := xbind h
      refine x_callV (t_hB_X9_behind x2 z20 y20 (d + 0)) kX9_376 dX9_asks_20 rfl rfl rfl rfl rfl (Nat.le_of_ble_eq_true rfl) (Nat.le_of_ble_eq_true rfl) rfl rfl (Or.inl rfl) ?_
      refine x_iconst (0 : Int32) dX9_asks_23 (by decide) ?_
      cases h
      exact x_iret2 dX9_asks_24 rfl rfl
    · have h := xif_t q h
      refine x_iconst (2 : Int32) dX9_asks_16 (by decide) ?_
      cases h
      exact x_iret2 dX9_asks_17 rfl rfl
  · have h := xif_t q h
    refine x_iconst (1 : Int32) dX9_asks_4 (by decide) ?_
    cases h
    exact x_iret2 dX9_asks_5 rfl rfl
noncomputable def e_hB_X9_hasIt (p0 : Int32) (p1 : Int32) (p2 : (Nat → Int32)) (p3 : (Nat → Int32)) (p4 : (Nat → Int32)) (p5 : (Nat → Int32)) (p6 : Int32) (p7 : (Nat → Int32)) (p8 : (Nat → Int32)) (p9 : (Nat → Int32)) (p10 : (Nat → Int32)) (p11 : Int32) (p12 : Int32) (p13 : (Nat → Int32)) (p14 : Int32) (p15 : Int32) (x1 : Int32) (x2 : Int32) : Option (Int32 × Int32 × (Nat → Int32) × Int32 × Int32) :=
  ((e_hB_X9_isUmbrella p1 x1).bind fun z8 => (e_hB_X9_asks p2 p1 p3 p4 p5 p6 p7 p8 p9 p10 p11 p12 p13 z8 x2).bind fun z12 => if z12.1 ≤ (0 : Int32) then (xix ((0 : Int32) + x1) 11 ((e_hB_X9_good p14 p15 (z12.2 ((0 : Int32) + x1).toNatClampNeg)).bind fun z37 => some (z37.1, (0 : Int32), z12.2, z37.2.1, z37.2.2))) else ((e_hB_X9_refused p14 p15 z12.1).bind fun z22 => some (z22.1, (0 : Int32), z12.2, z22.2.1, z22.2.2)))
set_option maxRecDepth 100000 in
set_option maxHeartbeats 4000000 in
theorem t_hB_X9_hasIt {g0 g1 g2 g3 g4 g5 g6 g7 g8 g9 g10 g11 g12 g13 g14 g15 g16 g17 g18 g19 g20 g21 g22 g23 g24 g25 g26 : Int32} {a0 a1 a2 a3 a4 a5 a6 a7 a8 a9 a10 a11 a12 a13 a14 a15 a16 a17 a18 a19 a20 a21 a22 a23 : (Nat → Int32)} {b0 : (Nat → Int64)} {w0 : Int64} {rv : Value} (x1 : Int32) (x2 : Int32) (res : Int32 × Int32 × (Nat → Int32) × Int32 × Int32) (h : e_hB_X9_hasIt g0 g23 a2 a11 a10 a14 g24 a18 a16 a15 a17 g19 g22 a12 g1 g2 x1 x2 = some res) (d : Nat) : xMet xks YX9_hasIt (d + 7) 0 0 [.ref 0, .int x1, .int x2] (hB g0 g1 g2 g3 g4 g5 g6 g7 g8 g9 g10 g11 g12 g13 g14 g15 g16 g17 g18 g19 g20 g21 g22 g23 g24 g25 g26 a0 a1 a2 a3 a4 a5 a6 a7 a8 a9 a10 a11 a12 a13 a14 a15 a16 a17 a18 a19 a20 a21 a22 a23 b0 w0 (.ref 11) rv) (some (.int res.1)) (hB res.2.1 res.2.2.2.1 res.2.2.2.2 g3 g4 g5 g6 g7 g8 g9 g10 g11 g12 g13 g14 g15 g16 g17 g18 g19 g20 g21 g22 g23 g24 g25 g26 a0 a1 res.2.2.1 a3 a4 a5 a6 a7 a8 a9 a10 a11 a12 a13 a14 a15 a16 a17 a18 a19 a20 a21 a22 a23 b0 w0 (.ref 11) rv) := by
  unfold e_hB_X9_hasIt at h
  refine xMet_of (pl := [some (.ref 0), some (.int x1), some (.int x2), none]) (by decide) (Nat.le_of_ble_eq_true rfl) rfl (Nat.le_of_ble_eq_true rfl) ?_
  refine x_aload_n dX9_hasIt_0 rfl ?_
  refine x_iconst (0 : Int32) dX9_hasIt_1 (by decide) ?_
  refine x_put (h2 := (hB (0 : Int32) g1 g2 g3 g4 g5 g6 g7 g8 g9 g10 g11 g12 g13 g14 g15 g16 g17 g18 g19 g20 g21 g22 g23 g24 g25 g26 a0 a1 a2 a3 a4 a5 a6 a7 a8 a9 a10 a11 a12 a13 a14 a15 a16 a17 a18 a19 a20 a21 a22 a23 b0 w0 (.ref 11) rv)) fX9_45 dX9_hasIt_2 rfl rfl (Nat.le_of_ble_eq_true rfl : 0 + 1 ≤ _) (fun α => ⟨rfl, rfl⟩) rfl ?_
  refine x_aload_n dX9_hasIt_5 rfl ?_
  refine x_aload_n dX9_hasIt_6 rfl ?_
  refine x_iload_n dX9_hasIt_7 rfl ?_
  obtain ⟨z8, y8, h⟩ := xbind h
  refine x_callV (t_hB_X9_isUmbrella x1 z8 y8 (d + 5)) kX9_359 dX9_hasIt_8 rfl rfl rfl rfl rfl (Nat.le_of_ble_eq_true rfl) (Nat.le_of_ble_eq_true rfl) rfl rfl (Or.inl rfl) ?_
  refine x_iload_n dX9_hasIt_11 rfl ?_
  obtain ⟨z12, y12, h⟩ := xbind h
  refine x_callV (t_hB_X9_asks z8 x2 z12 y12 (d + 0)) kX9_379 dX9_hasIt_12 rfl rfl rfl rfl rfl (Nat.le_of_ble_eq_true rfl) (Nat.le_of_ble_eq_true rfl) rfl rfl (Or.inl rfl) ?_
  refine x_istore_n (pl' := [some (.ref 0), some (.int x1), some (.int x2), some (.int z12.1)]) dX9_hasIt_15 (by decide) rfl ?_
  refine x_iload_n dX9_hasIt_16 rfl ?_
  refine x_if_le 28 dX9_hasIt_17 (by decide) (fun q => ?_) (fun q => ?_)
  · have h := xif_t q h
    refine x_aload_n dX9_hasIt_28 rfl ?_
    refine x_aload_n dX9_hasIt_29 rfl ?_
    refine x_get fX9_21 dX9_hasIt_30 rfl rfl rfl ?_
    refine x_iconst (0 : Int32) dX9_hasIt_33 (by decide) ?_
    refine x_iload_n dX9_hasIt_34 rfl ?_
    refine x_iadd dX9_hasIt_35 ?_
    obtain ⟨q36, h⟩ := xix_of h
    refine x_iald dX9_hasIt_36 rfl q36 ?_
    obtain ⟨z37, y37, h⟩ := xbind h
    refine x_callV (t_hB_X9_good (z12.2 ((0 : Int32) + x1).toNatClampNeg) z37 y37 (d + 5)) kX9_55 dX9_hasIt_37 rfl rfl rfl rfl rfl (Nat.le_of_ble_eq_true rfl) (Nat.le_of_ble_eq_true rfl) rfl rfl (Or.inl rfl) ?_
    cases h
    exact x_iret2 dX9_hasIt_40 rfl rfl
  · have h := xif_f q h
    refine x_aload_n dX9_hasIt_20 rfl ?_
    refine x_iload_n dX9_hasIt_21 rfl ?_
    obtain ⟨z22, y22, h⟩ := xbind h
    refine x_callV (t_hB_X9_refused z12.1 z22 y22 (d + 5)) kX9_51 dX9_hasIt_22 rfl rfl rfl rfl rfl (Nat.le_of_ble_eq_true rfl) (Nat.le_of_ble_eq_true rfl) rfl rfl (Or.inl rfl) ?_
    refine x_goto 40 dX9_hasIt_25 (by decide) ?_
    cases h
    exact x_iret2 dX9_hasIt_40 rfl rfl
noncomputable def e_hB_X9_titleOf (p0 : Int32) (p1 : Int32) (p2 : (Nat → Int32)) (p3 : (Nat → Int32)) (p4 : (Nat → Int32)) (p5 : (Nat → Int32)) (p6 : Int32) (p7 : (Nat → Int32)) (p8 : (Nat → Int32)) (p9 : (Nat → Int32)) (p10 : (Nat → Int32)) (p11 : Int32) (p12 : Int32) (p13 : (Nat → Int32)) (p14 : Int32) (p15 : Int32) (x1 : Int32) (x2 : Int32) : Option (Int32 × Int32 × (Nat → Int32) × Int32 × Int32) :=
  ((e_hB_X9_isUmbrella p1 x1).bind fun z8 => (e_hB_X9_asks p2 p1 p3 p4 p5 p6 p7 p8 p9 p10 p11 p12 p13 z8 x2).bind fun z12 => if z12.1 ≤ (0 : Int32) then (xix ((5 : Int32) + x1) 11 ((e_hB_X9_good p14 p15 (z12.2 ((5 : Int32) + x1).toNatClampNeg)).bind fun z37 => some (z37.1, (0 : Int32), z12.2, z37.2.1, z37.2.2))) else ((e_hB_X9_refused p14 p15 z12.1).bind fun z22 => some (z22.1, (0 : Int32), z12.2, z22.2.1, z22.2.2)))
set_option maxRecDepth 100000 in
set_option maxHeartbeats 4000000 in
theorem t_hB_X9_titleOf {g0 g1 g2 g3 g4 g5 g6 g7 g8 g9 g10 g11 g12 g13 g14 g15 g16 g17 g18 g19 g20 g21 g22 g23 g24 g25 g26 : Int32} {a0 a1 a2 a3 a4 a5 a6 a7 a8 a9 a10 a11 a12 a13 a14 a15 a16 a17 a18 a19 a20 a21 a22 a23 : (Nat → Int32)} {b0 : (Nat → Int64)} {w0 : Int64} {rv : Value} (x1 : Int32) (x2 : Int32) (res : Int32 × Int32 × (Nat → Int32) × Int32 × Int32) (h : e_hB_X9_titleOf g0 g23 a2 a11 a10 a14 g24 a18 a16 a15 a17 g19 g22 a12 g1 g2 x1 x2 = some res) (d : Nat) : xMet xks YX9_titleOf (d + 7) 0 0 [.ref 0, .int x1, .int x2] (hB g0 g1 g2 g3 g4 g5 g6 g7 g8 g9 g10 g11 g12 g13 g14 g15 g16 g17 g18 g19 g20 g21 g22 g23 g24 g25 g26 a0 a1 a2 a3 a4 a5 a6 a7 a8 a9 a10 a11 a12 a13 a14 a15 a16 a17 a18 a19 a20 a21 a22 a23 b0 w0 (.ref 11) rv) (some (.int res.1)) (hB res.2.1 res.2.2.2.1 res.2.2.2.2 g3 g4 g5 g6 g7 g8 g9 g10 g11 g12 g13 g14 g15 g16 g17 g18 g19 g20 g21 g22 g23 g24 g25 g26 a0 a1 res.2.2.1 a3 a4 a5 a6 a7 a8 a9 a10 a11 a12 a13 a14 a15 a16 a17 a18 a19 a20 a21 a22 a23 b0 w0 (.ref 11) rv) := by
  unfold e_hB_X9_titleOf at h
  refine xMet_of (pl := [some (.ref 0), some (.int x1), some (.int x2), none]) (by decide) (Nat.le_of_ble_eq_true rfl) rfl (Nat.le_of_ble_eq_true rfl) ?_
  refine x_aload_n dX9_titleOf_0 rfl ?_
  refine x_iconst (0 : Int32) dX9_titleOf_1 (by decide) ?_
  refine x_put (h2 := (hB (0 : Int32) g1 g2 g3 g4 g5 g6 g7 g8 g9 g10 g11 g12 g13 g14 g15 g16 g17 g18 g19 g20 g21 g22 g23 g24 g25 g26 a0 a1 a2 a3 a4 a5 a6 a7 a8 a9 a10 a11 a12 a13 a14 a15 a16 a17 a18 a19 a20 a21 a22 a23 b0 w0 (.ref 11) rv)) fX9_45 dX9_titleOf_2 rfl rfl (Nat.le_of_ble_eq_true rfl : 0 + 1 ≤ _) (fun α => ⟨rfl, rfl⟩) rfl ?_
  refine x_aload_n dX9_titleOf_5 rfl ?_
  refine x_aload_n dX9_titleOf_6 rfl ?_
  refine x_iload_n dX9_titleOf_7 rfl ?_
  obtain ⟨z8, y8, h⟩ := xbind h
  refine x_callV (t_hB_X9_isUmbrella x1 z8 y8 (d + 5)) kX9_359 dX9_titleOf_8 rfl rfl rfl rfl rfl (Nat.le_of_ble_eq_true rfl) (Nat.le_of_ble_eq_true rfl) rfl rfl (Or.inl rfl) ?_
  refine x_iload_n dX9_titleOf_11 rfl ?_
  obtain ⟨z12, y12, h⟩ := xbind h
  refine x_callV (t_hB_X9_asks z8 x2 z12 y12 (d + 0)) kX9_379 dX9_titleOf_12 rfl rfl rfl rfl rfl (Nat.le_of_ble_eq_true rfl) (Nat.le_of_ble_eq_true rfl) rfl rfl (Or.inl rfl) ?_
  refine x_istore_n (pl' := [some (.ref 0), some (.int x1), some (.int x2), some (.int z12.1)]) dX9_titleOf_15 (by decide) rfl ?_
  refine x_iload_n dX9_titleOf_16 rfl ?_
  refine x_if_le 28 dX9_titleOf_17 (by decide) (fun q => ?_) (fun q => ?_)
  · have h := xif_t q h
    refine x_aload_n dX9_titleOf_28 rfl ?_
    refine x_aload_n dX9_titleOf_29 rfl ?_
    refine x_get fX9_21 dX9_titleOf_30 rfl rfl rfl ?_
    refine x_iconst (5 : Int32) dX9_titleOf_33 (by decide) ?_
    refine x_iload_n dX9_titleOf_34 rfl ?_
    refine x_iadd dX9_titleOf_35 ?_
    obtain ⟨q36, h⟩ := xix_of h
    refine x_iald dX9_titleOf_36 rfl q36 ?_
    obtain ⟨z37, y37, h⟩ := xbind h
    refine x_callV (t_hB_X9_good (z12.2 ((5 : Int32) + x1).toNatClampNeg) z37 y37 (d + 5)) kX9_55 dX9_titleOf_37 rfl rfl rfl rfl rfl (Nat.le_of_ble_eq_true rfl) (Nat.le_of_ble_eq_true rfl) rfl rfl (Or.inl rfl) ?_
    cases h
    exact x_iret2 dX9_titleOf_40 rfl rfl
  · have h := xif_f q h
    refine x_aload_n dX9_titleOf_20 rfl ?_
    refine x_iload_n dX9_titleOf_21 rfl ?_
    obtain ⟨z22, y22, h⟩ := xbind h
    refine x_callV (t_hB_X9_refused z12.1 z22 y22 (d + 5)) kX9_51 dX9_titleOf_22 rfl rfl rfl rfl rfl (Nat.le_of_ble_eq_true rfl) (Nat.le_of_ble_eq_true rfl) rfl rfl (Or.inl rfl) ?_
    refine x_goto 40 dX9_titleOf_25 (by decide) ?_
    cases h
    exact x_iret2 dX9_titleOf_40 rfl rfl
set_option maxRecDepth 100000 in
set_option maxHeartbeats 4000000 in
theorem lp_hB_X9_landsIn_2_5 {g0 g1 g2 g3 g4 g5 g6 g7 g8 g9 g10 g11 g12 g13 g14 g15 g16 g17 g18 g19 g20 g21 g22 g23 g24 g25 g26 : Int32} {a0 a1 a2 a3 a4 a5 a6 a7 a8 a9 a10 a11 a12 a13 a14 a15 a16 a17 a18 a19 a20 a21 a22 a23 : (Nat → Int32)} {b0 : (Nat → Int64)} {w0 : Int64} {rv : Value} (d n0 : Nat) (f2 : Int32) (res : Int32) (K : Int32 → Int32 → Option (Int32)) (hK : ∀ (l3_5 : Int32) (l4_5 : Int32), K l3_5 l4_5 = some res → xW xks YX9_landsIn (d + 1) 0 0 n0 (xZ 0 0 n0 (some (.int res)) (hB g0 g1 g2 g3 g4 g5 g6 g7 g8 g9 g10 g11 g12 g13 g14 g15 g16 g17 g18 g19 g20 g21 g22 g23 g24 g25 g26 a0 a1 a2 a3 a4 a5 a6 a7 a8 a9 a10 a11 a12 a13 a14 a15 a16 a17 a18 a19 a20 a21 a22 a23 b0 w0 (.ref 11) rv)) 0 0 50 [none, none, none, some (.int l3_5), none] [] (hB g0 g1 g2 g3 g4 g5 g6 g7 g8 g9 g10 g11 g12 g13 g14 g15 g16 g17 g18 g19 g20 g21 g22 g23 g24 g25 g26 a0 a1 a2 a3 a4 a5 a6 a7 a8 a9 a10 a11 a12 a13 a14 a15 a16 a17 a18 a19 a20 a21 a22 a23 b0 w0 (.ref 11) rv)) : ∀ (n : Nat) (l3_5 : Int32) (l4_5 : Int32), L_hB_X9_landsIn_5 g23 a2 a12 f2 K n l3_5 l4_5 = some res → xW xks YX9_landsIn (d + 1) 0 0 n0 (xZ 0 0 n0 (some (.int res)) (hB g0 g1 g2 g3 g4 g5 g6 g7 g8 g9 g10 g11 g12 g13 g14 g15 g16 g17 g18 g19 g20 g21 g22 g23 g24 g25 g26 a0 a1 a2 a3 a4 a5 a6 a7 a8 a9 a10 a11 a12 a13 a14 a15 a16 a17 a18 a19 a20 a21 a22 a23 b0 w0 (.ref 11) rv)) 0 0 5 [some (.ref 0), some (.ref 3), some (.int f2), some (.int l3_5), some (.int l4_5)] [] (hB g0 g1 g2 g3 g4 g5 g6 g7 g8 g9 g10 g11 g12 g13 g14 g15 g16 g17 g18 g19 g20 g21 g22 g23 g24 g25 g26 a0 a1 a2 a3 a4 a5 a6 a7 a8 a9 a10 a11 a12 a13 a14 a15 a16 a17 a18 a19 a20 a21 a22 a23 b0 w0 (.ref 11) rv) := by
  intro n
  induction n with
  | zero =>
    intro l3_5 l4_5 h
    cases (show (none : Option (Int32)) = some res from h)
  | succ n5 ih5 =>
    intro l3_5 l4_5 h
    unfold L_hB_X9_landsIn_5 at h
    refine x_iload dX9_landsIn_5 rfl ?_
    refine x_aload_n dX9_landsIn_7 rfl ?_
    refine x_get fX9_316 dX9_landsIn_8 rfl rfl rfl ?_
    refine x_get fX9_194 dX9_landsIn_11 rfl rfl rfl ?_
    refine x_icmp_ge 50 dX9_landsIn_14 (by decide) (fun q => ?_) (fun q => ?_)
    · have h := xif_t q h
      refine x_weak (pl2 := [none, none, none, some (.int l3_5), none]) ⟨rfl, trivial⟩ ?_
      exact hK l3_5 l4_5 h
    · have h := xif_f q h
      refine x_iload_n dX9_landsIn_17 rfl ?_
      refine x_aload_n dX9_landsIn_18 rfl ?_
      refine x_iconst (5 : Int32) dX9_landsIn_19 (by decide) ?_
      refine x_iload dX9_landsIn_20 rfl ?_
      refine x_iadd dX9_landsIn_22 ?_
      obtain ⟨q23, h⟩ := xix_of h
      refine x_iald dX9_landsIn_23 rfl q23 ?_
      refine x_iload_n dX9_landsIn_24 rfl ?_
      refine x_icmp_ne 41 dX9_landsIn_25 (by decide) (fun q => ?_) (fun q => ?_)
      · have h := xif_f q h
        refine x_iconst (0 : Int32) dX9_landsIn_41 (by decide) ?_
        refine x_iadd dX9_landsIn_42 ?_
        refine x_istore_n (pl' := [some (.ref 0), some (.ref 3), some (.int f2), some (.int (l3_5 + (0 : Int32))), some (.int l4_5)]) dX9_landsIn_43 (by decide) rfl ?_
        refine x_iincK (1 : Int32) (pl' := [some (.ref 0), some (.ref 3), some (.int f2), some (.int (l3_5 + (0 : Int32))), some (.int (l4_5 + (1 : Int32)))]) dX9_landsIn_44 rfl (by decide) (by decide) rfl ?_
        refine x_goto 5 dX9_landsIn_47 (by decide) ?_
        refine x_weak (pl2 := [some (.ref 0), some (.ref 3), some (.int f2), some (.int (l3_5 + (0 : Int32))), some (.int (l4_5 + (1 : Int32)))]) ⟨rfl, rfl, rfl, rfl, rfl, trivial⟩ ?_
        exact ih5 (l3_5 + (0 : Int32)) (l4_5 + (1 : Int32)) h
      · have h := xif_t q h
        refine x_aload_n dX9_landsIn_28 rfl ?_
        refine x_get fX9_316 dX9_landsIn_29 rfl rfl rfl ?_
        refine x_get fX9_273 dX9_landsIn_32 rfl rfl rfl ?_
        refine x_iload dX9_landsIn_35 rfl ?_
        obtain ⟨q37, h⟩ := xix_of h
        refine x_iald dX9_landsIn_37 rfl q37 ?_
        refine x_goto 42 dX9_landsIn_38 (by decide) ?_
        refine x_iadd dX9_landsIn_42 ?_
        refine x_istore_n (pl' := [some (.ref 0), some (.ref 3), some (.int f2), some (.int (l3_5 + (a12 l4_5.toNatClampNeg))), some (.int l4_5)]) dX9_landsIn_43 (by decide) rfl ?_
        refine x_iincK (1 : Int32) (pl' := [some (.ref 0), some (.ref 3), some (.int f2), some (.int (l3_5 + (a12 l4_5.toNatClampNeg))), some (.int (l4_5 + (1 : Int32)))]) dX9_landsIn_44 rfl (by decide) (by decide) rfl ?_
        refine x_goto 5 dX9_landsIn_47 (by decide) ?_
        refine x_weak (pl2 := [some (.ref 0), some (.ref 3), some (.int f2), some (.int (l3_5 + (a12 l4_5.toNatClampNeg))), some (.int (l4_5 + (1 : Int32)))]) ⟨rfl, rfl, rfl, rfl, rfl, trivial⟩ ?_
        exact ih5 (l3_5 + (a12 l4_5.toNatClampNeg)) (l4_5 + (1 : Int32)) h
set_option maxRecDepth 100000 in
set_option maxHeartbeats 4000000 in
theorem t_hB_X9_landsIn_2 {g0 g1 g2 g3 g4 g5 g6 g7 g8 g9 g10 g11 g12 g13 g14 g15 g16 g17 g18 g19 g20 g21 g22 g23 g24 g25 g26 : Int32} {a0 a1 a2 a3 a4 a5 a6 a7 a8 a9 a10 a11 a12 a13 a14 a15 a16 a17 a18 a19 a20 a21 a22 a23 : (Nat → Int32)} {b0 : (Nat → Int64)} {w0 : Int64} {rv : Value} (x2 : Int32) (res : Int32) (h : e_hB_X9_landsIn g23 a2 a12 x2 = some res) (d : Nat) : xMet xks YX9_landsIn (d + 1) 0 0 [.ref 0, .ref 3, .int x2] (hB g0 g1 g2 g3 g4 g5 g6 g7 g8 g9 g10 g11 g12 g13 g14 g15 g16 g17 g18 g19 g20 g21 g22 g23 g24 g25 g26 a0 a1 a2 a3 a4 a5 a6 a7 a8 a9 a10 a11 a12 a13 a14 a15 a16 a17 a18 a19 a20 a21 a22 a23 b0 w0 (.ref 11) rv) (some (.int res)) (hB g0 g1 g2 g3 g4 g5 g6 g7 g8 g9 g10 g11 g12 g13 g14 g15 g16 g17 g18 g19 g20 g21 g22 g23 g24 g25 g26 a0 a1 a2 a3 a4 a5 a6 a7 a8 a9 a10 a11 a12 a13 a14 a15 a16 a17 a18 a19 a20 a21 a22 a23 b0 w0 (.ref 11) rv) := by
  unfold e_hB_X9_landsIn at h
  refine xMet_of (pl := [some (.ref 0), some (.ref 3), some (.int x2), none, none]) (by decide) (Nat.le_of_ble_eq_true rfl) rfl (Nat.le_of_ble_eq_true rfl) ?_
  refine x_iconst (0 : Int32) dX9_landsIn_0 (by decide) ?_
  refine x_istore_n (pl' := [some (.ref 0), some (.ref 3), some (.int x2), some (.int (0 : Int32)), none]) dX9_landsIn_1 (by decide) rfl ?_
  refine x_iconst (0 : Int32) dX9_landsIn_2 (by decide) ?_
  refine x_istore (pl' := [some (.ref 0), some (.ref 3), some (.int x2), some (.int (0 : Int32)), some (.int (0 : Int32))]) dX9_landsIn_3 (by decide) rfl ?_
  refine x_weak (pl2 := [some (.ref 0), some (.ref 3), some (.int x2), some (.int (0 : Int32)), some (.int (0 : Int32))]) ⟨rfl, rfl, rfl, rfl, rfl, trivial⟩ ?_
  refine lp_hB_X9_landsIn_2_5 d _ x2 res _ (fun l3_5 l4_5 h => ?_) 200000 (0 : Int32) (0 : Int32) h
  refine x_iload_n dX9_landsIn_50 rfl ?_
  cases h
  exact x_iret2 dX9_landsIn_51 rfl rfl
noncomputable def e_hB_X9_landsOf (p0 : Int32) (p1 : Int32) (p2 : (Nat → Int32)) (p3 : Int32) (p4 : (Nat → Int32)) (p5 : (Nat → Int32)) (p6 : (Nat → Int32)) (p7 : Int32) (p8 : (Nat → Int32)) (p9 : (Nat → Int32)) (p10 : (Nat → Int32)) (p11 : (Nat → Int32)) (p12 : Int32) (p13 : (Nat → Int32)) (p14 : Int32) (p15 : Int32) (x1 : Int32) (x2 : Int32) : Option (Int32 × Int32 × (Nat → Int32) × Int32 × Int32) :=
  ((e_hB_X9_isPerson p1 x1).bind fun z8 => (e_hB_X9_asks p2 p3 p4 p5 p6 p7 p8 p9 p10 p11 p12 p1 p13 z8 x2).bind fun z12 => if z12.1 ≤ (0 : Int32) then ((e_hB_X9_landsIn p3 z12.2 p13 x1).bind fun z35 => (e_hB_X9_good p14 p15 z35).bind fun z38 => some (z38.1, (0 : Int32), z12.2, z38.2.1, z38.2.2)) else ((e_hB_X9_refused p14 p15 z12.1).bind fun z22 => some (z22.1, (0 : Int32), z12.2, z22.2.1, z22.2.2)))
set_option maxRecDepth 100000 in
set_option maxHeartbeats 4000000 in
theorem t_hB_X9_landsOf {g0 g1 g2 g3 g4 g5 g6 g7 g8 g9 g10 g11 g12 g13 g14 g15 g16 g17 g18 g19 g20 g21 g22 g23 g24 g25 g26 : Int32} {a0 a1 a2 a3 a4 a5 a6 a7 a8 a9 a10 a11 a12 a13 a14 a15 a16 a17 a18 a19 a20 a21 a22 a23 : (Nat → Int32)} {b0 : (Nat → Int64)} {w0 : Int64} {rv : Value} (x1 : Int32) (x2 : Int32) (res : Int32 × Int32 × (Nat → Int32) × Int32 × Int32) (h : e_hB_X9_landsOf g0 g22 a2 g23 a11 a10 a14 g24 a18 a16 a15 a17 g19 a12 g1 g2 x1 x2 = some res) (d : Nat) : xMet xks YX9_landsOf (d + 7) 0 0 [.ref 0, .int x1, .int x2] (hB g0 g1 g2 g3 g4 g5 g6 g7 g8 g9 g10 g11 g12 g13 g14 g15 g16 g17 g18 g19 g20 g21 g22 g23 g24 g25 g26 a0 a1 a2 a3 a4 a5 a6 a7 a8 a9 a10 a11 a12 a13 a14 a15 a16 a17 a18 a19 a20 a21 a22 a23 b0 w0 (.ref 11) rv) (some (.int res.1)) (hB res.2.1 res.2.2.2.1 res.2.2.2.2 g3 g4 g5 g6 g7 g8 g9 g10 g11 g12 g13 g14 g15 g16 g17 g18 g19 g20 g21 g22 g23 g24 g25 g26 a0 a1 res.2.2.1 a3 a4 a5 a6 a7 a8 a9 a10 a11 a12 a13 a14 a15 a16 a17 a18 a19 a20 a21 a22 a23 b0 w0 (.ref 11) rv) := by
  unfold e_hB_X9_landsOf at h
  refine xMet_of (pl := [some (.ref 0), some (.int x1), some (.int x2), none]) (by decide) (Nat.le_of_ble_eq_true rfl) rfl (Nat.le_of_ble_eq_true rfl) ?_
  refine x_aload_n dX9_landsOf_0 rfl ?_
  refine x_iconst (0 : Int32) dX9_landsOf_1 (by decide) ?_
  refine x_put (h2 := (hB (0 : Int32) g1 g2 g3 g4 g5 g6 g7 g8 g9 g10 g11 g12 g13 g14 g15 g16 g17 g18 g19 g20 g21 g22 g23 g24 g25 g26 a0 a1 a2 a3 a4 a5 a6 a7 a8 a9 a10 a11 a12 a13 a14 a15 a16 a17 a18 a19 a20 a21 a22 a23 b0 w0 (.ref 11) rv)) fX9_45 dX9_landsOf_2 rfl rfl (Nat.le_of_ble_eq_true rfl : 0 + 1 ≤ _) (fun α => ⟨rfl, rfl⟩) rfl ?_
  refine x_aload_n dX9_landsOf_5 rfl ?_
  refine x_aload_n dX9_landsOf_6 rfl ?_
  refine x_iload_n dX9_landsOf_7 rfl ?_
  obtain ⟨z8, y8, h⟩ := xbind h
  refine x_callV (t_hB_X9_isPerson x1 z8 y8 (d + 5)) kX9_362 dX9_landsOf_8 rfl rfl rfl rfl rfl (Nat.le_of_ble_eq_true rfl) (Nat.le_of_ble_eq_true rfl) rfl rfl (Or.inl rfl) ?_
  refine x_iload_n dX9_landsOf_11 rfl ?_
  obtain ⟨z12, y12, h⟩ := xbind h
  refine x_callV (t_hB_X9_asks z8 x2 z12 y12 (d + 0)) kX9_379 dX9_landsOf_12 rfl rfl rfl rfl rfl (Nat.le_of_ble_eq_true rfl) (Nat.le_of_ble_eq_true rfl) rfl rfl (Or.inl rfl) ?_
  refine x_istore_n (pl' := [some (.ref 0), some (.int x1), some (.int x2), some (.int z12.1)]) dX9_landsOf_15 (by decide) rfl ?_
  refine x_iload_n dX9_landsOf_16 rfl ?_
  refine x_if_le 28 dX9_landsOf_17 (by decide) (fun q => ?_) (fun q => ?_)
  · have h := xif_t q h
    refine x_aload_n dX9_landsOf_28 rfl ?_
    refine x_aload_n dX9_landsOf_29 rfl ?_
    refine x_aload_n dX9_landsOf_30 rfl ?_
    refine x_get fX9_21 dX9_landsOf_31 rfl rfl rfl ?_
    refine x_iload_n dX9_landsOf_34 rfl ?_
    obtain ⟨z35, y35, h⟩ := xbind h
    refine x_callV (t_hB_X9_landsIn_2 x1 z35 y35 (d + 5)) kX9_365 dX9_landsOf_35 rfl rfl rfl rfl rfl (Nat.le_of_ble_eq_true rfl) (Nat.le_of_ble_eq_true rfl) rfl rfl (Or.inl rfl) ?_
    obtain ⟨z38, y38, h⟩ := xbind h
    refine x_callV (t_hB_X9_good z35 z38 y38 (d + 5)) kX9_55 dX9_landsOf_38 rfl rfl rfl rfl rfl (Nat.le_of_ble_eq_true rfl) (Nat.le_of_ble_eq_true rfl) rfl rfl (Or.inl rfl) ?_
    cases h
    exact x_iret2 dX9_landsOf_41 rfl rfl
  · have h := xif_f q h
    refine x_aload_n dX9_landsOf_20 rfl ?_
    refine x_iload_n dX9_landsOf_21 rfl ?_
    obtain ⟨z22, y22, h⟩ := xbind h
    refine x_callV (t_hB_X9_refused z12.1 z22 y22 (d + 5)) kX9_51 dX9_landsOf_22 rfl rfl rfl rfl rfl (Nat.le_of_ble_eq_true rfl) (Nat.le_of_ble_eq_true rfl) rfl rfl (Or.inl rfl) ?_
    refine x_goto 41 dX9_landsOf_25 (by decide) ?_
    cases h
    exact x_iret2 dX9_landsOf_41 rfl rfl
noncomputable def e_hB_X9_lapsed (p0 : Int32) (p1 : (Nat → Int32)) (p2 : Int32) (p3 : (Nat → Int32)) (p4 : (Nat → Int32)) (p5 : (Nat → Int32)) (p6 : Int32) (p7 : (Nat → Int32)) (p8 : (Nat → Int32)) (p9 : (Nat → Int32)) (p10 : (Nat → Int32)) (p11 : Int32) (p12 : Int32) (p13 : (Nat → Int32)) (p14 : Int32) (p15 : Int32) (x1 : Int32) : Option (Int32 × Int32 × (Nat → Int32) × Int32 × Int32) :=
  ((e_hB_X9_asks p1 p2 p3 p4 p5 p6 p7 p8 p9 p10 p11 p12 p13 (1 : Int32) x1).bind fun z19 => if z19.1 ≤ (0 : Int32) then ((e_hB_X9_landsIn p2 z19.2 p13 (-2 : Int32)).bind fun z43 => (e_hB_X9_good p14 p15 z43).bind fun z46 => some (z46.1, (0 : Int32), z19.2, z46.2.1, z46.2.2)) else ((e_hB_X9_refused p14 p15 z19.1).bind fun z29 => some (z29.1, (0 : Int32), z19.2, z29.2.1, z29.2.2)))
set_option maxRecDepth 100000 in
set_option maxHeartbeats 4000000 in
theorem t_hB_X9_lapsed {g0 g1 g2 g3 g4 g5 g6 g7 g8 g9 g10 g11 g12 g13 g14 g15 g16 g17 g18 g19 g20 g21 g22 g23 g24 g25 g26 : Int32} {a0 a1 a2 a3 a4 a5 a6 a7 a8 a9 a10 a11 a12 a13 a14 a15 a16 a17 a18 a19 a20 a21 a22 a23 : (Nat → Int32)} {b0 : (Nat → Int64)} {w0 : Int64} {rv : Value} (x1 : Int32) (res : Int32 × Int32 × (Nat → Int32) × Int32 × Int32) (h : e_hB_X9_lapsed g0 a2 g23 a11 a10 a14 g24 a18 a16 a15 a17 g19 g22 a12 g1 g2 x1 = some res) (d : Nat) : xMet xks YX9_lapsed (d + 7) 0 0 [.ref 0, .int x1] (hB g0 g1 g2 g3 g4 g5 g6 g7 g8 g9 g10 g11 g12 g13 g14 g15 g16 g17 g18 g19 g20 g21 g22 g23 g24 g25 g26 a0 a1 a2 a3 a4 a5 a6 a7 a8 a9 a10 a11 a12 a13 a14 a15 a16 a17 a18 a19 a20 a21 a22 a23 b0 w0 (.ref 11) rv) (some (.int res.1)) (hB res.2.1 res.2.2.2.1 res.2.2.2.2 g3 g4 g5 g6 g7 g8 g9 g10 g11 g12 g13 g14 g15 g16 g17 g18 g19 g20 g21 g22 g23 g24 g25 g26 a0 a1 res.2.2.1 a3 a4 a5 a6 a7 a8 a9 a10 a11 a12 a13 a14 a15 a16 a17 a18 a19 a20 a21 a22 a23 b0 w0 (.ref 11) rv) := by
  unfold e_hB_X9_lapsed at h
  refine xMet_of (pl := [some (.ref 0), some (.int x1), none]) (by decide) (Nat.le_of_ble_eq_true rfl) rfl (Nat.le_of_ble_eq_true rfl) ?_
  refine x_aload_n dX9_lapsed_0 rfl ?_
  refine x_iconst (0 : Int32) dX9_lapsed_1 (by decide) ?_
  refine x_put (h2 := (hB (0 : Int32) g1 g2 g3 g4 g5 g6 g7 g8 g9 g10 g11 g12 g13 g14 g15 g16 g17 g18 g19 g20 g21 g22 g23 g24 g25 g26 a0 a1 a2 a3 a4 a5 a6 a7 a8 a9 a10 a11 a12 a13 a14 a15 a16 a17 a18 a19 a20 a21 a22 a23 b0 w0 (.ref 11) rv)) fX9_45 dX9_lapsed_2 rfl rfl (Nat.le_of_ble_eq_true rfl : 0 + 1 ≤ _) (fun α => ⟨rfl, rfl⟩) rfl ?_
  refine x_aload_n dX9_lapsed_5 rfl ?_
  refine x_aload_n dX9_lapsed_6 rfl ?_
  refine x_get fX9_316 dX9_lapsed_7 rfl rfl rfl ?_
  refine x_ifnull dX9_lapsed_10 ?_
  refine x_iconst (1 : Int32) dX9_lapsed_13 (by decide) ?_
  refine x_goto 18 dX9_lapsed_14 (by decide) ?_
  refine x_iload_n dX9_lapsed_18 rfl ?_
  obtain ⟨z19, y19, h⟩ := xbind h
  refine x_callV (t_hB_X9_asks (1 : Int32) x1 z19 y19 (d + 0)) kX9_379 dX9_lapsed_19 rfl rfl rfl rfl rfl (Nat.le_of_ble_eq_true rfl) (Nat.le_of_ble_eq_true rfl) rfl rfl (Or.inl rfl) ?_
  refine x_istore_n (pl' := [some (.ref 0), some (.int x1), some (.int z19.1)]) dX9_lapsed_22 (by decide) rfl ?_
  refine x_iload_n dX9_lapsed_23 rfl ?_
  refine x_if_le 35 dX9_lapsed_24 (by decide) (fun q => ?_) (fun q => ?_)
  · have h := xif_t q h
    refine x_aload_n dX9_lapsed_35 rfl ?_
    refine x_aload_n dX9_lapsed_36 rfl ?_
    refine x_aload_n dX9_lapsed_37 rfl ?_
    refine x_get fX9_21 dX9_lapsed_38 rfl rfl rfl ?_
    refine x_bipush (-2 : Int32) dX9_lapsed_41 (by decide) ?_
    obtain ⟨z43, y43, h⟩ := xbind h
    refine x_callV (t_hB_X9_landsIn_2 (-2 : Int32) z43 y43 (d + 5)) kX9_365 dX9_lapsed_43 rfl rfl rfl rfl rfl (Nat.le_of_ble_eq_true rfl) (Nat.le_of_ble_eq_true rfl) rfl rfl (Or.inl rfl) ?_
    obtain ⟨z46, y46, h⟩ := xbind h
    refine x_callV (t_hB_X9_good z43 z46 y46 (d + 5)) kX9_55 dX9_lapsed_46 rfl rfl rfl rfl rfl (Nat.le_of_ble_eq_true rfl) (Nat.le_of_ble_eq_true rfl) rfl rfl (Or.inl rfl) ?_
    cases h
    exact x_iret2 dX9_lapsed_49 rfl rfl
  · have h := xif_f q h
    refine x_aload_n dX9_lapsed_27 rfl ?_
    refine x_iload_n dX9_lapsed_28 rfl ?_
    obtain ⟨z29, y29, h⟩ := xbind h
    refine x_callV (t_hB_X9_refused z19.1 z29 y29 (d + 5)) kX9_51 dX9_lapsed_29 rfl rfl rfl rfl rfl (Nat.le_of_ble_eq_true rfl) (Nat.le_of_ble_eq_true rfl) rfl rfl (Or.inl rfl) ?_
    refine x_goto 49 dX9_lapsed_32 (by decide) ?_
    cases h
    exact x_iret2 dX9_lapsed_49 rfl rfl
noncomputable def L_hB_X9_passed_31 (p0 : Int32) (p1 : Int32) (p3 : (Nat → Int32)) (p4 : (Nat → Int32)) (p5 : (Nat → Int32)) (p6 : Int32) (p7 : Int32) (p8 : Int32) (p9 : (Nat → Int32)) (p10 : (Nat → Int32)) (p11 : (Nat → Int32)) (p12 : (Nat → Int32)) (p13 : Int32) (p14 : Int32) (p15 : (Nat → Int32))  (f1 : Int32) (K : Int32 → Int32 → (Nat → Int32) → Option (Int32 × Int32 × (Nat → Int32) × Int32 × Int32)) : Nat → Int32 → Int32 → (Nat → Int32) → Option (Int32 × Int32 × (Nat → Int32) × Int32 × Int32)
  | 0, _, _, _ => none
  | n31 + 1, l2_31, l3_31, ma2_31 => if (41 : Int32) ≤ l3_31 then K l2_31 l3_31 ma2_31 else (xix ((5 : Int32) + f1) 11 ((e_hB_X9_goesBy p8 p9 p10 p11 p12 ma2_31 p1 p13 p14 p4 p15 p3 l3_31).bind fun z49 => xix ((5 : Int32) + f1) 11 (if (z49 ((5 : Int32) + f1).toNatClampNeg) = (ma2_31 ((5 : Int32) + f1).toNatClampNeg) then L_hB_X9_passed_31 p0 p1 p3 p4 p5 p6 p7 p8 p9 p10 p11 p12 p13 p14 p15 f1 K n31 (l2_31 + (0 : Int32)) (l3_31 + (1 : Int32)) z49 else L_hB_X9_passed_31 p0 p1 p3 p4 p5 p6 p7 p8 p9 p10 p11 p12 p13 p14 p15 f1 K n31 (l2_31 + (1 : Int32)) (l3_31 + (1 : Int32)) z49)))
noncomputable def e_hB_X9_passed (p0 : Int32) (p1 : Int32) (p2 : (Nat → Int32)) (p3 : (Nat → Int32)) (p4 : (Nat → Int32)) (p5 : (Nat → Int32)) (p6 : Int32) (p7 : Int32) (p8 : Int32) (p9 : (Nat → Int32)) (p10 : (Nat → Int32)) (p11 : (Nat → Int32)) (p12 : (Nat → Int32)) (p13 : Int32) (p14 : Int32) (p15 : (Nat → Int32)) (x1 : Int32) : Option (Int32 × Int32 × (Nat → Int32) × Int32 × Int32) :=
  ((e_hB_X9_isUmbrella p1 x1).bind fun z7 => if z7 = (0 : Int32) then ((e_hB_X9_refused p6 p7 (1 : Int32)).bind fun z15 => some (z15.1, (0 : Int32), p2, z15.2.1, z15.2.2)) else ((e_hB_X9_starts p2 p1 p3 p4 p5).bind fun z26 => L_hB_X9_passed_31 (0 : Int32) p1 p3 p4 p5 p6 p7 p8 p9 p10 p11 p12 p13 p14 p15 x1 (fun l2_31 l3_31 ma2_31 => ((e_hB_X9_good p6 p7 l2_31).bind fun z81 => some (z81.1, (0 : Int32), ma2_31, z81.2.1, z81.2.2))) 200000 (0 : Int32) (0 : Int32) z26))
set_option maxRecDepth 100000 in
set_option maxHeartbeats 4000000 in
theorem lp_hB_X9_passed_31 {g0 g1 g2 g3 g4 g5 g6 g7 g8 g9 g10 g11 g12 g13 g14 g15 g16 g17 g18 g19 g20 g21 g22 g23 g24 g25 g26 : Int32} {a0 a1 a3 a4 a5 a6 a7 a8 a9 a10 a11 a12 a13 a14 a15 a16 a17 a18 a19 a20 a21 a22 a23 : (Nat → Int32)} {b0 : (Nat → Int64)} {w0 : Int64} {rv : Value} (d n0 : Nat) (f1 : Int32) (res : Int32 × Int32 × (Nat → Int32) × Int32 × Int32) (K : Int32 → Int32 → (Nat → Int32) → Option (Int32 × Int32 × (Nat → Int32) × Int32 × Int32)) (hK : ∀ (l2_31 : Int32) (l3_31 : Int32) (ma2_31 : (Nat → Int32)), K l2_31 l3_31 ma2_31 = some res → xW xks YX9_passed (d + 5) 0 0 n0 (xZ 0 0 n0 (some (.int res.1)) (hB res.2.1 res.2.2.2.1 res.2.2.2.2 g3 g4 g5 g6 g7 g8 g9 g10 g11 g12 g13 g14 g15 g16 g17 g18 g19 g20 g21 g22 g23 g24 g25 g26 a0 a1 res.2.2.1 a3 a4 a5 a6 a7 a8 a9 a10 a11 a12 a13 a14 a15 a16 a17 a18 a19 a20 a21 a22 a23 b0 w0 (.ref 11) rv)) 0 0 79 [some (.ref 0), none, some (.int l2_31), none, none] [] (hB g0 g1 g2 g3 g4 g5 g6 g7 g8 g9 g10 g11 g12 g13 g14 g15 g16 g17 g18 g19 g20 g21 g22 g23 g24 g25 g26 a0 a1 ma2_31 a3 a4 a5 a6 a7 a8 a9 a10 a11 a12 a13 a14 a15 a16 a17 a18 a19 a20 a21 a22 a23 b0 w0 (.ref 11) rv)) : ∀ (n : Nat) (l2_31 : Int32) (l3_31 : Int32) (ma2_31 : (Nat → Int32)), L_hB_X9_passed_31 g0 g23 a11 a10 a14 g1 g2 g24 a18 a16 a15 a17 g19 g22 a12 f1 K n l2_31 l3_31 ma2_31 = some res → xW xks YX9_passed (d + 5) 0 0 n0 (xZ 0 0 n0 (some (.int res.1)) (hB res.2.1 res.2.2.2.1 res.2.2.2.2 g3 g4 g5 g6 g7 g8 g9 g10 g11 g12 g13 g14 g15 g16 g17 g18 g19 g20 g21 g22 g23 g24 g25 g26 a0 a1 res.2.2.1 a3 a4 a5 a6 a7 a8 a9 a10 a11 a12 a13 a14 a15 a16 a17 a18 a19 a20 a21 a22 a23 b0 w0 (.ref 11) rv)) 0 0 31 [some (.ref 0), some (.int f1), some (.int l2_31), some (.int l3_31), none] [] (hB g0 g1 g2 g3 g4 g5 g6 g7 g8 g9 g10 g11 g12 g13 g14 g15 g16 g17 g18 g19 g20 g21 g22 g23 g24 g25 g26 a0 a1 ma2_31 a3 a4 a5 a6 a7 a8 a9 a10 a11 a12 a13 a14 a15 a16 a17 a18 a19 a20 a21 a22 a23 b0 w0 (.ref 11) rv) := by
  intro n
  induction n with
  | zero =>
    intro l2_31 l3_31 ma2_31 h
    cases (show (none : Option (Int32 × Int32 × (Nat → Int32) × Int32 × Int32)) = some res from h)
  | succ n31 ih31 =>
    intro l2_31 l3_31 ma2_31 h
    unfold L_hB_X9_passed_31 at h
    refine x_iload_n dX9_passed_31 rfl ?_
    refine x_bipush (41 : Int32) dX9_passed_32 (by decide) ?_
    refine x_icmp_ge 79 dX9_passed_34 (by decide) (fun q => ?_) (fun q => ?_)
    · have h := xif_t q h
      refine x_weak (pl2 := [some (.ref 0), none, some (.int l2_31), none, none]) ⟨rfl, rfl, trivial⟩ ?_
      exact hK l2_31 l3_31 ma2_31 h
    · have h := xif_f q h
      refine x_aload_n dX9_passed_37 rfl ?_
      refine x_get fX9_21 dX9_passed_38 rfl rfl rfl ?_
      refine x_iconst (5 : Int32) dX9_passed_41 (by decide) ?_
      refine x_iload_n dX9_passed_42 rfl ?_
      refine x_iadd dX9_passed_43 ?_
      obtain ⟨q44, h⟩ := xix_of h
      refine x_iald dX9_passed_44 rfl q44 ?_
      refine x_istore (pl' := [some (.ref 0), some (.int f1), some (.int l2_31), some (.int l3_31), some (.int (ma2_31 ((5 : Int32) + f1).toNatClampNeg))]) dX9_passed_45 (by decide) rfl ?_
      refine x_aload_n dX9_passed_47 rfl ?_
      refine x_iload_n dX9_passed_48 rfl ?_
      obtain ⟨z49, y49, h⟩ := xbind h
      refine x_callV (t_hB_X9_goesBy l3_31 z49 y49 (d + 0)) kX9_356 dX9_passed_49 rfl rfl rfl rfl rfl (Nat.le_of_ble_eq_true rfl) (Nat.le_of_ble_eq_true rfl) rfl rfl (Or.inl rfl) ?_
      refine x_iload_n dX9_passed_52 rfl ?_
      refine x_aload_n dX9_passed_53 rfl ?_
      refine x_get fX9_21 dX9_passed_54 rfl rfl rfl ?_
      refine x_iconst (5 : Int32) dX9_passed_57 (by decide) ?_
      refine x_iload_n dX9_passed_58 rfl ?_
      refine x_iadd dX9_passed_59 ?_
      obtain ⟨q60, h⟩ := xix_of h
      refine x_iald dX9_passed_60 rfl q60 ?_
      refine x_iload dX9_passed_61 rfl ?_
      refine x_icmp_ne 70 dX9_passed_63 (by decide) (fun q => ?_) (fun q => ?_)
      · have h := xif_f q h
        refine x_iconst (1 : Int32) dX9_passed_70 (by decide) ?_
        refine x_iadd dX9_passed_71 ?_
        refine x_istore_n (pl' := [some (.ref 0), some (.int f1), some (.int (l2_31 + (1 : Int32))), some (.int l3_31), some (.int (ma2_31 ((5 : Int32) + f1).toNatClampNeg))]) dX9_passed_72 (by decide) rfl ?_
        refine x_iincK (1 : Int32) (pl' := [some (.ref 0), some (.int f1), some (.int (l2_31 + (1 : Int32))), some (.int (l3_31 + (1 : Int32))), some (.int (ma2_31 ((5 : Int32) + f1).toNatClampNeg))]) dX9_passed_73 rfl (by decide) (by decide) rfl ?_
        refine x_goto 31 dX9_passed_76 (by decide) ?_
        refine x_weak (pl2 := [some (.ref 0), some (.int f1), some (.int (l2_31 + (1 : Int32))), some (.int (l3_31 + (1 : Int32))), none]) ⟨rfl, rfl, rfl, rfl, trivial⟩ ?_
        exact ih31 (l2_31 + (1 : Int32)) (l3_31 + (1 : Int32)) z49 h
      · have h := xif_t q h
        refine x_iconst (0 : Int32) dX9_passed_66 (by decide) ?_
        refine x_goto 71 dX9_passed_67 (by decide) ?_
        refine x_iadd dX9_passed_71 ?_
        refine x_istore_n (pl' := [some (.ref 0), some (.int f1), some (.int (l2_31 + (0 : Int32))), some (.int l3_31), some (.int (ma2_31 ((5 : Int32) + f1).toNatClampNeg))]) dX9_passed_72 (by decide) rfl ?_
        refine x_iincK (1 : Int32) (pl' := [some (.ref 0), some (.int f1), some (.int (l2_31 + (0 : Int32))), some (.int (l3_31 + (1 : Int32))), some (.int (ma2_31 ((5 : Int32) + f1).toNatClampNeg))]) dX9_passed_73 rfl (by decide) (by decide) rfl ?_
        refine x_goto 31 dX9_passed_76 (by decide) ?_
        refine x_weak (pl2 := [some (.ref 0), some (.int f1), some (.int (l2_31 + (0 : Int32))), some (.int (l3_31 + (1 : Int32))), none]) ⟨rfl, rfl, rfl, rfl, trivial⟩ ?_
        exact ih31 (l2_31 + (0 : Int32)) (l3_31 + (1 : Int32)) z49 h
set_option maxRecDepth 100000 in
set_option maxHeartbeats 4000000 in
theorem t_hB_X9_passed {g0 g1 g2 g3 g4 g5 g6 g7 g8 g9 g10 g11 g12 g13 g14 g15 g16 g17 g18 g19 g20 g21 g22 g23 g24 g25 g26 : Int32} {a0 a1 a2 a3 a4 a5 a6 a7 a8 a9 a10 a11 a12 a13 a14 a15 a16 a17 a18 a19 a20 a21 a22 a23 : (Nat → Int32)} {b0 : (Nat → Int64)} {w0 : Int64} {rv : Value} (x1 : Int32) (res : Int32 × Int32 × (Nat → Int32) × Int32 × Int32) (h : e_hB_X9_passed g0 g23 a2 a11 a10 a14 g1 g2 g24 a18 a16 a15 a17 g19 g22 a12 x1 = some res) (d : Nat) : xMet xks YX9_passed (d + 5) 0 0 [.ref 0, .int x1] (hB g0 g1 g2 g3 g4 g5 g6 g7 g8 g9 g10 g11 g12 g13 g14 g15 g16 g17 g18 g19 g20 g21 g22 g23 g24 g25 g26 a0 a1 a2 a3 a4 a5 a6 a7 a8 a9 a10 a11 a12 a13 a14 a15 a16 a17 a18 a19 a20 a21 a22 a23 b0 w0 (.ref 11) rv) (some (.int res.1)) (hB res.2.1 res.2.2.2.1 res.2.2.2.2 g3 g4 g5 g6 g7 g8 g9 g10 g11 g12 g13 g14 g15 g16 g17 g18 g19 g20 g21 g22 g23 g24 g25 g26 a0 a1 res.2.2.1 a3 a4 a5 a6 a7 a8 a9 a10 a11 a12 a13 a14 a15 a16 a17 a18 a19 a20 a21 a22 a23 b0 w0 (.ref 11) rv) := by
  unfold e_hB_X9_passed at h
  refine xMet_of (pl := [some (.ref 0), some (.int x1), none, none, none]) (by decide) (Nat.le_of_ble_eq_true rfl) rfl (Nat.le_of_ble_eq_true rfl) ?_
  refine x_aload_n dX9_passed_0 rfl ?_
  refine x_iconst (0 : Int32) dX9_passed_1 (by decide) ?_
  refine x_put (h2 := (hB (0 : Int32) g1 g2 g3 g4 g5 g6 g7 g8 g9 g10 g11 g12 g13 g14 g15 g16 g17 g18 g19 g20 g21 g22 g23 g24 g25 g26 a0 a1 a2 a3 a4 a5 a6 a7 a8 a9 a10 a11 a12 a13 a14 a15 a16 a17 a18 a19 a20 a21 a22 a23 b0 w0 (.ref 11) rv)) fX9_45 dX9_passed_2 rfl rfl (Nat.le_of_ble_eq_true rfl : 0 + 1 ≤ _) (fun α => ⟨rfl, rfl⟩) rfl ?_
  refine x_aload_n dX9_passed_5 rfl ?_
  refine x_iload_n dX9_passed_6 rfl ?_
  obtain ⟨z7, y7, h⟩ := xbind h
  refine x_callV (t_hB_X9_isUmbrella x1 z7 y7 (d + 3)) kX9_359 dX9_passed_7 rfl rfl rfl rfl rfl (Nat.le_of_ble_eq_true rfl) (Nat.le_of_ble_eq_true rfl) rfl rfl (Or.inl rfl) ?_
  refine x_if_ne 19 dX9_passed_10 (by decide) (fun q => ?_) (fun q => ?_)
  · have h := xif_f q h
    refine x_iconst (0 : Int32) dX9_passed_19 (by decide) ?_
    refine x_istore_n (pl' := [some (.ref 0), some (.int x1), some (.int (0 : Int32)), none, none]) dX9_passed_20 (by decide) rfl ?_
    refine x_aload_n dX9_passed_21 rfl ?_
    refine x_aload_n dX9_passed_22 rfl ?_
    refine x_get fX9_21 dX9_passed_23 rfl rfl rfl ?_
    obtain ⟨z26, y26, h⟩ := xbind h
    refine x_callV (t_hB_X9_starts  z26 y26 (d + 2)) kX9_318 dX9_passed_26 rfl rfl rfl rfl rfl (Nat.le_of_ble_eq_true rfl) (Nat.le_of_ble_eq_true rfl) rfl rfl (Or.inl rfl) ?_
    refine x_iconst (0 : Int32) dX9_passed_29 (by decide) ?_
    refine x_istore_n (pl' := [some (.ref 0), some (.int x1), some (.int (0 : Int32)), some (.int (0 : Int32)), none]) dX9_passed_30 (by decide) rfl ?_
    refine x_weak (pl2 := [some (.ref 0), some (.int x1), some (.int (0 : Int32)), some (.int (0 : Int32)), none]) ⟨rfl, rfl, rfl, rfl, trivial⟩ ?_
    refine lp_hB_X9_passed_31 d _ x1 res _ (fun l2_31 l3_31 ma2_31 h => ?_) 200000 (0 : Int32) (0 : Int32) z26 h
    refine x_aload_n dX9_passed_79 rfl ?_
    refine x_iload_n dX9_passed_80 rfl ?_
    obtain ⟨z81, y81, h⟩ := xbind h
    refine x_callV (t_hB_X9_good l2_31 z81 y81 (d + 3)) kX9_55 dX9_passed_81 rfl rfl rfl rfl rfl (Nat.le_of_ble_eq_true rfl) (Nat.le_of_ble_eq_true rfl) rfl rfl (Or.inl rfl) ?_
    cases h
    exact x_iret2 dX9_passed_84 rfl rfl
  · have h := xif_t q h
    refine x_aload_n dX9_passed_13 rfl ?_
    refine x_iconst (1 : Int32) dX9_passed_14 (by decide) ?_
    obtain ⟨z15, y15, h⟩ := xbind h
    refine x_callV (t_hB_X9_refused (1 : Int32) z15 y15 (d + 3)) kX9_51 dX9_passed_15 rfl rfl rfl rfl rfl (Nat.le_of_ble_eq_true rfl) (Nat.le_of_ble_eq_true rfl) rfl rfl (Or.inl rfl) ?_
    cases h
    exact x_iret2 dX9_passed_18 rfl rfl
noncomputable def L_hB_X9_wrongClaim_46 (p0 : (Nat → Int32)) (p1 : Int32) (p2 : (Nat → Int32)) (p3 : (Nat → Int32)) (p4 : (Nat → Int32)) (p5 : Int32) (p6 : (Nat → Int32)) (p7 : (Nat → Int32)) (p8 : (Nat → Int32)) (p9 : (Nat → Int32)) (p10 : Int32) (p11 : Int32) (p12 : (Nat → Int32)) (p13 : Int32) (p14 : (Nat → Int32)) (p15 : (Nat → Int32)) (p16 : (Nat → Int32))  (f1 : Int32) (f2 : Int32) (f3 : Int32) (f5 : Int32) (K : Int32 → Int32 → Option (Int32 × (Nat → Int32))) : Nat → Int32 → Int32 → Option (Int32 × (Nat → Int32))
  | 0, _, _ => none
  | n46 + 1, l4_46, l6_46 => if l4_46 ≤ l6_46 then K l4_46 l6_46 else if p13 ≤ l6_46 then K l4_46 l6_46 else (xix l6_46 6 (if (p14 l6_46.toNatClampNeg) = f5 then (xix l6_46 6 (xix ((5 : Int32) + (p15 l6_46.toNatClampNeg)) 11 (xix l6_46 6 (if (p0 ((5 : Int32) + (p15 l6_46.toNatClampNeg)).toNatClampNeg) = (p16 l6_46.toNatClampNeg) then L_hB_X9_wrongClaim_46 p0 p1 p2 p3 p4 p5 p6 p7 p8 p9 p10 p11 p12 p13 p14 p15 p16 f1 f2 f3 f5 K n46 l4_46 (l6_46 + (1 : Int32)) else L_hB_X9_wrongClaim_46 p0 p1 p2 p3 p4 p5 p6 p7 p8 p9 p10 p11 p12 p13 p14 p15 p16 f1 f2 f3 f5 K n46 l6_46 (l6_46 + (1 : Int32)))))) else L_hB_X9_wrongClaim_46 p0 p1 p2 p3 p4 p5 p6 p7 p8 p9 p10 p11 p12 p13 p14 p15 p16 f1 f2 f3 f5 K n46 l4_46 (l6_46 + (1 : Int32))))
noncomputable def L_hB_X9_wrongClaim_15 (p1 : Int32) (p2 : (Nat → Int32)) (p3 : (Nat → Int32)) (p4 : (Nat → Int32)) (p5 : Int32) (p6 : (Nat → Int32)) (p7 : (Nat → Int32)) (p8 : (Nat → Int32)) (p9 : (Nat → Int32)) (p10 : Int32) (p11 : Int32) (p12 : (Nat → Int32)) (p13 : Int32) (p14 : (Nat → Int32)) (p15 : (Nat → Int32)) (p16 : (Nat → Int32))  (f1 : Int32) (f2 : Int32) (f3 : Int32) (K : Int32 → Int32 → (Nat → Int32) → Option (Int32 × (Nat → Int32))) : Nat → Int32 → Int32 → (Nat → Int32) → Option (Int32 × (Nat → Int32))
  | 0, _, _, _ => none
  | n15 + 1, l4_15, l5_15, ma2_15 => if (41 : Int32) ≤ l5_15 then K l4_15 l5_15 ma2_15 else if l5_15 = f1 then ((e_hB_X9_changes ma2_15 f2 f3).bind fun z34 => (e_hB_X9_goesBy p5 p6 p7 p8 p9 z34 p1 p10 p11 p3 p12 p2 l5_15).bind fun z40 => L_hB_X9_wrongClaim_46 z40 p1 p2 p3 p4 p5 p6 p7 p8 p9 p10 p11 p12 p13 p14 p15 p16 f1 f2 f3 l5_15 (fun l4_46 l6_46 => L_hB_X9_wrongClaim_15 p1 p2 p3 p4 p5 p6 p7 p8 p9 p10 p11 p12 p13 p14 p15 p16 f1 f2 f3 K n15 l4_46 (l5_15 + (1 : Int32)) z40) 200000 l4_15 (0 : Int32)) else ((e_hB_X9_goesBy p5 p6 p7 p8 p9 ma2_15 p1 p10 p11 p3 p12 p2 l5_15).bind fun z40 => L_hB_X9_wrongClaim_46 z40 p1 p2 p3 p4 p5 p6 p7 p8 p9 p10 p11 p12 p13 p14 p15 p16 f1 f2 f3 l5_15 (fun l4_46 l6_46 => L_hB_X9_wrongClaim_15 p1 p2 p3 p4 p5 p6 p7 p8 p9 p10 p11 p12 p13 p14 p15 p16 f1 f2 f3 K n15 l4_46 (l5_15 + (1 : Int32)) z40) 200000 l4_15 (0 : Int32))
noncomputable def e_hB_X9_wrongClaim (p0 : (Nat → Int32)) (p1 : Int32) (p2 : (Nat → Int32)) (p3 : (Nat → Int32)) (p4 : (Nat → Int32)) (p5 : Int32) (p6 : (Nat → Int32)) (p7 : (Nat → Int32)) (p8 : (Nat → Int32)) (p9 : (Nat → Int32)) (p10 : Int32) (p11 : Int32) (p12 : (Nat → Int32)) (p13 : Int32) (p14 : (Nat → Int32)) (p15 : (Nat → Int32)) (p16 : (Nat → Int32)) (x1 : Int32) (x2 : Int32) (x3 : Int32) : Option (Int32 × (Nat → Int32)) :=
  ((e_hB_X9_starts p0 p1 p2 p3 p4).bind fun z9 => L_hB_X9_wrongClaim_15 p1 p2 p3 p4 p5 p6 p7 p8 p9 p10 p11 p12 p13 p14 p15 p16 x1 x2 x3 (fun l4_15 l5_15 ma2_15 => if l4_15 = (6 : Int32) then some ((-2 : Int32), ma2_15) else some (l4_15, ma2_15)) 200000 (6 : Int32) (0 : Int32) z9)
set_option maxRecDepth 100000 in
set_option maxHeartbeats 4000000 in
theorem lp_hB_X9_wrongClaim_46 {g0 g1 g2 g3 g4 g5 g6 g7 g8 g9 g10 g11 g12 g13 g14 g15 g16 g17 g18 g19 g20 g21 g22 g23 g24 g25 g26 : Int32} {a0 a1 a2 a3 a4 a5 a6 a7 a8 a9 a10 a11 a12 a13 a14 a15 a16 a17 a18 a19 a20 a21 a22 a23 : (Nat → Int32)} {b0 : (Nat → Int64)} {w0 : Int64} {rv : Value} (d n0 : Nat) (f1 : Int32) (f2 : Int32) (f3 : Int32) (f5 : Int32) (res : Int32 × (Nat → Int32)) (K : Int32 → Int32 → Option (Int32 × (Nat → Int32))) (hK : ∀ (l4_46 : Int32) (l6_46 : Int32), K l4_46 l6_46 = some res → xW xks YX9_wrongClaim (d + 5) 0 0 n0 (xZ 0 0 n0 (some (.int res.1)) (hB g0 g1 g2 g3 g4 g5 g6 g7 g8 g9 g10 g11 g12 g13 g14 g15 g16 g17 g18 g19 g20 g21 g22 g23 g24 g25 g26 a0 a1 res.2 a3 a4 a5 a6 a7 a8 a9 a10 a11 a12 a13 a14 a15 a16 a17 a18 a19 a20 a21 a22 a23 b0 w0 (.ref 11) rv)) 0 0 120 [some (.ref 0), some (.int f1), some (.int f2), some (.int f3), some (.int l4_46), some (.int f5), none] [] (hB g0 g1 g2 g3 g4 g5 g6 g7 g8 g9 g10 g11 g12 g13 g14 g15 g16 g17 g18 g19 g20 g21 g22 g23 g24 g25 g26 a0 a1 a2 a3 a4 a5 a6 a7 a8 a9 a10 a11 a12 a13 a14 a15 a16 a17 a18 a19 a20 a21 a22 a23 b0 w0 (.ref 11) rv)) : ∀ (n : Nat) (l4_46 : Int32) (l6_46 : Int32), L_hB_X9_wrongClaim_46 a2 g23 a11 a10 a14 g24 a18 a16 a15 a17 g19 g22 a12 g25 a21 a20 a19 f1 f2 f3 f5 K n l4_46 l6_46 = some res → xW xks YX9_wrongClaim (d + 5) 0 0 n0 (xZ 0 0 n0 (some (.int res.1)) (hB g0 g1 g2 g3 g4 g5 g6 g7 g8 g9 g10 g11 g12 g13 g14 g15 g16 g17 g18 g19 g20 g21 g22 g23 g24 g25 g26 a0 a1 res.2 a3 a4 a5 a6 a7 a8 a9 a10 a11 a12 a13 a14 a15 a16 a17 a18 a19 a20 a21 a22 a23 b0 w0 (.ref 11) rv)) 0 0 46 [some (.ref 0), some (.int f1), some (.int f2), some (.int f3), some (.int l4_46), some (.int f5), some (.int l6_46)] [] (hB g0 g1 g2 g3 g4 g5 g6 g7 g8 g9 g10 g11 g12 g13 g14 g15 g16 g17 g18 g19 g20 g21 g22 g23 g24 g25 g26 a0 a1 a2 a3 a4 a5 a6 a7 a8 a9 a10 a11 a12 a13 a14 a15 a16 a17 a18 a19 a20 a21 a22 a23 b0 w0 (.ref 11) rv) := by
  intro n
  induction n with
  | zero =>
    intro l4_46 l6_46 h
    cases (show (none : Option (Int32 × (Nat → Int32))) = some res from h)
  | succ n46 ih46 =>
    intro l4_46 l6_46 h
    unfold L_hB_X9_wrongClaim_46 at h
    refine x_iload dX9_wrongClaim_46 rfl ?_
    refine x_iload dX9_wrongClaim_48 rfl ?_
    refine x_icmp_ge 120 dX9_wrongClaim_50 (by decide) (fun q => ?_) (fun q => ?_)
    · have h := xif_t q h
      refine x_weak (pl2 := [some (.ref 0), some (.int f1), some (.int f2), some (.int f3), some (.int l4_46), some (.int f5), none]) ⟨rfl, rfl, rfl, rfl, rfl, rfl, trivial⟩ ?_
      exact hK l4_46 l6_46 h
    · have h := xif_f q h
      refine x_iload dX9_wrongClaim_53 rfl ?_
      refine x_aload_n dX9_wrongClaim_55 rfl ?_
      refine x_get fX9_316 dX9_wrongClaim_56 rfl rfl rfl ?_
      refine x_get fX9_298 dX9_wrongClaim_59 rfl rfl rfl ?_
      refine x_icmp_ge 120 dX9_wrongClaim_62 (by decide) (fun q => ?_) (fun q => ?_)
      · have h := xif_t q h
        refine x_weak (pl2 := [some (.ref 0), some (.int f1), some (.int f2), some (.int f3), some (.int l4_46), some (.int f5), none]) ⟨rfl, rfl, rfl, rfl, rfl, rfl, trivial⟩ ?_
        exact hK l4_46 l6_46 h
      · have h := xif_f q h
        refine x_aload_n dX9_wrongClaim_65 rfl ?_
        refine x_get fX9_316 dX9_wrongClaim_66 rfl rfl rfl ?_
        refine x_get fX9_306 dX9_wrongClaim_69 rfl rfl rfl ?_
        refine x_iload dX9_wrongClaim_72 rfl ?_
        obtain ⟨q74, h⟩ := xix_of h
        refine x_iald dX9_wrongClaim_74 rfl q74 ?_
        refine x_iload dX9_wrongClaim_75 rfl ?_
        refine x_icmp_ne 114 dX9_wrongClaim_77 (by decide) (fun q => ?_) (fun q => ?_)
        · have h := xif_f q h
          refine x_iincK (1 : Int32) (pl' := [some (.ref 0), some (.int f1), some (.int f2), some (.int f3), some (.int l4_46), some (.int f5), some (.int (l6_46 + (1 : Int32)))]) dX9_wrongClaim_114 rfl (by decide) (by decide) rfl ?_
          refine x_goto 46 dX9_wrongClaim_117 (by decide) ?_
          refine x_weak (pl2 := [some (.ref 0), some (.int f1), some (.int f2), some (.int f3), some (.int l4_46), some (.int f5), some (.int (l6_46 + (1 : Int32)))]) ⟨rfl, rfl, rfl, rfl, rfl, rfl, rfl, trivial⟩ ?_
          exact ih46 l4_46 (l6_46 + (1 : Int32)) h
        · have h := xif_t q h
          refine x_aload_n dX9_wrongClaim_80 rfl ?_
          refine x_get fX9_21 dX9_wrongClaim_81 rfl rfl rfl ?_
          refine x_iconst (5 : Int32) dX9_wrongClaim_84 (by decide) ?_
          refine x_aload_n dX9_wrongClaim_85 rfl ?_
          refine x_get fX9_316 dX9_wrongClaim_86 rfl rfl rfl ?_
          refine x_get fX9_303 dX9_wrongClaim_89 rfl rfl rfl ?_
          refine x_iload dX9_wrongClaim_92 rfl ?_
          obtain ⟨q94, h⟩ := xix_of h
          refine x_iald dX9_wrongClaim_94 rfl q94 ?_
          refine x_iadd dX9_wrongClaim_95 ?_
          obtain ⟨q96, h⟩ := xix_of h
          refine x_iald dX9_wrongClaim_96 rfl q96 ?_
          refine x_aload_n dX9_wrongClaim_97 rfl ?_
          refine x_get fX9_316 dX9_wrongClaim_98 rfl rfl rfl ?_
          refine x_get fX9_300 dX9_wrongClaim_101 rfl rfl rfl ?_
          refine x_iload dX9_wrongClaim_104 rfl ?_
          obtain ⟨q106, h⟩ := xix_of h
          refine x_iald dX9_wrongClaim_106 rfl q106 ?_
          refine x_icmp_eq 114 dX9_wrongClaim_107 (by decide) (fun q => ?_) (fun q => ?_)
          · have h := xif_t q h
            refine x_iincK (1 : Int32) (pl' := [some (.ref 0), some (.int f1), some (.int f2), some (.int f3), some (.int l4_46), some (.int f5), some (.int (l6_46 + (1 : Int32)))]) dX9_wrongClaim_114 rfl (by decide) (by decide) rfl ?_
            refine x_goto 46 dX9_wrongClaim_117 (by decide) ?_
            refine x_weak (pl2 := [some (.ref 0), some (.int f1), some (.int f2), some (.int f3), some (.int l4_46), some (.int f5), some (.int (l6_46 + (1 : Int32)))]) ⟨rfl, rfl, rfl, rfl, rfl, rfl, rfl, trivial⟩ ?_
            exact ih46 l4_46 (l6_46 + (1 : Int32)) h
          · have h := xif_f q h
            refine x_iload dX9_wrongClaim_110 rfl ?_
            refine x_istore (pl' := [some (.ref 0), some (.int f1), some (.int f2), some (.int f3), some (.int l6_46), some (.int f5), some (.int l6_46)]) dX9_wrongClaim_112 (by decide) rfl ?_
            refine x_iincK (1 : Int32) (pl' := [some (.ref 0), some (.int f1), some (.int f2), some (.int f3), some (.int l6_46), some (.int f5), some (.int (l6_46 + (1 : Int32)))]) dX9_wrongClaim_114 rfl (by decide) (by decide) rfl ?_
            refine x_goto 46 dX9_wrongClaim_117 (by decide) ?_
            refine x_weak (pl2 := [some (.ref 0), some (.int f1), some (.int f2), some (.int f3), some (.int l6_46), some (.int f5), some (.int (l6_46 + (1 : Int32)))]) ⟨rfl, rfl, rfl, rfl, rfl, rfl, rfl, trivial⟩ ?_
            exact ih46 l6_46 (l6_46 + (1 : Int32)) h
set_option maxRecDepth 100000 in
set_option maxHeartbeats 4000000 in
theorem lp_hB_X9_wrongClaim_15 {g0 g1 g2 g3 g4 g5 g6 g7 g8 g9 g10 g11 g12 g13 g14 g15 g16 g17 g18 g19 g20 g21 g22 g23 g24 g25 g26 : Int32} {a0 a1 a3 a4 a5 a6 a7 a8 a9 a10 a11 a12 a13 a14 a15 a16 a17 a18 a19 a20 a21 a22 a23 : (Nat → Int32)} {b0 : (Nat → Int64)} {w0 : Int64} {rv : Value} (d n0 : Nat) (f1 : Int32) (f2 : Int32) (f3 : Int32) (res : Int32 × (Nat → Int32)) (K : Int32 → Int32 → (Nat → Int32) → Option (Int32 × (Nat → Int32))) (hK : ∀ (l4_15 : Int32) (l5_15 : Int32) (ma2_15 : (Nat → Int32)), K l4_15 l5_15 ma2_15 = some res → xW xks YX9_wrongClaim (d + 5) 0 0 n0 (xZ 0 0 n0 (some (.int res.1)) (hB g0 g1 g2 g3 g4 g5 g6 g7 g8 g9 g10 g11 g12 g13 g14 g15 g16 g17 g18 g19 g20 g21 g22 g23 g24 g25 g26 a0 a1 res.2 a3 a4 a5 a6 a7 a8 a9 a10 a11 a12 a13 a14 a15 a16 a17 a18 a19 a20 a21 a22 a23 b0 w0 (.ref 11) rv)) 0 0 126 [none, none, none, none, some (.int l4_15), none, none] [] (hB g0 g1 g2 g3 g4 g5 g6 g7 g8 g9 g10 g11 g12 g13 g14 g15 g16 g17 g18 g19 g20 g21 g22 g23 g24 g25 g26 a0 a1 ma2_15 a3 a4 a5 a6 a7 a8 a9 a10 a11 a12 a13 a14 a15 a16 a17 a18 a19 a20 a21 a22 a23 b0 w0 (.ref 11) rv)) : ∀ (n : Nat) (l4_15 : Int32) (l5_15 : Int32) (ma2_15 : (Nat → Int32)), L_hB_X9_wrongClaim_15 g23 a11 a10 a14 g24 a18 a16 a15 a17 g19 g22 a12 g25 a21 a20 a19 f1 f2 f3 K n l4_15 l5_15 ma2_15 = some res → xW xks YX9_wrongClaim (d + 5) 0 0 n0 (xZ 0 0 n0 (some (.int res.1)) (hB g0 g1 g2 g3 g4 g5 g6 g7 g8 g9 g10 g11 g12 g13 g14 g15 g16 g17 g18 g19 g20 g21 g22 g23 g24 g25 g26 a0 a1 res.2 a3 a4 a5 a6 a7 a8 a9 a10 a11 a12 a13 a14 a15 a16 a17 a18 a19 a20 a21 a22 a23 b0 w0 (.ref 11) rv)) 0 0 15 [some (.ref 0), some (.int f1), some (.int f2), some (.int f3), some (.int l4_15), some (.int l5_15), none] [] (hB g0 g1 g2 g3 g4 g5 g6 g7 g8 g9 g10 g11 g12 g13 g14 g15 g16 g17 g18 g19 g20 g21 g22 g23 g24 g25 g26 a0 a1 ma2_15 a3 a4 a5 a6 a7 a8 a9 a10 a11 a12 a13 a14 a15 a16 a17 a18 a19 a20 a21 a22 a23 b0 w0 (.ref 11) rv) := by
  intro n
  induction n with
  | zero =>
    intro l4_15 l5_15 ma2_15 h
    cases (show (none : Option (Int32 × (Nat → Int32))) = some res from h)
  | succ n15 ih15 =>
    intro l4_15 l5_15 ma2_15 h
    unfold L_hB_X9_wrongClaim_15 at h
    refine x_iload dX9_wrongClaim_15 rfl ?_
    refine x_bipush (41 : Int32) dX9_wrongClaim_17 (by decide) ?_
    refine x_icmp_ge 126 dX9_wrongClaim_19 (by decide) (fun q => ?_) (fun q => ?_)
    · have h := xif_t q h
      refine x_weak (pl2 := [none, none, none, none, some (.int l4_15), none, none]) ⟨rfl, trivial⟩ ?_
      exact hK l4_15 l5_15 ma2_15 h
    · have h := xif_f q h
      refine x_iload dX9_wrongClaim_22 rfl ?_
      refine x_iload_n dX9_wrongClaim_24 rfl ?_
      refine x_icmp_ne 37 dX9_wrongClaim_25 (by decide) (fun q => ?_) (fun q => ?_)
      · have h := xif_f q h
        refine x_aload_n dX9_wrongClaim_37 rfl ?_
        refine x_iload dX9_wrongClaim_38 rfl ?_
        obtain ⟨z40, y40, h⟩ := xbind h
        refine x_callV (t_hB_X9_goesBy l5_15 z40 y40 (d + 0)) kX9_356 dX9_wrongClaim_40 rfl rfl rfl rfl rfl (Nat.le_of_ble_eq_true rfl) (Nat.le_of_ble_eq_true rfl) rfl rfl (Or.inl rfl) ?_
        refine x_iconst (0 : Int32) dX9_wrongClaim_43 (by decide) ?_
        refine x_istore (pl' := [some (.ref 0), some (.int f1), some (.int f2), some (.int f3), some (.int l4_15), some (.int l5_15), some (.int (0 : Int32))]) dX9_wrongClaim_44 (by decide) rfl ?_
        refine x_weak (pl2 := [some (.ref 0), some (.int f1), some (.int f2), some (.int f3), some (.int l4_15), some (.int l5_15), some (.int (0 : Int32))]) ⟨rfl, rfl, rfl, rfl, rfl, rfl, rfl, trivial⟩ ?_
        refine lp_hB_X9_wrongClaim_46 d _ f1 f2 f3 l5_15 res _ (fun l4_46 l6_46 h => ?_) 200000 l4_15 (0 : Int32) h
        refine x_iincK (1 : Int32) (pl' := [some (.ref 0), some (.int f1), some (.int f2), some (.int f3), some (.int l4_46), some (.int (l5_15 + (1 : Int32))), none]) dX9_wrongClaim_120 rfl (by decide) (by decide) rfl ?_
        refine x_goto 15 dX9_wrongClaim_123 (by decide) ?_
        refine x_weak (pl2 := [some (.ref 0), some (.int f1), some (.int f2), some (.int f3), some (.int l4_46), some (.int (l5_15 + (1 : Int32))), none]) ⟨rfl, rfl, rfl, rfl, rfl, rfl, trivial⟩ ?_
        exact ih15 l4_46 (l5_15 + (1 : Int32)) z40 h
      · have h := xif_t q h
        refine x_aload_n dX9_wrongClaim_28 rfl ?_
        refine x_get fX9_21 dX9_wrongClaim_29 rfl rfl rfl ?_
        refine x_iload_n dX9_wrongClaim_32 rfl ?_
        refine x_iload_n dX9_wrongClaim_33 rfl ?_
        obtain ⟨z34, y34, h⟩ := xbind h
        refine x_callS (t_hB_X9_changes f2 f3 z34 y34 (d + 3)) kX9_345 dX9_wrongClaim_34 rfl rfl (Nat.le_of_ble_eq_true rfl) (Nat.le_of_ble_eq_true rfl) rfl rfl (Or.inl rfl) ?_
        refine x_aload_n dX9_wrongClaim_37 rfl ?_
        refine x_iload dX9_wrongClaim_38 rfl ?_
        obtain ⟨z40, y40, h⟩ := xbind h
        refine x_callV (t_hB_X9_goesBy l5_15 z40 y40 (d + 0)) kX9_356 dX9_wrongClaim_40 rfl rfl rfl rfl rfl (Nat.le_of_ble_eq_true rfl) (Nat.le_of_ble_eq_true rfl) rfl rfl (Or.inl rfl) ?_
        refine x_iconst (0 : Int32) dX9_wrongClaim_43 (by decide) ?_
        refine x_istore (pl' := [some (.ref 0), some (.int f1), some (.int f2), some (.int f3), some (.int l4_15), some (.int l5_15), some (.int (0 : Int32))]) dX9_wrongClaim_44 (by decide) rfl ?_
        refine x_weak (pl2 := [some (.ref 0), some (.int f1), some (.int f2), some (.int f3), some (.int l4_15), some (.int l5_15), some (.int (0 : Int32))]) ⟨rfl, rfl, rfl, rfl, rfl, rfl, rfl, trivial⟩ ?_
        refine lp_hB_X9_wrongClaim_46 d _ f1 f2 f3 l5_15 res _ (fun l4_46 l6_46 h => ?_) 200000 l4_15 (0 : Int32) h
        refine x_iincK (1 : Int32) (pl' := [some (.ref 0), some (.int f1), some (.int f2), some (.int f3), some (.int l4_46), some (.int (l5_15 + (1 : Int32))), none]) dX9_wrongClaim_120 rfl (by decide) (by decide) rfl ?_
        refine x_goto 15 dX9_wrongClaim_123 (by decide) ?_
        refine x_weak (pl2 := [some (.ref 0), some (.int f1), some (.int f2), some (.int f3), some (.int l4_46), some (.int (l5_15 + (1 : Int32))), none]) ⟨rfl, rfl, rfl, rfl, rfl, rfl, trivial⟩ ?_
        exact ih15 l4_46 (l5_15 + (1 : Int32)) z40 h
set_option maxRecDepth 100000 in
set_option maxHeartbeats 4000000 in
theorem t_hB_X9_wrongClaim {g0 g1 g2 g3 g4 g5 g6 g7 g8 g9 g10 g11 g12 g13 g14 g15 g16 g17 g18 g19 g20 g21 g22 g23 g24 g25 g26 : Int32} {a0 a1 a2 a3 a4 a5 a6 a7 a8 a9 a10 a11 a12 a13 a14 a15 a16 a17 a18 a19 a20 a21 a22 a23 : (Nat → Int32)} {b0 : (Nat → Int64)} {w0 : Int64} {rv : Value} (x1 : Int32) (x2 : Int32) (x3 : Int32) (res : Int32 × (Nat → Int32)) (h : e_hB_X9_wrongClaim a2 g23 a11 a10 a14 g24 a18 a16 a15 a17 g19 g22 a12 g25 a21 a20 a19 x1 x2 x3 = some res) (d : Nat) : xMet xks YX9_wrongClaim (d + 5) 0 0 [.ref 0, .int x1, .int x2, .int x3] (hB g0 g1 g2 g3 g4 g5 g6 g7 g8 g9 g10 g11 g12 g13 g14 g15 g16 g17 g18 g19 g20 g21 g22 g23 g24 g25 g26 a0 a1 a2 a3 a4 a5 a6 a7 a8 a9 a10 a11 a12 a13 a14 a15 a16 a17 a18 a19 a20 a21 a22 a23 b0 w0 (.ref 11) rv) (some (.int res.1)) (hB g0 g1 g2 g3 g4 g5 g6 g7 g8 g9 g10 g11 g12 g13 g14 g15 g16 g17 g18 g19 g20 g21 g22 g23 g24 g25 g26 a0 a1 res.2 a3 a4 a5 a6 a7 a8 a9 a10 a11 a12 a13 a14 a15 a16 a17 a18 a19 a20 a21 a22 a23 b0 w0 (.ref 11) rv) := by
  unfold e_hB_X9_wrongClaim at h
  refine xMet_of (pl := [some (.ref 0), some (.int x1), some (.int x2), some (.int x3), none, none, none]) (by decide) (Nat.le_of_ble_eq_true rfl) rfl (Nat.le_of_ble_eq_true rfl) ?_
  refine x_bipush (6 : Int32) dX9_wrongClaim_0 (by decide) ?_
  refine x_istore (pl' := [some (.ref 0), some (.int x1), some (.int x2), some (.int x3), some (.int (6 : Int32)), none, none]) dX9_wrongClaim_2 (by decide) rfl ?_
  refine x_aload_n dX9_wrongClaim_4 rfl ?_
  refine x_aload_n dX9_wrongClaim_5 rfl ?_
  refine x_get fX9_21 dX9_wrongClaim_6 rfl rfl rfl ?_
  obtain ⟨z9, y9, h⟩ := xbind h
  refine x_callV (t_hB_X9_starts  z9 y9 (d + 2)) kX9_318 dX9_wrongClaim_9 rfl rfl rfl rfl rfl (Nat.le_of_ble_eq_true rfl) (Nat.le_of_ble_eq_true rfl) rfl rfl (Or.inl rfl) ?_
  refine x_iconst (0 : Int32) dX9_wrongClaim_12 (by decide) ?_
  refine x_istore (pl' := [some (.ref 0), some (.int x1), some (.int x2), some (.int x3), some (.int (6 : Int32)), some (.int (0 : Int32)), none]) dX9_wrongClaim_13 (by decide) rfl ?_
  refine x_weak (pl2 := [some (.ref 0), some (.int x1), some (.int x2), some (.int x3), some (.int (6 : Int32)), some (.int (0 : Int32)), none]) ⟨rfl, rfl, rfl, rfl, rfl, rfl, trivial⟩ ?_
  refine lp_hB_X9_wrongClaim_15 d _ x1 x2 x3 res _ (fun l4_15 l5_15 ma2_15 h => ?_) 200000 (6 : Int32) (0 : Int32) z9 h
  refine x_iload dX9_wrongClaim_126 rfl ?_
  refine x_bipush (6 : Int32) dX9_wrongClaim_128 (by decide) ?_
  refine x_icmp_ne 138 dX9_wrongClaim_130 (by decide) (fun q => ?_) (fun q => ?_)
  · have h := xif_f q h
    refine x_iload dX9_wrongClaim_138 rfl ?_
    cases h
    exact x_iret2 dX9_wrongClaim_140 rfl rfl
  · have h := xif_t q h
    refine x_bipush (-2 : Int32) dX9_wrongClaim_133 (by decide) ?_
    refine x_goto 140 dX9_wrongClaim_135 (by decide) ?_
    cases h
    exact x_iret2 dX9_wrongClaim_140 rfl rfl
noncomputable def e_hB_X9_judge (p0 : Int32) (p1 : (Nat → Int32)) (p2 : Int32) (p3 : (Nat → Int32)) (p4 : (Nat → Int32)) (p5 : (Nat → Int32)) (p6 : Int32) (p7 : (Nat → Int32)) (p8 : (Nat → Int32)) (p9 : (Nat → Int32)) (p10 : (Nat → Int32)) (p11 : Int32) (p12 : Int32) (p13 : (Nat → Int32)) (p14 : Int32) (p15 : (Nat → Int32)) (p16 : (Nat → Int32)) (p17 : (Nat → Int32)) (p18 : Int32) (p19 : Int32)  : Option (Int32 × Int32 × (Nat → Int32) × Int32 × Int32) :=
  ((e_hB_X9_wrongClaim p1 p2 p3 p4 p5 p6 p7 p8 p9 p10 p11 p12 p13 p14 p15 p16 p17 (-1 : Int32) (0 : Int32) (0 : Int32)).bind fun z25 => (e_hB_X9_good p18 p19 z25.1).bind fun z28 => some (z28.1, (0 : Int32), z25.2, z28.2.1, z28.2.2))
set_option maxRecDepth 100000 in
set_option maxHeartbeats 4000000 in
theorem t_hB_X9_judge {g0 g1 g2 g3 g4 g5 g6 g7 g8 g9 g10 g11 g12 g13 g14 g15 g16 g17 g18 g19 g20 g21 g22 g23 g24 g25 g26 : Int32} {a0 a1 a2 a3 a4 a5 a6 a7 a8 a9 a10 a11 a12 a13 a14 a15 a16 a17 a18 a19 a20 a21 a22 a23 : (Nat → Int32)} {b0 : (Nat → Int64)} {w0 : Int64} {rv : Value}  (res : Int32 × Int32 × (Nat → Int32) × Int32 × Int32) (h : e_hB_X9_judge g0 a2 g23 a11 a10 a14 g24 a18 a16 a15 a17 g19 g22 a12 g25 a21 a20 a19 g1 g2  = some res) (d : Nat) : xMet xks YX9_judge (d + 6) 0 0 [.ref 0] (hB g0 g1 g2 g3 g4 g5 g6 g7 g8 g9 g10 g11 g12 g13 g14 g15 g16 g17 g18 g19 g20 g21 g22 g23 g24 g25 g26 a0 a1 a2 a3 a4 a5 a6 a7 a8 a9 a10 a11 a12 a13 a14 a15 a16 a17 a18 a19 a20 a21 a22 a23 b0 w0 (.ref 11) rv) (some (.int res.1)) (hB res.2.1 res.2.2.2.1 res.2.2.2.2 g3 g4 g5 g6 g7 g8 g9 g10 g11 g12 g13 g14 g15 g16 g17 g18 g19 g20 g21 g22 g23 g24 g25 g26 a0 a1 res.2.2.1 a3 a4 a5 a6 a7 a8 a9 a10 a11 a12 a13 a14 a15 a16 a17 a18 a19 a20 a21 a22 a23 b0 w0 (.ref 11) rv) := by
  unfold e_hB_X9_judge at h
  refine xMet_of (pl := [some (.ref 0)]) (by decide) (Nat.le_of_ble_eq_true rfl) rfl (Nat.le_of_ble_eq_true rfl) ?_
  refine x_aload_n dX9_judge_0 rfl ?_
  refine x_iconst (0 : Int32) dX9_judge_1 (by decide) ?_
  refine x_put (h2 := (hB (0 : Int32) g1 g2 g3 g4 g5 g6 g7 g8 g9 g10 g11 g12 g13 g14 g15 g16 g17 g18 g19 g20 g21 g22 g23 g24 g25 g26 a0 a1 a2 a3 a4 a5 a6 a7 a8 a9 a10 a11 a12 a13 a14 a15 a16 a17 a18 a19 a20 a21 a22 a23 b0 w0 (.ref 11) rv)) fX9_45 dX9_judge_2 rfl rfl (Nat.le_of_ble_eq_true rfl : 0 + 1 ≤ _) (fun α => ⟨rfl, rfl⟩) rfl ?_
  refine x_aload_n dX9_judge_5 rfl ?_
  refine x_get fX9_316 dX9_judge_6 rfl rfl rfl ?_
  refine x_ifnonnull 20 dX9_judge_9 (by decide) ?_
  refine x_aload_n dX9_judge_20 rfl ?_
  refine x_aload_n dX9_judge_21 rfl ?_
  refine x_iconst (-1 : Int32) dX9_judge_22 (by decide) ?_
  refine x_iconst (0 : Int32) dX9_judge_23 (by decide) ?_
  refine x_iconst (0 : Int32) dX9_judge_24 (by decide) ?_
  obtain ⟨z25, y25, h⟩ := xbind h
  refine x_callV (t_hB_X9_wrongClaim (-1 : Int32) (0 : Int32) (0 : Int32) z25 y25 (d + 0)) kX9_383 dX9_judge_25 rfl rfl rfl rfl rfl (Nat.le_of_ble_eq_true rfl) (Nat.le_of_ble_eq_true rfl) rfl rfl (Or.inl rfl) ?_
  obtain ⟨z28, y28, h⟩ := xbind h
  refine x_callV (t_hB_X9_good z25.1 z28 y28 (d + 4)) kX9_55 dX9_judge_28 rfl rfl rfl rfl rfl (Nat.le_of_ble_eq_true rfl) (Nat.le_of_ble_eq_true rfl) rfl rfl (Or.inl rfl) ?_
  cases h
  exact x_iret2 dX9_judge_31 rfl rfl
noncomputable def L_hB_X9_countsWays_34 (p2 : Int32) (p3 : (Nat → Int32)) (p4 : (Nat → Int32)) (p5 : (Nat → Int32)) (p6 : Int32) (p7 : (Nat → Int32)) (p8 : (Nat → Int32)) (p9 : (Nat → Int32)) (p10 : (Nat → Int32)) (p11 : Int32) (p12 : Int32) (p13 : (Nat → Int32)) (p14 : Int32) (p15 : (Nat → Int32)) (p16 : (Nat → Int32)) (p17 : (Nat → Int32)) (p18 : (Nat → Int32))  (f1 : Int32) (K : Int32 → Int32 → (Nat → Int32) → Int32 → Option (Int32 × Int32 × (Nat → Int32))) : Nat → Int32 → Int32 → (Nat → Int32) → Int32 → Option (Int32 × Int32 × (Nat → Int32))
  | 0, _, _, _, _ => none
  | n34 + 1, l2_34, l3_34, ma2_34, mg13_34 => if (4100 : Int32) ≤ l3_34 then K l2_34 l3_34 ma2_34 mg13_34 else if (l3_34 - l3_34 / (10 : Int32) * (10 : Int32)) ≤ ((l3_34 / (10 : Int32)) - (l3_34 / (10 : Int32)) / (10 : Int32) * (10 : Int32)) then L_hB_X9_countsWays_34 p2 p3 p4 p5 p6 p7 p8 p9 p10 p11 p12 p13 p14 p15 p16 p17 p18 f1 K n34 l2_34 (l3_34 + (1 : Int32)) ma2_34 mg13_34 else if p2 ≤ (l3_34 - l3_34 / (10 : Int32) * (10 : Int32)) then L_hB_X9_countsWays_34 p2 p3 p4 p5 p6 p7 p8 p9 p10 p11 p12 p13 p14 p15 p16 p17 p18 f1 K n34 l2_34 (l3_34 + (1 : Int32)) ma2_34 mg13_34 else ((e_hB_X8_areAlike p3 p18 ((l3_34 / (10 : Int32)) - (l3_34 / (10 : Int32)) / (10 : Int32) * (10 : Int32)) (l3_34 - l3_34 / (10 : Int32) * (10 : Int32))).bind fun z83 => if z83 = (0 : Int32) then L_hB_X9_countsWays_34 p2 p3 p4 p5 p6 p7 p8 p9 p10 p11 p12 p13 p14 p15 p16 p17 p18 f1 K n34 l2_34 (l3_34 + (1 : Int32)) ma2_34 mg13_34 else ((e_hB_X9_wrongClaim ma2_34 p2 p3 p4 p5 p6 p7 p8 p9 p10 p11 p12 p13 p14 p15 p16 p17 (l3_34 / (100 : Int32)) ((l3_34 / (10 : Int32)) - (l3_34 / (10 : Int32)) / (10 : Int32) * (10 : Int32)) (l3_34 - l3_34 / (10 : Int32) * (10 : Int32))).bind fun z98 => if z98.1 = (-2 : Int32) then if l2_34 = f1 then L_hB_X9_countsWays_34 p2 p3 p4 p5 p6 p7 p8 p9 p10 p11 p12 p13 p14 p15 p16 p17 p18 f1 K n34 (l2_34 + (1 : Int32)) (l3_34 + (1 : Int32)) z98.2 l3_34 else L_hB_X9_countsWays_34 p2 p3 p4 p5 p6 p7 p8 p9 p10 p11 p12 p13 p14 p15 p16 p17 p18 f1 K n34 (l2_34 + (1 : Int32)) (l3_34 + (1 : Int32)) z98.2 mg13_34 else L_hB_X9_countsWays_34 p2 p3 p4 p5 p6 p7 p8 p9 p10 p11 p12 p13 p14 p15 p16 p17 p18 f1 K n34 l2_34 (l3_34 + (1 : Int32)) z98.2 mg13_34))
noncomputable def e_hB_X9_countsWays (p0 : Int32) (p1 : (Nat → Int32)) (p2 : Int32) (p3 : (Nat → Int32)) (p4 : (Nat → Int32)) (p5 : (Nat → Int32)) (p6 : Int32) (p7 : (Nat → Int32)) (p8 : (Nat → Int32)) (p9 : (Nat → Int32)) (p10 : (Nat → Int32)) (p11 : Int32) (p12 : Int32) (p13 : (Nat → Int32)) (p14 : Int32) (p15 : (Nat → Int32)) (p16 : (Nat → Int32)) (p17 : (Nat → Int32)) (p18 : (Nat → Int32)) (x1 : Int32) : Option (Int32 × Int32 × (Nat → Int32)) :=
  ((e_hB_X9_wrongClaim p1 p2 p3 p4 p5 p6 p7 p8 p9 p10 p11 p12 p13 p14 p15 p16 p17 (-1 : Int32) (0 : Int32) (0 : Int32)).bind fun z11 => if z11.1 = (-2 : Int32) then if x1 = (0 : Int32) then L_hB_X9_countsWays_34 p2 p3 p4 p5 p6 p7 p8 p9 p10 p11 p12 p13 p14 p15 p16 p17 p18 x1 (fun l2_34 l3_34 ma2_34 mg13_34 => some (l2_34, mg13_34, ma2_34)) 200000 ((0 : Int32) + (1 : Int32)) (0 : Int32) z11.2 (-2 : Int32) else L_hB_X9_countsWays_34 p2 p3 p4 p5 p6 p7 p8 p9 p10 p11 p12 p13 p14 p15 p16 p17 p18 x1 (fun l2_34 l3_34 ma2_34 mg13_34 => some (l2_34, mg13_34, ma2_34)) 200000 ((0 : Int32) + (1 : Int32)) (0 : Int32) z11.2 (-1 : Int32) else L_hB_X9_countsWays_34 p2 p3 p4 p5 p6 p7 p8 p9 p10 p11 p12 p13 p14 p15 p16 p17 p18 x1 (fun l2_34 l3_34 ma2_34 mg13_34 => some (l2_34, mg13_34, ma2_34)) 200000 (0 : Int32) (0 : Int32) z11.2 (-1 : Int32))
set_option maxRecDepth 100000 in
set_option maxHeartbeats 4000000 in
theorem lp_hB_X9_countsWays_34 {g0 g1 g2 g3 g4 g5 g6 g7 g8 g9 g10 g11 g12 g14 g15 g16 g17 g18 g19 g20 g21 g22 g23 g24 g25 g26 : Int32} {a0 a1 a3 a4 a5 a6 a7 a8 a9 a10 a11 a12 a13 a14 a15 a16 a17 a18 a19 a20 a21 a22 a23 : (Nat → Int32)} {b0 : (Nat → Int64)} {w0 : Int64} {rv : Value} (d n0 : Nat) (f1 : Int32) (res : Int32 × Int32 × (Nat → Int32)) (K : Int32 → Int32 → (Nat → Int32) → Int32 → Option (Int32 × Int32 × (Nat → Int32))) (hK : ∀ (l2_34 : Int32) (l3_34 : Int32) (ma2_34 : (Nat → Int32)) (mg13_34 : Int32), K l2_34 l3_34 ma2_34 mg13_34 = some res → xW xks YX9_countsWays (d + 6) 0 0 n0 (xZ 0 0 n0 (some (.int res.1)) (hB g0 g1 g2 g3 g4 g5 g6 g7 g8 g9 g10 g11 g12 res.2.1 g14 g15 g16 g17 g18 g19 g20 g21 g22 g23 g24 g25 g26 a0 a1 res.2.2 a3 a4 a5 a6 a7 a8 a9 a10 a11 a12 a13 a14 a15 a16 a17 a18 a19 a20 a21 a22 a23 b0 w0 (.ref 11) rv)) 0 0 128 [none, none, some (.int l2_34), none, none, none] [] (hB g0 g1 g2 g3 g4 g5 g6 g7 g8 g9 g10 g11 g12 mg13_34 g14 g15 g16 g17 g18 g19 g20 g21 g22 g23 g24 g25 g26 a0 a1 ma2_34 a3 a4 a5 a6 a7 a8 a9 a10 a11 a12 a13 a14 a15 a16 a17 a18 a19 a20 a21 a22 a23 b0 w0 (.ref 11) rv)) : ∀ (n : Nat) (l2_34 : Int32) (l3_34 : Int32) (ma2_34 : (Nat → Int32)) (mg13_34 : Int32), L_hB_X9_countsWays_34 g23 a11 a10 a14 g24 a18 a16 a15 a17 g19 g22 a12 g25 a21 a20 a19 a13 f1 K n l2_34 l3_34 ma2_34 mg13_34 = some res → xW xks YX9_countsWays (d + 6) 0 0 n0 (xZ 0 0 n0 (some (.int res.1)) (hB g0 g1 g2 g3 g4 g5 g6 g7 g8 g9 g10 g11 g12 res.2.1 g14 g15 g16 g17 g18 g19 g20 g21 g22 g23 g24 g25 g26 a0 a1 res.2.2 a3 a4 a5 a6 a7 a8 a9 a10 a11 a12 a13 a14 a15 a16 a17 a18 a19 a20 a21 a22 a23 b0 w0 (.ref 11) rv)) 0 0 34 [some (.ref 0), some (.int f1), some (.int l2_34), some (.int l3_34), none, none] [] (hB g0 g1 g2 g3 g4 g5 g6 g7 g8 g9 g10 g11 g12 mg13_34 g14 g15 g16 g17 g18 g19 g20 g21 g22 g23 g24 g25 g26 a0 a1 ma2_34 a3 a4 a5 a6 a7 a8 a9 a10 a11 a12 a13 a14 a15 a16 a17 a18 a19 a20 a21 a22 a23 b0 w0 (.ref 11) rv) := by
  intro n
  induction n with
  | zero =>
    intro l2_34 l3_34 ma2_34 mg13_34 h
    cases (show (none : Option (Int32 × Int32 × (Nat → Int32))) = some res from h)
  | succ n34 ih34 =>
    intro l2_34 l3_34 ma2_34 mg13_34 h
    unfold L_hB_X9_countsWays_34 at h
    refine x_iload_n dX9_countsWays_34 rfl ?_
    refine x_sipush (4100 : Int32) dX9_countsWays_35 (by decide) ?_
    refine x_icmp_ge 128 dX9_countsWays_38 (by decide) (fun q => ?_) (fun q => ?_)
    · have h := xif_t q h
      refine x_weak (pl2 := [none, none, some (.int l2_34), none, none, none]) ⟨rfl, trivial⟩ ?_
      exact hK l2_34 l3_34 ma2_34 mg13_34 h
    · have h := xif_f q h
      refine x_iload_n dX9_countsWays_41 rfl ?_
      refine x_bipush (10 : Int32) dX9_countsWays_42 (by decide) ?_
      refine x_idiv dX9_countsWays_44 (by decide) ?_
      refine x_bipush (10 : Int32) dX9_countsWays_45 (by decide) ?_
      refine x_irem dX9_countsWays_47 (by decide) ?_
      refine x_istore (pl' := [some (.ref 0), some (.int f1), some (.int l2_34), some (.int l3_34), some (.int ((l3_34 / (10 : Int32)) - (l3_34 / (10 : Int32)) / (10 : Int32) * (10 : Int32))), none]) dX9_countsWays_48 (by decide) rfl ?_
      refine x_iload_n dX9_countsWays_50 rfl ?_
      refine x_bipush (10 : Int32) dX9_countsWays_51 (by decide) ?_
      refine x_irem dX9_countsWays_53 (by decide) ?_
      refine x_istore (pl' := [some (.ref 0), some (.int f1), some (.int l2_34), some (.int l3_34), some (.int ((l3_34 / (10 : Int32)) - (l3_34 / (10 : Int32)) / (10 : Int32) * (10 : Int32))), some (.int (l3_34 - l3_34 / (10 : Int32) * (10 : Int32)))]) dX9_countsWays_54 (by decide) rfl ?_
      refine x_iload dX9_countsWays_56 rfl ?_
      refine x_iload dX9_countsWays_58 rfl ?_
      refine x_icmp_ge 122 dX9_countsWays_60 (by decide) (fun q => ?_) (fun q => ?_)
      · have h := xif_t q h
        refine x_iincK (1 : Int32) (pl' := [some (.ref 0), some (.int f1), some (.int l2_34), some (.int (l3_34 + (1 : Int32))), some (.int ((l3_34 / (10 : Int32)) - (l3_34 / (10 : Int32)) / (10 : Int32) * (10 : Int32))), some (.int (l3_34 - l3_34 / (10 : Int32) * (10 : Int32)))]) dX9_countsWays_122 rfl (by decide) (by decide) rfl ?_
        refine x_goto 34 dX9_countsWays_125 (by decide) ?_
        refine x_weak (pl2 := [some (.ref 0), some (.int f1), some (.int l2_34), some (.int (l3_34 + (1 : Int32))), none, none]) ⟨rfl, rfl, rfl, rfl, trivial⟩ ?_
        exact ih34 l2_34 (l3_34 + (1 : Int32)) ma2_34 mg13_34 h
      · have h := xif_f q h
        refine x_iload dX9_countsWays_63 rfl ?_
        refine x_aload_n dX9_countsWays_65 rfl ?_
        refine x_get fX9_316 dX9_countsWays_66 rfl rfl rfl ?_
        refine x_get fX9_194 dX9_countsWays_69 rfl rfl rfl ?_
        refine x_icmp_ge 122 dX9_countsWays_72 (by decide) (fun q => ?_) (fun q => ?_)
        · have h := xif_t q h
          refine x_iincK (1 : Int32) (pl' := [some (.ref 0), some (.int f1), some (.int l2_34), some (.int (l3_34 + (1 : Int32))), some (.int ((l3_34 / (10 : Int32)) - (l3_34 / (10 : Int32)) / (10 : Int32) * (10 : Int32))), some (.int (l3_34 - l3_34 / (10 : Int32) * (10 : Int32)))]) dX9_countsWays_122 rfl (by decide) (by decide) rfl ?_
          refine x_goto 34 dX9_countsWays_125 (by decide) ?_
          refine x_weak (pl2 := [some (.ref 0), some (.int f1), some (.int l2_34), some (.int (l3_34 + (1 : Int32))), none, none]) ⟨rfl, rfl, rfl, rfl, trivial⟩ ?_
          exact ih34 l2_34 (l3_34 + (1 : Int32)) ma2_34 mg13_34 h
        · have h := xif_f q h
          refine x_aload_n dX9_countsWays_75 rfl ?_
          refine x_get fX9_316 dX9_countsWays_76 rfl rfl rfl ?_
          refine x_iload dX9_countsWays_79 rfl ?_
          refine x_iload dX9_countsWays_81 rfl ?_
          obtain ⟨z83, y83, h⟩ := xbind h
          refine x_callV (t_hB_X8_areAlike ((l3_34 / (10 : Int32)) - (l3_34 / (10 : Int32)) / (10 : Int32) * (10 : Int32)) (l3_34 - l3_34 / (10 : Int32) * (10 : Int32)) z83 y83 (d + 4)) kX9_368 dX9_countsWays_83 rfl rfl rfl rfl rfl (Nat.le_of_ble_eq_true rfl) (Nat.le_of_ble_eq_true rfl) rfl rfl (Or.inl rfl) ?_
          refine x_if_eq 122 dX9_countsWays_86 (by decide) (fun q => ?_) (fun q => ?_)
          · have h := xif_t q h
            refine x_iincK (1 : Int32) (pl' := [some (.ref 0), some (.int f1), some (.int l2_34), some (.int (l3_34 + (1 : Int32))), some (.int ((l3_34 / (10 : Int32)) - (l3_34 / (10 : Int32)) / (10 : Int32) * (10 : Int32))), some (.int (l3_34 - l3_34 / (10 : Int32) * (10 : Int32)))]) dX9_countsWays_122 rfl (by decide) (by decide) rfl ?_
            refine x_goto 34 dX9_countsWays_125 (by decide) ?_
            refine x_weak (pl2 := [some (.ref 0), some (.int f1), some (.int l2_34), some (.int (l3_34 + (1 : Int32))), none, none]) ⟨rfl, rfl, rfl, rfl, trivial⟩ ?_
            exact ih34 l2_34 (l3_34 + (1 : Int32)) ma2_34 mg13_34 h
          · have h := xif_f q h
            refine x_aload_n dX9_countsWays_89 rfl ?_
            refine x_iload_n dX9_countsWays_90 rfl ?_
            refine x_bipush (100 : Int32) dX9_countsWays_91 (by decide) ?_
            refine x_idiv dX9_countsWays_93 (by decide) ?_
            refine x_iload dX9_countsWays_94 rfl ?_
            refine x_iload dX9_countsWays_96 rfl ?_
            obtain ⟨z98, y98, h⟩ := xbind h
            refine x_callV (t_hB_X9_wrongClaim (l3_34 / (100 : Int32)) ((l3_34 / (10 : Int32)) - (l3_34 / (10 : Int32)) / (10 : Int32) * (10 : Int32)) (l3_34 - l3_34 / (10 : Int32) * (10 : Int32)) z98 y98 (d + 0)) kX9_383 dX9_countsWays_98 rfl rfl rfl rfl rfl (Nat.le_of_ble_eq_true rfl) (Nat.le_of_ble_eq_true rfl) rfl rfl (Or.inl rfl) ?_
            refine x_bipush (-2 : Int32) dX9_countsWays_101 (by decide) ?_
            refine x_icmp_eq 109 dX9_countsWays_103 (by decide) (fun q => ?_) (fun q => ?_)
            · have h := xif_t q h
              refine x_iload_n dX9_countsWays_109 rfl ?_
              refine x_iload_n dX9_countsWays_110 rfl ?_
              refine x_icmp_ne 119 dX9_countsWays_111 (by decide) (fun q => ?_) (fun q => ?_)
              · have h := xif_f q h
                refine x_iincK (1 : Int32) (pl' := [some (.ref 0), some (.int f1), some (.int (l2_34 + (1 : Int32))), some (.int l3_34), some (.int ((l3_34 / (10 : Int32)) - (l3_34 / (10 : Int32)) / (10 : Int32) * (10 : Int32))), some (.int (l3_34 - l3_34 / (10 : Int32) * (10 : Int32)))]) dX9_countsWays_119 rfl (by decide) (by decide) rfl ?_
                refine x_iincK (1 : Int32) (pl' := [some (.ref 0), some (.int f1), some (.int (l2_34 + (1 : Int32))), some (.int (l3_34 + (1 : Int32))), some (.int ((l3_34 / (10 : Int32)) - (l3_34 / (10 : Int32)) / (10 : Int32) * (10 : Int32))), some (.int (l3_34 - l3_34 / (10 : Int32) * (10 : Int32)))]) dX9_countsWays_122 rfl (by decide) (by decide) rfl ?_
                refine x_goto 34 dX9_countsWays_125 (by decide) ?_
                refine x_weak (pl2 := [some (.ref 0), some (.int f1), some (.int (l2_34 + (1 : Int32))), some (.int (l3_34 + (1 : Int32))), none, none]) ⟨rfl, rfl, rfl, rfl, trivial⟩ ?_
                exact ih34 (l2_34 + (1 : Int32)) (l3_34 + (1 : Int32)) z98.2 mg13_34 h
              · have h := xif_t q h
                refine x_aload_n dX9_countsWays_114 rfl ?_
                refine x_iload_n dX9_countsWays_115 rfl ?_
                refine x_put (h2 := (hB g0 g1 g2 g3 g4 g5 g6 g7 g8 g9 g10 g11 g12 l3_34 g14 g15 g16 g17 g18 g19 g20 g21 g22 g23 g24 g25 g26 a0 a1 z98.2 a3 a4 a5 a6 a7 a8 a9 a10 a11 a12 a13 a14 a15 a16 a17 a18 a19 a20 a21 a22 a23 b0 w0 (.ref 11) rv)) fX9_387 dX9_countsWays_116 rfl rfl (Nat.le_of_ble_eq_true rfl : 21 + 1 ≤ _) (fun α => ⟨rfl, rfl⟩) rfl ?_
                refine x_iincK (1 : Int32) (pl' := [some (.ref 0), some (.int f1), some (.int (l2_34 + (1 : Int32))), some (.int l3_34), some (.int ((l3_34 / (10 : Int32)) - (l3_34 / (10 : Int32)) / (10 : Int32) * (10 : Int32))), some (.int (l3_34 - l3_34 / (10 : Int32) * (10 : Int32)))]) dX9_countsWays_119 rfl (by decide) (by decide) rfl ?_
                refine x_iincK (1 : Int32) (pl' := [some (.ref 0), some (.int f1), some (.int (l2_34 + (1 : Int32))), some (.int (l3_34 + (1 : Int32))), some (.int ((l3_34 / (10 : Int32)) - (l3_34 / (10 : Int32)) / (10 : Int32) * (10 : Int32))), some (.int (l3_34 - l3_34 / (10 : Int32) * (10 : Int32)))]) dX9_countsWays_122 rfl (by decide) (by decide) rfl ?_
                refine x_goto 34 dX9_countsWays_125 (by decide) ?_
                refine x_weak (pl2 := [some (.ref 0), some (.int f1), some (.int (l2_34 + (1 : Int32))), some (.int (l3_34 + (1 : Int32))), none, none]) ⟨rfl, rfl, rfl, rfl, trivial⟩ ?_
                exact ih34 (l2_34 + (1 : Int32)) (l3_34 + (1 : Int32)) z98.2 l3_34 h
            · have h := xif_f q h
              refine x_goto 122 dX9_countsWays_106 (by decide) ?_
              refine x_iincK (1 : Int32) (pl' := [some (.ref 0), some (.int f1), some (.int l2_34), some (.int (l3_34 + (1 : Int32))), some (.int ((l3_34 / (10 : Int32)) - (l3_34 / (10 : Int32)) / (10 : Int32) * (10 : Int32))), some (.int (l3_34 - l3_34 / (10 : Int32) * (10 : Int32)))]) dX9_countsWays_122 rfl (by decide) (by decide) rfl ?_
              refine x_goto 34 dX9_countsWays_125 (by decide) ?_
              refine x_weak (pl2 := [some (.ref 0), some (.int f1), some (.int l2_34), some (.int (l3_34 + (1 : Int32))), none, none]) ⟨rfl, rfl, rfl, rfl, trivial⟩ ?_
              exact ih34 l2_34 (l3_34 + (1 : Int32)) z98.2 mg13_34 h
set_option maxRecDepth 100000 in
set_option maxHeartbeats 4000000 in
theorem t_hB_X9_countsWays {g0 g1 g2 g3 g4 g5 g6 g7 g8 g9 g10 g11 g12 g13 g14 g15 g16 g17 g18 g19 g20 g21 g22 g23 g24 g25 g26 : Int32} {a0 a1 a2 a3 a4 a5 a6 a7 a8 a9 a10 a11 a12 a13 a14 a15 a16 a17 a18 a19 a20 a21 a22 a23 : (Nat → Int32)} {b0 : (Nat → Int64)} {w0 : Int64} {rv : Value} (x1 : Int32) (res : Int32 × Int32 × (Nat → Int32)) (h : e_hB_X9_countsWays g13 a2 g23 a11 a10 a14 g24 a18 a16 a15 a17 g19 g22 a12 g25 a21 a20 a19 a13 x1 = some res) (d : Nat) : xMet xks YX9_countsWays (d + 6) 0 0 [.ref 0, .int x1] (hB g0 g1 g2 g3 g4 g5 g6 g7 g8 g9 g10 g11 g12 g13 g14 g15 g16 g17 g18 g19 g20 g21 g22 g23 g24 g25 g26 a0 a1 a2 a3 a4 a5 a6 a7 a8 a9 a10 a11 a12 a13 a14 a15 a16 a17 a18 a19 a20 a21 a22 a23 b0 w0 (.ref 11) rv) (some (.int res.1)) (hB g0 g1 g2 g3 g4 g5 g6 g7 g8 g9 g10 g11 g12 res.2.1 g14 g15 g16 g17 g18 g19 g20 g21 g22 g23 g24 g25 g26 a0 a1 res.2.2 a3 a4 a5 a6 a7 a8 a9 a10 a11 a12 a13 a14 a15 a16 a17 a18 a19 a20 a21 a22 a23 b0 w0 (.ref 11) rv) := by
  unfold e_hB_X9_countsWays at h
  refine xMet_of (pl := [some (.ref 0), some (.int x1), none, none, none, none]) (by decide) (Nat.le_of_ble_eq_true rfl) rfl (Nat.le_of_ble_eq_true rfl) ?_
  refine x_iconst (0 : Int32) dX9_countsWays_0 (by decide) ?_
  refine x_istore_n (pl' := [some (.ref 0), some (.int x1), some (.int (0 : Int32)), none, none, none]) dX9_countsWays_1 (by decide) rfl ?_
  refine x_aload_n dX9_countsWays_2 rfl ?_
  refine x_iconst (-1 : Int32) dX9_countsWays_3 (by decide) ?_
  refine x_put (h2 := (hB g0 g1 g2 g3 g4 g5 g6 g7 g8 g9 g10 g11 g12 (-1 : Int32) g14 g15 g16 g17 g18 g19 g20 g21 g22 g23 g24 g25 g26 a0 a1 a2 a3 a4 a5 a6 a7 a8 a9 a10 a11 a12 a13 a14 a15 a16 a17 a18 a19 a20 a21 a22 a23 b0 w0 (.ref 11) rv)) fX9_387 dX9_countsWays_4 rfl rfl (Nat.le_of_ble_eq_true rfl : 21 + 1 ≤ _) (fun α => ⟨rfl, rfl⟩) rfl ?_
  refine x_aload_n dX9_countsWays_7 rfl ?_
  refine x_iconst (-1 : Int32) dX9_countsWays_8 (by decide) ?_
  refine x_iconst (0 : Int32) dX9_countsWays_9 (by decide) ?_
  refine x_iconst (0 : Int32) dX9_countsWays_10 (by decide) ?_
  obtain ⟨z11, y11, h⟩ := xbind h
  refine x_callV (t_hB_X9_wrongClaim (-1 : Int32) (0 : Int32) (0 : Int32) z11 y11 (d + 0)) kX9_383 dX9_countsWays_11 rfl rfl rfl rfl rfl (Nat.le_of_ble_eq_true rfl) (Nat.le_of_ble_eq_true rfl) rfl rfl (Or.inl rfl) ?_
  refine x_bipush (-2 : Int32) dX9_countsWays_14 (by decide) ?_
  refine x_icmp_ne 32 dX9_countsWays_16 (by decide) (fun q => ?_) (fun q => ?_)
  · have h := xif_f q h
    refine x_iconst (0 : Int32) dX9_countsWays_32 (by decide) ?_
    refine x_istore_n (pl' := [some (.ref 0), some (.int x1), some (.int (0 : Int32)), some (.int (0 : Int32)), none, none]) dX9_countsWays_33 (by decide) rfl ?_
    refine x_weak (pl2 := [some (.ref 0), some (.int x1), some (.int (0 : Int32)), some (.int (0 : Int32)), none, none]) ⟨rfl, rfl, rfl, rfl, trivial⟩ ?_
    refine lp_hB_X9_countsWays_34 d _ x1 res _ (fun l2_34 l3_34 ma2_34 mg13_34 h => ?_) 200000 (0 : Int32) (0 : Int32) z11.2 (-1 : Int32) h
    refine x_iload_n dX9_countsWays_128 rfl ?_
    cases h
    exact x_iret2 dX9_countsWays_129 rfl rfl
  · have h := xif_t q h
    refine x_iload_n dX9_countsWays_19 rfl ?_
    refine x_if_ne 29 dX9_countsWays_20 (by decide) (fun q => ?_) (fun q => ?_)
    · have h := xif_f q h
      refine x_iincK (1 : Int32) (pl' := [some (.ref 0), some (.int x1), some (.int ((0 : Int32) + (1 : Int32))), none, none, none]) dX9_countsWays_29 rfl (by decide) (by decide) rfl ?_
      refine x_iconst (0 : Int32) dX9_countsWays_32 (by decide) ?_
      refine x_istore_n (pl' := [some (.ref 0), some (.int x1), some (.int ((0 : Int32) + (1 : Int32))), some (.int (0 : Int32)), none, none]) dX9_countsWays_33 (by decide) rfl ?_
      refine x_weak (pl2 := [some (.ref 0), some (.int x1), some (.int ((0 : Int32) + (1 : Int32))), some (.int (0 : Int32)), none, none]) ⟨rfl, rfl, rfl, rfl, trivial⟩ ?_
      refine lp_hB_X9_countsWays_34 d _ x1 res _ (fun l2_34 l3_34 ma2_34 mg13_34 h => ?_) 200000 ((0 : Int32) + (1 : Int32)) (0 : Int32) z11.2 (-1 : Int32) h
      refine x_iload_n dX9_countsWays_128 rfl ?_
      cases h
      exact x_iret2 dX9_countsWays_129 rfl rfl
    · have h := xif_t q h
      refine x_aload_n dX9_countsWays_23 rfl ?_
      refine x_bipush (-2 : Int32) dX9_countsWays_24 (by decide) ?_
      refine x_put (h2 := (hB g0 g1 g2 g3 g4 g5 g6 g7 g8 g9 g10 g11 g12 (-2 : Int32) g14 g15 g16 g17 g18 g19 g20 g21 g22 g23 g24 g25 g26 a0 a1 z11.2 a3 a4 a5 a6 a7 a8 a9 a10 a11 a12 a13 a14 a15 a16 a17 a18 a19 a20 a21 a22 a23 b0 w0 (.ref 11) rv)) fX9_387 dX9_countsWays_26 rfl rfl (Nat.le_of_ble_eq_true rfl : 21 + 1 ≤ _) (fun α => ⟨rfl, rfl⟩) rfl ?_
      refine x_iincK (1 : Int32) (pl' := [some (.ref 0), some (.int x1), some (.int ((0 : Int32) + (1 : Int32))), none, none, none]) dX9_countsWays_29 rfl (by decide) (by decide) rfl ?_
      refine x_iconst (0 : Int32) dX9_countsWays_32 (by decide) ?_
      refine x_istore_n (pl' := [some (.ref 0), some (.int x1), some (.int ((0 : Int32) + (1 : Int32))), some (.int (0 : Int32)), none, none]) dX9_countsWays_33 (by decide) rfl ?_
      refine x_weak (pl2 := [some (.ref 0), some (.int x1), some (.int ((0 : Int32) + (1 : Int32))), some (.int (0 : Int32)), none, none]) ⟨rfl, rfl, rfl, rfl, trivial⟩ ?_
      refine lp_hB_X9_countsWays_34 d _ x1 res _ (fun l2_34 l3_34 ma2_34 mg13_34 h => ?_) 200000 ((0 : Int32) + (1 : Int32)) (0 : Int32) z11.2 (-2 : Int32) h
      refine x_iload_n dX9_countsWays_128 rfl ?_
      cases h
      exact x_iret2 dX9_countsWays_129 rfl rfl
