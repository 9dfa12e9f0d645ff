noncomputable def L_hB_X9_nextRow_4    (K : Int32 → (Nat → Int32) → Option (Int32 × (Nat → Int32))) : Nat → Int32 → (Nat → Int32) → Option (Int32 × (Nat → Int32))
  | 0, _, _ => none
  | n4 + 1, l2_4, ma5_4 => if l2_4 < (0 : Int32) then K l2_4 ma5_4 else (xix l2_4 3 (xix l2_4 3 (xix l2_4 3 (if (50 : Int32) ≤ ((upd ma5_4 l2_4.toNatClampNeg ((ma5_4 l2_4.toNatClampNeg) + (1 : Int32))) l2_4.toNatClampNeg) then (xix l2_4 3 (L_hB_X9_nextRow_4   K n4 (l2_4 + (-1 : Int32)) (upd (upd ma5_4 l2_4.toNatClampNeg ((ma5_4 l2_4.toNatClampNeg) + (1 : Int32))) l2_4.toNatClampNeg (0 : Int32)))) else some ((1 : Int32), (upd ma5_4 l2_4.toNatClampNeg ((ma5_4 l2_4.toNatClampNeg) + (1 : Int32))))))))
noncomputable def e_hB_X9_nextRow (p0 : (Nat → Int32)) (x1 : Int32) : Option (Int32 × (Nat → Int32)) :=
  L_hB_X9_nextRow_4   (fun l2_4 ma5_4 => some ((0 : Int32), ma5_4)) 200000 (x1 - (1 : Int32)) p0
set_option maxRecDepth 100000 in
set_option maxHeartbeats 4000000 in
theorem lp_hB_X9_nextRow_4 {g0 g1 g2 g3 g4 g5 g6 g7 g8 g9 g10 g11 g12 g13 g14 g15 g16 g17 g18 g19 g20 g21 g22 g23 g24 g25 g26 : Int32} {a0 a1 a2 a3 a4 a6 a7 a8 a9 a10 a11 a12 a13 a14 a15 a16 a17 a18 a19 a20 a21 a22 a23 : (Nat → Int32)} {b0 : (Nat → Int64)} {w0 : Int64} {rv : Value} (d n0 : Nat)  (res : Int32 × (Nat → Int32)) (K : Int32 → (Nat → Int32) → Option (Int32 × (Nat → Int32))) (hK : ∀ (l2_4 : Int32) (ma5_4 : (Nat → Int32)), K l2_4 ma5_4 = some res → xW xks YX9_nextRow (d + 1) 0 0 n0 (xZ 0 0 n0 (some (.int res.1)) (hB g0 g1 g2 g3 g4 g5 g6 g7 g8 g9 g10 g11 g12 g13 g14 g15 g16 g17 g18 g19 g20 g21 g22 g23 g24 g25 g26 a0 a1 a2 a3 a4 res.2 a6 a7 a8 a9 a10 a11 a12 a13 a14 a15 a16 a17 a18 a19 a20 a21 a22 a23 b0 w0 (.ref 11) rv)) 0 0 44 [none, none, none] [] (hB g0 g1 g2 g3 g4 g5 g6 g7 g8 g9 g10 g11 g12 g13 g14 g15 g16 g17 g18 g19 g20 g21 g22 g23 g24 g25 g26 a0 a1 a2 a3 a4 ma5_4 a6 a7 a8 a9 a10 a11 a12 a13 a14 a15 a16 a17 a18 a19 a20 a21 a22 a23 b0 w0 (.ref 11) rv)) : ∀ (n : Nat) (l2_4 : Int32) (ma5_4 : (Nat → Int32)), L_hB_X9_nextRow_4   K n l2_4 ma5_4 = some res → xW xks YX9_nextRow (d + 1) 0 0 n0 (xZ 0 0 n0 (some (.int res.1)) (hB g0 g1 g2 g3 g4 g5 g6 g7 g8 g9 g10 g11 g12 g13 g14 g15 g16 g17 g18 g19 g20 g21 g22 g23 g24 g25 g26 a0 a1 a2 a3 a4 res.2 a6 a7 a8 a9 a10 a11 a12 a13 a14 a15 a16 a17 a18 a19 a20 a21 a22 a23 b0 w0 (.ref 11) rv)) 0 0 4 [some (.ref 0), none, some (.int l2_4)] [] (hB g0 g1 g2 g3 g4 g5 g6 g7 g8 g9 g10 g11 g12 g13 g14 g15 g16 g17 g18 g19 g20 g21 g22 g23 g24 g25 g26 a0 a1 a2 a3 a4 ma5_4 a6 a7 a8 a9 a10 a11 a12 a13 a14 a15 a16 a17 a18 a19 a20 a21 a22 a23 b0 w0 (.ref 11) rv) := by
  intro n
  induction n with
  | zero =>
    intro l2_4 ma5_4 h
    cases (show (none : Option (Int32 × (Nat → Int32))) = some res from h)
  | succ n4 ih4 =>
    intro l2_4 ma5_4 h
    unfold L_hB_X9_nextRow_4 at h
    refine x_iload_n dX9_nextRow_4 rfl ?_
    refine x_if_lt 44 dX9_nextRow_5 (by decide) (fun q => ?_) (fun q => ?_)
    · have h := xif_t q h
      refine x_weak (pl2 := [none, none, none]) trivial ?_
      exact hK l2_4 ma5_4 h
    · have h := xif_f q h
      refine x_aload_n dX9_nextRow_8 rfl ?_
      refine x_get fX9_30 dX9_nextRow_9 rfl rfl rfl ?_
      refine x_iload_n dX9_nextRow_12 rfl ?_
      refine x_dup2 dX9_nextRow_13 rfl rfl ?_
      obtain ⟨q14, h⟩ := xix_of h
      refine x_iald dX9_nextRow_14 rfl q14 ?_
      refine x_iconst (1 : Int32) dX9_nextRow_15 (by decide) ?_
      refine x_iadd dX9_nextRow_16 ?_
      obtain ⟨q17, h⟩ := xix_of h
      refine x_iast (h2 := (hB g0 g1 g2 g3 g4 g5 g6 g7 g8 g9 g10 g11 g12 g13 g14 g15 g16 g17 g18 g19 g20 g21 g22 g23 g24 g25 g26 a0 a1 a2 a3 a4 (upd ma5_4 l2_4.toNatClampNeg ((ma5_4 l2_4.toNatClampNeg) + (1 : Int32))) a6 a7 a8 a9 a10 a11 a12 a13 a14 a15 a16 a17 a18 a19 a20 a21 a22 a23 b0 w0 (.ref 11) rv)) dX9_nextRow_17 rfl q17 rfl ?_
      refine x_aload_n dX9_nextRow_18 rfl ?_
      refine x_get fX9_30 dX9_nextRow_19 rfl rfl rfl ?_
      refine x_iload_n dX9_nextRow_22 rfl ?_
      obtain ⟨q23, h⟩ := xix_of h
      refine x_iald dX9_nextRow_23 rfl q23 ?_
      refine x_bipush (50 : Int32) dX9_nextRow_24 (by decide) ?_
      refine x_icmp_ge 31 dX9_nextRow_26 (by decide) (fun q => ?_) (fun q => ?_)
      · have h := xif_t q h
        refine x_aload_n dX9_nextRow_31 rfl ?_
        refine x_get fX9_30 dX9_nextRow_32 rfl rfl rfl ?_
        refine x_iload_n dX9_nextRow_35 rfl ?_
        refine x_iconst (0 : Int32) dX9_nextRow_36 (by decide) ?_
        obtain ⟨q37, h⟩ := xix_of h
        refine x_iast (h2 := (hB g0 g1 g2 g3 g4 g5 g6 g7 g8 g9 g10 g11 g12 g13 g14 g15 g16 g17 g18 g19 g20 g21 g22 g23 g24 g25 g26 a0 a1 a2 a3 a4 (upd (upd ma5_4 l2_4.toNatClampNeg ((ma5_4 l2_4.toNatClampNeg) + (1 : Int32))) l2_4.toNatClampNeg (0 : Int32)) a6 a7 a8 a9 a10 a11 a12 a13 a14 a15 a16 a17 a18 a19 a20 a21 a22 a23 b0 w0 (.ref 11) rv)) dX9_nextRow_37 rfl q37 rfl ?_
        refine x_iincK (-1 : Int32) (pl' := [some (.ref 0), none, some (.int (l2_4 + (-1 : Int32)))]) dX9_nextRow_38 rfl (by decide) (by decide) rfl ?_
        refine x_goto 4 dX9_nextRow_41 (by decide) ?_
        refine x_weak (pl2 := [some (.ref 0), none, some (.int (l2_4 + (-1 : Int32)))]) ⟨rfl, rfl, trivial⟩ ?_
        exact ih4 (l2_4 + (-1 : Int32)) (upd (upd ma5_4 l2_4.toNatClampNeg ((ma5_4 l2_4.toNatClampNeg) + (1 : Int32))) l2_4.toNatClampNeg (0 : Int32)) h
      · have h := xif_f q h
        refine x_iconst (1 : Int32) dX9_nextRow_29 (by decide) ?_
        cases h
        exact x_zret2 dX9_nextRow_30 rfl rfl rfl
set_option maxRecDepth 100000 in
set_option maxHeartbeats 4000000 in
theorem t_hB_X9_nextRow {g0 g1 g2 g3 g4 g5 g6 g7 g8 g9 g10 g11 g12 g13 g14 g15 g16 g17 g18 g19 g20 g21 g22 g23 g24 g25 g26 : Int32} {a0 a1 a2 a3 a4 a5 a6 a7 a8 a9 a10 a11 a12 a13 a14 a15 a16 a17 a18 a19 a20 a21 a22 a23 : (Nat → Int32)} {b0 : (Nat → Int64)} {w0 : Int64} {rv : Value} (x1 : Int32) (res : Int32 × (Nat → Int32)) (h : e_hB_X9_nextRow a5 x1 = some res) (d : Nat) : xMet xks YX9_nextRow (d + 1) 0 0 [.ref 0, .int x1] (hB g0 g1 g2 g3 g4 g5 g6 g7 g8 g9 g10 g11 g12 g13 g14 g15 g16 g17 g18 g19 g20 g21 g22 g23 g24 g25 g26 a0 a1 a2 a3 a4 a5 a6 a7 a8 a9 a10 a11 a12 a13 a14 a15 a16 a17 a18 a19 a20 a21 a22 a23 b0 w0 (.ref 11) rv) (some (.int res.1)) (hB g0 g1 g2 g3 g4 g5 g6 g7 g8 g9 g10 g11 g12 g13 g14 g15 g16 g17 g18 g19 g20 g21 g22 g23 g24 g25 g26 a0 a1 a2 a3 a4 res.2 a6 a7 a8 a9 a10 a11 a12 a13 a14 a15 a16 a17 a18 a19 a20 a21 a22 a23 b0 w0 (.ref 11) rv) := by
  unfold e_hB_X9_nextRow at h
  refine xMet_of (pl := [some (.ref 0), some (.int x1), none]) (by decide) (Nat.le_of_ble_eq_true rfl) rfl (Nat.le_of_ble_eq_true rfl) ?_
  refine x_iload_n dX9_nextRow_0 rfl ?_
  refine x_iconst (1 : Int32) dX9_nextRow_1 (by decide) ?_
  refine x_isub dX9_nextRow_2 ?_
  refine x_istore_n (pl' := [some (.ref 0), some (.int x1), some (.int (x1 - (1 : Int32)))]) dX9_nextRow_3 (by decide) rfl ?_
  refine x_weak (pl2 := [some (.ref 0), none, some (.int (x1 - (1 : Int32)))]) ⟨rfl, rfl, trivial⟩ ?_
  refine lp_hB_X9_nextRow_4 d _  res _ (fun l2_4 ma5_4 h => ?_) 200000 (x1 - (1 : Int32)) a5 h
  refine x_iconst (0 : Int32) dX9_nextRow_44 (by decide) ?_
  cases h
  exact x_zret2 dX9_nextRow_45 rfl rfl rfl
set_option maxRecDepth 100000 in
set_option maxHeartbeats 4000000 in
theorem lp_hB_X9_rightIn_2_4 {g0 g1 g2 g3 g4 g5 g6 g7 g8 g9 g10 g11 g12 g13 g14 g15 g16 g17 g18 g19 g20 g21 g22 g23 g24 g25 g26 : Int32} {a0 a1 a2 a3 a4 a5 a6 a7 a8 a9 a10 a11 a12 a13 a14 a15 a16 a17 a18 a19 a20 a21 a22 a23 : (Nat → Int32)} {b0 : (Nat → Int64)} {w0 : Int64} {rv : Value} (d n0 : Nat)  (res : Int32) (K : Int32 → Int32 → Option (Int32)) (hK : ∀ (l2_4 : Int32) (l3_4 : Int32), K l2_4 l3_4 = some res → xW xks YX9_rightIn (d + 1) 0 0 n0 (xZ 0 0 n0 (some (.int res)) (hB g0 g1 g2 g3 g4 g5 g6 g7 g8 g9 g10 g11 g12 g13 g14 g15 g16 g17 g18 g19 g20 g21 g22 g23 g24 g25 g26 a0 a1 a2 a3 a4 a5 a6 a7 a8 a9 a10 a11 a12 a13 a14 a15 a16 a17 a18 a19 a20 a21 a22 a23 b0 w0 (.ref 11) rv)) 0 0 54 [none, none, some (.int l2_4), none] [] (hB g0 g1 g2 g3 g4 g5 g6 g7 g8 g9 g10 g11 g12 g13 g14 g15 g16 g17 g18 g19 g20 g21 g22 g23 g24 g25 g26 a0 a1 a2 a3 a4 a5 a6 a7 a8 a9 a10 a11 a12 a13 a14 a15 a16 a17 a18 a19 a20 a21 a22 a23 b0 w0 (.ref 11) rv)) : ∀ (n : Nat) (l2_4 : Int32) (l3_4 : Int32), L_hB_X9_rightIn_4 g23 a2  K n l2_4 l3_4 = some res → xW xks YX9_rightIn (d + 1) 0 0 n0 (xZ 0 0 n0 (some (.int res)) (hB g0 g1 g2 g3 g4 g5 g6 g7 g8 g9 g10 g11 g12 g13 g14 g15 g16 g17 g18 g19 g20 g21 g22 g23 g24 g25 g26 a0 a1 a2 a3 a4 a5 a6 a7 a8 a9 a10 a11 a12 a13 a14 a15 a16 a17 a18 a19 a20 a21 a22 a23 b0 w0 (.ref 11) rv)) 0 0 4 [some (.ref 0), some (.ref 3), some (.int l2_4), some (.int l3_4)] [] (hB g0 g1 g2 g3 g4 g5 g6 g7 g8 g9 g10 g11 g12 g13 g14 g15 g16 g17 g18 g19 g20 g21 g22 g23 g24 g25 g26 a0 a1 a2 a3 a4 a5 a6 a7 a8 a9 a10 a11 a12 a13 a14 a15 a16 a17 a18 a19 a20 a21 a22 a23 b0 w0 (.ref 11) rv) := by
  intro n
  induction n with
  | zero =>
    intro l2_4 l3_4 h
    cases (show (none : Option (Int32)) = some res from h)
  | succ n4 ih4 =>
    intro l2_4 l3_4 h
    unfold L_hB_X9_rightIn_4 at h
    refine x_iload_n dX9_rightIn_4 rfl ?_
    refine x_aload_n dX9_rightIn_5 rfl ?_
    refine x_get fX9_316 dX9_rightIn_6 rfl rfl rfl ?_
    refine x_get fX9_194 dX9_rightIn_9 rfl rfl rfl ?_
    refine x_icmp_ge 54 dX9_rightIn_12 (by decide) (fun q => ?_) (fun q => ?_)
    · have h := xif_t q h
      refine x_weak (pl2 := [none, none, some (.int l2_4), none]) ⟨rfl, trivial⟩ ?_
      exact hK l2_4 l3_4 h
    · have h := xif_f q h
      refine x_iload_n dX9_rightIn_15 rfl ?_
      refine x_aload_n dX9_rightIn_16 rfl ?_
      refine x_iconst (5 : Int32) dX9_rightIn_17 (by decide) ?_
      refine x_iload_n dX9_rightIn_18 rfl ?_
      refine x_iadd dX9_rightIn_19 ?_
      obtain ⟨q20, h⟩ := xix_of h
      refine x_iald dX9_rightIn_20 rfl q20 ?_
      refine x_bipush (-2 : Int32) dX9_rightIn_21 (by decide) ?_
      refine x_icmp_eq 45 dX9_rightIn_23 (by decide) (fun q => ?_) (fun q => ?_)
      · have h := xif_t q h
        refine x_iconst (0 : Int32) dX9_rightIn_45 (by decide) ?_
        refine x_ior dX9_rightIn_46 ?_
        refine x_istore_n (pl' := [some (.ref 0), some (.ref 3), some (.int (l2_4 ||| (0 : Int32))), some (.int l3_4)]) dX9_rightIn_47 (by decide) rfl ?_
        refine x_iincK (1 : Int32) (pl' := [some (.ref 0), some (.ref 3), some (.int (l2_4 ||| (0 : Int32))), some (.int (l3_4 + (1 : Int32)))]) dX9_rightIn_48 rfl (by decide) (by decide) rfl ?_
        refine x_goto 4 dX9_rightIn_51 (by decide) ?_
        refine x_weak (pl2 := [some (.ref 0), some (.ref 3), some (.int (l2_4 ||| (0 : Int32))), some (.int (l3_4 + (1 : Int32)))]) ⟨rfl, rfl, rfl, rfl, trivial⟩ ?_
        exact ih4 (l2_4 ||| (0 : Int32)) (l3_4 + (1 : Int32)) h
      · have h := xif_f q h
        refine x_aload_n dX9_rightIn_26 rfl ?_
        refine x_iconst (5 : Int32) dX9_rightIn_27 (by decide) ?_
        refine x_iload_n dX9_rightIn_28 rfl ?_
        refine x_iadd dX9_rightIn_29 ?_
        obtain ⟨q30, h⟩ := xix_of h
        refine x_iald dX9_rightIn_30 rfl q30 ?_
        refine x_aload_n dX9_rightIn_31 rfl ?_
        refine x_iconst (0 : Int32) dX9_rightIn_32 (by decide) ?_
        refine x_iload_n dX9_rightIn_33 rfl ?_
        refine x_iadd dX9_rightIn_34 ?_
        obtain ⟨q35, h⟩ := xix_of h
        refine x_iald dX9_rightIn_35 rfl q35 ?_
        refine x_icmp_ne 45 dX9_rightIn_36 (by decide) (fun q => ?_) (fun q => ?_)
        · have h := xif_f q h
          refine x_iconst (0 : Int32) dX9_rightIn_45 (by decide) ?_
          refine x_ior dX9_rightIn_46 ?_
          refine x_istore_n (pl' := [some (.ref 0), some (.ref 3), some (.int (l2_4 ||| (0 : Int32))), some (.int l3_4)]) dX9_rightIn_47 (by decide) rfl ?_
          refine x_iincK (1 : Int32) (pl' := [some (.ref 0), some (.ref 3), some (.int (l2_4 ||| (0 : Int32))), some (.int (l3_4 + (1 : Int32)))]) dX9_rightIn_48 rfl (by decide) (by decide) rfl ?_
          refine x_goto 4 dX9_rightIn_51 (by decide) ?_
          refine x_weak (pl2 := [some (.ref 0), some (.ref 3), some (.int (l2_4 ||| (0 : Int32))), some (.int (l3_4 + (1 : Int32)))]) ⟨rfl, rfl, rfl, rfl, trivial⟩ ?_
          exact ih4 (l2_4 ||| (0 : Int32)) (l3_4 + (1 : Int32)) h
        · have h := xif_t q h
          refine x_iconst (1 : Int32) dX9_rightIn_39 (by decide) ?_
          refine x_iload_n dX9_rightIn_40 rfl ?_
          refine x_ishl dX9_rightIn_41 ?_
          refine x_goto 46 dX9_rightIn_42 (by decide) ?_
          refine x_ior dX9_rightIn_46 ?_
          refine x_istore_n (pl' := [some (.ref 0), some (.ref 3), some (.int (l2_4 ||| ((1 : Int32) <<< (l3_4 &&& 31)))), some (.int l3_4)]) dX9_rightIn_47 (by decide) rfl ?_
          refine x_iincK (1 : Int32) (pl' := [some (.ref 0), some (.ref 3), some (.int (l2_4 ||| ((1 : Int32) <<< (l3_4 &&& 31)))), some (.int (l3_4 + (1 : Int32)))]) dX9_rightIn_48 rfl (by decide) (by decide) rfl ?_
          refine x_goto 4 dX9_rightIn_51 (by decide) ?_
          refine x_weak (pl2 := [some (.ref 0), some (.ref 3), some (.int (l2_4 ||| ((1 : Int32) <<< (l3_4 &&& 31)))), some (.int (l3_4 + (1 : Int32)))]) ⟨rfl, rfl, rfl, rfl, trivial⟩ ?_
          exact ih4 (l2_4 ||| ((1 : Int32) <<< (l3_4 &&& 31))) (l3_4 + (1 : Int32)) h
set_option maxRecDepth 100000 in
set_option maxHeartbeats 4000000 in
theorem t_hB_X9_rightIn_2 {g0 g1 g2 g3 g4 g5 g6 g7 g8 g9 g10 g11 g12 g13 g14 g15 g16 g17 g18 g19 g20 g21 g22 g23 g24 g25 g26 : Int32} {a0 a1 a2 a3 a4 a5 a6 a7 a8 a9 a10 a11 a12 a13 a14 a15 a16 a17 a18 a19 a20 a21 a22 a23 : (Nat → Int32)} {b0 : (Nat → Int64)} {w0 : Int64} {rv : Value}  (res : Int32) (h : e_hB_X9_rightIn g23 a2  = some res) (d : Nat) : xMet xks YX9_rightIn (d + 1) 0 0 [.ref 0, .ref 3] (hB g0 g1 g2 g3 g4 g5 g6 g7 g8 g9 g10 g11 g12 g13 g14 g15 g16 g17 g18 g19 g20 g21 g22 g23 g24 g25 g26 a0 a1 a2 a3 a4 a5 a6 a7 a8 a9 a10 a11 a12 a13 a14 a15 a16 a17 a18 a19 a20 a21 a22 a23 b0 w0 (.ref 11) rv) (some (.int res)) (hB g0 g1 g2 g3 g4 g5 g6 g7 g8 g9 g10 g11 g12 g13 g14 g15 g16 g17 g18 g19 g20 g21 g22 g23 g24 g25 g26 a0 a1 a2 a3 a4 a5 a6 a7 a8 a9 a10 a11 a12 a13 a14 a15 a16 a17 a18 a19 a20 a21 a22 a23 b0 w0 (.ref 11) rv) := by
  unfold e_hB_X9_rightIn at h
  refine xMet_of (pl := [some (.ref 0), some (.ref 3), none, none]) (by decide) (Nat.le_of_ble_eq_true rfl) rfl (Nat.le_of_ble_eq_true rfl) ?_
  refine x_iconst (0 : Int32) dX9_rightIn_0 (by decide) ?_
  refine x_istore_n (pl' := [some (.ref 0), some (.ref 3), some (.int (0 : Int32)), none]) dX9_rightIn_1 (by decide) rfl ?_
  refine x_iconst (0 : Int32) dX9_rightIn_2 (by decide) ?_
  refine x_istore_n (pl' := [some (.ref 0), some (.ref 3), some (.int (0 : Int32)), some (.int (0 : Int32))]) dX9_rightIn_3 (by decide) rfl ?_
  refine x_weak (pl2 := [some (.ref 0), some (.ref 3), some (.int (0 : Int32)), some (.int (0 : Int32))]) ⟨rfl, rfl, rfl, rfl, trivial⟩ ?_
  refine lp_hB_X9_rightIn_2_4 d _  res _ (fun l2_4 l3_4 h => ?_) 200000 (0 : Int32) (0 : Int32) h
  refine x_iload_n dX9_rightIn_54 rfl ?_
  cases h
  exact x_iret2 dX9_rightIn_55 rfl rfl
noncomputable def L_hB_X9_takes_33 (p0 : Int32) (p1 : (Nat → Int32)) (p2 : Int32) (p3 : Int32) (p4 : (Nat → Int32))  (f1 : Int32) (K : Int32 → (Nat → Int32) → Option (Int32 × Int32 × (Nat → Int32))) : Nat → Int32 → (Nat → Int32) → Option (Int32 × Int32 × (Nat → Int32))
  | 0, _, _ => none
  | n33 + 1, l3_33, ma6_33 => if f1 ≤ l3_33 then K l3_33 ma6_33 else (xix l3_33 3 (xix l3_33 3 (L_hB_X9_takes_33 p0 p1 p2 p3 p4 f1 K n33 (l3_33 + (1 : Int32)) (upd ma6_33 l3_33.toNatClampNeg (p4 l3_33.toNatClampNeg)))))
noncomputable def e_hB_X9_takes (p0 : Int32) (p1 : (Nat → Int32)) (p2 : Int32) (p3 : Int32) (p4 : (Nat → Int32)) (p5 : (Nat → Int32)) (x1 : Int32) : Option (Int32 × Int32 × (Nat → Int32)) :=
  ((e_hB_X9_rightIn p0 p1).bind fun z5 => (e_hB_X9_bits z5).bind fun z8 => if p2 < z8 then L_hB_X9_takes_33 p0 p1 z8 x1 p4 x1 (fun l3_33 ma6_33 => some (z8, x1, ma6_33)) 200000 (0 : Int32) p5 else some (p2, p3, p5))
set_option maxRecDepth 100000 in
set_option maxHeartbeats 4000000 in
theorem lp_hB_X9_takes_33 {g0 g1 g2 g3 g4 g5 g6 g7 g8 g9 g10 g11 g12 g13 g14 g15 g16 g17 g18 g19 g20 g21 g22 g23 g24 g25 g26 : Int32} {a0 a1 a2 a3 a4 a5 a7 a8 a9 a10 a11 a12 a13 a14 a15 a16 a17 a18 a19 a20 a21 a22 a23 : (Nat → Int32)} {b0 : (Nat → Int64)} {w0 : Int64} {rv : Value} (d n0 : Nat) (f1 : Int32) (res : Int32 × Int32 × (Nat → Int32)) (K : Int32 → (Nat → Int32) → Option (Int32 × Int32 × (Nat → Int32))) (hK : ∀ (l3_33 : Int32) (ma6_33 : (Nat → Int32)), K l3_33 ma6_33 = some res → xW xks YX9_takes (d + 2) 0 0 n0 (xZ 0 0 n0 none (hB g0 g1 g2 g3 g4 g5 g6 g7 g8 g9 g10 g11 g12 g13 res.1 res.2.1 g16 g17 g18 g19 g20 g21 g22 g23 g24 g25 g26 a0 a1 a2 a3 a4 a5 res.2.2 a7 a8 a9 a10 a11 a12 a13 a14 a15 a16 a17 a18 a19 a20 a21 a22 a23 b0 w0 (.ref 11) rv)) 0 0 56 [none, none, none, none] [] (hB g0 g1 g2 g3 g4 g5 g6 g7 g8 g9 g10 g11 g12 g13 g14 g15 g16 g17 g18 g19 g20 g21 g22 g23 g24 g25 g26 a0 a1 a2 a3 a4 a5 ma6_33 a7 a8 a9 a10 a11 a12 a13 a14 a15 a16 a17 a18 a19 a20 a21 a22 a23 b0 w0 (.ref 11) rv)) : ∀ (n : Nat) (l3_33 : Int32) (ma6_33 : (Nat → Int32)), L_hB_X9_takes_33 g23 a2 g14 g15 a5 f1 K n l3_33 ma6_33 = some res → xW xks YX9_takes (d + 2) 0 0 n0 (xZ 0 0 n0 none (hB g0 g1 g2 g3 g4 g5 g6 g7 g8 g9 g10 g11 g12 g13 res.1 res.2.1 g16 g17 g18 g19 g20 g21 g22 g23 g24 g25 g26 a0 a1 a2 a3 a4 a5 res.2.2 a7 a8 a9 a10 a11 a12 a13 a14 a15 a16 a17 a18 a19 a20 a21 a22 a23 b0 w0 (.ref 11) rv)) 0 0 33 [some (.ref 0), some (.int f1), none, some (.int l3_33)] [] (hB g0 g1 g2 g3 g4 g5 g6 g7 g8 g9 g10 g11 g12 g13 g14 g15 g16 g17 g18 g19 g20 g21 g22 g23 g24 g25 g26 a0 a1 a2 a3 a4 a5 ma6_33 a7 a8 a9 a10 a11 a12 a13 a14 a15 a16 a17 a18 a19 a20 a21 a22 a23 b0 w0 (.ref 11) rv) := by
  intro n
  induction n with
  | zero =>
    intro l3_33 ma6_33 h
    cases (show (none : Option (Int32 × Int32 × (Nat → Int32))) = some res from h)
  | succ n33 ih33 =>
    intro l3_33 ma6_33 h
    unfold L_hB_X9_takes_33 at h
    refine x_iload_n dX9_takes_33 rfl ?_
    refine x_iload_n dX9_takes_34 rfl ?_
    refine x_icmp_ge 56 dX9_takes_35 (by decide) (fun q => ?_) (fun q => ?_)
    · have h := xif_t q h
      refine x_weak (pl2 := [none, none, none, none]) trivial ?_
      exact hK l3_33 ma6_33 h
    · have h := xif_f q h
      refine x_aload_n dX9_takes_38 rfl ?_
      refine x_get fX9_33 dX9_takes_39 rfl rfl rfl ?_
      refine x_iload_n dX9_takes_42 rfl ?_
      refine x_aload_n dX9_takes_43 rfl ?_
      refine x_get fX9_30 dX9_takes_44 rfl rfl rfl ?_
      refine x_iload_n dX9_takes_47 rfl ?_
      obtain ⟨q48, h⟩ := xix_of h
      refine x_iald dX9_takes_48 rfl q48 ?_
      obtain ⟨q49, h⟩ := xix_of h
      refine x_iast (h2 := (hB g0 g1 g2 g3 g4 g5 g6 g7 g8 g9 g10 g11 g12 g13 g14 g15 g16 g17 g18 g19 g20 g21 g22 g23 g24 g25 g26 a0 a1 a2 a3 a4 a5 (upd ma6_33 l3_33.toNatClampNeg (a5 l3_33.toNatClampNeg)) a7 a8 a9 a10 a11 a12 a13 a14 a15 a16 a17 a18 a19 a20 a21 a22 a23 b0 w0 (.ref 11) rv)) dX9_takes_49 rfl q49 rfl ?_
      refine x_iincK (1 : Int32) (pl' := [some (.ref 0), some (.int f1), none, some (.int (l3_33 + (1 : Int32)))]) dX9_takes_50 rfl (by decide) (by decide) rfl ?_
      refine x_goto 33 dX9_takes_53 (by decide) ?_
      refine x_weak (pl2 := [some (.ref 0), some (.int f1), none, some (.int (l3_33 + (1 : Int32)))]) ⟨rfl, rfl, rfl, trivial⟩ ?_
      exact ih33 (l3_33 + (1 : Int32)) (upd ma6_33 l3_33.toNatClampNeg (a5 l3_33.toNatClampNeg)) h
set_option maxRecDepth 100000 in
set_option maxHeartbeats 4000000 in
theorem t_hB_X9_takes {g0 g1 g2 g3 g4 g5 g6 g7 g8 g9 g10 g11 g12 g13 g14 g15 g16 g17 g18 g19 g20 g21 g22 g23 g24 g25 g26 : Int32} {a0 a1 a2 a3 a4 a5 a6 a7 a8 a9 a10 a11 a12 a13 a14 a15 a16 a17 a18 a19 a20 a21 a22 a23 : (Nat → Int32)} {b0 : (Nat → Int64)} {w0 : Int64} {rv : Value} (x1 : Int32) (res : Int32 × Int32 × (Nat → Int32)) (h : e_hB_X9_takes g23 a2 g14 g15 a5 a6 x1 = some res) (d : Nat) : xMet xks YX9_takes (d + 2) 0 0 [.ref 0, .int x1] (hB g0 g1 g2 g3 g4 g5 g6 g7 g8 g9 g10 g11 g12 g13 g14 g15 g16 g17 g18 g19 g20 g21 g22 g23 g24 g25 g26 a0 a1 a2 a3 a4 a5 a6 a7 a8 a9 a10 a11 a12 a13 a14 a15 a16 a17 a18 a19 a20 a21 a22 a23 b0 w0 (.ref 11) rv) none (hB g0 g1 g2 g3 g4 g5 g6 g7 g8 g9 g10 g11 g12 g13 res.1 res.2.1 g16 g17 g18 g19 g20 g21 g22 g23 g24 g25 g26 a0 a1 a2 a3 a4 a5 res.2.2 a7 a8 a9 a10 a11 a12 a13 a14 a15 a16 a17 a18 a19 a20 a21 a22 a23 b0 w0 (.ref 11) rv) := by
  unfold e_hB_X9_takes at h
  refine xMet_of (pl := [some (.ref 0), some (.int x1), none, none]) (by decide) (Nat.le_of_ble_eq_true rfl) rfl (Nat.le_of_ble_eq_true rfl) ?_
  refine x_aload_n dX9_takes_0 rfl ?_
  refine x_aload_n dX9_takes_1 rfl ?_
  refine x_get fX9_21 dX9_takes_2 rfl rfl rfl ?_
  obtain ⟨z5, y5, h⟩ := xbind h
  refine x_callV (t_hB_X9_rightIn_2  z5 y5 (d + 0)) kX9_372 dX9_takes_5 rfl rfl rfl rfl rfl (Nat.le_of_ble_eq_true rfl) (Nat.le_of_ble_eq_true rfl) rfl rfl (Or.inl rfl) ?_
  obtain ⟨z8, y8, h⟩ := xbind h
  refine x_callS (t_hB_X9_bits z5 z8 y8 (d + 0)) kX9_342 dX9_takes_8 rfl rfl (Nat.le_of_ble_eq_true rfl) (Nat.le_of_ble_eq_true rfl) rfl rfl (Or.inl rfl) ?_
  refine x_istore_n (pl' := [some (.ref 0), some (.int x1), some (.int z8), none]) dX9_takes_11 (by decide) rfl ?_
  refine x_iload_n dX9_takes_12 rfl ?_
  refine x_aload_n dX9_takes_13 rfl ?_
  refine x_get fX9_396 dX9_takes_14 rfl rfl rfl ?_
  refine x_icmp_gt 21 dX9_takes_17 (by decide) (fun q => ?_) (fun q => ?_)
  · have h := xif_t q h
    refine x_aload_n dX9_takes_21 rfl ?_
    refine x_iload_n dX9_takes_22 rfl ?_
    refine x_put (h2 := (hB g0 g1 g2 g3 g4 g5 g6 g7 g8 g9 g10 g11 g12 g13 z8 g15 g16 g17 g18 g19 g20 g21 g22 g23 g24 g25 g26 a0 a1 a2 a3 a4 a5 a6 a7 a8 a9 a10 a11 a12 a13 a14 a15 a16 a17 a18 a19 a20 a21 a22 a23 b0 w0 (.ref 11) rv)) fX9_396 dX9_takes_23 rfl rfl (Nat.le_of_ble_eq_true rfl : 24 + 1 ≤ _) (fun α => ⟨rfl, rfl⟩) rfl ?_
    refine x_aload_n dX9_takes_26 rfl ?_
    refine x_iload_n dX9_takes_27 rfl ?_
    refine x_put (h2 := (hB g0 g1 g2 g3 g4 g5 g6 g7 g8 g9 g10 g11 g12 g13 z8 x1 g16 g17 g18 g19 g20 g21 g22 g23 g24 g25 g26 a0 a1 a2 a3 a4 a5 a6 a7 a8 a9 a10 a11 a12 a13 a14 a15 a16 a17 a18 a19 a20 a21 a22 a23 b0 w0 (.ref 11) rv)) fX9_408 dX9_takes_28 rfl rfl (Nat.le_of_ble_eq_true rfl : 25 + 1 ≤ _) (fun α => ⟨rfl, rfl⟩) rfl ?_
    refine x_iconst (0 : Int32) dX9_takes_31 (by decide) ?_
    refine x_istore_n (pl' := [some (.ref 0), some (.int x1), some (.int z8), some (.int (0 : Int32))]) dX9_takes_32 (by decide) rfl ?_
    refine x_weak (pl2 := [some (.ref 0), some (.int x1), none, some (.int (0 : Int32))]) ⟨rfl, rfl, rfl, trivial⟩ ?_
    refine lp_hB_X9_takes_33 d _ x1 res _ (fun l3_33 ma6_33 h => ?_) 200000 (0 : Int32) a6 h
    cases h
    exact x_vret2 dX9_takes_56 rfl rfl
  · have h := xif_f q h
    cases h
    exact x_vret2 dX9_takes_20 rfl rfl
noncomputable def L_hB_X9_seeks_14 (p0 : Int32) (p1 : (Nat → Int32)) (p2 : (Nat → Int32)) (p4 : Int32) (p5 : Int32) (p6 : (Nat → Int32))  (f1 : Int32) (K : Int32 → (Nat → Int32) → Option (Int32 × (Nat → Int32) × (Nat → Int32) × Int32 × (Nat → Int32))) : Nat → Int32 → (Nat → Int32) → Option (Int32 × (Nat → Int32) × (Nat → Int32) × Int32 × (Nat → Int32))
  | 0, _, _ => none
  | n14 + 1, l2_14, ma5_14 => if f1 ≤ l2_14 then K l2_14 ma5_14 else (xix l2_14 3 (L_hB_X9_seeks_14 p0 p1 p2 p4 p5 p6 f1 K n14 (l2_14 + (1 : Int32)) (upd ma5_14 l2_14.toNatClampNeg (0 : Int32))))
noncomputable def L_hB_X9_seeks_34 (p1 : (Nat → Int32)) (p4 : Int32)  (f1 : Int32) (K : Int32 → (Nat → Int32) → Int32 → Int32 → (Nat → Int32) → (Nat → Int32) → Option (Int32 × (Nat → Int32) × (Nat → Int32) × Int32 × (Nat → Int32))) : Nat → Int32 → (Nat → Int32) → Int32 → Int32 → (Nat → Int32) → (Nat → Int32) → Option (Int32 × (Nat → Int32) × (Nat → Int32) × Int32 × (Nat → Int32))
  | 0, _, _, _, _, _, _ => none
  | n34 + 1, l2_34, ma2_34, mg14_34, mg15_34, ma6_34, ma5_34 => if l2_34 = (0 : Int32) then K l2_34 ma2_34 mg14_34 mg15_34 ma6_34 ma5_34 else ((e_hB_X9_tries p1 ma2_34).bind fun z39 => (e_hB_X9_isDone ma5_34 p4 z39 f1).bind fun z44 => if z44.1 = (0 : Int32) then ((e_hB_X9_nextRow ma5_34 f1).bind fun z57 => L_hB_X9_seeks_34 p1 p4 f1 K n34 z57.1 z44.2 mg14_34 mg15_34 ma6_34 z57.2) else ((e_hB_X9_takes p4 z44.2 mg14_34 mg15_34 ma5_34 ma6_34 f1).bind fun z52 => (e_hB_X9_nextRow ma5_34 f1).bind fun z57 => L_hB_X9_seeks_34 p1 p4 f1 K n34 z57.1 z44.2 z52.1 z52.2.1 z52.2.2 z57.2))
noncomputable def L_hB_X9_seeks_7 (p1 : (Nat → Int32)) (p4 : Int32)   (K : Int32 → (Nat → Int32) → (Nat → Int32) → Int32 → Int32 → (Nat → Int32) → Option (Int32 × (Nat → Int32) × (Nat → Int32) × Int32 × (Nat → Int32))) : Nat → Int32 → (Nat → Int32) → (Nat → Int32) → Int32 → Int32 → (Nat → Int32) → Option (Int32 × (Nat → Int32) × (Nat → Int32) × Int32 × (Nat → Int32))
  | 0, _, _, _, _, _, _ => none
  | n7 + 1, l1_7, ma5_7, ma2_7, mg14_7, mg15_7, ma6_7 => if (3 : Int32) < l1_7 then K l1_7 ma5_7 ma2_7 mg14_7 mg15_7 ma6_7 else L_hB_X9_seeks_14 mg14_7 p1 ma2_7 p4 mg15_7 ma6_7 l1_7 (fun l2_14 ma5_14 => L_hB_X9_seeks_34 p1 p4 l1_7 (fun l2_34 ma2_34 mg14_34 mg15_34 ma6_34 ma5_34 => L_hB_X9_seeks_7 p1 p4  K n7 (l1_7 + (1 : Int32)) ma5_34 ma2_34 mg14_34 mg15_34 ma6_34) 200000 (1 : Int32) ma2_7 mg14_7 mg15_7 ma6_7 ma5_14) 200000 (0 : Int32) ma5_7
noncomputable def e_hB_X9_seeks (p0 : Int32) (p1 : (Nat → Int32)) (p2 : (Nat → Int32)) (p3 : (Nat → Int32)) (p4 : Int32) (p5 : Int32) (p6 : (Nat → Int32))  : Option (Int32 × (Nat → Int32) × (Nat → Int32) × Int32 × (Nat → Int32)) :=
  L_hB_X9_seeks_7 p1 p4  (fun l1_7 ma5_7 ma2_7 mg14_7 mg15_7 ma6_7 => some (mg14_7, ma2_7, ma5_7, mg15_7, ma6_7)) 200000 (0 : Int32) p3 p2 (-1 : Int32) p5 p6
set_option maxRecDepth 100000 in
set_option maxHeartbeats 4000000 in
theorem lp_hB_X9_seeks_14 {g0 g1 g2 g3 g4 g5 g6 g7 g8 g9 g10 g11 g12 g13 g14 g15 g16 g17 g18 g19 g20 g21 g22 g23 g24 g25 g26 : Int32} {a0 a1 a2 a3 a4 a6 a7 a8 a9 a10 a11 a12 a13 a14 a15 a16 a17 a18 a19 a20 a21 a22 a23 : (Nat → Int32)} {b0 : (Nat → Int64)} {w0 : Int64} {rv : Value} (d n0 : Nat) (f1 : Int32) (res : Int32 × (Nat → Int32) × (Nat → Int32) × Int32 × (Nat → Int32)) (K : Int32 → (Nat → Int32) → Option (Int32 × (Nat → Int32) × (Nat → Int32) × Int32 × (Nat → Int32))) (hK : ∀ (l2_14 : Int32) (ma5_14 : (Nat → Int32)), K l2_14 ma5_14 = some res → xW xks YX9_seeks (d + 3) 0 0 n0 (xZ 0 0 n0 none (hB g0 g1 g2 g3 g4 g5 g6 g7 g8 g9 g10 g11 g12 g13 res.1 res.2.2.2.1 g16 g17 g18 g19 g20 g21 g22 g23 g24 g25 g26 a0 a1 res.2.1 a3 a4 res.2.2.1 res.2.2.2.2 a7 a8 a9 a10 a11 a12 a13 a14 a15 a16 a17 a18 a19 a20 a21 a22 a23 b0 w0 (.ref 11) rv)) 0 0 32 [some (.ref 0), some (.int f1), none] [] (hB g0 g1 g2 g3 g4 g5 g6 g7 g8 g9 g10 g11 g12 g13 g14 g15 g16 g17 g18 g19 g20 g21 g22 g23 g24 g25 g26 a0 a1 a2 a3 a4 ma5_14 a6 a7 a8 a9 a10 a11 a12 a13 a14 a15 a16 a17 a18 a19 a20 a21 a22 a23 b0 w0 (.ref 11) rv)) : ∀ (n : Nat) (l2_14 : Int32) (ma5_14 : (Nat → Int32)), L_hB_X9_seeks_14 g14 a1 a2 g23 g15 a6 f1 K n l2_14 ma5_14 = some res → xW xks YX9_seeks (d + 3) 0 0 n0 (xZ 0 0 n0 none (hB g0 g1 g2 g3 g4 g5 g6 g7 g8 g9 g10 g11 g12 g13 res.1 res.2.2.2.1 g16 g17 g18 g19 g20 g21 g22 g23 g24 g25 g26 a0 a1 res.2.1 a3 a4 res.2.2.1 res.2.2.2.2 a7 a8 a9 a10 a11 a12 a13 a14 a15 a16 a17 a18 a19 a20 a21 a22 a23 b0 w0 (.ref 11) rv)) 0 0 14 [some (.ref 0), some (.int f1), some (.int l2_14)] [] (hB g0 g1 g2 g3 g4 g5 g6 g7 g8 g9 g10 g11 g12 g13 g14 g15 g16 g17 g18 g19 g20 g21 g22 g23 g24 g25 g26 a0 a1 a2 a3 a4 ma5_14 a6 a7 a8 a9 a10 a11 a12 a13 a14 a15 a16 a17 a18 a19 a20 a21 a22 a23 b0 w0 (.ref 11) rv) := by
  intro n
  induction n with
  | zero =>
    intro l2_14 ma5_14 h
    cases (show (none : Option (Int32 × (Nat → Int32) × (Nat → Int32) × Int32 × (Nat → Int32))) = some res from h)
  | succ n14 ih14 =>
    intro l2_14 ma5_14 h
    unfold L_hB_X9_seeks_14 at h
    refine x_iload_n dX9_seeks_14 rfl ?_
    refine x_iload_n dX9_seeks_15 rfl ?_
    refine x_icmp_ge 32 dX9_seeks_16 (by decide) (fun q => ?_) (fun q => ?_)
    · have h := xif_t q h
      refine x_weak (pl2 := [some (.ref 0), some (.int f1), none]) ⟨rfl, rfl, trivial⟩ ?_
      exact hK l2_14 ma5_14 h
    · have h := xif_f q h
      refine x_aload_n dX9_seeks_19 rfl ?_
      refine x_get fX9_30 dX9_seeks_20 rfl rfl rfl ?_
      refine x_iload_n dX9_seeks_23 rfl ?_
      refine x_iconst (0 : Int32) dX9_seeks_24 (by decide) ?_
      obtain ⟨q25, h⟩ := xix_of h
      refine x_iast (h2 := (hB g0 g1 g2 g3 g4 g5 g6 g7 g8 g9 g10 g11 g12 g13 g14 g15 g16 g17 g18 g19 g20 g21 g22 g23 g24 g25 g26 a0 a1 a2 a3 a4 (upd ma5_14 l2_14.toNatClampNeg (0 : Int32)) a6 a7 a8 a9 a10 a11 a12 a13 a14 a15 a16 a17 a18 a19 a20 a21 a22 a23 b0 w0 (.ref 11) rv)) dX9_seeks_25 rfl q25 rfl ?_
      refine x_iincK (1 : Int32) (pl' := [some (.ref 0), some (.int f1), some (.int (l2_14 + (1 : Int32)))]) dX9_seeks_26 rfl (by decide) (by decide) rfl ?_
      refine x_goto 14 dX9_seeks_29 (by decide) ?_
      refine x_weak (pl2 := [some (.ref 0), some (.int f1), some (.int (l2_14 + (1 : Int32)))]) ⟨rfl, rfl, rfl, trivial⟩ ?_
      exact ih14 (l2_14 + (1 : Int32)) (upd ma5_14 l2_14.toNatClampNeg (0 : Int32)) h
set_option maxRecDepth 100000 in
set_option maxHeartbeats 4000000 in
theorem lp_hB_X9_seeks_34 {g0 g1 g2 g3 g4 g5 g6 g7 g8 g9 g10 g11 g12 g13 g16 g17 g18 g19 g20 g21 g22 g23 g24 g25 g26 : Int32} {a0 a1 a3 a4 a7 a8 a9 a10 a11 a12 a13 a14 a15 a16 a17 a18 a19 a20 a21 a22 a23 : (Nat → Int32)} {b0 : (Nat → Int64)} {w0 : Int64} {rv : Value} (d n0 : Nat) (f1 : Int32) (res : Int32 × (Nat → Int32) × (Nat → Int32) × Int32 × (Nat → Int32)) (K : Int32 → (Nat → Int32) → Int32 → Int32 → (Nat → Int32) → (Nat → Int32) → Option (Int32 × (Nat → Int32) × (Nat → Int32) × Int32 × (Nat → Int32))) (hK : ∀ (l2_34 : Int32) (ma2_34 : (Nat → Int32)) (mg14_34 : Int32) (mg15_34 : Int32) (ma6_34 : (Nat → Int32)) (ma5_34 : (Nat → Int32)), K l2_34 ma2_34 mg14_34 mg15_34 ma6_34 ma5_34 = some res → xW xks YX9_seeks (d + 3) 0 0 n0 (xZ 0 0 n0 none (hB g0 g1 g2 g3 g4 g5 g6 g7 g8 g9 g10 g11 g12 g13 res.1 res.2.2.2.1 g16 g17 g18 g19 g20 g21 g22 g23 g24 g25 g26 a0 a1 res.2.1 a3 a4 res.2.2.1 res.2.2.2.2 a7 a8 a9 a10 a11 a12 a13 a14 a15 a16 a17 a18 a19 a20 a21 a22 a23 b0 w0 (.ref 11) rv)) 0 0 64 [some (.ref 0), some (.int f1), none] [] (hB g0 g1 g2 g3 g4 g5 g6 g7 g8 g9 g10 g11 g12 g13 mg14_34 mg15_34 g16 g17 g18 g19 g20 g21 g22 g23 g24 g25 g26 a0 a1 ma2_34 a3 a4 ma5_34 ma6_34 a7 a8 a9 a10 a11 a12 a13 a14 a15 a16 a17 a18 a19 a20 a21 a22 a23 b0 w0 (.ref 11) rv)) : ∀ (n : Nat) (l2_34 : Int32) (ma2_34 : (Nat → Int32)) (mg14_34 : Int32) (mg15_34 : Int32) (ma6_34 : (Nat → Int32)) (ma5_34 : (Nat → Int32)), L_hB_X9_seeks_34 a1 g23 f1 K n l2_34 ma2_34 mg14_34 mg15_34 ma6_34 ma5_34 = some res → xW xks YX9_seeks (d + 3) 0 0 n0 (xZ 0 0 n0 none (hB g0 g1 g2 g3 g4 g5 g6 g7 g8 g9 g10 g11 g12 g13 res.1 res.2.2.2.1 g16 g17 g18 g19 g20 g21 g22 g23 g24 g25 g26 a0 a1 res.2.1 a3 a4 res.2.2.1 res.2.2.2.2 a7 a8 a9 a10 a11 a12 a13 a14 a15 a16 a17 a18 a19 a20 a21 a22 a23 b0 w0 (.ref 11) rv)) 0 0 34 [some (.ref 0), some (.int f1), some (.int l2_34)] [] (hB g0 g1 g2 g3 g4 g5 g6 g7 g8 g9 g10 g11 g12 g13 mg14_34 mg15_34 g16 g17 g18 g19 g20 g21 g22 g23 g24 g25 g26 a0 a1 ma2_34 a3 a4 ma5_34 ma6_34 a7 a8 a9 a10 a11 a12 a13 a14 a15 a16 a17 a18 a19 a20 a21 a22 a23 b0 w0 (.ref 11) rv) := by
  intro n
  induction n with
  | zero =>
    intro l2_34 ma2_34 mg14_34 mg15_34 ma6_34 ma5_34 h
    cases (show (none : Option (Int32 × (Nat → Int32) × (Nat → Int32) × Int32 × (Nat → Int32))) = some res from h)
  | succ n34 ih34 =>
    intro l2_34 ma2_34 mg14_34 mg15_34 ma6_34 ma5_34 h
    unfold L_hB_X9_seeks_34 at h
    refine x_iload_n dX9_seeks_34 rfl ?_
    refine x_if_eq 64 dX9_seeks_35 (by decide) (fun q => ?_) (fun q => ?_)
    · have h := xif_t q h
      refine x_weak (pl2 := [some (.ref 0), some (.int f1), none]) ⟨rfl, rfl, trivial⟩ ?_
      exact hK l2_34 ma2_34 mg14_34 mg15_34 ma6_34 ma5_34 h
    · have h := xif_f q h
      refine x_aload_n dX9_seeks_38 rfl ?_
      obtain ⟨z39, y39, h⟩ := xbind h
      refine x_callV (t_hB_X9_tries  z39 y39 (d + 1)) kX9_393 dX9_seeks_39 rfl rfl rfl rfl rfl (Nat.le_of_ble_eq_true rfl) (Nat.le_of_ble_eq_true rfl) rfl rfl (Or.inl rfl) ?_
      refine x_aload_n dX9_seeks_42 rfl ?_
      refine x_iload_n dX9_seeks_43 rfl ?_
      obtain ⟨z44, y44, h⟩ := xbind h
      refine x_callV (t_hB_X9_isDone f1 z44 y44 (d + 0)) kX9_399 dX9_seeks_44 rfl rfl rfl rfl rfl (Nat.le_of_ble_eq_true rfl) (Nat.le_of_ble_eq_true rfl) rfl rfl (Or.inl rfl) ?_
      refine x_if_eq 55 dX9_seeks_47 (by decide) (fun q => ?_) (fun q => ?_)
      · have h := xif_t q h
        refine x_aload_n dX9_seeks_55 rfl ?_
        refine x_iload_n dX9_seeks_56 rfl ?_
        obtain ⟨z57, y57, h⟩ := xbind h
        refine x_callV (t_hB_X9_nextRow f1 z57 y57 (d + 1)) kX9_405 dX9_seeks_57 rfl rfl rfl rfl rfl (Nat.le_of_ble_eq_true rfl) (Nat.le_of_ble_eq_true rfl) rfl rfl (Or.inl rfl) ?_
        refine x_istore_n (pl' := [some (.ref 0), some (.int f1), some (.int z57.1)]) dX9_seeks_60 (by decide) rfl ?_
        refine x_goto 34 dX9_seeks_61 (by decide) ?_
        refine x_weak (pl2 := [some (.ref 0), some (.int f1), some (.int z57.1)]) ⟨rfl, rfl, rfl, trivial⟩ ?_
        exact ih34 z57.1 z44.2 mg14_34 mg15_34 ma6_34 z57.2 h
      · have h := xif_f q h
        refine x_aload_n dX9_seeks_50 rfl ?_
        refine x_iload_n dX9_seeks_51 rfl ?_
        obtain ⟨z52, y52, h⟩ := xbind h
        refine x_callV (t_hB_X9_takes f1 z52 y52 (d + 0)) kX9_402 dX9_seeks_52 rfl rfl rfl rfl rfl (Nat.le_of_ble_eq_true rfl) (Nat.le_of_ble_eq_true rfl) rfl rfl (Or.inl rfl) ?_
        refine x_aload_n dX9_seeks_55 rfl ?_
        refine x_iload_n dX9_seeks_56 rfl ?_
        obtain ⟨z57, y57, h⟩ := xbind h
        refine x_callV (t_hB_X9_nextRow f1 z57 y57 (d + 1)) kX9_405 dX9_seeks_57 rfl rfl rfl rfl rfl (Nat.le_of_ble_eq_true rfl) (Nat.le_of_ble_eq_true rfl) rfl rfl (Or.inl rfl) ?_
        refine x_istore_n (pl' := [some (.ref 0), some (.int f1), some (.int z57.1)]) dX9_seeks_60 (by decide) rfl ?_
        refine x_goto 34 dX9_seeks_61 (by decide) ?_
        refine x_weak (pl2 := [some (.ref 0), some (.int f1), some (.int z57.1)]) ⟨rfl, rfl, rfl, trivial⟩ ?_
        exact ih34 z57.1 z44.2 z52.1 z52.2.1 z52.2.2 z57.2 h
set_option maxRecDepth 100000 in
set_option maxHeartbeats 4000000 in
theorem lp_hB_X9_seeks_7 {g0 g1 g2 g3 g4 g5 g6 g7 g8 g9 g10 g11 g12 g13 g16 g17 g18 g19 g20 g21 g22 g23 g24 g25 g26 : Int32} {a0 a1 a3 a4 a7 a8 a9 a10 a11 a12 a13 a14 a15 a16 a17 a18 a19 a20 a21 a22 a23 : (Nat → Int32)} {b0 : (Nat → Int64)} {w0 : Int64} {rv : Value} (d n0 : Nat)  (res : Int32 × (Nat → Int32) × (Nat → Int32) × Int32 × (Nat → Int32)) (K : Int32 → (Nat → Int32) → (Nat → Int32) → Int32 → Int32 → (Nat → Int32) → Option (Int32 × (Nat → Int32) × (Nat → Int32) × Int32 × (Nat → Int32))) (hK : ∀ (l1_7 : Int32) (ma5_7 : (Nat → Int32)) (ma2_7 : (Nat → Int32)) (mg14_7 : Int32) (mg15_7 : Int32) (ma6_7 : (Nat → Int32)), K l1_7 ma5_7 ma2_7 mg14_7 mg15_7 ma6_7 = some res → xW xks YX9_seeks (d + 3) 0 0 n0 (xZ 0 0 n0 none (hB g0 g1 g2 g3 g4 g5 g6 g7 g8 g9 g10 g11 g12 g13 res.1 res.2.2.2.1 g16 g17 g18 g19 g20 g21 g22 g23 g24 g25 g26 a0 a1 res.2.1 a3 a4 res.2.2.1 res.2.2.2.2 a7 a8 a9 a10 a11 a12 a13 a14 a15 a16 a17 a18 a19 a20 a21 a22 a23 b0 w0 (.ref 11) rv)) 0 0 70 [none, none, none] [] (hB g0 g1 g2 g3 g4 g5 g6 g7 g8 g9 g10 g11 g12 g13 mg14_7 mg15_7 g16 g17 g18 g19 g20 g21 g22 g23 g24 g25 g26 a0 a1 ma2_7 a3 a4 ma5_7 ma6_7 a7 a8 a9 a10 a11 a12 a13 a14 a15 a16 a17 a18 a19 a20 a21 a22 a23 b0 w0 (.ref 11) rv)) : ∀ (n : Nat) (l1_7 : Int32) (ma5_7 : (Nat → Int32)) (ma2_7 : (Nat → Int32)) (mg14_7 : Int32) (mg15_7 : Int32) (ma6_7 : (Nat → Int32)), L_hB_X9_seeks_7 a1 g23  K n l1_7 ma5_7 ma2_7 mg14_7 mg15_7 ma6_7 = some res → xW xks YX9_seeks (d + 3) 0 0 n0 (xZ 0 0 n0 none (hB g0 g1 g2 g3 g4 g5 g6 g7 g8 g9 g10 g11 g12 g13 res.1 res.2.2.2.1 g16 g17 g18 g19 g20 g21 g22 g23 g24 g25 g26 a0 a1 res.2.1 a3 a4 res.2.2.1 res.2.2.2.2 a7 a8 a9 a10 a11 a12 a13 a14 a15 a16 a17 a18 a19 a20 a21 a22 a23 b0 w0 (.ref 11) rv)) 0 0 7 [some (.ref 0), some (.int l1_7), none] [] (hB g0 g1 g2 g3 g4 g5 g6 g7 g8 g9 g10 g11 g12 g13 mg14_7 mg15_7 g16 g17 g18 g19 g20 g21 g22 g23 g24 g25 g26 a0 a1 ma2_7 a3 a4 ma5_7 ma6_7 a7 a8 a9 a10 a11 a12 a13 a14 a15 a16 a17 a18 a19 a20 a21 a22 a23 b0 w0 (.ref 11) rv) := by
  intro n
  induction n with
  | zero =>
    intro l1_7 ma5_7 ma2_7 mg14_7 mg15_7 ma6_7 h
    cases (show (none : Option (Int32 × (Nat → Int32) × (Nat → Int32) × Int32 × (Nat → Int32))) = some res from h)
  | succ n7 ih7 =>
    intro l1_7 ma5_7 ma2_7 mg14_7 mg15_7 ma6_7 h
    unfold L_hB_X9_seeks_7 at h
    refine x_iload_n dX9_seeks_7 rfl ?_
    refine x_iconst (3 : Int32) dX9_seeks_8 (by decide) ?_
    refine x_icmp_gt 70 dX9_seeks_9 (by decide) (fun q => ?_) (fun q => ?_)
    · have h := xif_t q h
      refine x_weak (pl2 := [none, none, none]) trivial ?_
      exact hK l1_7 ma5_7 ma2_7 mg14_7 mg15_7 ma6_7 h
    · have h := xif_f q h
      refine x_iconst (0 : Int32) dX9_seeks_12 (by decide) ?_
      refine x_istore_n (pl' := [some (.ref 0), some (.int l1_7), some (.int (0 : Int32))]) dX9_seeks_13 (by decide) rfl ?_
      refine x_weak (pl2 := [some (.ref 0), some (.int l1_7), some (.int (0 : Int32))]) ⟨rfl, rfl, rfl, trivial⟩ ?_
      refine lp_hB_X9_seeks_14 d _ l1_7 res _ (fun l2_14 ma5_14 h => ?_) 200000 (0 : Int32) ma5_7 h
      refine x_iconst (1 : Int32) dX9_seeks_32 (by decide) ?_
      refine x_istore_n (pl' := [some (.ref 0), some (.int l1_7), some (.int (1 : Int32))]) dX9_seeks_33 (by decide) rfl ?_
      refine x_weak (pl2 := [some (.ref 0), some (.int l1_7), some (.int (1 : Int32))]) ⟨rfl, rfl, rfl, trivial⟩ ?_
      refine lp_hB_X9_seeks_34 d _ l1_7 res _ (fun l2_34 ma2_34 mg14_34 mg15_34 ma6_34 ma5_34 h => ?_) 200000 (1 : Int32) ma2_7 mg14_7 mg15_7 ma6_7 ma5_14 h
      refine x_iincK (1 : Int32) (pl' := [some (.ref 0), some (.int (l1_7 + (1 : Int32))), none]) dX9_seeks_64 rfl (by decide) (by decide) rfl ?_
      refine x_goto 7 dX9_seeks_67 (by decide) ?_
      refine x_weak (pl2 := [some (.ref 0), some (.int (l1_7 + (1 : Int32))), none]) ⟨rfl, rfl, trivial⟩ ?_
      exact ih7 (l1_7 + (1 : Int32)) ma5_34 ma2_34 mg14_34 mg15_34 ma6_34 h
set_option maxRecDepth 100000 in
set_option maxHeartbeats 4000000 in
theorem t_hB_X9_seeks {g0 g1 g2 g3 g4 g5 g6 g7 g8 g9 g10 g11 g12 g13 g14 g15 g16 g17 g18 g19 g20 g21 g22 g23 g24 g25 g26 : Int32} {a0 a1 a2 a3 a4 a5 a6 a7 a8 a9 a10 a11 a12 a13 a14 a15 a16 a17 a18 a19 a20 a21 a22 a23 : (Nat → Int32)} {b0 : (Nat → Int64)} {w0 : Int64} {rv : Value}  (res : Int32 × (Nat → Int32) × (Nat → Int32) × Int32 × (Nat → Int32)) (h : e_hB_X9_seeks g14 a1 a2 a5 g23 g15 a6  = some res) (d : Nat) : xMet xks YX9_seeks (d + 3) 0 0 [.ref 0] (hB g0 g1 g2 g3 g4 g5 g6 g7 g8 g9 g10 g11 g12 g13 g14 g15 g16 g17 g18 g19 g20 g21 g22 g23 g24 g25 g26 a0 a1 a2 a3 a4 a5 a6 a7 a8 a9 a10 a11 a12 a13 a14 a15 a16 a17 a18 a19 a20 a21 a22 a23 b0 w0 (.ref 11) rv) none (hB g0 g1 g2 g3 g4 g5 g6 g7 g8 g9 g10 g11 g12 g13 res.1 res.2.2.2.1 g16 g17 g18 g19 g20 g21 g22 g23 g24 g25 g26 a0 a1 res.2.1 a3 a4 res.2.2.1 res.2.2.2.2 a7 a8 a9 a10 a11 a12 a13 a14 a15 a16 a17 a18 a19 a20 a21 a22 a23 b0 w0 (.ref 11) rv) := by
  unfold e_hB_X9_seeks at h
  refine xMet_of (pl := [some (.ref 0), none, none]) (by decide) (Nat.le_of_ble_eq_true rfl) rfl (Nat.le_of_ble_eq_true rfl) ?_
  refine x_aload_n dX9_seeks_0 rfl ?_
  refine x_iconst (-1 : Int32) dX9_seeks_1 (by decide) ?_
  refine x_put (h2 := (hB g0 g1 g2 g3 g4 g5 g6 g7 g8 g9 g10 g11 g12 g13 (-1 : Int32) g15 g16 g17 g18 g19 g20 g21 g22 g23 g24 g25 g26 a0 a1 a2 a3 a4 a5 a6 a7 a8 a9 a10 a11 a12 a13 a14 a15 a16 a17 a18 a19 a20 a21 a22 a23 b0 w0 (.ref 11) rv)) fX9_396 dX9_seeks_2 rfl rfl (Nat.le_of_ble_eq_true rfl : 24 + 1 ≤ _) (fun α => ⟨rfl, rfl⟩) rfl ?_
  refine x_iconst (0 : Int32) dX9_seeks_5 (by decide) ?_
  refine x_istore_n (pl' := [some (.ref 0), some (.int (0 : Int32)), none]) dX9_seeks_6 (by decide) rfl ?_
  refine x_weak (pl2 := [some (.ref 0), some (.int (0 : Int32)), none]) ⟨rfl, rfl, trivial⟩ ?_
  refine lp_hB_X9_seeks_7 d _  res _ (fun l1_7 ma5_7 ma2_7 mg14_7 mg15_7 ma6_7 h => ?_) 200000 (0 : Int32) a5 a2 (-1 : Int32) g15 a6 h
  cases h
  exact x_vret2 dX9_seeks_70 rfl rfl
noncomputable def e_hB_X9_putRight (p0 : Int32) (p1 : Int32) (p2 : (Nat → Int32)) (p3 : (Nat → Int32)) (p4 : (Nat → Int32)) (p5 : Int32) (p6 : Int32) (p7 : (Nat → Int32)) (p8 : Int32) (p9 : Int32)  : Option (Int32 × Int32 × Int32 × (Nat → Int32) × (Nat → Int32) × Int32 × (Nat → Int32) × Int32 × Int32) :=
  ((e_hB_X9_seeks p1 p2 p3 p4 p5 p6 p7).bind fun z19 => (e_hB_X9_good p8 p9 z19.1).bind fun z27 => some (z27.1, (0 : Int32), z19.1, z19.2.1, z19.2.2.1, z19.2.2.2.1, z19.2.2.2.2, z27.2.1, z27.2.2))
set_option maxRecDepth 100000 in
set_option maxHeartbeats 4000000 in
theorem t_hB_X9_putRight {g0 g1 g2 g3 g4 g5 g6 g7 g8 g9 g10 g11 g12 g13 g14 g15 g16 g17 g18 g19 g20 g21 g22 g23 g24 g25 g26 : Int32} {a0 a1 a2 a3 a4 a5 a6 a7 a8 a9 a10 a11 a12 a13 a14 a15 a16 a17 a18 a19 a20 a21 a22 a23 : (Nat → Int32)} {b0 : (Nat → Int64)} {w0 : Int64} {rv : Value}  (res : Int32 × Int32 × Int32 × (Nat → Int32) × (Nat → Int32) × Int32 × (Nat → Int32) × Int32 × Int32) (h : e_hB_X9_putRight g0 g14 a1 a2 a5 g23 g15 a6 g1 g2  = some res) (d : Nat) : xMet xks YX9_putRight (d + 4) 0 0 [.ref 0] (hB g0 g1 g2 g3 g4 g5 g6 g7 g8 g9 g10 g11 g12 g13 g14 g15 g16 g17 g18 g19 g20 g21 g22 g23 g24 g25 g26 a0 a1 a2 a3 a4 a5 a6 a7 a8 a9 a10 a11 a12 a13 a14 a15 a16 a17 a18 a19 a20 a21 a22 a23 b0 w0 (.ref 11) rv) (some (.int res.1)) (hB res.2.1 res.2.2.2.2.2.2.2.1 res.2.2.2.2.2.2.2.2 g3 g4 g5 g6 g7 g8 g9 g10 g11 g12 g13 res.2.2.1 res.2.2.2.2.2.1 g16 g17 g18 g19 g20 g21 g22 g23 g24 g25 g26 a0 a1 res.2.2.2.1 a3 a4 res.2.2.2.2.1 res.2.2.2.2.2.2.1 a7 a8 a9 a10 a11 a12 a13 a14 a15 a16 a17 a18 a19 a20 a21 a22 a23 b0 w0 (.ref 11) rv) := by
  unfold e_hB_X9_putRight at h
  refine xMet_of (pl := [some (.ref 0)]) (by decide) (Nat.le_of_ble_eq_true rfl) rfl (Nat.le_of_ble_eq_true rfl) ?_
  refine x_aload_n dX9_putRight_0 rfl ?_
  refine x_iconst (0 : Int32) dX9_putRight_1 (by decide) ?_
  refine x_put (h2 := (hB (0 : Int32) g1 g2 g3 g4 g5 g6 g7 g8 g9 g10 g11 g12 g13 g14 g15 g16 g17 g18 g19 g20 g21 g22 g23 g24 g25 g26 a0 a1 a2 a3 a4 a5 a6 a7 a8 a9 a10 a11 a12 a13 a14 a15 a16 a17 a18 a19 a20 a21 a22 a23 b0 w0 (.ref 11) rv)) fX9_45 dX9_putRight_2 rfl rfl (Nat.le_of_ble_eq_true rfl : 0 + 1 ≤ _) (fun α => ⟨rfl, rfl⟩) rfl ?_
  refine x_aload_n dX9_putRight_5 rfl ?_
  refine x_get fX9_316 dX9_putRight_6 rfl rfl rfl ?_
  refine x_ifnonnull 18 dX9_putRight_9 (by decide) ?_
  refine x_aload_n dX9_putRight_18 rfl ?_
  obtain ⟨z19, y19, h⟩ := xbind h
  refine x_callV (t_hB_X9_seeks  z19 y19 (d + 0)) kX9_415 dX9_putRight_19 rfl rfl rfl rfl rfl (Nat.le_of_ble_eq_true rfl) (Nat.le_of_ble_eq_true rfl) rfl rfl (Or.inl rfl) ?_
  refine x_aload_n dX9_putRight_22 rfl ?_
  refine x_aload_n dX9_putRight_23 rfl ?_
  refine x_get fX9_396 dX9_putRight_24 rfl rfl rfl ?_
  obtain ⟨z27, y27, h⟩ := xbind h
  refine x_callV (t_hB_X9_good z19.1 z27 y27 (d + 2)) kX9_55 dX9_putRight_27 rfl rfl rfl rfl rfl (Nat.le_of_ble_eq_true rfl) (Nat.le_of_ble_eq_true rfl) rfl rfl (Or.inl rfl) ?_
  cases h
  exact x_iret2 dX9_putRight_30 rfl rfl
noncomputable def e_hB_X9_exchanges (p0 : Int32) (p1 : Int32) (p2 : (Nat → Int32)) (p3 : (Nat → Int32)) (p4 : (Nat → Int32)) (p5 : Int32) (p6 : Int32) (p7 : (Nat → Int32)) (p8 : Int32) (p9 : Int32)  : Option (Int32 × Int32 × Int32 × (Nat → Int32) × (Nat → Int32) × Int32 × (Nat → Int32) × Int32 × Int32) :=
  ((e_hB_X9_seeks p1 p2 p3 p4 p5 p6 p7).bind fun z19 => (e_hB_X9_good p8 p9 z19.2.2.2.1).bind fun z27 => some (z27.1, (0 : Int32), z19.1, z19.2.1, z19.2.2.1, z19.2.2.2.1, z19.2.2.2.2, z27.2.1, z27.2.2))
set_option maxRecDepth 100000 in
set_option maxHeartbeats 4000000 in
theorem t_hB_X9_exchanges {g0 g1 g2 g3 g4 g5 g6 g7 g8 g9 g10 g11 g12 g13 g14 g15 g16 g17 g18 g19 g20 g21 g22 g23 g24 g25 g26 : Int32} {a0 a1 a2 a3 a4 a5 a6 a7 a8 a9 a10 a11 a12 a13 a14 a15 a16 a17 a18 a19 a20 a21 a22 a23 : (Nat → Int32)} {b0 : (Nat → Int64)} {w0 : Int64} {rv : Value}  (res : Int32 × Int32 × Int32 × (Nat → Int32) × (Nat → Int32) × Int32 × (Nat → Int32) × Int32 × Int32) (h : e_hB_X9_exchanges g0 g14 a1 a2 a5 g23 g15 a6 g1 g2  = some res) (d : Nat) : xMet xks YX9_exchanges (d + 4) 0 0 [.ref 0] (hB g0 g1 g2 g3 g4 g5 g6 g7 g8 g9 g10 g11 g12 g13 g14 g15 g16 g17 g18 g19 g20 g21 g22 g23 g24 g25 g26 a0 a1 a2 a3 a4 a5 a6 a7 a8 a9 a10 a11 a12 a13 a14 a15 a16 a17 a18 a19 a20 a21 a22 a23 b0 w0 (.ref 11) rv) (some (.int res.1)) (hB res.2.1 res.2.2.2.2.2.2.2.1 res.2.2.2.2.2.2.2.2 g3 g4 g5 g6 g7 g8 g9 g10 g11 g12 g13 res.2.2.1 res.2.2.2.2.2.1 g16 g17 g18 g19 g20 g21 g22 g23 g24 g25 g26 a0 a1 res.2.2.2.1 a3 a4 res.2.2.2.2.1 res.2.2.2.2.2.2.1 a7 a8 a9 a10 a11 a12 a13 a14 a15 a16 a17 a18 a19 a20 a21 a22 a23 b0 w0 (.ref 11) rv) := by
  unfold e_hB_X9_exchanges at h
  refine xMet_of (pl := [some (.ref 0)]) (by decide) (Nat.le_of_ble_eq_true rfl) rfl (Nat.le_of_ble_eq_true rfl) ?_
  refine x_aload_n dX9_exchanges_0 rfl ?_
  refine x_iconst (0 : Int32) dX9_exchanges_1 (by decide) ?_
  refine x_put (h2 := (hB (0 : Int32) g1 g2 g3 g4 g5 g6 g7 g8 g9 g10 g11 g12 g13 g14 g15 g16 g17 g18 g19 g20 g21 g22 g23 g24 g25 g26 a0 a1 a2 a3 a4 a5 a6 a7 a8 a9 a10 a11 a12 a13 a14 a15 a16 a17 a18 a19 a20 a21 a22 a23 b0 w0 (.ref 11) rv)) fX9_45 dX9_exchanges_2 rfl rfl (Nat.le_of_ble_eq_true rfl : 0 + 1 ≤ _) (fun α => ⟨rfl, rfl⟩) rfl ?_
  refine x_aload_n dX9_exchanges_5 rfl ?_
  refine x_get fX9_316 dX9_exchanges_6 rfl rfl rfl ?_
  refine x_ifnonnull 18 dX9_exchanges_9 (by decide) ?_
  refine x_aload_n dX9_exchanges_18 rfl ?_
  obtain ⟨z19, y19, h⟩ := xbind h
  refine x_callV (t_hB_X9_seeks  z19 y19 (d + 0)) kX9_415 dX9_exchanges_19 rfl rfl rfl rfl rfl (Nat.le_of_ble_eq_true rfl) (Nat.le_of_ble_eq_true rfl) rfl rfl (Or.inl rfl) ?_
  refine x_aload_n dX9_exchanges_22 rfl ?_
  refine x_aload_n dX9_exchanges_23 rfl ?_
  refine x_get fX9_408 dX9_exchanges_24 rfl rfl rfl ?_
  obtain ⟨z27, y27, h⟩ := xbind h
  refine x_callV (t_hB_X9_good z19.2.2.2.1 z27 y27 (d + 2)) kX9_55 dX9_exchanges_27 rfl rfl rfl rfl rfl (Nat.le_of_ble_eq_true rfl) (Nat.le_of_ble_eq_true rfl) rfl rfl (Or.inl rfl) ?_
  cases h
  exact x_iret2 dX9_exchanges_30 rfl rfl
noncomputable def e_hB_X9_exchangeAt (p0 : Int32) (p1 : Int32) (p2 : (Nat → Int32)) (p3 : (Nat → Int32)) (p4 : (Nat → Int32)) (p5 : Int32) (p6 : Int32) (p7 : (Nat → Int32)) (p8 : Int32) (p9 : Int32) (x1 : Int32) : Option (Int32 × Int32 × Int32 × (Nat → Int32) × (Nat → Int32) × Int32 × (Nat → Int32) × Int32 × Int32) :=
  ((e_hB_X9_seeks p1 p2 p3 p4 p5 p6 p7).bind fun z19 => if x1 < (0 : Int32) then ((e_hB_X9_refused p8 p9 (1 : Int32)).bind fun z49 => some (z49.1, (0 : Int32), z19.1, z19.2.1, z19.2.2.1, z19.2.2.2.1, z19.2.2.2.2, z49.2.1, z49.2.2)) else if z19.2.2.2.1 ≤ x1 then ((e_hB_X9_refused p8 p9 (1 : Int32)).bind fun z49 => some (z49.1, (0 : Int32), z19.1, z19.2.1, z19.2.2.1, z19.2.2.2.1, z19.2.2.2.2, z49.2.1, z49.2.2)) else (xix x1 3 ((e_hB_X9_good p8 p9 (z19.2.2.2.2 x1.toNatClampNeg)).bind fun z41 => some (z41.1, (0 : Int32), z19.1, z19.2.1, z19.2.2.1, z19.2.2.2.1, z19.2.2.2.2, z41.2.1, z41.2.2))))
set_option maxRecDepth 100000 in
set_option maxHeartbeats 4000000 in
theorem t_hB_X9_exchangeAt {g0 g1 g2 g3 g4 g5 g6 g7 g8 g9 g10 g11 g12 g13 g14 g15 g16 g17 g18 g19 g20 g21 g22 g23 g24 g25 g26 : Int32} {a0 a1 a2 a3 a4 a5 a6 a7 a8 a9 a10 a11 a12 a13 a14 a15 a16 a17 a18 a19 a20 a21 a22 a23 : (Nat → Int32)} {b0 : (Nat → Int64)} {w0 : Int64} {rv : Value} (x1 : Int32) (res : Int32 × Int32 × Int32 × (Nat → Int32) × (Nat → Int32) × Int32 × (Nat → Int32) × Int32 × Int32) (h : e_hB_X9_exchangeAt g0 g14 a1 a2 a5 g23 g15 a6 g1 g2 x1 = some res) (d : Nat) : xMet xks YX9_exchangeAt (d + 4) 0 0 [.ref 0, .int x1] (hB g0 g1 g2 g3 g4 g5 g6 g7 g8 g9 g10 g11 g12 g13 g14 g15 g16 g17 g18 g19 g20 g21 g22 g23 g24 g25 g26 a0 a1 a2 a3 a4 a5 a6 a7 a8 a9 a10 a11 a12 a13 a14 a15 a16 a17 a18 a19 a20 a21 a22 a23 b0 w0 (.ref 11) rv) (some (.int res.1)) (hB res.2.1 res.2.2.2.2.2.2.2.1 res.2.2.2.2.2.2.2.2 g3 g4 g5 g6 g7 g8 g9 g10 g11 g12 g13 res.2.2.1 res.2.2.2.2.2.1 g16 g17 g18 g19 g20 g21 g22 g23 g24 g25 g26 a0 a1 res.2.2.2.1 a3 a4 res.2.2.2.2.1 res.2.2.2.2.2.2.1 a7 a8 a9 a10 a11 a12 a13 a14 a15 a16 a17 a18 a19 a20 a21 a22 a23 b0 w0 (.ref 11) rv) := by
  unfold e_hB_X9_exchangeAt at h
  refine xMet_of (pl := [some (.ref 0), some (.int x1)]) (by decide) (Nat.le_of_ble_eq_true rfl) rfl (Nat.le_of_ble_eq_true rfl) ?_
  refine x_aload_n dX9_exchangeAt_0 rfl ?_
  refine x_iconst (0 : Int32) dX9_exchangeAt_1 (by decide) ?_
  refine x_put (h2 := (hB (0 : Int32) g1 g2 g3 g4 g5 g6 g7 g8 g9 g10 g11 g12 g13 g14 g15 g16 g17 g18 g19 g20 g21 g22 g23 g24 g25 g26 a0 a1 a2 a3 a4 a5 a6 a7 a8 a9 a10 a11 a12 a13 a14 a15 a16 a17 a18 a19 a20 a21 a22 a23 b0 w0 (.ref 11) rv)) fX9_45 dX9_exchangeAt_2 rfl rfl (Nat.le_of_ble_eq_true rfl : 0 + 1 ≤ _) (fun α => ⟨rfl, rfl⟩) rfl ?_
  refine x_aload_n dX9_exchangeAt_5 rfl ?_
  refine x_get fX9_316 dX9_exchangeAt_6 rfl rfl rfl ?_
  refine x_ifnonnull 18 dX9_exchangeAt_9 (by decide) ?_
  refine x_aload_n dX9_exchangeAt_18 rfl ?_
  obtain ⟨z19, y19, h⟩ := xbind h
  refine x_callV (t_hB_X9_seeks  z19 y19 (d + 0)) kX9_415 dX9_exchangeAt_19 rfl rfl rfl rfl rfl (Nat.le_of_ble_eq_true rfl) (Nat.le_of_ble_eq_true rfl) rfl rfl (Or.inl rfl) ?_
  refine x_iload_n dX9_exchangeAt_22 rfl ?_
  refine x_if_lt 47 dX9_exchangeAt_23 (by decide) (fun q => ?_) (fun q => ?_)
  · have h := xif_t q h
    refine x_aload_n dX9_exchangeAt_47 rfl ?_
    refine x_iconst (1 : Int32) dX9_exchangeAt_48 (by decide) ?_
    obtain ⟨z49, y49, h⟩ := xbind h
    refine x_callV (t_hB_X9_refused (1 : Int32) z49 y49 (d + 2)) kX9_51 dX9_exchangeAt_49 rfl rfl rfl rfl rfl (Nat.le_of_ble_eq_true rfl) (Nat.le_of_ble_eq_true rfl) rfl rfl (Or.inl rfl) ?_
    cases h
    exact x_iret2 dX9_exchangeAt_52 rfl rfl
  · have h := xif_f q h
    refine x_iload_n dX9_exchangeAt_26 rfl ?_
    refine x_aload_n dX9_exchangeAt_27 rfl ?_
    refine x_get fX9_408 dX9_exchangeAt_28 rfl rfl rfl ?_
    refine x_icmp_ge 47 dX9_exchangeAt_31 (by decide) (fun q => ?_) (fun q => ?_)
    · have h := xif_t q h
      refine x_aload_n dX9_exchangeAt_47 rfl ?_
      refine x_iconst (1 : Int32) dX9_exchangeAt_48 (by decide) ?_
      obtain ⟨z49, y49, h⟩ := xbind h
      refine x_callV (t_hB_X9_refused (1 : Int32) z49 y49 (d + 2)) kX9_51 dX9_exchangeAt_49 rfl rfl rfl rfl rfl (Nat.le_of_ble_eq_true rfl) (Nat.le_of_ble_eq_true rfl) rfl rfl (Or.inl rfl) ?_
      cases h
      exact x_iret2 dX9_exchangeAt_52 rfl rfl
    · have h := xif_f q h
      refine x_aload_n dX9_exchangeAt_34 rfl ?_
      refine x_aload_n dX9_exchangeAt_35 rfl ?_
      refine x_get fX9_33 dX9_exchangeAt_36 rfl rfl rfl ?_
      refine x_iload_n dX9_exchangeAt_39 rfl ?_
      obtain ⟨q40, h⟩ := xix_of h
      refine x_iald dX9_exchangeAt_40 rfl q40 ?_
      obtain ⟨z41, y41, h⟩ := xbind h
      refine x_callV (t_hB_X9_good (z19.2.2.2.2 x1.toNatClampNeg) z41 y41 (d + 2)) kX9_55 dX9_exchangeAt_41 rfl rfl rfl rfl rfl (Nat.le_of_ble_eq_true rfl) (Nat.le_of_ble_eq_true rfl) rfl rfl (Or.inl rfl) ?_
      refine x_goto 52 dX9_exchangeAt_44 (by decide) ?_
      cases h
      exact x_iret2 dX9_exchangeAt_52 rfl rfl
noncomputable def e_hB_X9_party (p0 : Int32) (p1 : Int32) (p2 : Int32) (p3 : Int32) (p4 : (Nat → Int32)) (p5 : (Nat → Int32)) (p6 : (Nat → Int32)) (p7 : (Nat → Int32)) (p8 : (Nat → Int32)) (p9 : (Nat → Int32)) (p10 : Int32) (p11 : Int32) (x1 : Int32) : Option (Int32 × Int32 × Int32 × (Nat → Int32) × (Nat → Int32) × (Nat → Int32) × Int32 × Int32) :=
  ((e_hB_X9_isParty p1 x1).bind fun z7 => if z7 = (0 : Int32) then ((e_hB_X9_refused p10 p11 (1 : Int32)).bind fun z15 => some (z15.1, (0 : Int32), p2, p5, p4, p9, z15.2.1, z15.2.2)) else ((e_hB_X9_parties p2 p3 p1 p4 p5 p6 p7 p8 p9 x1).bind fun z21 => (e_hB_X9_good p10 p11 z21.1).bind fun z29 => some (z29.1, (0 : Int32), z21.1, z21.2.1, z21.2.2.1, z21.2.2.2, z29.2.1, z29.2.2)))
set_option maxRecDepth 100000 in
set_option maxHeartbeats 4000000 in
theorem t_hB_X9_party {g0 g1 g2 g3 g4 g5 g6 g7 g8 g9 g10 g11 g12 g13 g14 g15 g16 g17 g18 g19 g20 g21 g22 g23 g24 g25 g26 : Int32} {a0 a1 a2 a3 a4 a5 a6 a7 a8 a9 a10 a11 a12 a13 a14 a15 a16 a17 a18 a19 a20 a21 a22 a23 : (Nat → Int32)} {b0 : (Nat → Int64)} {w0 : Int64} {rv : Value} (x1 : Int32) (res : Int32 × Int32 × Int32 × (Nat → Int32) × (Nat → Int32) × (Nat → Int32) × Int32 × Int32) (h : e_hB_X9_party g0 g22 g16 g23 a7 a9 a1 a12 a13 a8 g1 g2 x1 = some res) (d : Nat) : xMet xks YX9_party (d + 5) 0 0 [.ref 0, .int x1] (hB g0 g1 g2 g3 g4 g5 g6 g7 g8 g9 g10 g11 g12 g13 g14 g15 g16 g17 g18 g19 g20 g21 g22 g23 g24 g25 g26 a0 a1 a2 a3 a4 a5 a6 a7 a8 a9 a10 a11 a12 a13 a14 a15 a16 a17 a18 a19 a20 a21 a22 a23 b0 w0 (.ref 11) rv) (some (.int res.1)) (hB res.2.1 res.2.2.2.2.2.2.1 res.2.2.2.2.2.2.2 g3 g4 g5 g6 g7 g8 g9 g10 g11 g12 g13 g14 g15 res.2.2.1 g17 g18 g19 g20 g21 g22 g23 g24 g25 g26 a0 a1 a2 a3 a4 a5 a6 res.2.2.2.2.1 res.2.2.2.2.2.1 res.2.2.2.1 a10 a11 a12 a13 a14 a15 a16 a17 a18 a19 a20 a21 a22 a23 b0 w0 (.ref 11) rv) := by
  unfold e_hB_X9_party at h
  refine xMet_of (pl := [some (.ref 0), some (.int x1)]) (by decide) (Nat.le_of_ble_eq_true rfl) rfl (Nat.le_of_ble_eq_true rfl) ?_
  refine x_aload_n dX9_party_0 rfl ?_
  refine x_iconst (0 : Int32) dX9_party_1 (by decide) ?_
  refine x_put (h2 := (hB (0 : Int32) g1 g2 g3 g4 g5 g6 g7 g8 g9 g10 g11 g12 g13 g14 g15 g16 g17 g18 g19 g20 g21 g22 g23 g24 g25 g26 a0 a1 a2 a3 a4 a5 a6 a7 a8 a9 a10 a11 a12 a13 a14 a15 a16 a17 a18 a19 a20 a21 a22 a23 b0 w0 (.ref 11) rv)) fX9_45 dX9_party_2 rfl rfl (Nat.le_of_ble_eq_true rfl : 0 + 1 ≤ _) (fun α => ⟨rfl, rfl⟩) rfl ?_
  refine x_aload_n dX9_party_5 rfl ?_
  refine x_iload_n dX9_party_6 rfl ?_
  obtain ⟨z7, y7, h⟩ := xbind h
  refine x_callV (t_hB_X9_isParty x1 z7 y7 (d + 2)) kX9_433 dX9_party_7 rfl rfl rfl rfl rfl (Nat.le_of_ble_eq_true rfl) (Nat.le_of_ble_eq_true rfl) rfl rfl (Or.inl rfl) ?_
  refine x_if_ne 19 dX9_party_10 (by decide) (fun q => ?_) (fun q => ?_)
  · have h := xif_f q h
    refine x_aload_n dX9_party_19 rfl ?_
    refine x_iload_n dX9_party_20 rfl ?_
    obtain ⟨z21, y21, h⟩ := xbind h
    refine x_callV (t_hB_X9_parties x1 z21 y21 (d + 0)) kX9_436 dX9_party_21 rfl rfl rfl rfl rfl (Nat.le_of_ble_eq_true rfl) (Nat.le_of_ble_eq_true rfl) rfl rfl (Or.inl rfl) ?_
    refine x_aload_n dX9_party_24 rfl ?_
    refine x_aload_n dX9_party_25 rfl ?_
    refine x_get fX9_421 dX9_party_26 rfl rfl rfl ?_
    obtain ⟨z29, y29, h⟩ := xbind h
    refine x_callV (t_hB_X9_good z21.1 z29 y29 (d + 3)) kX9_55 dX9_party_29 rfl rfl rfl rfl rfl (Nat.le_of_ble_eq_true rfl) (Nat.le_of_ble_eq_true rfl) rfl rfl (Or.inl rfl) ?_
    cases h
    exact x_iret2 dX9_party_32 rfl rfl
  · have h := xif_t q h
    refine x_aload_n dX9_party_13 rfl ?_
    refine x_iconst (1 : Int32) dX9_party_14 (by decide) ?_
    obtain ⟨z15, y15, h⟩ := xbind h
    refine x_callV (t_hB_X9_refused (1 : Int32) z15 y15 (d + 3)) kX9_51 dX9_party_15 rfl rfl rfl rfl rfl (Nat.le_of_ble_eq_true rfl) (Nat.le_of_ble_eq_true rfl) rfl rfl (Or.inl rfl) ?_
    cases h
    exact x_iret2 dX9_party_18 rfl rfl
noncomputable def e_hB_X9_partyOf (p0 : Int32) (p1 : Int32) (p2 : Int32) (p3 : Int32) (p4 : Int32) (p5 : Int32) (p6 : (Nat → Int32)) (p7 : (Nat → Int32)) (p8 : (Nat → Int32)) (p9 : (Nat → Int32)) (p10 : (Nat → Int32)) (p11 : (Nat → Int32)) (x1 : Int32) (x2 : Int32) : Option (Int32 × Int32 × Int32 × Int32 × Int32 × (Nat → Int32) × (Nat → Int32) × (Nat → Int32)) :=
  ((e_hB_X9_isParty p1 x1).bind fun z7 => if z7 = (0 : Int32) then ((e_hB_X9_refused p2 p3 (1 : Int32)).bind fun z23 => some (z23.1, (0 : Int32), z23.2.1, z23.2.2, p4, p7, p6, p11)) else ((e_hB_X9_isPerson p1 x2).bind fun z15 => if z15 = (0 : Int32) then ((e_hB_X9_refused p2 p3 (1 : Int32)).bind fun z23 => some (z23.1, (0 : Int32), z23.2.1, z23.2.2, p4, p7, p6, p11)) else ((e_hB_X9_parties p4 p5 p1 p6 p7 p8 p9 p10 p11 x1).bind fun z29 => if z29.1 = (-2 : Int32) then ((e_hB_X9_refused p2 p3 (6 : Int32)).bind fun z44 => some (z44.1, (0 : Int32), z44.2.1, z44.2.2, z29.1, z29.2.1, z29.2.2.1, z29.2.2.2)) else ((e_hB_X9_bit x1 x2).bind fun z51 => if z51 = (0 : Int32) then ((e_hB_X9_good p2 p3 (-2 : Int32)).bind fun z68 => some (z68.1, (0 : Int32), z68.2.1, z68.2.2, z29.1, z29.2.1, z29.2.2.1, z29.2.2.2)) else (xix x2 6 (((e_hB_X9_good p2 p3 (z29.2.2.2 x2.toNatClampNeg)).bind fun z68 => some (z68.1, (0 : Int32), z68.2.1, z68.2.2, z29.1, z29.2.1, z29.2.2.1, z29.2.2.2))))))))
set_option maxRecDepth 100000 in
set_option maxHeartbeats 4000000 in
theorem t_hB_X9_partyOf {g0 g1 g2 g3 g4 g5 g6 g7 g8 g9 g10 g11 g12 g13 g14 g15 g16 g17 g18 g19 g20 g21 g22 g23 g24 g25 g26 : Int32} {a0 a1 a2 a3 a4 a5 a6 a7 a8 a9 a10 a11 a12 a13 a14 a15 a16 a17 a18 a19 a20 a21 a22 a23 : (Nat → Int32)} {b0 : (Nat → Int64)} {w0 : Int64} {rv : Value} (x1 : Int32) (x2 : Int32) (res : Int32 × Int32 × Int32 × Int32 × Int32 × (Nat → Int32) × (Nat → Int32) × (Nat → Int32)) (h : e_hB_X9_partyOf g0 g22 g1 g2 g16 g23 a7 a9 a1 a12 a13 a8 x1 x2 = some res) (d : Nat) : xMet xks YX9_partyOf (d + 5) 0 0 [.ref 0, .int x1, .int x2] (hB g0 g1 g2 g3 g4 g5 g6 g7 g8 g9 g10 g11 g12 g13 g14 g15 g16 g17 g18 g19 g20 g21 g22 g23 g24 g25 g26 a0 a1 a2 a3 a4 a5 a6 a7 a8 a9 a10 a11 a12 a13 a14 a15 a16 a17 a18 a19 a20 a21 a22 a23 b0 w0 (.ref 11) rv) (some (.int res.1)) (hB res.2.1 res.2.2.1 res.2.2.2.1 g3 g4 g5 g6 g7 g8 g9 g10 g11 g12 g13 g14 g15 res.2.2.2.2.1 g17 g18 g19 g20 g21 g22 g23 g24 g25 g26 a0 a1 a2 a3 a4 a5 a6 res.2.2.2.2.2.2.1 res.2.2.2.2.2.2.2 res.2.2.2.2.2.1 a10 a11 a12 a13 a14 a15 a16 a17 a18 a19 a20 a21 a22 a23 b0 w0 (.ref 11) rv) := by
  unfold e_hB_X9_partyOf at h
  refine xMet_of (pl := [some (.ref 0), some (.int x1), some (.int x2)]) (by decide) (Nat.le_of_ble_eq_true rfl) rfl (Nat.le_of_ble_eq_true rfl) ?_
  refine x_aload_n dX9_partyOf_0 rfl ?_
  refine x_iconst (0 : Int32) dX9_partyOf_1 (by decide) ?_
  refine x_put (h2 := (hB (0 : Int32) g1 g2 g3 g4 g5 g6 g7 g8 g9 g10 g11 g12 g13 g14 g15 g16 g17 g18 g19 g20 g21 g22 g23 g24 g25 g26 a0 a1 a2 a3 a4 a5 a6 a7 a8 a9 a10 a11 a12 a13 a14 a15 a16 a17 a18 a19 a20 a21 a22 a23 b0 w0 (.ref 11) rv)) fX9_45 dX9_partyOf_2 rfl rfl (Nat.le_of_ble_eq_true rfl : 0 + 1 ≤ _) (fun α => ⟨rfl, rfl⟩) rfl ?_
  refine x_aload_n dX9_partyOf_5 rfl ?_
  refine x_iload_n dX9_partyOf_6 rfl ?_
  obtain ⟨z7, y7, h⟩ := xbind h
  refine x_callV (t_hB_X9_isParty x1 z7 y7 (d + 2)) kX9_433 dX9_partyOf_7 rfl rfl rfl rfl rfl (Nat.le_of_ble_eq_true rfl) (Nat.le_of_ble_eq_true rfl) rfl rfl (Or.inl rfl) ?_
  refine x_if_eq 21 dX9_partyOf_10 (by decide) (fun q => ?_) (fun q => ?_)
  · have h := xif_t q h
    refine x_aload_n dX9_partyOf_21 rfl ?_
    refine x_iconst (1 : Int32) dX9_partyOf_22 (by decide) ?_
    obtain ⟨z23, y23, h⟩ := xbind h
    refine x_callV (t_hB_X9_refused (1 : Int32) z23 y23 (d + 3)) kX9_51 dX9_partyOf_23 rfl rfl rfl rfl rfl (Nat.le_of_ble_eq_true rfl) (Nat.le_of_ble_eq_true rfl) rfl rfl (Or.inl rfl) ?_
    cases h
    exact x_iret2 dX9_partyOf_26 rfl rfl
  · have h := xif_f q h
    refine x_aload_n dX9_partyOf_13 rfl ?_
    refine x_iload_n dX9_partyOf_14 rfl ?_
    obtain ⟨z15, y15, h⟩ := xbind h
    refine x_callV (t_hB_X9_isPerson x2 z15 y15 (d + 3)) kX9_362 dX9_partyOf_15 rfl rfl rfl rfl rfl (Nat.le_of_ble_eq_true rfl) (Nat.le_of_ble_eq_true rfl) rfl rfl (Or.inl rfl) ?_
    refine x_if_ne 27 dX9_partyOf_18 (by decide) (fun q => ?_) (fun q => ?_)
    · have h := xif_f q h
      refine x_aload_n dX9_partyOf_27 rfl ?_
      refine x_iload_n dX9_partyOf_28 rfl ?_
      obtain ⟨z29, y29, h⟩ := xbind h
      refine x_callV (t_hB_X9_parties x1 z29 y29 (d + 0)) kX9_436 dX9_partyOf_29 rfl rfl rfl rfl rfl (Nat.le_of_ble_eq_true rfl) (Nat.le_of_ble_eq_true rfl) rfl rfl (Or.inl rfl) ?_
      refine x_aload_n dX9_partyOf_32 rfl ?_
      refine x_get fX9_421 dX9_partyOf_33 rfl rfl rfl ?_
      refine x_bipush (-2 : Int32) dX9_partyOf_36 (by decide) ?_
      refine x_icmp_ne 48 dX9_partyOf_38 (by decide) (fun q => ?_) (fun q => ?_)
      · have h := xif_f q h
        refine x_aload_n dX9_partyOf_48 rfl ?_
        refine x_iload_n dX9_partyOf_49 rfl ?_
        refine x_iload_n dX9_partyOf_50 rfl ?_
        obtain ⟨z51, y51, h⟩ := xbind h
        refine x_callS (t_hB_X9_bit x1 x2 z51 y51 (d + 3)) kX9_418 dX9_partyOf_51 rfl rfl (Nat.le_of_ble_eq_true rfl) (Nat.le_of_ble_eq_true rfl) rfl rfl (Or.inl rfl) ?_
        refine x_if_eq 66 dX9_partyOf_54 (by decide) (fun q => ?_) (fun q => ?_)
        · have h := xif_t q h
          refine x_bipush (-2 : Int32) dX9_partyOf_66 (by decide) ?_
          obtain ⟨z68, y68, h⟩ := xbind h
          refine x_callV (t_hB_X9_good (-2 : Int32) z68 y68 (d + 3)) kX9_55 dX9_partyOf_68 rfl rfl rfl rfl rfl (Nat.le_of_ble_eq_true rfl) (Nat.le_of_ble_eq_true rfl) rfl rfl (Or.inl rfl) ?_
          cases h
          exact x_iret2 dX9_partyOf_71 rfl rfl
        · have h := xif_f q h
          refine x_aload_n dX9_partyOf_57 rfl ?_
          refine x_get fX9_39 dX9_partyOf_58 rfl rfl rfl ?_
          refine x_iload_n dX9_partyOf_61 rfl ?_
          obtain ⟨q62, h⟩ := xix_of h
          refine x_iald dX9_partyOf_62 rfl q62 ?_
          refine x_goto 68 dX9_partyOf_63 (by decide) ?_
          obtain ⟨z68, y68, h⟩ := xbind h
          refine x_callV (t_hB_X9_good (z29.2.2.2 x2.toNatClampNeg) z68 y68 (d + 3)) kX9_55 dX9_partyOf_68 rfl rfl rfl rfl rfl (Nat.le_of_ble_eq_true rfl) (Nat.le_of_ble_eq_true rfl) rfl rfl (Or.inl rfl) ?_
          cases h
          exact x_iret2 dX9_partyOf_71 rfl rfl
      · have h := xif_t q h
        refine x_aload_n dX9_partyOf_41 rfl ?_
        refine x_bipush (6 : Int32) dX9_partyOf_42 (by decide) ?_
        obtain ⟨z44, y44, h⟩ := xbind h
        refine x_callV (t_hB_X9_refused (6 : Int32) z44 y44 (d + 3)) kX9_51 dX9_partyOf_44 rfl rfl rfl rfl rfl (Nat.le_of_ble_eq_true rfl) (Nat.le_of_ble_eq_true rfl) rfl rfl (Or.inl rfl) ?_
        cases h
        exact x_iret2 dX9_partyOf_47 rfl rfl
    · have h := xif_t q h
      refine x_aload_n dX9_partyOf_21 rfl ?_
      refine x_iconst (1 : Int32) dX9_partyOf_22 (by decide) ?_
      obtain ⟨z23, y23, h⟩ := xbind h
      refine x_callV (t_hB_X9_refused (1 : Int32) z23 y23 (d + 3)) kX9_51 dX9_partyOf_23 rfl rfl rfl rfl rfl (Nat.le_of_ble_eq_true rfl) (Nat.le_of_ble_eq_true rfl) rfl rfl (Or.inl rfl) ?_
      cases h
      exact x_iret2 dX9_partyOf_26 rfl rfl
noncomputable def L_hB_X9_room_23 (p0 : Int32) (p1 : Int32) (p2 : Int32) (p3 : Int32) (p4 : Int32) (p5 : (Nat → Int32)) (p6 : (Nat → Int32))  (f1 : Int32) (K : Int32 → Int32 → Option (Int32 × Int32 × Int32 × Int32)) : Nat → Int32 → Int32 → Option (Int32 × Int32 × Int32 × Int32)
  | 0, _, _ => none
  | n23 + 1, l2_23, l3_23 => if p2 ≤ l3_23 then K l2_23 l3_23 else ((e_hB_X9_roomOf p5 p6 l3_23 f1).bind fun z38 => L_hB_X9_room_23 p0 p1 p2 p3 p4 p5 p6 f1 K n23 (l2_23 + z38) (l3_23 + (1 : Int32)))
noncomputable def e_hB_X9_room (p0 : Int32) (p1 : Int32) (p2 : Int32) (p3 : Int32) (p4 : Int32) (p5 : (Nat → Int32)) (p6 : (Nat → Int32)) (x1 : Int32) : Option (Int32 × Int32 × Int32 × Int32) :=
  ((e_hB_X9_isParty p1 x1).bind fun z7 => if z7 = (0 : Int32) then ((e_hB_X9_refused p3 p4 (1 : Int32)).bind fun z15 => some (z15.1, (0 : Int32), z15.2.1, z15.2.2)) else L_hB_X9_room_23 (0 : Int32) p1 p2 p3 p4 p5 p6 x1 (fun l2_23 l3_23 => ((e_hB_X9_good p3 p4 l2_23).bind fun z51 => some (z51.1, (0 : Int32), z51.2.1, z51.2.2))) 200000 (0 : Int32) (0 : Int32))
set_option maxRecDepth 100000 in
set_option maxHeartbeats 4000000 in
theorem lp_hB_X9_room_23 {g0 g1 g2 g3 g4 g5 g6 g7 g8 g9 g10 g11 g12 g13 g14 g15 g16 g17 g18 g19 g20 g21 g22 g23 g24 g25 g26 : Int32} {a0 a1 a2 a3 a4 a5 a6 a7 a8 a9 a10 a11 a12 a13 a14 a15 a16 a17 a18 a19 a20 a21 a22 a23 : (Nat → Int32)} {b0 : (Nat → Int64)} {w0 : Int64} {rv : Value} (d n0 : Nat) (f1 : Int32) (res : Int32 × Int32 × Int32 × Int32) (K : Int32 → Int32 → Option (Int32 × Int32 × Int32 × Int32)) (hK : ∀ (l2_23 : Int32) (l3_23 : Int32), K l2_23 l3_23 = some res → xW xks YX9_room (d + 3) 0 0 n0 (xZ 0 0 n0 (some (.int res.1)) (hB res.2.1 res.2.2.1 res.2.2.2 g3 g4 g5 g6 g7 g8 g9 g10 g11 g12 g13 g14 g15 g16 g17 g18 g19 g20 g21 g22 g23 g24 g25 g26 a0 a1 a2 a3 a4 a5 a6 a7 a8 a9 a10 a11 a12 a13 a14 a15 a16 a17 a18 a19 a20 a21 a22 a23 b0 w0 (.ref 11) rv)) 0 0 49 [some (.ref 0), none, some (.int l2_23), none] [] (hB g0 g1 g2 g3 g4 g5 g6 g7 g8 g9 g10 g11 g12 g13 g14 g15 g16 g17 g18 g19 g20 g21 g22 g23 g24 g25 g26 a0 a1 a2 a3 a4 a5 a6 a7 a8 a9 a10 a11 a12 a13 a14 a15 a16 a17 a18 a19 a20 a21 a22 a23 b0 w0 (.ref 11) rv)) : ∀ (n : Nat) (l2_23 : Int32) (l3_23 : Int32), L_hB_X9_room_23 g0 g22 g23 g1 g2 a1 a13 f1 K n l2_23 l3_23 = some res → xW xks YX9_room (d + 3) 0 0 n0 (xZ 0 0 n0 (some (.int res.1)) (hB res.2.1 res.2.2.1 res.2.2.2 g3 g4 g5 g6 g7 g8 g9 g10 g11 g12 g13 g14 g15 g16 g17 g18 g19 g20 g21 g22 g23 g24 g25 g26 a0 a1 a2 a3 a4 a5 a6 a7 a8 a9 a10 a11 a12 a13 a14 a15 a16 a17 a18 a19 a20 a21 a22 a23 b0 w0 (.ref 11) rv)) 0 0 23 [some (.ref 0), some (.int f1), some (.int l2_23), some (.int l3_23)] [] (hB g0 g1 g2 g3 g4 g5 g6 g7 g8 g9 g10 g11 g12 g13 g14 g15 g16 g17 g18 g19 g20 g21 g22 g23 g24 g25 g26 a0 a1 a2 a3 a4 a5 a6 a7 a8 a9 a10 a11 a12 a13 a14 a15 a16 a17 a18 a19 a20 a21 a22 a23 b0 w0 (.ref 11) rv) := by
  intro n
  induction n with
  | zero =>
    intro l2_23 l3_23 h
    cases (show (none : Option (Int32 × Int32 × Int32 × Int32)) = some res from h)
  | succ n23 ih23 =>
    intro l2_23 l3_23 h
    unfold L_hB_X9_room_23 at h
    refine x_iload_n dX9_room_23 rfl ?_
    refine x_aload_n dX9_room_24 rfl ?_
    refine x_get fX9_316 dX9_room_25 rfl rfl rfl ?_
    refine x_get fX9_194 dX9_room_28 rfl rfl rfl ?_
    refine x_icmp_ge 49 dX9_room_31 (by decide) (fun q => ?_) (fun q => ?_)
    · have h := xif_t q h
      refine x_weak (pl2 := [some (.ref 0), none, some (.int l2_23), none]) ⟨rfl, rfl, trivial⟩ ?_
      exact hK l2_23 l3_23 h
    · have h := xif_f q h
      refine x_iload_n dX9_room_34 rfl ?_
      refine x_aload_n dX9_room_35 rfl ?_
      refine x_iload_n dX9_room_36 rfl ?_
      refine x_iload_n dX9_room_37 rfl ?_
      obtain ⟨z38, y38, h⟩ := xbind h
      refine x_callV (t_hB_X9_roomOf l3_23 f1 z38 y38 (d + 0)) kX9_430 dX9_room_38 rfl rfl rfl rfl rfl (Nat.le_of_ble_eq_true rfl) (Nat.le_of_ble_eq_true rfl) rfl rfl (Or.inl rfl) ?_
      refine x_iadd dX9_room_41 ?_
      refine x_istore_n (pl' := [some (.ref 0), some (.int f1), some (.int (l2_23 + z38)), some (.int l3_23)]) dX9_room_42 (by decide) rfl ?_
      refine x_iincK (1 : Int32) (pl' := [some (.ref 0), some (.int f1), some (.int (l2_23 + z38)), some (.int (l3_23 + (1 : Int32)))]) dX9_room_43 rfl (by decide) (by decide) rfl ?_
      refine x_goto 23 dX9_room_46 (by decide) ?_
      refine x_weak (pl2 := [some (.ref 0), some (.int f1), some (.int (l2_23 + z38)), some (.int (l3_23 + (1 : Int32)))]) ⟨rfl, rfl, rfl, rfl, trivial⟩ ?_
      exact ih23 (l2_23 + z38) (l3_23 + (1 : Int32)) h
set_option maxRecDepth 100000 in
set_option maxHeartbeats 4000000 in
theorem t_hB_X9_room {g0 g1 g2 g3 g4 g5 g6 g7 g8 g9 g10 g11 g12 g13 g14 g15 g16 g17 g18 g19 g20 g21 g22 g23 g24 g25 g26 : Int32} {a0 a1 a2 a3 a4 a5 a6 a7 a8 a9 a10 a11 a12 a13 a14 a15 a16 a17 a18 a19 a20 a21 a22 a23 : (Nat → Int32)} {b0 : (Nat → Int64)} {w0 : Int64} {rv : Value} (x1 : Int32) (res : Int32 × Int32 × Int32 × Int32) (h : e_hB_X9_room g0 g22 g23 g1 g2 a1 a13 x1 = some res) (d : Nat) : xMet xks YX9_room (d + 3) 0 0 [.ref 0, .int x1] (hB g0 g1 g2 g3 g4 g5 g6 g7 g8 g9 g10 g11 g12 g13 g14 g15 g16 g17 g18 g19 g20 g21 g22 g23 g24 g25 g26 a0 a1 a2 a3 a4 a5 a6 a7 a8 a9 a10 a11 a12 a13 a14 a15 a16 a17 a18 a19 a20 a21 a22 a23 b0 w0 (.ref 11) rv) (some (.int res.1)) (hB res.2.1 res.2.2.1 res.2.2.2 g3 g4 g5 g6 g7 g8 g9 g10 g11 g12 g13 g14 g15 g16 g17 g18 g19 g20 g21 g22 g23 g24 g25 g26 a0 a1 a2 a3 a4 a5 a6 a7 a8 a9 a10 a11 a12 a13 a14 a15 a16 a17 a18 a19 a20 a21 a22 a23 b0 w0 (.ref 11) rv) := by
  unfold e_hB_X9_room at h
  refine xMet_of (pl := [some (.ref 0), some (.int x1), none, none]) (by decide) (Nat.le_of_ble_eq_true rfl) rfl (Nat.le_of_ble_eq_true rfl) ?_
  refine x_aload_n dX9_room_0 rfl ?_
  refine x_iconst (0 : Int32) dX9_room_1 (by decide) ?_
  refine x_put (h2 := (hB (0 : Int32) g1 g2 g3 g4 g5 g6 g7 g8 g9 g10 g11 g12 g13 g14 g15 g16 g17 g18 g19 g20 g21 g22 g23 g24 g25 g26 a0 a1 a2 a3 a4 a5 a6 a7 a8 a9 a10 a11 a12 a13 a14 a15 a16 a17 a18 a19 a20 a21 a22 a23 b0 w0 (.ref 11) rv)) fX9_45 dX9_room_2 rfl rfl (Nat.le_of_ble_eq_true rfl : 0 + 1 ≤ _) (fun α => ⟨rfl, rfl⟩) rfl ?_
  refine x_aload_n dX9_room_5 rfl ?_
  refine x_iload_n dX9_room_6 rfl ?_
  obtain ⟨z7, y7, h⟩ := xbind h
  refine x_callV (t_hB_X9_isParty x1 z7 y7 (d + 0)) kX9_433 dX9_room_7 rfl rfl rfl rfl rfl (Nat.le_of_ble_eq_true rfl) (Nat.le_of_ble_eq_true rfl) rfl rfl (Or.inl rfl) ?_
  refine x_if_ne 19 dX9_room_10 (by decide) (fun q => ?_) (fun q => ?_)
  · have h := xif_f q h
    refine x_iconst (0 : Int32) dX9_room_19 (by decide) ?_
    refine x_istore_n (pl' := [some (.ref 0), some (.int x1), some (.int (0 : Int32)), none]) dX9_room_20 (by decide) rfl ?_
    refine x_iconst (0 : Int32) dX9_room_21 (by decide) ?_
    refine x_istore_n (pl' := [some (.ref 0), some (.int x1), some (.int (0 : Int32)), some (.int (0 : Int32))]) dX9_room_22 (by decide) rfl ?_
    refine x_weak (pl2 := [some (.ref 0), some (.int x1), some (.int (0 : Int32)), some (.int (0 : Int32))]) ⟨rfl, rfl, rfl, rfl, trivial⟩ ?_
    refine lp_hB_X9_room_23 d _ x1 res _ (fun l2_23 l3_23 h => ?_) 200000 (0 : Int32) (0 : Int32) h
    refine x_aload_n dX9_room_49 rfl ?_
    refine x_iload_n dX9_room_50 rfl ?_
    obtain ⟨z51, y51, h⟩ := xbind h
    refine x_callV (t_hB_X9_good l2_23 z51 y51 (d + 1)) kX9_55 dX9_room_51 rfl rfl rfl rfl rfl (Nat.le_of_ble_eq_true rfl) (Nat.le_of_ble_eq_true rfl) rfl rfl (Or.inl rfl) ?_
    cases h
    exact x_iret2 dX9_room_54 rfl rfl
  · have h := xif_t q h
    refine x_aload_n dX9_room_13 rfl ?_
    refine x_iconst (1 : Int32) dX9_room_14 (by decide) ?_
    obtain ⟨z15, y15, h⟩ := xbind h
    refine x_callV (t_hB_X9_refused (1 : Int32) z15 y15 (d + 1)) kX9_51 dX9_room_15 rfl rfl rfl rfl rfl (Nat.le_of_ble_eq_true rfl) (Nat.le_of_ble_eq_true rfl) rfl rfl (Or.inl rfl) ?_
    cases h
    exact x_iret2 dX9_room_18 rfl rfl
noncomputable def e_hB_X9_calm (p0 : (Nat → Int32)) (p1 : Int32) (x1 : Int32) : Option (Int64) :=
  (xix x1 5 (if (p0 x1.toNatClampNeg) = (0 : Int32) then some ((100 : Int64) - (p1 / (2 : Int32)).toInt64) else some ((100 : Int64) - p1.toInt64)))
set_option maxRecDepth 100000 in
set_option maxHeartbeats 4000000 in
theorem t_hB_X9_calm {g0 g1 g2 g3 g4 g5 g6 g7 g8 g9 g10 g11 g12 g13 g14 g15 g16 g17 g18 g19 g20 g21 g22 g23 g24 g25 g26 : Int32} {a0 a1 a2 a3 a4 a5 a6 a7 a8 a9 a10 a11 a12 a13 a14 a15 a16 a17 a18 a19 a20 a21 a22 a23 : (Nat → Int32)} {b0 : (Nat → Int64)} {w0 : Int64} {rv : Value} (x1 : Int32) (res : Int64) (h : e_hB_X9_calm a11 g20 x1 = some res) (d : Nat) : xMet xks YX9_calm (d + 1) 0 0 [.ref 0, .int x1] (hB g0 g1 g2 g3 g4 g5 g6 g7 g8 g9 g10 g11 g12 g13 g14 g15 g16 g17 g18 g19 g20 g21 g22 g23 g24 g25 g26 a0 a1 a2 a3 a4 a5 a6 a7 a8 a9 a10 a11 a12 a13 a14 a15 a16 a17 a18 a19 a20 a21 a22 a23 b0 w0 (.ref 11) rv) (some (.long res)) (hB g0 g1 g2 g3 g4 g5 g6 g7 g8 g9 g10 g11 g12 g13 g14 g15 g16 g17 g18 g19 g20 g21 g22 g23 g24 g25 g26 a0 a1 a2 a3 a4 a5 a6 a7 a8 a9 a10 a11 a12 a13 a14 a15 a16 a17 a18 a19 a20 a21 a22 a23 b0 w0 (.ref 11) rv) := by
  unfold e_hB_X9_calm at h
  refine xMet_of (pl := [some (.ref 0), some (.int x1)]) (by decide) (Nat.le_of_ble_eq_true rfl) rfl (Nat.le_of_ble_eq_true rfl) ?_
  refine x_ldc2 iX9_439 dX9_calm_0 ?_
  refine x_aload_n dX9_calm_3 rfl ?_
  refine x_get fX9_316 dX9_calm_4 rfl rfl rfl ?_
  refine x_get fX9_270 dX9_calm_7 rfl rfl rfl ?_
  refine x_iload_n dX9_calm_10 rfl ?_
  obtain ⟨q11, h⟩ := xix_of h
  refine x_iald dX9_calm_11 rfl q11 ?_
  refine x_if_ne 27 dX9_calm_12 (by decide) (fun q => ?_) (fun q => ?_)
  · have h := xif_f q h
    refine x_aload_n dX9_calm_27 rfl ?_
    refine x_get fX9_316 dX9_calm_28 rfl rfl rfl ?_
    refine x_get fX9_230 dX9_calm_31 rfl rfl rfl ?_
    refine x_i2l dX9_calm_34 ?_
    refine x_lsub dX9_calm_35 ?_
    cases h
    exact x_lret2 dX9_calm_36 rfl rfl
  · have h := xif_t q h
    refine x_aload_n dX9_calm_15 rfl ?_
    refine x_get fX9_316 dX9_calm_16 rfl rfl rfl ?_
    refine x_get fX9_230 dX9_calm_19 rfl rfl rfl ?_
    refine x_iconst (2 : Int32) dX9_calm_22 (by decide) ?_
    refine x_idiv dX9_calm_23 (by decide) ?_
    refine x_goto 34 dX9_calm_24 (by decide) ?_
    refine x_i2l dX9_calm_34 ?_
    refine x_lsub dX9_calm_35 ?_
    cases h
    exact x_lret2 dX9_calm_36 rfl rfl
noncomputable def L_hB_X9_power_5   (f0 : Int64) (f2 : Int32) (K : Int64 → Int32 → Option (Int64)) : Nat → Int64 → Int32 → Option (Int64)
  | 0, _, _ => none
  | n5 + 1, l3_5, l5_5 => if f2 ≤ l5_5 then K l3_5 l5_5 else L_hB_X9_power_5  f0 f2 K n5 (l3_5 * f0) (l5_5 + (1 : Int32))
noncomputable def e_hB_X9_power  (x0 : Int64) (x2 : Int32) : Option (Int64) :=
  L_hB_X9_power_5  x0 x2 (fun l3_5 l5_5 => some l3_5) 200000 (1 : Int64) (0 : Int32)
set_option maxRecDepth 100000 in
set_option maxHeartbeats 4000000 in
theorem lp_hB_X9_power_5 {g0 g1 g2 g3 g4 g5 g6 g7 g8 g9 g10 g11 g12 g13 g14 g15 g16 g17 g18 g19 g20 g21 g22 g23 g24 g25 g26 : Int32} {a0 a1 a2 a3 a4 a5 a6 a7 a8 a9 a10 a11 a12 a13 a14 a15 a16 a17 a18 a19 a20 a21 a22 a23 : (Nat → Int32)} {b0 : (Nat → Int64)} {w0 : Int64} {rv : Value} (d n0 : Nat) (f0 : Int64) (f2 : Int32) (res : Int64) (K : Int64 → Int32 → Option (Int64)) (hK : ∀ (l3_5 : Int64) (l5_5 : Int32), K l3_5 l5_5 = some res → xW xks YX9_power (d + 1) 0 0 n0 (xZ 0 0 n0 (some (.long res)) (hB g0 g1 g2 g3 g4 g5 g6 g7 g8 g9 g10 g11 g12 g13 g14 g15 g16 g17 g18 g19 g20 g21 g22 g23 g24 g25 g26 a0 a1 a2 a3 a4 a5 a6 a7 a8 a9 a10 a11 a12 a13 a14 a15 a16 a17 a18 a19 a20 a21 a22 a23 b0 w0 (.ref 11) rv)) 0 0 21 [none, none, none, some (.long l3_5), none, none] [] (hB g0 g1 g2 g3 g4 g5 g6 g7 g8 g9 g10 g11 g12 g13 g14 g15 g16 g17 g18 g19 g20 g21 g22 g23 g24 g25 g26 a0 a1 a2 a3 a4 a5 a6 a7 a8 a9 a10 a11 a12 a13 a14 a15 a16 a17 a18 a19 a20 a21 a22 a23 b0 w0 (.ref 11) rv)) : ∀ (n : Nat) (l3_5 : Int64) (l5_5 : Int32), L_hB_X9_power_5  f0 f2 K n l3_5 l5_5 = some res → xW xks YX9_power (d + 1) 0 0 n0 (xZ 0 0 n0 (some (.long res)) (hB g0 g1 g2 g3 g4 g5 g6 g7 g8 g9 g10 g11 g12 g13 g14 g15 g16 g17 g18 g19 g20 g21 g22 g23 g24 g25 g26 a0 a1 a2 a3 a4 a5 a6 a7 a8 a9 a10 a11 a12 a13 a14 a15 a16 a17 a18 a19 a20 a21 a22 a23 b0 w0 (.ref 11) rv)) 0 0 5 [some (.long f0), none, some (.int f2), some (.long l3_5), none, some (.int l5_5)] [] (hB g0 g1 g2 g3 g4 g5 g6 g7 g8 g9 g10 g11 g12 g13 g14 g15 g16 g17 g18 g19 g20 g21 g22 g23 g24 g25 g26 a0 a1 a2 a3 a4 a5 a6 a7 a8 a9 a10 a11 a12 a13 a14 a15 a16 a17 a18 a19 a20 a21 a22 a23 b0 w0 (.ref 11) rv) := by
  intro n
  induction n with
  | zero =>
    intro l3_5 l5_5 h
    cases (show (none : Option (Int64)) = some res from h)
  | succ n5 ih5 =>
    intro l3_5 l5_5 h
    unfold L_hB_X9_power_5 at h
    refine x_iload dX9_power_5 rfl ?_
    refine x_iload_n dX9_power_7 rfl ?_
    refine x_icmp_ge 21 dX9_power_8 (by decide) (fun q => ?_) (fun q => ?_)
    · have h := xif_t q h
      refine x_weak (pl2 := [none, none, none, some (.long l3_5), none, none]) ⟨rfl, trivial⟩ ?_
      exact hK l3_5 l5_5 h
    · have h := xif_f q h
      refine x_lload_n dX9_power_11 rfl ?_
      refine x_lload_n dX9_power_12 rfl ?_
      refine x_lmul dX9_power_13 ?_
      refine x_lstore_n (pl' := [some (.long f0), none, some (.int f2), some (.long (l3_5 * f0)), none, some (.int l5_5)]) dX9_power_14 (by decide) rfl ?_
      refine x_iincK (1 : Int32) (pl' := [some (.long f0), none, some (.int f2), some (.long (l3_5 * f0)), none, some (.int (l5_5 + (1 : Int32)))]) dX9_power_15 rfl (by decide) (by decide) rfl ?_
      refine x_goto 5 dX9_power_18 (by decide) ?_
      refine x_weak (pl2 := [some (.long f0), none, some (.int f2), some (.long (l3_5 * f0)), none, some (.int (l5_5 + (1 : Int32)))]) ⟨rfl, rfl, rfl, rfl, trivial⟩ ?_
      exact ih5 (l3_5 * f0) (l5_5 + (1 : Int32)) h
set_option maxRecDepth 100000 in
set_option maxHeartbeats 4000000 in
theorem t_hB_X9_power {g0 g1 g2 g3 g4 g5 g6 g7 g8 g9 g10 g11 g12 g13 g14 g15 g16 g17 g18 g19 g20 g21 g22 g23 g24 g25 g26 : Int32} {a0 a1 a2 a3 a4 a5 a6 a7 a8 a9 a10 a11 a12 a13 a14 a15 a16 a17 a18 a19 a20 a21 a22 a23 : (Nat → Int32)} {b0 : (Nat → Int64)} {w0 : Int64} {rv : Value} (x0 : Int64) (x2 : Int32) (res : Int64) (h : e_hB_X9_power  x0 x2 = some res) (d : Nat) : xMet xks YX9_power (d + 1) 0 0 [.long x0, .int x2] (hB g0 g1 g2 g3 g4 g5 g6 g7 g8 g9 g10 g11 g12 g13 g14 g15 g16 g17 g18 g19 g20 g21 g22 g23 g24 g25 g26 a0 a1 a2 a3 a4 a5 a6 a7 a8 a9 a10 a11 a12 a13 a14 a15 a16 a17 a18 a19 a20 a21 a22 a23 b0 w0 (.ref 11) rv) (some (.long res)) (hB g0 g1 g2 g3 g4 g5 g6 g7 g8 g9 g10 g11 g12 g13 g14 g15 g16 g17 g18 g19 g20 g21 g22 g23 g24 g25 g26 a0 a1 a2 a3 a4 a5 a6 a7 a8 a9 a10 a11 a12 a13 a14 a15 a16 a17 a18 a19 a20 a21 a22 a23 b0 w0 (.ref 11) rv) := by
  unfold e_hB_X9_power at h
  refine xMet_of (pl := [some (.long x0), none, some (.int x2), none, none, none]) (by decide) (Nat.le_of_ble_eq_true rfl) rfl (Nat.le_of_ble_eq_true rfl) ?_
  refine x_lconst (1 : Int64) dX9_power_0 (by decide) ?_
  refine x_lstore_n (pl' := [some (.long x0), none, some (.int x2), some (.long (1 : Int64)), none, none]) dX9_power_1 (by decide) rfl ?_
  refine x_iconst (0 : Int32) dX9_power_2 (by decide) ?_
  refine x_istore (pl' := [some (.long x0), none, some (.int x2), some (.long (1 : Int64)), none, some (.int (0 : Int32))]) dX9_power_3 (by decide) rfl ?_
  refine x_weak (pl2 := [some (.long x0), none, some (.int x2), some (.long (1 : Int64)), none, some (.int (0 : Int32))]) ⟨rfl, rfl, rfl, rfl, trivial⟩ ?_
  refine lp_hB_X9_power_5 d _ x0 x2 res _ (fun l3_5 l5_5 h => ?_) 200000 (1 : Int64) (0 : Int32) h
  refine x_lload_n dX9_power_21 rfl ?_
  cases h
  exact x_lret2 dX9_power_22 rfl rfl
noncomputable def L_hB_X9_common_6    (K : Int64 → Int64 → Option (Int64)) : Nat → Int64 → Int64 → Option (Int64)
  | 0, _, _ => none
  | n6 + 1, l4_6, l6_6 => if (lg_cmp l6_6 (0 : Int64)) = (0 : Int32) then K l4_6 l6_6 else (xnzL l6_6 (L_hB_X9_common_6   K n6 l6_6 (l4_6 - l4_6 / l6_6 * l6_6)))
noncomputable def e_hB_X9_common  (x0 : Int64) (x2 : Int64) : Option (Int64) :=
  L_hB_X9_common_6   (fun l4_6 l6_6 => some l4_6) 200000 x0 x2
set_option maxRecDepth 100000 in
set_option maxHeartbeats 4000000 in
theorem lp_hB_X9_common_6 {g0 g1 g2 g3 g4 g5 g6 g7 g8 g9 g10 g11 g12 g13 g14 g15 g16 g17 g18 g19 g20 g21 g22 g23 g24 g25 g26 : Int32} {a0 a1 a2 a3 a4 a5 a6 a7 a8 a9 a10 a11 a12 a13 a14 a15 a16 a17 a18 a19 a20 a21 a22 a23 : (Nat → Int32)} {b0 : (Nat → Int64)} {w0 : Int64} {rv : Value} (d n0 : Nat)  (res : Int64) (K : Int64 → Int64 → Option (Int64)) (hK : ∀ (l4_6 : Int64) (l6_6 : Int64), K l4_6 l6_6 = some res → xW xks YX9_common (d + 1) 0 0 n0 (xZ 0 0 n0 (some (.long res)) (hB g0 g1 g2 g3 g4 g5 g6 g7 g8 g9 g10 g11 g12 g13 g14 g15 g16 g17 g18 g19 g20 g21 g22 g23 g24 g25 g26 a0 a1 a2 a3 a4 a5 a6 a7 a8 a9 a10 a11 a12 a13 a14 a15 a16 a17 a18 a19 a20 a21 a22 a23 b0 w0 (.ref 11) rv)) 0 0 31 [none, none, none, none, some (.long l4_6), none, none, none, none, none] [] (hB g0 g1 g2 g3 g4 g5 g6 g7 g8 g9 g10 g11 g12 g13 g14 g15 g16 g17 g18 g19 g20 g21 g22 g23 g24 g25 g26 a0 a1 a2 a3 a4 a5 a6 a7 a8 a9 a10 a11 a12 a13 a14 a15 a16 a17 a18 a19 a20 a21 a22 a23 b0 w0 (.ref 11) rv)) : ∀ (n : Nat) (l4_6 : Int64) (l6_6 : Int64), L_hB_X9_common_6   K n l4_6 l6_6 = some res → xW xks YX9_common (d + 1) 0 0 n0 (xZ 0 0 n0 (some (.long res)) (hB g0 g1 g2 g3 g4 g5 g6 g7 g8 g9 g10 g11 g12 g13 g14 g15 g16 g17 g18 g19 g20 g21 g22 g23 g24 g25 g26 a0 a1 a2 a3 a4 a5 a6 a7 a8 a9 a10 a11 a12 a13 a14 a15 a16 a17 a18 a19 a20 a21 a22 a23 b0 w0 (.ref 11) rv)) 0 0 6 [none, none, none, none, some (.long l4_6), none, some (.long l6_6), none, none, none] [] (hB g0 g1 g2 g3 g4 g5 g6 g7 g8 g9 g10 g11 g12 g13 g14 g15 g16 g17 g18 g19 g20 g21 g22 g23 g24 g25 g26 a0 a1 a2 a3 a4 a5 a6 a7 a8 a9 a10 a11 a12 a13 a14 a15 a16 a17 a18 a19 a20 a21 a22 a23 b0 w0 (.ref 11) rv) := by
  intro n
  induction n with
  | zero =>
    intro l4_6 l6_6 h
    cases (show (none : Option (Int64)) = some res from h)
  | succ n6 ih6 =>
    intro l4_6 l6_6 h
    unfold L_hB_X9_common_6 at h
    refine x_lload dX9_common_6 rfl ?_
    refine x_lconst (0 : Int64) dX9_common_8 (by decide) ?_
    refine x_lcmp dX9_common_9 ?_
    refine x_if_eq 31 dX9_common_10 (by decide) (fun q => ?_) (fun q => ?_)
    · have h := xif_t q h
      refine x_weak (pl2 := [none, none, none, none, some (.long l4_6), none, none, none, none, none]) ⟨rfl, trivial⟩ ?_
      exact hK l4_6 l6_6 h
    · have h := xif_f q h
      refine x_lload dX9_common_13 rfl ?_
      refine x_lload dX9_common_15 rfl ?_
      obtain ⟨q17, h⟩ := xnzL_of h
      refine x_lrem dX9_common_17 q17 ?_
      refine x_lstore (pl' := [none, none, none, none, some (.long l4_6), none, some (.long l6_6), none, some (.long (l4_6 - l4_6 / l6_6 * l6_6)), none]) dX9_common_18 (by decide) rfl ?_
      refine x_lload dX9_common_20 rfl ?_
      refine x_lstore (pl' := [none, none, none, none, some (.long l6_6), none, some (.long l6_6), none, some (.long (l4_6 - l4_6 / l6_6 * l6_6)), none]) dX9_common_22 (by decide) rfl ?_
      refine x_lload dX9_common_24 rfl ?_
      refine x_lstore (pl' := [none, none, none, none, some (.long l6_6), none, some (.long (l4_6 - l4_6 / l6_6 * l6_6)), none, some (.long (l4_6 - l4_6 / l6_6 * l6_6)), none]) dX9_common_26 (by decide) rfl ?_
      refine x_goto 6 dX9_common_28 (by decide) ?_
      refine x_weak (pl2 := [none, none, none, none, some (.long l6_6), none, some (.long (l4_6 - l4_6 / l6_6 * l6_6)), none, none, none]) ⟨rfl, rfl, trivial⟩ ?_
      exact ih6 l6_6 (l4_6 - l4_6 / l6_6 * l6_6) h
set_option maxRecDepth 100000 in
set_option maxHeartbeats 4000000 in
theorem t_hB_X9_common {g0 g1 g2 g3 g4 g5 g6 g7 g8 g9 g10 g11 g12 g13 g14 g15 g16 g17 g18 g19 g20 g21 g22 g23 g24 g25 g26 : Int32} {a0 a1 a2 a3 a4 a5 a6 a7 a8 a9 a10 a11 a12 a13 a14 a15 a16 a17 a18 a19 a20 a21 a22 a23 : (Nat → Int32)} {b0 : (Nat → Int64)} {w0 : Int64} {rv : Value} (x0 : Int64) (x2 : Int64) (res : Int64) (h : e_hB_X9_common  x0 x2 = some res) (d : Nat) : xMet xks YX9_common (d + 1) 0 0 [.long x0, .long x2] (hB g0 g1 g2 g3 g4 g5 g6 g7 g8 g9 g10 g11 g12 g13 g14 g15 g16 g17 g18 g19 g20 g21 g22 g23 g24 g25 g26 a0 a1 a2 a3 a4 a5 a6 a7 a8 a9 a10 a11 a12 a13 a14 a15 a16 a17 a18 a19 a20 a21 a22 a23 b0 w0 (.ref 11) rv) (some (.long res)) (hB g0 g1 g2 g3 g4 g5 g6 g7 g8 g9 g10 g11 g12 g13 g14 g15 g16 g17 g18 g19 g20 g21 g22 g23 g24 g25 g26 a0 a1 a2 a3 a4 a5 a6 a7 a8 a9 a10 a11 a12 a13 a14 a15 a16 a17 a18 a19 a20 a21 a22 a23 b0 w0 (.ref 11) rv) := by
  unfold e_hB_X9_common at h
  refine xMet_of (pl := [some (.long x0), none, some (.long x2), none, none, none, none, none, none, none]) (by decide) (Nat.le_of_ble_eq_true rfl) rfl (Nat.le_of_ble_eq_true rfl) ?_
  refine x_lload_n dX9_common_0 rfl ?_
  refine x_lstore (pl' := [some (.long x0), none, some (.long x2), none, some (.long x0), none, none, none, none, none]) dX9_common_1 (by decide) rfl ?_
  refine x_lload_n dX9_common_3 rfl ?_
  refine x_lstore (pl' := [some (.long x0), none, some (.long x2), none, some (.long x0), none, some (.long x2), none, none, none]) dX9_common_4 (by decide) rfl ?_
  refine x_weak (pl2 := [none, none, none, none, some (.long x0), none, some (.long x2), none, none, none]) ⟨rfl, rfl, trivial⟩ ?_
  refine lp_hB_X9_common_6 d _  res _ (fun l4_6 l6_6 h => ?_) 200000 x0 x2 h
  refine x_lload dX9_common_31 rfl ?_
  cases h
  exact x_lret2 dX9_common_33 rfl rfl
noncomputable def e_hB_X9_fraction (p0 : Int32) (p1 : Int32) (x1 : Int64) (x3 : Int64) (x5 : Int32) : Option (Int64 × Int32 × Int32) :=
  ((e_hB_X9_good p0 p1 (0 : Int32)).bind fun z2 => if x5 = (0 : Int32) then ((e_hB_X9_common x1 x3).bind fun z18 => xnzL z18 (some ((x1 / z18), z2.2.1, z2.2.2))) else ((e_hB_X9_common x1 x3).bind fun z18 => xnzL z18 (some ((x3 / z18), z2.2.1, z2.2.2))))
set_option maxRecDepth 100000 in
set_option maxHeartbeats 4000000 in
theorem t_hB_X9_fraction {g0 g1 g2 g3 g4 g5 g6 g7 g8 g9 g10 g11 g12 g13 g14 g15 g16 g17 g18 g19 g20 g21 g22 g23 g24 g25 g26 : Int32} {a0 a1 a2 a3 a4 a5 a6 a7 a8 a9 a10 a11 a12 a13 a14 a15 a16 a17 a18 a19 a20 a21 a22 a23 : (Nat → Int32)} {b0 : (Nat → Int64)} {w0 : Int64} {rv : Value} (x1 : Int64) (x3 : Int64) (x5 : Int32) (res : Int64 × Int32 × Int32) (h : e_hB_X9_fraction g1 g2 x1 x3 x5 = some res) (d : Nat) : xMet xks YX9_fraction (d + 2) 0 0 [.ref 0, .long x1, .long x3, .int x5] (hB g0 g1 g2 g3 g4 g5 g6 g7 g8 g9 g10 g11 g12 g13 g14 g15 g16 g17 g18 g19 g20 g21 g22 g23 g24 g25 g26 a0 a1 a2 a3 a4 a5 a6 a7 a8 a9 a10 a11 a12 a13 a14 a15 a16 a17 a18 a19 a20 a21 a22 a23 b0 w0 (.ref 11) rv) (some (.long res.1)) (hB g0 res.2.1 res.2.2 g3 g4 g5 g6 g7 g8 g9 g10 g11 g12 g13 g14 g15 g16 g17 g18 g19 g20 g21 g22 g23 g24 g25 g26 a0 a1 a2 a3 a4 a5 a6 a7 a8 a9 a10 a11 a12 a13 a14 a15 a16 a17 a18 a19 a20 a21 a22 a23 b0 w0 (.ref 11) rv) := by
  unfold e_hB_X9_fraction at h
  refine xMet_of (pl := [some (.ref 0), some (.long x1), none, some (.long x3), none, some (.int x5)]) (by decide) (Nat.le_of_ble_eq_true rfl) rfl (Nat.le_of_ble_eq_true rfl) ?_
  refine x_aload_n dX9_fraction_0 rfl ?_
  refine x_iconst (0 : Int32) dX9_fraction_1 (by decide) ?_
  obtain ⟨z2, y2, h⟩ := xbind h
  refine x_callV (t_hB_X9_good (0 : Int32) z2 y2 (d + 0)) kX9_55 dX9_fraction_2 rfl rfl rfl rfl rfl (Nat.le_of_ble_eq_true rfl) (Nat.le_of_ble_eq_true rfl) rfl rfl (Or.inl rfl) ?_
  refine x_pop dX9_fraction_5 rfl ?_
  refine x_iload dX9_fraction_6 rfl ?_
  refine x_if_eq 15 dX9_fraction_8 (by decide) (fun q => ?_) (fun q => ?_)
  · have h := xif_t q h
    refine x_lload_n dX9_fraction_15 rfl ?_
    refine x_lload_n dX9_fraction_16 rfl ?_
    refine x_lload_n dX9_fraction_17 rfl ?_
    obtain ⟨z18, y18, h⟩ := xbind h
    refine x_callS (t_hB_X9_common x1 x3 z18 y18 (d + 0)) kX9_58 dX9_fraction_18 rfl rfl (Nat.le_of_ble_eq_true rfl) (Nat.le_of_ble_eq_true rfl) rfl rfl (Or.inl rfl) ?_
    obtain ⟨q21, h⟩ := xnzL_of h
    refine x_ldiv dX9_fraction_21 q21 ?_
    cases h
    exact x_lret2 dX9_fraction_22 rfl rfl
  · have h := xif_f q h
    refine x_lload_n dX9_fraction_11 rfl ?_
    refine x_goto 16 dX9_fraction_12 (by decide) ?_
    refine x_lload_n dX9_fraction_16 rfl ?_
    refine x_lload_n dX9_fraction_17 rfl ?_
    obtain ⟨z18, y18, h⟩ := xbind h
    refine x_callS (t_hB_X9_common x1 x3 z18 y18 (d + 0)) kX9_58 dX9_fraction_18 rfl rfl (Nat.le_of_ble_eq_true rfl) (Nat.le_of_ble_eq_true rfl) rfl rfl (Or.inl rfl) ?_
    obtain ⟨q21, h⟩ := xnzL_of h
    refine x_ldiv dX9_fraction_21 q21 ?_
    cases h
    exact x_lret2 dX9_fraction_22 rfl rfl
noncomputable def e_hB_X9_whole (p0 : Int32) (p1 : Int32) (p2 : Int32) (p3 : Int32) (p4 : (Nat → Int32)) (p5 : Int32) (x1 : Int32) (x2 : Int32) (x3 : Int32) : Option (Int64 × Int32 × Int32 × Int32) :=
  ((e_hB_X9_isUmbrella p1 x1).bind fun z7 => if z7 = (0 : Int32) then ((e_hB_X9_refused p2 p3 (1 : Int32)).bind fun z15 => some (z15.1.toInt64, (0 : Int32), z15.2.1, z15.2.2)) else ((e_hB_X9_in x2 (0 : Int32) (6 : Int32)).bind fun z24 => if z24 = (0 : Int32) then ((e_hB_X9_refused p2 p3 (2 : Int32)).bind fun z56 => some (z56.1.toInt64, (0 : Int32), z56.2.1, z56.2.2)) else ((e_hB_X9_calm p4 p5 x1).bind fun z33 => (e_hB_X9_power z33 x2).bind fun z37 => (e_hB_X9_power (100 : Int64) x2).bind fun z44 => (e_hB_X9_fraction p2 p3 z37 z44 x3).bind fun z48 => some (z48.1, (0 : Int32), z48.2.1, z48.2.2))))
set_option maxRecDepth 100000 in
set_option maxHeartbeats 4000000 in
theorem t_hB_X9_whole {g0 g1 g2 g3 g4 g5 g6 g7 g8 g9 g10 g11 g12 g13 g14 g15 g16 g17 g18 g19 g20 g21 g22 g23 g24 g25 g26 : Int32} {a0 a1 a2 a3 a4 a5 a6 a7 a8 a9 a10 a11 a12 a13 a14 a15 a16 a17 a18 a19 a20 a21 a22 a23 : (Nat → Int32)} {b0 : (Nat → Int64)} {w0 : Int64} {rv : Value} (x1 : Int32) (x2 : Int32) (x3 : Int32) (res : Int64 × Int32 × Int32 × Int32) (h : e_hB_X9_whole g0 g23 g1 g2 a11 g20 x1 x2 x3 = some res) (d : Nat) : xMet xks YX9_whole (d + 3) 0 0 [.ref 0, .int x1, .int x2, .int x3] (hB g0 g1 g2 g3 g4 g5 g6 g7 g8 g9 g10 g11 g12 g13 g14 g15 g16 g17 g18 g19 g20 g21 g22 g23 g24 g25 g26 a0 a1 a2 a3 a4 a5 a6 a7 a8 a9 a10 a11 a12 a13 a14 a15 a16 a17 a18 a19 a20 a21 a22 a23 b0 w0 (.ref 11) rv) (some (.long res.1)) (hB res.2.1 res.2.2.1 res.2.2.2 g3 g4 g5 g6 g7 g8 g9 g10 g11 g12 g13 g14 g15 g16 g17 g18 g19 g20 g21 g22 g23 g24 g25 g26 a0 a1 a2 a3 a4 a5 a6 a7 a8 a9 a10 a11 a12 a13 a14 a15 a16 a17 a18 a19 a20 a21 a22 a23 b0 w0 (.ref 11) rv) := by
  unfold e_hB_X9_whole at h
  refine xMet_of (pl := [some (.ref 0), some (.int x1), some (.int x2), some (.int x3)]) (by decide) (Nat.le_of_ble_eq_true rfl) rfl (Nat.le_of_ble_eq_true rfl) ?_
  refine x_aload_n dX9_whole_0 rfl ?_
  refine x_iconst (0 : Int32) dX9_whole_1 (by decide) ?_
  refine x_put (h2 := (hB (0 : Int32) g1 g2 g3 g4 g5 g6 g7 g8 g9 g10 g11 g12 g13 g14 g15 g16 g17 g18 g19 g20 g21 g22 g23 g24 g25 g26 a0 a1 a2 a3 a4 a5 a6 a7 a8 a9 a10 a11 a12 a13 a14 a15 a16 a17 a18 a19 a20 a21 a22 a23 b0 w0 (.ref 11) rv)) fX9_45 dX9_whole_2 rfl rfl (Nat.le_of_ble_eq_true rfl : 0 + 1 ≤ _) (fun α => ⟨rfl, rfl⟩) rfl ?_
  refine x_aload_n dX9_whole_5 rfl ?_
  refine x_iload_n dX9_whole_6 rfl ?_
  obtain ⟨z7, y7, h⟩ := xbind h
  refine x_callV (t_hB_X9_isUmbrella x1 z7 y7 (d + 1)) kX9_359 dX9_whole_7 rfl rfl rfl rfl rfl (Nat.le_of_ble_eq_true rfl) (Nat.le_of_ble_eq_true rfl) rfl rfl (Or.inl rfl) ?_
  refine x_if_ne 20 dX9_whole_10 (by decide) (fun q => ?_) (fun q => ?_)
  · have h := xif_f q h
    refine x_iload_n dX9_whole_20 rfl ?_
    refine x_iconst (0 : Int32) dX9_whole_21 (by decide) ?_
    refine x_bipush (6 : Int32) dX9_whole_22 (by decide) ?_
    obtain ⟨z24, y24, h⟩ := xbind h
    refine x_callS (t_hB_X9_in x2 (0 : Int32) (6 : Int32) z24 y24 (d + 1)) kX9_124 dX9_whole_24 rfl rfl (Nat.le_of_ble_eq_true rfl) (Nat.le_of_ble_eq_true rfl) rfl rfl (Or.inl rfl) ?_
    refine x_if_eq 54 dX9_whole_27 (by decide) (fun q => ?_) (fun q => ?_)
    · have h := xif_t q h
      refine x_aload_n dX9_whole_54 rfl ?_
      refine x_iconst (2 : Int32) dX9_whole_55 (by decide) ?_
      obtain ⟨z56, y56, h⟩ := xbind h
      refine x_callV (t_hB_X9_refused (2 : Int32) z56 y56 (d + 1)) kX9_51 dX9_whole_56 rfl rfl rfl rfl rfl (Nat.le_of_ble_eq_true rfl) (Nat.le_of_ble_eq_true rfl) rfl rfl (Or.inl rfl) ?_
      refine x_i2l dX9_whole_59 ?_
      cases h
      exact x_lret2 dX9_whole_60 rfl rfl
    · have h := xif_f q h
      refine x_aload_n dX9_whole_30 rfl ?_
      refine x_aload_n dX9_whole_31 rfl ?_
      refine x_iload_n dX9_whole_32 rfl ?_
      obtain ⟨z33, y33, h⟩ := xbind h
      refine x_callV (t_hB_X9_calm x1 z33 y33 (d + 1)) kX9_441 dX9_whole_33 rfl rfl rfl rfl rfl (Nat.le_of_ble_eq_true rfl) (Nat.le_of_ble_eq_true rfl) rfl rfl (Or.inl rfl) ?_
      refine x_iload_n dX9_whole_36 rfl ?_
      obtain ⟨z37, y37, h⟩ := xbind h
      refine x_callS (t_hB_X9_power z33 x2 z37 y37 (d + 1)) kX9_445 dX9_whole_37 rfl rfl (Nat.le_of_ble_eq_true rfl) (Nat.le_of_ble_eq_true rfl) rfl rfl (Or.inl rfl) ?_
      refine x_ldc2 iX9_439 dX9_whole_40 ?_
      refine x_iload_n dX9_whole_43 rfl ?_
      obtain ⟨z44, y44, h⟩ := xbind h
      refine x_callS (t_hB_X9_power (100 : Int64) x2 z44 y44 (d + 1)) kX9_445 dX9_whole_44 rfl rfl (Nat.le_of_ble_eq_true rfl) (Nat.le_of_ble_eq_true rfl) rfl rfl (Or.inl rfl) ?_
      refine x_iload_n dX9_whole_47 rfl ?_
      obtain ⟨z48, y48, h⟩ := xbind h
      refine x_callV (t_hB_X9_fraction z37 z44 x3 z48 y48 (d + 0)) kX9_449 dX9_whole_48 rfl rfl rfl rfl rfl (Nat.le_of_ble_eq_true rfl) (Nat.le_of_ble_eq_true rfl) rfl rfl (Or.inl rfl) ?_
      refine x_goto 60 dX9_whole_51 (by decide) ?_
      cases h
      exact x_lret2 dX9_whole_60 rfl rfl
  · have h := xif_t q h
    refine x_aload_n dX9_whole_13 rfl ?_
    refine x_iconst (1 : Int32) dX9_whole_14 (by decide) ?_
    obtain ⟨z15, y15, h⟩ := xbind h
    refine x_callV (t_hB_X9_refused (1 : Int32) z15 y15 (d + 1)) kX9_51 dX9_whole_15 rfl rfl rfl rfl rfl (Nat.le_of_ble_eq_true rfl) (Nat.le_of_ble_eq_true rfl) rfl rfl (Or.inl rfl) ?_
    refine x_i2l dX9_whole_18 ?_
    cases h
    exact x_lret2 dX9_whole_19 rfl rfl
noncomputable def L_hB_X9_allWhole_45 (p0 : Int32) (p1 : Int32) (p2 : Int32) (p3 : Int32) (p4 : Int32) (p5 : (Nat → Int32)) (p6 : (Nat → Int32)) (p7 : Int32)  (f1 : Int32) (f2 : Int32) (f3 : Int32) (K : Int64 → Int64 → Int32 → Option (Int64 × Int32 × Int32 × Int32)) : Nat → Int64 → Int64 → Int32 → Option (Int64 × Int32 × Int32 × Int32)
  | 0, _, _, _ => none
  | n45 + 1, l4_45, l6_45, l8_45 => if p2 ≤ l8_45 then K l4_45 l6_45 l8_45 else (xix ((0 : Int32) + l8_45) 11 (if (p5 ((0 : Int32) + l8_45).toNatClampNeg) = f1 then ((e_hB_X9_calm p6 p7 l8_45).bind fun z78 => (e_hB_X9_power z78 f2).bind fun z82 => (e_hB_X9_power (100 : Int64) f2).bind fun z94 => L_hB_X9_allWhole_45 p0 p1 p2 p3 p4 p5 p6 p7 f1 f2 f3 K n45 (l4_45 * z82) (l6_45 * z94) (l8_45 + (1 : Int32))) else L_hB_X9_allWhole_45 p0 p1 p2 p3 p4 p5 p6 p7 f1 f2 f3 K n45 l4_45 l6_45 (l8_45 + (1 : Int32))))
noncomputable def e_hB_X9_allWhole (p0 : Int32) (p1 : Int32) (p2 : Int32) (p3 : Int32) (p4 : Int32) (p5 : (Nat → Int32)) (p6 : (Nat → Int32)) (p7 : Int32) (x1 : Int32) (x2 : Int32) (x3 : Int32) : Option (Int64 × Int32 × Int32 × Int32) :=
  ((e_hB_X9_isPerson p1 x1).bind fun z7 => if z7 = (0 : Int32) then ((e_hB_X9_refused p3 p4 (1 : Int32)).bind fun z15 => some (z15.1.toInt64, (0 : Int32), z15.2.1, z15.2.2)) else ((e_hB_X9_in x2 (0 : Int32) (1 : Int32)).bind fun z23 => if z23 = (0 : Int32) then ((e_hB_X9_refused p3 p4 (2 : Int32)).bind fun z31 => some (z31.1.toInt64, (0 : Int32), z31.2.1, z31.2.2)) else L_hB_X9_allWhole_45 (0 : Int32) p1 p2 p3 p4 p5 p6 p7 x1 x2 x3 (fun l4_45 l6_45 l8_45 => ((e_hB_X9_fraction p3 p4 l4_45 l6_45 x3).bind fun z112 => some (z112.1, (0 : Int32), z112.2.1, z112.2.2))) 200000 (1 : Int64) (1 : Int64) (0 : Int32)))
set_option maxRecDepth 100000 in
set_option maxHeartbeats 4000000 in
theorem lp_hB_X9_allWhole_45 {g0 g1 g2 g3 g4 g5 g6 g7 g8 g9 g10 g11 g12 g13 g14 g15 g16 g17 g18 g19 g20 g21 g22 g23 g24 g25 g26 : Int32} {a0 a1 a2 a3 a4 a5 a6 a7 a8 a9 a10 a11 a12 a13 a14 a15 a16 a17 a18 a19 a20 a21 a22 a23 : (Nat → Int32)} {b0 : (Nat → Int64)} {w0 : Int64} {rv : Value} (d n0 : Nat) (f1 : Int32) (f2 : Int32) (f3 : Int32) (res : Int64 × Int32 × Int32 × Int32) (K : Int64 → Int64 → Int32 → Option (Int64 × Int32 × Int32 × Int32)) (hK : ∀ (l4_45 : Int64) (l6_45 : Int64) (l8_45 : Int32), K l4_45 l6_45 l8_45 = some res → xW xks YX9_allWhole (d + 3) 0 0 n0 (xZ 0 0 n0 (some (.long res.1)) (hB res.2.1 res.2.2.1 res.2.2.2 g3 g4 g5 g6 g7 g8 g9 g10 g11 g12 g13 g14 g15 g16 g17 g18 g19 g20 g21 g22 g23 g24 g25 g26 a0 a1 a2 a3 a4 a5 a6 a7 a8 a9 a10 a11 a12 a13 a14 a15 a16 a17 a18 a19 a20 a21 a22 a23 b0 w0 (.ref 11) rv)) 0 0 106 [some (.ref 0), none, none, some (.int f3), some (.long l4_45), none, some (.long l6_45), none, none] [] (hB g0 g1 g2 g3 g4 g5 g6 g7 g8 g9 g10 g11 g12 g13 g14 g15 g16 g17 g18 g19 g20 g21 g22 g23 g24 g25 g26 a0 a1 a2 a3 a4 a5 a6 a7 a8 a9 a10 a11 a12 a13 a14 a15 a16 a17 a18 a19 a20 a21 a22 a23 b0 w0 (.ref 11) rv)) : ∀ (n : Nat) (l4_45 : Int64) (l6_45 : Int64) (l8_45 : Int32), L_hB_X9_allWhole_45 g0 g22 g23 g1 g2 a1 a11 g20 f1 f2 f3 K n l4_45 l6_45 l8_45 = some res → xW xks YX9_allWhole (d + 3) 0 0 n0 (xZ 0 0 n0 (some (.long res.1)) (hB res.2.1 res.2.2.1 res.2.2.2 g3 g4 g5 g6 g7 g8 g9 g10 g11 g12 g13 g14 g15 g16 g17 g18 g19 g20 g21 g22 g23 g24 g25 g26 a0 a1 a2 a3 a4 a5 a6 a7 a8 a9 a10 a11 a12 a13 a14 a15 a16 a17 a18 a19 a20 a21 a22 a23 b0 w0 (.ref 11) rv)) 0 0 45 [some (.ref 0), some (.int f1), some (.int f2), some (.int f3), some (.long l4_45), none, some (.long l6_45), none, some (.int l8_45)] [] (hB g0 g1 g2 g3 g4 g5 g6 g7 g8 g9 g10 g11 g12 g13 g14 g15 g16 g17 g18 g19 g20 g21 g22 g23 g24 g25 g26 a0 a1 a2 a3 a4 a5 a6 a7 a8 a9 a10 a11 a12 a13 a14 a15 a16 a17 a18 a19 a20 a21 a22 a23 b0 w0 (.ref 11) rv) := by
  intro n
  induction n with
  | zero =>
    intro l4_45 l6_45 l8_45 h
    cases (show (none : Option (Int64 × Int32 × Int32 × Int32)) = some res from h)
  | succ n45 ih45 =>
    intro l4_45 l6_45 l8_45 h
    unfold L_hB_X9_allWhole_45 at h
    refine x_iload dX9_allWhole_45 rfl ?_
    refine x_aload_n dX9_allWhole_47 rfl ?_
    refine x_get fX9_316 dX9_allWhole_48 rfl rfl rfl ?_
    refine x_get fX9_194 dX9_allWhole_51 rfl rfl rfl ?_
    refine x_icmp_ge 106 dX9_allWhole_54 (by decide) (fun q => ?_) (fun q => ?_)
    · have h := xif_t q h
      refine x_weak (pl2 := [some (.ref 0), none, none, some (.int f3), some (.long l4_45), none, some (.long l6_45), none, none]) ⟨rfl, rfl, rfl, rfl, trivial⟩ ?_
      exact hK l4_45 l6_45 l8_45 h
    · have h := xif_f q h
      refine x_aload_n dX9_allWhole_57 rfl ?_
      refine x_get fX9_17 dX9_allWhole_58 rfl rfl rfl ?_
      refine x_iconst (0 : Int32) dX9_allWhole_61 (by decide) ?_
      refine x_iload dX9_allWhole_62 rfl ?_
      refine x_iadd dX9_allWhole_64 ?_
      obtain ⟨q65, h⟩ := xix_of h
      refine x_iald dX9_allWhole_65 rfl q65 ?_
      refine x_iload_n dX9_allWhole_66 rfl ?_
      refine x_icmp_eq 73 dX9_allWhole_67 (by decide) (fun q => ?_) (fun q => ?_)
      · have h := xif_t q h
        refine x_lload dX9_allWhole_73 rfl ?_
        refine x_aload_n dX9_allWhole_75 rfl ?_
        refine x_iload dX9_allWhole_76 rfl ?_
        obtain ⟨z78, y78, h⟩ := xbind h
        refine x_callV (t_hB_X9_calm l8_45 z78 y78 (d + 1)) kX9_441 dX9_allWhole_78 rfl rfl rfl rfl rfl (Nat.le_of_ble_eq_true rfl) (Nat.le_of_ble_eq_true rfl) rfl rfl (Or.inl rfl) ?_
        refine x_iload_n dX9_allWhole_81 rfl ?_
        obtain ⟨z82, y82, h⟩ := xbind h
        refine x_callS (t_hB_X9_power z78 f2 z82 y82 (d + 1)) kX9_445 dX9_allWhole_82 rfl rfl (Nat.le_of_ble_eq_true rfl) (Nat.le_of_ble_eq_true rfl) rfl rfl (Or.inl rfl) ?_
        refine x_lmul dX9_allWhole_85 ?_
        refine x_lstore (pl' := [some (.ref 0), some (.int f1), some (.int f2), some (.int f3), some (.long (l4_45 * z82)), none, some (.long l6_45), none, some (.int l8_45)]) dX9_allWhole_86 (by decide) rfl ?_
        refine x_lload dX9_allWhole_88 rfl ?_
        refine x_ldc2 iX9_439 dX9_allWhole_90 ?_
        refine x_iload_n dX9_allWhole_93 rfl ?_
        obtain ⟨z94, y94, h⟩ := xbind h
        refine x_callS (t_hB_X9_power (100 : Int64) f2 z94 y94 (d + 1)) kX9_445 dX9_allWhole_94 rfl rfl (Nat.le_of_ble_eq_true rfl) (Nat.le_of_ble_eq_true rfl) rfl rfl (Or.inl rfl) ?_
        refine x_lmul dX9_allWhole_97 ?_
        refine x_lstore (pl' := [some (.ref 0), some (.int f1), some (.int f2), some (.int f3), some (.long (l4_45 * z82)), none, some (.long (l6_45 * z94)), none, some (.int l8_45)]) dX9_allWhole_98 (by decide) rfl ?_
        refine x_iincK (1 : Int32) (pl' := [some (.ref 0), some (.int f1), some (.int f2), some (.int f3), some (.long (l4_45 * z82)), none, some (.long (l6_45 * z94)), none, some (.int (l8_45 + (1 : Int32)))]) dX9_allWhole_100 rfl (by decide) (by decide) rfl ?_
        refine x_goto 45 dX9_allWhole_103 (by decide) ?_
        refine x_weak (pl2 := [some (.ref 0), some (.int f1), some (.int f2), some (.int f3), some (.long (l4_45 * z82)), none, some (.long (l6_45 * z94)), none, some (.int (l8_45 + (1 : Int32)))]) ⟨rfl, rfl, rfl, rfl, rfl, rfl, rfl, trivial⟩ ?_
        exact ih45 (l4_45 * z82) (l6_45 * z94) (l8_45 + (1 : Int32)) h
      · have h := xif_f q h
        refine x_goto 100 dX9_allWhole_70 (by decide) ?_
        refine x_iincK (1 : Int32) (pl' := [some (.ref 0), some (.int f1), some (.int f2), some (.int f3), some (.long l4_45), none, some (.long l6_45), none, some (.int (l8_45 + (1 : Int32)))]) dX9_allWhole_100 rfl (by decide) (by decide) rfl ?_
        refine x_goto 45 dX9_allWhole_103 (by decide) ?_
        refine x_weak (pl2 := [some (.ref 0), some (.int f1), some (.int f2), some (.int f3), some (.long l4_45), none, some (.long l6_45), none, some (.int (l8_45 + (1 : Int32)))]) ⟨rfl, rfl, rfl, rfl, rfl, rfl, rfl, trivial⟩ ?_
        exact ih45 l4_45 l6_45 (l8_45 + (1 : Int32)) h
set_option maxRecDepth 100000 in
set_option maxHeartbeats 4000000 in
theorem t_hB_X9_allWhole {g0 g1 g2 g3 g4 g5 g6 g7 g8 g9 g10 g11 g12 g13 g14 g15 g16 g17 g18 g19 g20 g21 g22 g23 g24 g25 g26 : Int32} {a0 a1 a2 a3 a4 a5 a6 a7 a8 a9 a10 a11 a12 a13 a14 a15 a16 a17 a18 a19 a20 a21 a22 a23 : (Nat → Int32)} {b0 : (Nat → Int64)} {w0 : Int64} {rv : Value} (x1 : Int32) (x2 : Int32) (x3 : Int32) (res : Int64 × Int32 × Int32 × Int32) (h : e_hB_X9_allWhole g0 g22 g23 g1 g2 a1 a11 g20 x1 x2 x3 = some res) (d : Nat) : xMet xks YX9_allWhole (d + 3) 0 0 [.ref 0, .int x1, .int x2, .int x3] (hB g0 g1 g2 g3 g4 g5 g6 g7 g8 g9 g10 g11 g12 g13 g14 g15 g16 g17 g18 g19 g20 g21 g22 g23 g24 g25 g26 a0 a1 a2 a3 a4 a5 a6 a7 a8 a9 a10 a11 a12 a13 a14 a15 a16 a17 a18 a19 a20 a21 a22 a23 b0 w0 (.ref 11) rv) (some (.long res.1)) (hB res.2.1 res.2.2.1 res.2.2.2 g3 g4 g5 g6 g7 g8 g9 g10 g11 g12 g13 g14 g15 g16 g17 g18 g19 g20 g21 g22 g23 g24 g25 g26 a0 a1 a2 a3 a4 a5 a6 a7 a8 a9 a10 a11 a12 a13 a14 a15 a16 a17 a18 a19 a20 a21 a22 a23 b0 w0 (.ref 11) rv) := by
  unfold e_hB_X9_allWhole at h
  refine xMet_of (pl := [some (.ref 0), some (.int x1), some (.int x2), some (.int x3), none, none, none, none, none]) (by decide) (Nat.le_of_ble_eq_true rfl) rfl (Nat.le_of_ble_eq_true rfl) ?_
  refine x_aload_n dX9_allWhole_0 rfl ?_
  refine x_iconst (0 : Int32) dX9_allWhole_1 (by decide) ?_
  refine x_put (h2 := (hB (0 : Int32) g1 g2 g3 g4 g5 g6 g7 g8 g9 g10 g11 g12 g13 g14 g15 g16 g17 g18 g19 g20 g21 g22 g23 g24 g25 g26 a0 a1 a2 a3 a4 a5 a6 a7 a8 a9 a10 a11 a12 a13 a14 a15 a16 a17 a18 a19 a20 a21 a22 a23 b0 w0 (.ref 11) rv)) fX9_45 dX9_allWhole_2 rfl rfl (Nat.le_of_ble_eq_true rfl : 0 + 1 ≤ _) (fun α => ⟨rfl, rfl⟩) rfl ?_
  refine x_aload_n dX9_allWhole_5 rfl ?_
  refine x_iload_n dX9_allWhole_6 rfl ?_
  obtain ⟨z7, y7, h⟩ := xbind h
  refine x_callV (t_hB_X9_isPerson x1 z7 y7 (d + 1)) kX9_362 dX9_allWhole_7 rfl rfl rfl rfl rfl (Nat.le_of_ble_eq_true rfl) (Nat.le_of_ble_eq_true rfl) rfl rfl (Or.inl rfl) ?_
  refine x_if_ne 20 dX9_allWhole_10 (by decide) (fun q => ?_) (fun q => ?_)
  · have h := xif_f q h
    refine x_iload_n dX9_allWhole_20 rfl ?_
    refine x_iconst (0 : Int32) dX9_allWhole_21 (by decide) ?_
    refine x_iconst (1 : Int32) dX9_allWhole_22 (by decide) ?_
    obtain ⟨z23, y23, h⟩ := xbind h
    refine x_callS (t_hB_X9_in x2 (0 : Int32) (1 : Int32) z23 y23 (d + 1)) kX9_124 dX9_allWhole_23 rfl rfl (Nat.le_of_ble_eq_true rfl) (Nat.le_of_ble_eq_true rfl) rfl rfl (Or.inl rfl) ?_
    refine x_if_ne 36 dX9_allWhole_26 (by decide) (fun q => ?_) (fun q => ?_)
    · have h := xif_f q h
      refine x_lconst (1 : Int64) dX9_allWhole_36 (by decide) ?_
      refine x_lstore (pl' := [some (.ref 0), some (.int x1), some (.int x2), some (.int x3), some (.long (1 : Int64)), none, none, none, none]) dX9_allWhole_37 (by decide) rfl ?_
      refine x_lconst (1 : Int64) dX9_allWhole_39 (by decide) ?_
      refine x_lstore (pl' := [some (.ref 0), some (.int x1), some (.int x2), some (.int x3), some (.long (1 : Int64)), none, some (.long (1 : Int64)), none, none]) dX9_allWhole_40 (by decide) rfl ?_
      refine x_iconst (0 : Int32) dX9_allWhole_42 (by decide) ?_
      refine x_istore (pl' := [some (.ref 0), some (.int x1), some (.int x2), some (.int x3), some (.long (1 : Int64)), none, some (.long (1 : Int64)), none, some (.int (0 : Int32))]) dX9_allWhole_43 (by decide) rfl ?_
      refine x_weak (pl2 := [some (.ref 0), some (.int x1), some (.int x2), some (.int x3), some (.long (1 : Int64)), none, some (.long (1 : Int64)), none, some (.int (0 : Int32))]) ⟨rfl, rfl, rfl, rfl, rfl, rfl, rfl, trivial⟩ ?_
      refine lp_hB_X9_allWhole_45 d _ x1 x2 x3 res _ (fun l4_45 l6_45 l8_45 h => ?_) 200000 (1 : Int64) (1 : Int64) (0 : Int32) h
      refine x_aload_n dX9_allWhole_106 rfl ?_
      refine x_lload dX9_allWhole_107 rfl ?_
      refine x_lload dX9_allWhole_109 rfl ?_
      refine x_iload_n dX9_allWhole_111 rfl ?_
      obtain ⟨z112, y112, h⟩ := xbind h
      refine x_callV (t_hB_X9_fraction l4_45 l6_45 x3 z112 y112 (d + 0)) kX9_449 dX9_allWhole_112 rfl rfl rfl rfl rfl (Nat.le_of_ble_eq_true rfl) (Nat.le_of_ble_eq_true rfl) rfl rfl (Or.inl rfl) ?_
      cases h
      exact x_lret2 dX9_allWhole_115 rfl rfl
    · have h := xif_t q h
      refine x_aload_n dX9_allWhole_29 rfl ?_
      refine x_iconst (2 : Int32) dX9_allWhole_30 (by decide) ?_
      obtain ⟨z31, y31, h⟩ := xbind h
      refine x_callV (t_hB_X9_refused (2 : Int32) z31 y31 (d + 1)) kX9_51 dX9_allWhole_31 rfl rfl rfl rfl rfl (Nat.le_of_ble_eq_true rfl) (Nat.le_of_ble_eq_true rfl) rfl rfl (Or.inl rfl) ?_
      refine x_i2l dX9_allWhole_34 ?_
      cases h
      exact x_lret2 dX9_allWhole_35 rfl rfl
  · have h := xif_t q h
    refine x_aload_n dX9_allWhole_13 rfl ?_
    refine x_iconst (1 : Int32) dX9_allWhole_14 (by decide) ?_
    obtain ⟨z15, y15, h⟩ := xbind h
    refine x_callV (t_hB_X9_refused (1 : Int32) z15 y15 (d + 1)) kX9_51 dX9_allWhole_15 rfl rfl rfl rfl rfl (Nat.le_of_ble_eq_true rfl) (Nat.le_of_ble_eq_true rfl) rfl rfl (Or.inl rfl) ?_
    refine x_i2l dX9_allWhole_18 ?_
    cases h
    exact x_lret2 dX9_allWhole_19 rfl rfl
noncomputable def e_hB_X9_divided (p0 : Int32) (p1 : Int32) (p2 : (Nat → Int32)) (p3 : Int32) (p4 : Int32) (x1 : Int32) (x2 : Int32) (x3 : Int32) : Option (Int32 × Int32 × Int32 × Int32) :=
  ((e_hB_X9_isUmbrella p1 x1).bind fun z7 => if z7 = (0 : Int32) then ((e_hB_X9_refused p3 p4 (1 : Int32)).bind fun z15 => some (z15.1, (0 : Int32), z15.2.1, z15.2.2)) else ((e_hB_X9_in x2 (1 : Int32) (9 : Int32)).bind fun z23 => if z23 = (0 : Int32) then ((e_hB_X9_refused p3 p4 (2 : Int32)).bind fun z31 => some (z31.1, (0 : Int32), z31.2.1, z31.2.2)) else ((e_hB_X9_in x3 (0 : Int32) (x2 - (1 : Int32))).bind fun z40 => if z40 = (0 : Int32) then ((e_hB_X9_refused p3 p4 (1 : Int32)).bind fun z48 => some (z48.1, (0 : Int32), z48.2.1, z48.2.2)) else (xix x1 5 (xnz x2 (xix x1 5 (xnz x2 (if ((p2 x1.toNatClampNeg) - (p2 x1.toNatClampNeg) / x2 * x2) ≤ x3 then ((e_hB_X9_good p3 p4 (((p2 x1.toNatClampNeg) / x2) + (0 : Int32))).bind fun z85 => some (z85.1, (0 : Int32), z85.2.1, z85.2.2)) else ((e_hB_X9_good p3 p4 (((p2 x1.toNatClampNeg) / x2) + (1 : Int32))).bind fun z85 => some (z85.1, (0 : Int32), z85.2.1, z85.2.2))))))))))
set_option maxRecDepth 100000 in
set_option maxHeartbeats 4000000 in
theorem t_hB_X9_divided {g0 g1 g2 g3 g4 g5 g6 g7 g8 g9 g10 g11 g12 g13 g14 g15 g16 g17 g18 g19 g20 g21 g22 g23 g24 g25 g26 : Int32} {a0 a1 a2 a3 a4 a5 a6 a7 a8 a9 a10 a11 a12 a13 a14 a15 a16 a17 a18 a19 a20 a21 a22 a23 : (Nat → Int32)} {b0 : (Nat → Int64)} {w0 : Int64} {rv : Value} (x1 : Int32) (x2 : Int32) (x3 : Int32) (res : Int32 × Int32 × Int32 × Int32) (h : e_hB_X9_divided g0 g23 a12 g1 g2 x1 x2 x3 = some res) (d : Nat) : xMet xks YX9_divided (d + 2) 0 0 [.ref 0, .int x1, .int x2, .int x3] (hB g0 g1 g2 g3 g4 g5 g6 g7 g8 g9 g10 g11 g12 g13 g14 g15 g16 g17 g18 g19 g20 g21 g22 g23 g24 g25 g26 a0 a1 a2 a3 a4 a5 a6 a7 a8 a9 a10 a11 a12 a13 a14 a15 a16 a17 a18 a19 a20 a21 a22 a23 b0 w0 (.ref 11) rv) (some (.int res.1)) (hB res.2.1 res.2.2.1 res.2.2.2 g3 g4 g5 g6 g7 g8 g9 g10 g11 g12 g13 g14 g15 g16 g17 g18 g19 g20 g21 g22 g23 g24 g25 g26 a0 a1 a2 a3 a4 a5 a6 a7 a8 a9 a10 a11 a12 a13 a14 a15 a16 a17 a18 a19 a20 a21 a22 a23 b0 w0 (.ref 11) rv) := by
  unfold e_hB_X9_divided at h
  refine xMet_of (pl := [some (.ref 0), some (.int x1), some (.int x2), some (.int x3)]) (by decide) (Nat.le_of_ble_eq_true rfl) rfl (Nat.le_of_ble_eq_true rfl) ?_
  refine x_aload_n dX9_divided_0 rfl ?_
  refine x_iconst (0 : Int32) dX9_divided_1 (by decide) ?_
  refine x_put (h2 := (hB (0 : Int32) g1 g2 g3 g4 g5 g6 g7 g8 g9 g10 g11 g12 g13 g14 g15 g16 g17 g18 g19 g20 g21 g22 g23 g24 g25 g26 a0 a1 a2 a3 a4 a5 a6 a7 a8 a9 a10 a11 a12 a13 a14 a15 a16 a17 a18 a19 a20 a21 a22 a23 b0 w0 (.ref 11) rv)) fX9_45 dX9_divided_2 rfl rfl (Nat.le_of_ble_eq_true rfl : 0 + 1 ≤ _) (fun α => ⟨rfl, rfl⟩) rfl ?_
  refine x_aload_n dX9_divided_5 rfl ?_
  refine x_iload_n dX9_divided_6 rfl ?_
  obtain ⟨z7, y7, h⟩ := xbind h
  refine x_callV (t_hB_X9_isUmbrella x1 z7 y7 (d + 0)) kX9_359 dX9_divided_7 rfl rfl rfl rfl rfl (Nat.le_of_ble_eq_true rfl) (Nat.le_of_ble_eq_true rfl) rfl rfl (Or.inl rfl) ?_
  refine x_if_ne 19 dX9_divided_10 (by decide) (fun q => ?_) (fun q => ?_)
  · have h := xif_f q h
    refine x_iload_n dX9_divided_19 rfl ?_
    refine x_iconst (1 : Int32) dX9_divided_20 (by decide) ?_
    refine x_bipush (9 : Int32) dX9_divided_21 (by decide) ?_
    obtain ⟨z23, y23, h⟩ := xbind h
    refine x_callS (t_hB_X9_in x2 (1 : Int32) (9 : Int32) z23 y23 (d + 0)) kX9_124 dX9_divided_23 rfl rfl (Nat.le_of_ble_eq_true rfl) (Nat.le_of_ble_eq_true rfl) rfl rfl (Or.inl rfl) ?_
    refine x_if_ne 35 dX9_divided_26 (by decide) (fun q => ?_) (fun q => ?_)
    · have h := xif_f q h
      refine x_iload_n dX9_divided_35 rfl ?_
      refine x_iconst (0 : Int32) dX9_divided_36 (by decide) ?_
      refine x_iload_n dX9_divided_37 rfl ?_
      refine x_iconst (1 : Int32) dX9_divided_38 (by decide) ?_
      refine x_isub dX9_divided_39 ?_
      obtain ⟨z40, y40, h⟩ := xbind h
      refine x_callS (t_hB_X9_in x3 (0 : Int32) (x2 - (1 : Int32)) z40 y40 (d + 0)) kX9_124 dX9_divided_40 rfl rfl (Nat.le_of_ble_eq_true rfl) (Nat.le_of_ble_eq_true rfl) rfl rfl (Or.inl rfl) ?_
      refine x_if_ne 52 dX9_divided_43 (by decide) (fun q => ?_) (fun q => ?_)
      · have h := xif_f q h
        refine x_aload_n dX9_divided_52 rfl ?_
        refine x_aload_n dX9_divided_53 rfl ?_
        refine x_get fX9_316 dX9_divided_54 rfl rfl rfl ?_
        refine x_get fX9_273 dX9_divided_57 rfl rfl rfl ?_
        refine x_iload_n dX9_divided_60 rfl ?_
        obtain ⟨q61, h⟩ := xix_of h
        refine x_iald dX9_divided_61 rfl q61 ?_
        refine x_iload_n dX9_divided_62 rfl ?_
        obtain ⟨q63, h⟩ := xnz_of h
        refine x_idiv dX9_divided_63 q63 ?_
        refine x_iload_n dX9_divided_64 rfl ?_
        refine x_aload_n dX9_divided_65 rfl ?_
        refine x_get fX9_316 dX9_divided_66 rfl rfl rfl ?_
        refine x_get fX9_273 dX9_divided_69 rfl rfl rfl ?_
        refine x_iload_n dX9_divided_72 rfl ?_
        obtain ⟨q73, h⟩ := xix_of h
        refine x_iald dX9_divided_73 rfl q73 ?_
        refine x_iload_n dX9_divided_74 rfl ?_
        obtain ⟨q75, h⟩ := xnz_of h
        refine x_irem dX9_divided_75 q75 ?_
        refine x_icmp_ge 83 dX9_divided_76 (by decide) (fun q => ?_) (fun q => ?_)
        · have h := xif_t q h
          refine x_iconst (0 : Int32) dX9_divided_83 (by decide) ?_
          refine x_iadd dX9_divided_84 ?_
          obtain ⟨z85, y85, h⟩ := xbind h
          refine x_callV (t_hB_X9_good (((a12 x1.toNatClampNeg) / x2) + (0 : Int32)) z85 y85 (d + 0)) kX9_55 dX9_divided_85 rfl rfl rfl rfl rfl (Nat.le_of_ble_eq_true rfl) (Nat.le_of_ble_eq_true rfl) rfl rfl (Or.inl rfl) ?_
          cases h
          exact x_iret2 dX9_divided_88 rfl rfl
        · have h := xif_f q h
          refine x_iconst (1 : Int32) dX9_divided_79 (by decide) ?_
          refine x_goto 84 dX9_divided_80 (by decide) ?_
          refine x_iadd dX9_divided_84 ?_
          obtain ⟨z85, y85, h⟩ := xbind h
          refine x_callV (t_hB_X9_good (((a12 x1.toNatClampNeg) / x2) + (1 : Int32)) z85 y85 (d + 0)) kX9_55 dX9_divided_85 rfl rfl rfl rfl rfl (Nat.le_of_ble_eq_true rfl) (Nat.le_of_ble_eq_true rfl) rfl rfl (Or.inl rfl) ?_
          cases h
          exact x_iret2 dX9_divided_88 rfl rfl
      · have h := xif_t q h
        refine x_aload_n dX9_divided_46 rfl ?_
        refine x_iconst (1 : Int32) dX9_divided_47 (by decide) ?_
        obtain ⟨z48, y48, h⟩ := xbind h
        refine x_callV (t_hB_X9_refused (1 : Int32) z48 y48 (d + 0)) kX9_51 dX9_divided_48 rfl rfl rfl rfl rfl (Nat.le_of_ble_eq_true rfl) (Nat.le_of_ble_eq_true rfl) rfl rfl (Or.inl rfl) ?_
        cases h
        exact x_iret2 dX9_divided_51 rfl rfl
    · have h := xif_t q h
      refine x_aload_n dX9_divided_29 rfl ?_
      refine x_iconst (2 : Int32) dX9_divided_30 (by decide) ?_
      obtain ⟨z31, y31, h⟩ := xbind h
      refine x_callV (t_hB_X9_refused (2 : Int32) z31 y31 (d + 0)) kX9_51 dX9_divided_31 rfl rfl rfl rfl rfl (Nat.le_of_ble_eq_true rfl) (Nat.le_of_ble_eq_true rfl) rfl rfl (Or.inl rfl) ?_
      cases h
      exact x_iret2 dX9_divided_34 rfl rfl
  · have h := xif_t q h
    refine x_aload_n dX9_divided_13 rfl ?_
    refine x_iconst (1 : Int32) dX9_divided_14 (by decide) ?_
    obtain ⟨z15, y15, h⟩ := xbind h
    refine x_callV (t_hB_X9_refused (1 : Int32) z15 y15 (d + 0)) kX9_51 dX9_divided_15 rfl rfl rfl rfl rfl (Nat.le_of_ble_eq_true rfl) (Nat.le_of_ble_eq_true rfl) rfl rfl (Or.inl rfl) ?_
    cases h
    exact x_iret2 dX9_divided_18 rfl rfl
noncomputable def e_hB_X9_lost (p0 : Int32) (p1 : Int32) (x1 : Int32) : Option (Int32 × Int32 × Int32) :=
  ((e_hB_X9_refused p0 p1 x1).bind fun z2 => some ((-100 : Int32), z2.2.1, z2.2.2))
set_option maxRecDepth 100000 in
set_option maxHeartbeats 4000000 in
theorem t_hB_X9_lost {g0 g1 g2 g3 g4 g5 g6 g7 g8 g9 g10 g11 g12 g13 g14 g15 g16 g17 g18 g19 g20 g21 g22 g23 g24 g25 g26 : Int32} {a0 a1 a2 a3 a4 a5 a6 a7 a8 a9 a10 a11 a12 a13 a14 a15 a16 a17 a18 a19 a20 a21 a22 a23 : (Nat → Int32)} {b0 : (Nat → Int64)} {w0 : Int64} {rv : Value} (x1 : Int32) (res : Int32 × Int32 × Int32) (h : e_hB_X9_lost g1 g2 x1 = some res) (d : Nat) : xMet xks YX9_lost (d + 2) 0 0 [.ref 0, .int x1] (hB g0 g1 g2 g3 g4 g5 g6 g7 g8 g9 g10 g11 g12 g13 g14 g15 g16 g17 g18 g19 g20 g21 g22 g23 g24 g25 g26 a0 a1 a2 a3 a4 a5 a6 a7 a8 a9 a10 a11 a12 a13 a14 a15 a16 a17 a18 a19 a20 a21 a22 a23 b0 w0 (.ref 11) rv) (some (.int res.1)) (hB g0 res.2.1 res.2.2 g3 g4 g5 g6 g7 g8 g9 g10 g11 g12 g13 g14 g15 g16 g17 g18 g19 g20 g21 g22 g23 g24 g25 g26 a0 a1 a2 a3 a4 a5 a6 a7 a8 a9 a10 a11 a12 a13 a14 a15 a16 a17 a18 a19 a20 a21 a22 a23 b0 w0 (.ref 11) rv) := by
  unfold e_hB_X9_lost at h
  refine xMet_of (pl := [some (.ref 0), some (.int x1)]) (by decide) (Nat.le_of_ble_eq_true rfl) rfl (Nat.le_of_ble_eq_true rfl) ?_
  refine x_aload_n dX9_lost_0 rfl ?_
  refine x_iload_n dX9_lost_1 rfl ?_
  obtain ⟨z2, y2, h⟩ := xbind h
  refine x_callV (t_hB_X9_refused x1 z2 y2 (d + 0)) kX9_51 dX9_lost_2 rfl rfl rfl rfl rfl (Nat.le_of_ble_eq_true rfl) (Nat.le_of_ble_eq_true rfl) rfl rfl (Or.inl rfl) ?_
  refine x_pop dX9_lost_5 rfl ?_
  refine x_bipush (-100 : Int32) dX9_lost_6 (by decide) ?_
  cases h
  exact x_iret2 dX9_lost_8 rfl rfl
noncomputable def e_hB_X9_gets  (x0 : Int32) (x1 : Int32) (x2 : Int32) : Option (Int32) :=
  if x1 ≤ x2 then if x1 = x2 then some ((x0 / (2 : Int32)) - ((2 : Int32) * x1)) else some ((0 : Int32) - ((2 : Int32) * x1)) else some (x0 - ((2 : Int32) * x1))
set_option maxRecDepth 100000 in
set_option maxHeartbeats 4000000 in
theorem t_hB_X9_gets {g0 g1 g2 g3 g4 g5 g6 g7 g8 g9 g10 g11 g12 g13 g14 g15 g16 g17 g18 g19 g20 g21 g22 g23 g24 g25 g26 : Int32} {a0 a1 a2 a3 a4 a5 a6 a7 a8 a9 a10 a11 a12 a13 a14 a15 a16 a17 a18 a19 a20 a21 a22 a23 : (Nat → Int32)} {b0 : (Nat → Int64)} {w0 : Int64} {rv : Value} (x0 : Int32) (x1 : Int32) (x2 : Int32) (res : Int32) (h : e_hB_X9_gets  x0 x1 x2 = some res) (d : Nat) : xMet xks YX9_gets (d + 1) 0 0 [.int x0, .int x1, .int x2] (hB g0 g1 g2 g3 g4 g5 g6 g7 g8 g9 g10 g11 g12 g13 g14 g15 g16 g17 g18 g19 g20 g21 g22 g23 g24 g25 g26 a0 a1 a2 a3 a4 a5 a6 a7 a8 a9 a10 a11 a12 a13 a14 a15 a16 a17 a18 a19 a20 a21 a22 a23 b0 w0 (.ref 11) rv) (some (.int res)) (hB g0 g1 g2 g3 g4 g5 g6 g7 g8 g9 g10 g11 g12 g13 g14 g15 g16 g17 g18 g19 g20 g21 g22 g23 g24 g25 g26 a0 a1 a2 a3 a4 a5 a6 a7 a8 a9 a10 a11 a12 a13 a14 a15 a16 a17 a18 a19 a20 a21 a22 a23 b0 w0 (.ref 11) rv) := by
  unfold e_hB_X9_gets at h
  refine xMet_of (pl := [some (.int x0), some (.int x1), some (.int x2)]) (by decide) (Nat.le_of_ble_eq_true rfl) rfl (Nat.le_of_ble_eq_true rfl) ?_
  refine x_iload_n dX9_gets_0 rfl ?_
  refine x_iload_n dX9_gets_1 rfl ?_
  refine x_icmp_le 9 dX9_gets_2 (by decide) (fun q => ?_) (fun q => ?_)
  · have h := xif_t q h
    refine x_iload_n dX9_gets_9 rfl ?_
    refine x_iload_n dX9_gets_10 rfl ?_
    refine x_icmp_ne 20 dX9_gets_11 (by decide) (fun q => ?_) (fun q => ?_)
    · have h := xif_f q h
      refine x_iconst (0 : Int32) dX9_gets_20 (by decide) ?_
      refine x_iconst (2 : Int32) dX9_gets_21 (by decide) ?_
      refine x_iload_n dX9_gets_22 rfl ?_
      refine x_imul dX9_gets_23 ?_
      refine x_isub dX9_gets_24 ?_
      cases h
      exact x_iret2 dX9_gets_25 rfl rfl
    · have h := xif_t q h
      refine x_iload_n dX9_gets_14 rfl ?_
      refine x_iconst (2 : Int32) dX9_gets_15 (by decide) ?_
      refine x_idiv dX9_gets_16 (by decide) ?_
      refine x_goto 21 dX9_gets_17 (by decide) ?_
      refine x_iconst (2 : Int32) dX9_gets_21 (by decide) ?_
      refine x_iload_n dX9_gets_22 rfl ?_
      refine x_imul dX9_gets_23 ?_
      refine x_isub dX9_gets_24 ?_
      cases h
      exact x_iret2 dX9_gets_25 rfl rfl
  · have h := xif_f q h
    refine x_iload_n dX9_gets_5 rfl ?_
    refine x_goto 21 dX9_gets_6 (by decide) ?_
    refine x_iconst (2 : Int32) dX9_gets_21 (by decide) ?_
    refine x_iload_n dX9_gets_22 rfl ?_
    refine x_imul dX9_gets_23 ?_
    refine x_isub dX9_gets_24 ?_
    cases h
    exact x_iret2 dX9_gets_25 rfl rfl
noncomputable def e_hB_X9_heirs (p0 : Int32) (p1 : Int32) (p2 : Int32) (x1 : Int32) (x2 : Int32) (x3 : Int32) (x4 : Int32) : Option (Int32 × Int32 × Int32 × Int32) :=
  ((e_hB_X9_in x1 (0 : Int32) (99 : Int32)).bind fun z22 => if z22 = (0 : Int32) then ((e_hB_X9_lost p1 p2 (2 : Int32)).bind fun z50 => some (z50.1, (0 : Int32), z50.2.1, z50.2.2)) else ((e_hB_X9_in x2 (0 : Int32) (6 : Int32)).bind fun z32 => if z32 = (0 : Int32) then ((e_hB_X9_lost p1 p2 (2 : Int32)).bind fun z50 => some (z50.1, (0 : Int32), z50.2.1, z50.2.2)) else ((e_hB_X9_in x3 (0 : Int32) (6 : Int32)).bind fun z42 => if z42 = (0 : Int32) then ((e_hB_X9_lost p1 p2 (2 : Int32)).bind fun z50 => some (z50.1, (0 : Int32), z50.2.1, z50.2.2)) else if x4 = (0 : Int32) then ((e_hB_X9_gets x1 x2 x3).bind fun z72 => (e_hB_X9_good p1 p2 z72).bind fun z75 => some (z75.1, (0 : Int32), z75.2.1, z75.2.2)) else ((e_hB_X9_gets x1 x3 x2).bind fun z63 => ((e_hB_X9_good p1 p2 z63).bind fun z75 => some (z75.1, (0 : Int32), z75.2.1, z75.2.2))))))
set_option maxRecDepth 100000 in
set_option maxHeartbeats 4000000 in
theorem t_hB_X9_heirs {g0 g1 g2 g3 g4 g5 g6 g7 g8 g9 g10 g11 g12 g13 g14 g15 g16 g17 g18 g19 g20 g21 g22 g23 g24 g25 g26 : Int32} {a0 a1 a2 a3 a4 a5 a6 a7 a8 a9 a10 a11 a12 a13 a14 a15 a16 a17 a18 a19 a20 a21 a22 a23 : (Nat → Int32)} {b0 : (Nat → Int64)} {w0 : Int64} {rv : Value} (x1 : Int32) (x2 : Int32) (x3 : Int32) (x4 : Int32) (res : Int32 × Int32 × Int32 × Int32) (h : e_hB_X9_heirs g0 g1 g2 x1 x2 x3 x4 = some res) (d : Nat) : xMet xks YX9_heirs (d + 3) 0 0 [.ref 0, .int x1, .int x2, .int x3, .int x4] (hB g0 g1 g2 g3 g4 g5 g6 g7 g8 g9 g10 g11 g12 g13 g14 g15 g16 g17 g18 g19 g20 g21 g22 g23 g24 g25 g26 a0 a1 a2 a3 a4 a5 a6 a7 a8 a9 a10 a11 a12 a13 a14 a15 a16 a17 a18 a19 a20 a21 a22 a23 b0 w0 (.ref 11) rv) (some (.int res.1)) (hB res.2.1 res.2.2.1 res.2.2.2 g3 g4 g5 g6 g7 g8 g9 g10 g11 g12 g13 g14 g15 g16 g17 g18 g19 g20 g21 g22 g23 g24 g25 g26 a0 a1 a2 a3 a4 a5 a6 a7 a8 a9 a10 a11 a12 a13 a14 a15 a16 a17 a18 a19 a20 a21 a22 a23 b0 w0 (.ref 11) rv) := by
  unfold e_hB_X9_heirs at h
  refine xMet_of (pl := [some (.ref 0), some (.int x1), some (.int x2), some (.int x3), some (.int x4)]) (by decide) (Nat.le_of_ble_eq_true rfl) rfl (Nat.le_of_ble_eq_true rfl) ?_
  refine x_aload_n dX9_heirs_0 rfl ?_
  refine x_iconst (0 : Int32) dX9_heirs_1 (by decide) ?_
  refine x_put (h2 := (hB (0 : Int32) g1 g2 g3 g4 g5 g6 g7 g8 g9 g10 g11 g12 g13 g14 g15 g16 g17 g18 g19 g20 g21 g22 g23 g24 g25 g26 a0 a1 a2 a3 a4 a5 a6 a7 a8 a9 a10 a11 a12 a13 a14 a15 a16 a17 a18 a19 a20 a21 a22 a23 b0 w0 (.ref 11) rv)) fX9_45 dX9_heirs_2 rfl rfl (Nat.le_of_ble_eq_true rfl : 0 + 1 ≤ _) (fun α => ⟨rfl, rfl⟩) rfl ?_
  refine x_aload_n dX9_heirs_5 rfl ?_
  refine x_get fX9_316 dX9_heirs_6 rfl rfl rfl ?_
  refine x_ifnonnull 18 dX9_heirs_9 (by decide) ?_
  refine x_iload_n dX9_heirs_18 rfl ?_
  refine x_iconst (0 : Int32) dX9_heirs_19 (by decide) ?_
  refine x_bipush (99 : Int32) dX9_heirs_20 (by decide) ?_
  obtain ⟨z22, y22, h⟩ := xbind h
  refine x_callS (t_hB_X9_in x1 (0 : Int32) (99 : Int32) z22 y22 (d + 1)) kX9_124 dX9_heirs_22 rfl rfl (Nat.le_of_ble_eq_true rfl) (Nat.le_of_ble_eq_true rfl) rfl rfl (Or.inl rfl) ?_
  refine x_if_eq 48 dX9_heirs_25 (by decide) (fun q => ?_) (fun q => ?_)
  · have h := xif_t q h
    refine x_aload_n dX9_heirs_48 rfl ?_
    refine x_iconst (2 : Int32) dX9_heirs_49 (by decide) ?_
    obtain ⟨z50, y50, h⟩ := xbind h
    refine x_callV (t_hB_X9_lost (2 : Int32) z50 y50 (d + 0)) kX9_453 dX9_heirs_50 rfl rfl rfl rfl rfl (Nat.le_of_ble_eq_true rfl) (Nat.le_of_ble_eq_true rfl) rfl rfl (Or.inl rfl) ?_
    cases h
    exact x_iret2 dX9_heirs_53 rfl rfl
  · have h := xif_f q h
    refine x_iload_n dX9_heirs_28 rfl ?_
    refine x_iconst (0 : Int32) dX9_heirs_29 (by decide) ?_
    refine x_bipush (6 : Int32) dX9_heirs_30 (by decide) ?_
    obtain ⟨z32, y32, h⟩ := xbind h
    refine x_callS (t_hB_X9_in x2 (0 : Int32) (6 : Int32) z32 y32 (d + 1)) kX9_124 dX9_heirs_32 rfl rfl (Nat.le_of_ble_eq_true rfl) (Nat.le_of_ble_eq_true rfl) rfl rfl (Or.inl rfl) ?_
    refine x_if_eq 48 dX9_heirs_35 (by decide) (fun q => ?_) (fun q => ?_)
    · have h := xif_t q h
      refine x_aload_n dX9_heirs_48 rfl ?_
      refine x_iconst (2 : Int32) dX9_heirs_49 (by decide) ?_
      obtain ⟨z50, y50, h⟩ := xbind h
      refine x_callV (t_hB_X9_lost (2 : Int32) z50 y50 (d + 0)) kX9_453 dX9_heirs_50 rfl rfl rfl rfl rfl (Nat.le_of_ble_eq_true rfl) (Nat.le_of_ble_eq_true rfl) rfl rfl (Or.inl rfl) ?_
      cases h
      exact x_iret2 dX9_heirs_53 rfl rfl
    · have h := xif_f q h
      refine x_iload_n dX9_heirs_38 rfl ?_
      refine x_iconst (0 : Int32) dX9_heirs_39 (by decide) ?_
      refine x_bipush (6 : Int32) dX9_heirs_40 (by decide) ?_
      obtain ⟨z42, y42, h⟩ := xbind h
      refine x_callS (t_hB_X9_in x3 (0 : Int32) (6 : Int32) z42 y42 (d + 1)) kX9_124 dX9_heirs_42 rfl rfl (Nat.le_of_ble_eq_true rfl) (Nat.le_of_ble_eq_true rfl) rfl rfl (Or.inl rfl) ?_
      refine x_if_ne 54 dX9_heirs_45 (by decide) (fun q => ?_) (fun q => ?_)
      · have h := xif_f q h
        refine x_aload_n dX9_heirs_54 rfl ?_
        refine x_iload dX9_heirs_55 rfl ?_
        refine x_if_eq 69 dX9_heirs_57 (by decide) (fun q => ?_) (fun q => ?_)
        · have h := xif_t q h
          refine x_iload_n dX9_heirs_69 rfl ?_
          refine x_iload_n dX9_heirs_70 rfl ?_
          refine x_iload_n dX9_heirs_71 rfl ?_
          obtain ⟨z72, y72, h⟩ := xbind h
          refine x_callS (t_hB_X9_gets x1 x2 x3 z72 y72 (d + 1)) kX9_456 dX9_heirs_72 rfl rfl (Nat.le_of_ble_eq_true rfl) (Nat.le_of_ble_eq_true rfl) rfl rfl (Or.inl rfl) ?_
          obtain ⟨z75, y75, h⟩ := xbind h
          refine x_callV (t_hB_X9_good z72 z75 y75 (d + 1)) kX9_55 dX9_heirs_75 rfl rfl rfl rfl rfl (Nat.le_of_ble_eq_true rfl) (Nat.le_of_ble_eq_true rfl) rfl rfl (Or.inl rfl) ?_
          cases h
          exact x_iret2 dX9_heirs_78 rfl rfl
        · have h := xif_f q h
          refine x_iload_n dX9_heirs_60 rfl ?_
          refine x_iload_n dX9_heirs_61 rfl ?_
          refine x_iload_n dX9_heirs_62 rfl ?_
          obtain ⟨z63, y63, h⟩ := xbind h
          refine x_callS (t_hB_X9_gets x1 x3 x2 z63 y63 (d + 1)) kX9_456 dX9_heirs_63 rfl rfl (Nat.le_of_ble_eq_true rfl) (Nat.le_of_ble_eq_true rfl) rfl rfl (Or.inl rfl) ?_
          refine x_goto 75 dX9_heirs_66 (by decide) ?_
          obtain ⟨z75, y75, h⟩ := xbind h
          refine x_callV (t_hB_X9_good z63 z75 y75 (d + 1)) kX9_55 dX9_heirs_75 rfl rfl rfl rfl rfl (Nat.le_of_ble_eq_true rfl) (Nat.le_of_ble_eq_true rfl) rfl rfl (Or.inl rfl) ?_
          cases h
          exact x_iret2 dX9_heirs_78 rfl rfl
      · have h := xif_t q h
        refine x_aload_n dX9_heirs_48 rfl ?_
        refine x_iconst (2 : Int32) dX9_heirs_49 (by decide) ?_
        obtain ⟨z50, y50, h⟩ := xbind h
        refine x_callV (t_hB_X9_lost (2 : Int32) z50 y50 (d + 0)) kX9_453 dX9_heirs_50 rfl rfl rfl rfl rfl (Nat.le_of_ble_eq_true rfl) (Nat.le_of_ble_eq_true rfl) rfl rfl (Or.inl rfl) ?_
        cases h
        exact x_iret2 dX9_heirs_53 rfl rfl
noncomputable def e_hB_X9_refusesRests  (x1 : Int32) : Option (Int32) :=
  ((e_hB_X9_in x1 (0 : Int32) (99 : Int32)).bind fun z15 => if z15 = (0 : Int32) then some (2 : Int32) else some (0 : Int32))
set_option maxRecDepth 100000 in
set_option maxHeartbeats 4000000 in
theorem t_hB_X9_refusesRests {g0 g1 g2 g3 g4 g5 g6 g7 g8 g9 g10 g11 g12 g13 g14 g15 g16 g17 g18 g19 g20 g21 g22 g23 g24 g25 g26 : Int32} {a0 a1 a2 a3 a4 a5 a6 a7 a8 a9 a10 a11 a12 a13 a14 a15 a16 a17 a18 a19 a20 a21 a22 a23 : (Nat → Int32)} {b0 : (Nat → Int64)} {w0 : Int64} {rv : Value} (x1 : Int32) (res : Int32) (h : e_hB_X9_refusesRests  x1 = some res) (d : Nat) : xMet xks YX9_refusesRests (d + 2) 0 0 [.ref 0, .int x1] (hB g0 g1 g2 g3 g4 g5 g6 g7 g8 g9 g10 g11 g12 g13 g14 g15 g16 g17 g18 g19 g20 g21 g22 g23 g24 g25 g26 a0 a1 a2 a3 a4 a5 a6 a7 a8 a9 a10 a11 a12 a13 a14 a15 a16 a17 a18 a19 a20 a21 a22 a23 b0 w0 (.ref 11) rv) (some (.int res)) (hB g0 g1 g2 g3 g4 g5 g6 g7 g8 g9 g10 g11 g12 g13 g14 g15 g16 g17 g18 g19 g20 g21 g22 g23 g24 g25 g26 a0 a1 a2 a3 a4 a5 a6 a7 a8 a9 a10 a11 a12 a13 a14 a15 a16 a17 a18 a19 a20 a21 a22 a23 b0 w0 (.ref 11) rv) := by
  unfold e_hB_X9_refusesRests at h
  refine xMet_of (pl := [some (.ref 0), some (.int x1)]) (by decide) (Nat.le_of_ble_eq_true rfl) rfl (Nat.le_of_ble_eq_true rfl) ?_
  refine x_aload_n dX9_refusesRests_0 rfl ?_
  refine x_get fX9_316 dX9_refusesRests_1 rfl rfl rfl ?_
  refine x_ifnonnull 11 dX9_refusesRests_4 (by decide) ?_
  refine x_iload_n dX9_refusesRests_11 rfl ?_
  refine x_iconst (0 : Int32) dX9_refusesRests_12 (by decide) ?_
  refine x_bipush (99 : Int32) dX9_refusesRests_13 (by decide) ?_
  obtain ⟨z15, y15, h⟩ := xbind h
  refine x_callS (t_hB_X9_in x1 (0 : Int32) (99 : Int32) z15 y15 (d + 0)) kX9_124 dX9_refusesRests_15 rfl rfl (Nat.le_of_ble_eq_true rfl) (Nat.le_of_ble_eq_true rfl) rfl rfl (Or.inl rfl) ?_
  refine x_if_eq 25 dX9_refusesRests_18 (by decide) (fun q => ?_) (fun q => ?_)
  · have h := xif_t q h
    refine x_iconst (2 : Int32) dX9_refusesRests_25 (by decide) ?_
    cases h
    exact x_iret2 dX9_refusesRests_26 rfl rfl
  · have h := xif_f q h
    refine x_iconst (0 : Int32) dX9_refusesRests_21 (by decide) ?_
    refine x_goto 26 dX9_refusesRests_22 (by decide) ?_
    cases h
    exact x_iret2 dX9_refusesRests_26 rfl rfl
noncomputable def L_hB_X9_isRest_2   (f0 : Int32) (f1 : Int32) (f2 : Int32) (K : Int32 → Option (Int32)) : Nat → Int32 → Option (Int32)
  | 0, _ => none
  | n2 + 1, l3_2 => if (7 : Int32) ≤ l3_2 then K l3_2 else ((e_hB_X9_gets f0 l3_2 f2).bind fun z11 => (e_hB_X9_gets f0 f1 f2).bind fun z17 => if z17 < z11 then some (0 : Int32) else ((e_hB_X9_gets f0 l3_2 f1).bind fun z26 => (e_hB_X9_gets f0 f2 f1).bind fun z32 => if z26 ≤ z32 then L_hB_X9_isRest_2  f0 f1 f2 K n2 (l3_2 + (1 : Int32)) else some (0 : Int32)))
noncomputable def e_hB_X9_isRest  (x0 : Int32) (x1 : Int32) (x2 : Int32) : Option (Int32) :=
  L_hB_X9_isRest_2  x0 x1 x2 (fun l3_2 => some (1 : Int32)) 200000 (0 : Int32)
set_option maxRecDepth 100000 in
set_option maxHeartbeats 4000000 in
theorem lp_hB_X9_isRest_2 {g0 g1 g2 g3 g4 g5 g6 g7 g8 g9 g10 g11 g12 g13 g14 g15 g16 g17 g18 g19 g20 g21 g22 g23 g24 g25 g26 : Int32} {a0 a1 a2 a3 a4 a5 a6 a7 a8 a9 a10 a11 a12 a13 a14 a15 a16 a17 a18 a19 a20 a21 a22 a23 : (Nat → Int32)} {b0 : (Nat → Int64)} {w0 : Int64} {rv : Value} (d n0 : Nat) (f0 : Int32) (f1 : Int32) (f2 : Int32) (res : Int32) (K : Int32 → Option (Int32)) (hK : ∀ (l3_2 : Int32), K l3_2 = some res → xW xks YX9_isRest (d + 2) 0 0 n0 (xZ 0 0 n0 (some (.int res)) (hB g0 g1 g2 g3 g4 g5 g6 g7 g8 g9 g10 g11 g12 g13 g14 g15 g16 g17 g18 g19 g20 g21 g22 g23 g24 g25 g26 a0 a1 a2 a3 a4 a5 a6 a7 a8 a9 a10 a11 a12 a13 a14 a15 a16 a17 a18 a19 a20 a21 a22 a23 b0 w0 (.ref 11) rv)) 0 0 46 [none, none, none, none] [] (hB g0 g1 g2 g3 g4 g5 g6 g7 g8 g9 g10 g11 g12 g13 g14 g15 g16 g17 g18 g19 g20 g21 g22 g23 g24 g25 g26 a0 a1 a2 a3 a4 a5 a6 a7 a8 a9 a10 a11 a12 a13 a14 a15 a16 a17 a18 a19 a20 a21 a22 a23 b0 w0 (.ref 11) rv)) : ∀ (n : Nat) (l3_2 : Int32), L_hB_X9_isRest_2  f0 f1 f2 K n l3_2 = some res → xW xks YX9_isRest (d + 2) 0 0 n0 (xZ 0 0 n0 (some (.int res)) (hB g0 g1 g2 g3 g4 g5 g6 g7 g8 g9 g10 g11 g12 g13 g14 g15 g16 g17 g18 g19 g20 g21 g22 g23 g24 g25 g26 a0 a1 a2 a3 a4 a5 a6 a7 a8 a9 a10 a11 a12 a13 a14 a15 a16 a17 a18 a19 a20 a21 a22 a23 b0 w0 (.ref 11) rv)) 0 0 2 [some (.int f0), some (.int f1), some (.int f2), some (.int l3_2)] [] (hB g0 g1 g2 g3 g4 g5 g6 g7 g8 g9 g10 g11 g12 g13 g14 g15 g16 g17 g18 g19 g20 g21 g22 g23 g24 g25 g26 a0 a1 a2 a3 a4 a5 a6 a7 a8 a9 a10 a11 a12 a13 a14 a15 a16 a17 a18 a19 a20 a21 a22 a23 b0 w0 (.ref 11) rv) := by
  intro n
  induction n with
  | zero =>
    intro l3_2 h
    cases (show (none : Option (Int32)) = some res from h)
  | succ n2 ih2 =>
    intro l3_2 h
    unfold L_hB_X9_isRest_2 at h
    refine x_iload_n dX9_isRest_2 rfl ?_
    refine x_bipush (7 : Int32) dX9_isRest_3 (by decide) ?_
    refine x_icmp_ge 46 dX9_isRest_5 (by decide) (fun q => ?_) (fun q => ?_)
    · have h := xif_t q h
      refine x_weak (pl2 := [none, none, none, none]) trivial ?_
      exact hK l3_2 h
    · have h := xif_f q h
      refine x_iload_n dX9_isRest_8 rfl ?_
      refine x_iload_n dX9_isRest_9 rfl ?_
      refine x_iload_n dX9_isRest_10 rfl ?_
      obtain ⟨z11, y11, h⟩ := xbind h
      refine x_callS (t_hB_X9_gets f0 l3_2 f2 z11 y11 (d + 0)) kX9_456 dX9_isRest_11 rfl rfl (Nat.le_of_ble_eq_true rfl) (Nat.le_of_ble_eq_true rfl) rfl rfl (Or.inl rfl) ?_
      refine x_iload_n dX9_isRest_14 rfl ?_
      refine x_iload_n dX9_isRest_15 rfl ?_
      refine x_iload_n dX9_isRest_16 rfl ?_
      obtain ⟨z17, y17, h⟩ := xbind h
      refine x_callS (t_hB_X9_gets f0 f1 f2 z17 y17 (d + 0)) kX9_456 dX9_isRest_17 rfl rfl (Nat.le_of_ble_eq_true rfl) (Nat.le_of_ble_eq_true rfl) rfl rfl (Or.inl rfl) ?_
      refine x_icmp_gt 38 dX9_isRest_20 (by decide) (fun q => ?_) (fun q => ?_)
      · have h := xif_t q h
        refine x_iconst (0 : Int32) dX9_isRest_38 (by decide) ?_
        cases h
        exact x_zret2 dX9_isRest_39 rfl rfl rfl
      · have h := xif_f q h
        refine x_iload_n dX9_isRest_23 rfl ?_
        refine x_iload_n dX9_isRest_24 rfl ?_
        refine x_iload_n dX9_isRest_25 rfl ?_
        obtain ⟨z26, y26, h⟩ := xbind h
        refine x_callS (t_hB_X9_gets f0 l3_2 f1 z26 y26 (d + 0)) kX9_456 dX9_isRest_26 rfl rfl (Nat.le_of_ble_eq_true rfl) (Nat.le_of_ble_eq_true rfl) rfl rfl (Or.inl rfl) ?_
        refine x_iload_n dX9_isRest_29 rfl ?_
        refine x_iload_n dX9_isRest_30 rfl ?_
        refine x_iload_n dX9_isRest_31 rfl ?_
        obtain ⟨z32, y32, h⟩ := xbind h
        refine x_callS (t_hB_X9_gets f0 f2 f1 z32 y32 (d + 0)) kX9_456 dX9_isRest_32 rfl rfl (Nat.le_of_ble_eq_true rfl) (Nat.le_of_ble_eq_true rfl) rfl rfl (Or.inl rfl) ?_
        refine x_icmp_le 40 dX9_isRest_35 (by decide) (fun q => ?_) (fun q => ?_)
        · have h := xif_t q h
          refine x_iincK (1 : Int32) (pl' := [some (.int f0), some (.int f1), some (.int f2), some (.int (l3_2 + (1 : Int32)))]) dX9_isRest_40 rfl (by decide) (by decide) rfl ?_
          refine x_goto 2 dX9_isRest_43 (by decide) ?_
          refine x_weak (pl2 := [some (.int f0), some (.int f1), some (.int f2), some (.int (l3_2 + (1 : Int32)))]) ⟨rfl, rfl, rfl, rfl, trivial⟩ ?_
          exact ih2 (l3_2 + (1 : Int32)) h
        · have h := xif_f q h
          refine x_iconst (0 : Int32) dX9_isRest_38 (by decide) ?_
          cases h
          exact x_zret2 dX9_isRest_39 rfl rfl rfl
set_option maxRecDepth 100000 in
set_option maxHeartbeats 4000000 in
theorem t_hB_X9_isRest {g0 g1 g2 g3 g4 g5 g6 g7 g8 g9 g10 g11 g12 g13 g14 g15 g16 g17 g18 g19 g20 g21 g22 g23 g24 g25 g26 : Int32} {a0 a1 a2 a3 a4 a5 a6 a7 a8 a9 a10 a11 a12 a13 a14 a15 a16 a17 a18 a19 a20 a21 a22 a23 : (Nat → Int32)} {b0 : (Nat → Int64)} {w0 : Int64} {rv : Value} (x0 : Int32) (x1 : Int32) (x2 : Int32) (res : Int32) (h : e_hB_X9_isRest  x0 x1 x2 = some res) (d : Nat) : xMet xks YX9_isRest (d + 2) 0 0 [.int x0, .int x1, .int x2] (hB g0 g1 g2 g3 g4 g5 g6 g7 g8 g9 g10 g11 g12 g13 g14 g15 g16 g17 g18 g19 g20 g21 g22 g23 g24 g25 g26 a0 a1 a2 a3 a4 a5 a6 a7 a8 a9 a10 a11 a12 a13 a14 a15 a16 a17 a18 a19 a20 a21 a22 a23 b0 w0 (.ref 11) rv) (some (.int res)) (hB g0 g1 g2 g3 g4 g5 g6 g7 g8 g9 g10 g11 g12 g13 g14 g15 g16 g17 g18 g19 g20 g21 g22 g23 g24 g25 g26 a0 a1 a2 a3 a4 a5 a6 a7 a8 a9 a10 a11 a12 a13 a14 a15 a16 a17 a18 a19 a20 a21 a22 a23 b0 w0 (.ref 11) rv) := by
  unfold e_hB_X9_isRest at h
  refine xMet_of (pl := [some (.int x0), some (.int x1), some (.int x2), none]) (by decide) (Nat.le_of_ble_eq_true rfl) rfl (Nat.le_of_ble_eq_true rfl) ?_
  refine x_iconst (0 : Int32) dX9_isRest_0 (by decide) ?_
  refine x_istore_n (pl' := [some (.int x0), some (.int x1), some (.int x2), some (.int (0 : Int32))]) dX9_isRest_1 (by decide) rfl ?_
  refine x_weak (pl2 := [some (.int x0), some (.int x1), some (.int x2), some (.int (0 : Int32))]) ⟨rfl, rfl, rfl, rfl, trivial⟩ ?_
  refine lp_hB_X9_isRest_2 d _ x0 x1 x2 res _ (fun l3_2 h => ?_) 200000 (0 : Int32) h
  refine x_iconst (1 : Int32) dX9_isRest_46 (by decide) ?_
  cases h
  exact x_zret2 dX9_isRest_47 rfl rfl rfl
noncomputable def L_hB_X9_rests_26 (p0 : Int32) (p1 : Int32) (p2 : Int32)  (f1 : Int32) (K : Int32 → Int32 → Option (Int32 × Int32 × Int32 × Int32)) : Nat → Int32 → Int32 → Option (Int32 × Int32 × Int32 × Int32)
  | 0, _, _ => none
  | n26 + 1, l3_26, l4_26 => if (49 : Int32) ≤ l4_26 then K l3_26 l4_26 else ((e_hB_X9_isRest f1 (l4_26 / (7 : Int32)) (l4_26 - l4_26 / (7 : Int32) * (7 : Int32))).bind fun z45 => if z45 = (0 : Int32) then L_hB_X9_rests_26 p0 p1 p2 f1 K n26 (l3_26 + (0 : Int32)) (l4_26 + (1 : Int32)) else L_hB_X9_rests_26 p0 p1 p2 f1 K n26 (l3_26 + (1 : Int32)) (l4_26 + (1 : Int32)))
noncomputable def e_hB_X9_rests (p0 : Int32) (p1 : Int32) (p2 : Int32) (x1 : Int32) : Option (Int32 × Int32 × Int32 × Int32) :=
  ((e_hB_X9_refusesRests x1).bind fun z7 => if z7 ≤ (0 : Int32) then L_hB_X9_rests_26 (0 : Int32) p1 p2 x1 (fun l3_26 l4_26 => ((e_hB_X9_good p1 p2 l3_26).bind fun z66 => some (z66.1, (0 : Int32), z66.2.1, z66.2.2))) 200000 (0 : Int32) (0 : Int32) else ((e_hB_X9_refused p1 p2 z7).bind fun z17 => some (z17.1, (0 : Int32), z17.2.1, z17.2.2)))
set_option maxRecDepth 100000 in
set_option maxHeartbeats 4000000 in
theorem lp_hB_X9_rests_26 {g0 g1 g2 g3 g4 g5 g6 g7 g8 g9 g10 g11 g12 g13 g14 g15 g16 g17 g18 g19 g20 g21 g22 g23 g24 g25 g26 : Int32} {a0 a1 a2 a3 a4 a5 a6 a7 a8 a9 a10 a11 a12 a13 a14 a15 a16 a17 a18 a19 a20 a21 a22 a23 : (Nat → Int32)} {b0 : (Nat → Int64)} {w0 : Int64} {rv : Value} (d n0 : Nat) (f1 : Int32) (res : Int32 × Int32 × Int32 × Int32) (K : Int32 → Int32 → Option (Int32 × Int32 × Int32 × Int32)) (hK : ∀ (l3_26 : Int32) (l4_26 : Int32), K l3_26 l4_26 = some res → xW xks YX9_rests (d + 3) 0 0 n0 (xZ 0 0 n0 (some (.int res.1)) (hB res.2.1 res.2.2.1 res.2.2.2 g3 g4 g5 g6 g7 g8 g9 g10 g11 g12 g13 g14 g15 g16 g17 g18 g19 g20 g21 g22 g23 g24 g25 g26 a0 a1 a2 a3 a4 a5 a6 a7 a8 a9 a10 a11 a12 a13 a14 a15 a16 a17 a18 a19 a20 a21 a22 a23 b0 w0 (.ref 11) rv)) 0 0 64 [some (.ref 0), none, none, some (.int l3_26), none] [] (hB g0 g1 g2 g3 g4 g5 g6 g7 g8 g9 g10 g11 g12 g13 g14 g15 g16 g17 g18 g19 g20 g21 g22 g23 g24 g25 g26 a0 a1 a2 a3 a4 a5 a6 a7 a8 a9 a10 a11 a12 a13 a14 a15 a16 a17 a18 a19 a20 a21 a22 a23 b0 w0 (.ref 11) rv)) : ∀ (n : Nat) (l3_26 : Int32) (l4_26 : Int32), L_hB_X9_rests_26 g0 g1 g2 f1 K n l3_26 l4_26 = some res → xW xks YX9_rests (d + 3) 0 0 n0 (xZ 0 0 n0 (some (.int res.1)) (hB res.2.1 res.2.2.1 res.2.2.2 g3 g4 g5 g6 g7 g8 g9 g10 g11 g12 g13 g14 g15 g16 g17 g18 g19 g20 g21 g22 g23 g24 g25 g26 a0 a1 a2 a3 a4 a5 a6 a7 a8 a9 a10 a11 a12 a13 a14 a15 a16 a17 a18 a19 a20 a21 a22 a23 b0 w0 (.ref 11) rv)) 0 0 26 [some (.ref 0), some (.int f1), none, some (.int l3_26), some (.int l4_26)] [] (hB g0 g1 g2 g3 g4 g5 g6 g7 g8 g9 g10 g11 g12 g13 g14 g15 g16 g17 g18 g19 g20 g21 g22 g23 g24 g25 g26 a0 a1 a2 a3 a4 a5 a6 a7 a8 a9 a10 a11 a12 a13 a14 a15 a16 a17 a18 a19 a20 a21 a22 a23 b0 w0 (.ref 11) rv) := by
  intro n
  induction n with
  | zero =>
    intro l3_26 l4_26 h
    cases (show (none : Option (Int32 × Int32 × Int32 × Int32)) = some res from h)
  | succ n26 ih26 =>
    intro l3_26 l4_26 h
    unfold L_hB_X9_rests_26 at h
    refine x_iload dX9_rests_26 rfl ?_
    refine x_bipush (49 : Int32) dX9_rests_28 (by decide) ?_
    refine x_icmp_ge 64 dX9_rests_30 (by decide) (fun q => ?_) (fun q => ?_)
    · have h := xif_t q h
      refine x_weak (pl2 := [some (.ref 0), none, none, some (.int l3_26), none]) ⟨rfl, rfl, trivial⟩ ?_
      exact hK l3_26 l4_26 h
    · have h := xif_f q h
      refine x_iload_n dX9_rests_33 rfl ?_
      refine x_iload_n dX9_rests_34 rfl ?_
      refine x_iload dX9_rests_35 rfl ?_
      refine x_bipush (7 : Int32) dX9_rests_37 (by decide) ?_
      refine x_idiv dX9_rests_39 (by decide) ?_
      refine x_iload dX9_rests_40 rfl ?_
      refine x_bipush (7 : Int32) dX9_rests_42 (by decide) ?_
      refine x_irem dX9_rests_44 (by decide) ?_
      obtain ⟨z45, y45, h⟩ := xbind h
      refine x_callS (t_hB_X9_isRest f1 (l4_26 / (7 : Int32)) (l4_26 - l4_26 / (7 : Int32) * (7 : Int32)) z45 y45 (d + 0)) kX9_462 dX9_rests_45 rfl rfl (Nat.le_of_ble_eq_true rfl) (Nat.le_of_ble_eq_true rfl) rfl rfl (Or.inl rfl) ?_
      refine x_if_eq 55 dX9_rests_48 (by decide) (fun q => ?_) (fun q => ?_)
      · have h := xif_t q h
        refine x_iconst (0 : Int32) dX9_rests_55 (by decide) ?_
        refine x_iadd dX9_rests_56 ?_
        refine x_istore_n (pl' := [some (.ref 0), some (.int f1), none, some (.int (l3_26 + (0 : Int32))), some (.int l4_26)]) dX9_rests_57 (by decide) rfl ?_
        refine x_iincK (1 : Int32) (pl' := [some (.ref 0), some (.int f1), none, some (.int (l3_26 + (0 : Int32))), some (.int (l4_26 + (1 : Int32)))]) dX9_rests_58 rfl (by decide) (by decide) rfl ?_
        refine x_goto 26 dX9_rests_61 (by decide) ?_
        refine x_weak (pl2 := [some (.ref 0), some (.int f1), none, some (.int (l3_26 + (0 : Int32))), some (.int (l4_26 + (1 : Int32)))]) ⟨rfl, rfl, rfl, rfl, trivial⟩ ?_
        exact ih26 (l3_26 + (0 : Int32)) (l4_26 + (1 : Int32)) h
      · have h := xif_f q h
        refine x_iconst (1 : Int32) dX9_rests_51 (by decide) ?_
        refine x_goto 56 dX9_rests_52 (by decide) ?_
        refine x_iadd dX9_rests_56 ?_
        refine x_istore_n (pl' := [some (.ref 0), some (.int f1), none, some (.int (l3_26 + (1 : Int32))), some (.int l4_26)]) dX9_rests_57 (by decide) rfl ?_
        refine x_iincK (1 : Int32) (pl' := [some (.ref 0), some (.int f1), none, some (.int (l3_26 + (1 : Int32))), some (.int (l4_26 + (1 : Int32)))]) dX9_rests_58 rfl (by decide) (by decide) rfl ?_
        refine x_goto 26 dX9_rests_61 (by decide) ?_
        refine x_weak (pl2 := [some (.ref 0), some (.int f1), none, some (.int (l3_26 + (1 : Int32))), some (.int (l4_26 + (1 : Int32)))]) ⟨rfl, rfl, rfl, rfl, trivial⟩ ?_
        exact ih26 (l3_26 + (1 : Int32)) (l4_26 + (1 : Int32)) h
set_option maxRecDepth 100000 in
set_option maxHeartbeats 4000000 in
theorem t_hB_X9_rests {g0 g1 g2 g3 g4 g5 g6 g7 g8 g9 g10 g11 g12 g13 g14 g15 g16 g17 g18 g19 g20 g21 g22 g23 g24 g25 g26 : Int32} {a0 a1 a2 a3 a4 a5 a6 a7 a8 a9 a10 a11 a12 a13 a14 a15 a16 a17 a18 a19 a20 a21 a22 a23 : (Nat → Int32)} {b0 : (Nat → Int64)} {w0 : Int64} {rv : Value} (x1 : Int32) (res : Int32 × Int32 × Int32 × Int32) (h : e_hB_X9_rests g0 g1 g2 x1 = some res) (d : Nat) : xMet xks YX9_rests (d + 3) 0 0 [.ref 0, .int x1] (hB g0 g1 g2 g3 g4 g5 g6 g7 g8 g9 g10 g11 g12 g13 g14 g15 g16 g17 g18 g19 g20 g21 g22 g23 g24 g25 g26 a0 a1 a2 a3 a4 a5 a6 a7 a8 a9 a10 a11 a12 a13 a14 a15 a16 a17 a18 a19 a20 a21 a22 a23 b0 w0 (.ref 11) rv) (some (.int res.1)) (hB res.2.1 res.2.2.1 res.2.2.2 g3 g4 g5 g6 g7 g8 g9 g10 g11 g12 g13 g14 g15 g16 g17 g18 g19 g20 g21 g22 g23 g24 g25 g26 a0 a1 a2 a3 a4 a5 a6 a7 a8 a9 a10 a11 a12 a13 a14 a15 a16 a17 a18 a19 a20 a21 a22 a23 b0 w0 (.ref 11) rv) := by
  unfold e_hB_X9_rests at h
  refine xMet_of (pl := [some (.ref 0), some (.int x1), none, none, none]) (by decide) (Nat.le_of_ble_eq_true rfl) rfl (Nat.le_of_ble_eq_true rfl) ?_
  refine x_aload_n dX9_rests_0 rfl ?_
  refine x_iconst (0 : Int32) dX9_rests_1 (by decide) ?_
  refine x_put (h2 := (hB (0 : Int32) g1 g2 g3 g4 g5 g6 g7 g8 g9 g10 g11 g12 g13 g14 g15 g16 g17 g18 g19 g20 g21 g22 g23 g24 g25 g26 a0 a1 a2 a3 a4 a5 a6 a7 a8 a9 a10 a11 a12 a13 a14 a15 a16 a17 a18 a19 a20 a21 a22 a23 b0 w0 (.ref 11) rv)) fX9_45 dX9_rests_2 rfl rfl (Nat.le_of_ble_eq_true rfl : 0 + 1 ≤ _) (fun α => ⟨rfl, rfl⟩) rfl ?_
  refine x_aload_n dX9_rests_5 rfl ?_
  refine x_iload_n dX9_rests_6 rfl ?_
  obtain ⟨z7, y7, h⟩ := xbind h
  refine x_callV (t_hB_X9_refusesRests x1 z7 y7 (d + 0)) kX9_459 dX9_rests_7 rfl rfl rfl rfl rfl (Nat.le_of_ble_eq_true rfl) (Nat.le_of_ble_eq_true rfl) rfl rfl (Or.inl rfl) ?_
  refine x_istore_n (pl' := [some (.ref 0), some (.int x1), some (.int z7), none, none]) dX9_rests_10 (by decide) rfl ?_
  refine x_iload_n dX9_rests_11 rfl ?_
  refine x_if_le 21 dX9_rests_12 (by decide) (fun q => ?_) (fun q => ?_)
  · have h := xif_t q h
    refine x_iconst (0 : Int32) dX9_rests_21 (by decide) ?_
    refine x_istore_n (pl' := [some (.ref 0), some (.int x1), some (.int z7), some (.int (0 : Int32)), none]) dX9_rests_22 (by decide) rfl ?_
    refine x_iconst (0 : Int32) dX9_rests_23 (by decide) ?_
    refine x_istore (pl' := [some (.ref 0), some (.int x1), some (.int z7), some (.int (0 : Int32)), some (.int (0 : Int32))]) dX9_rests_24 (by decide) rfl ?_
    refine x_weak (pl2 := [some (.ref 0), some (.int x1), none, some (.int (0 : Int32)), some (.int (0 : Int32))]) ⟨rfl, rfl, rfl, rfl, trivial⟩ ?_
    refine lp_hB_X9_rests_26 d _ x1 res _ (fun l3_26 l4_26 h => ?_) 200000 (0 : Int32) (0 : Int32) h
    refine x_aload_n dX9_rests_64 rfl ?_
    refine x_iload_n dX9_rests_65 rfl ?_
    obtain ⟨z66, y66, h⟩ := xbind h
    refine x_callV (t_hB_X9_good l3_26 z66 y66 (d + 1)) kX9_55 dX9_rests_66 rfl rfl rfl rfl rfl (Nat.le_of_ble_eq_true rfl) (Nat.le_of_ble_eq_true rfl) rfl rfl (Or.inl rfl) ?_
    cases h
    exact x_iret2 dX9_rests_69 rfl rfl
  · have h := xif_f q h
    refine x_aload_n dX9_rests_15 rfl ?_
    refine x_iload_n dX9_rests_16 rfl ?_
    obtain ⟨z17, y17, h⟩ := xbind h
    refine x_callV (t_hB_X9_refused z7 z17 y17 (d + 1)) kX9_51 dX9_rests_17 rfl rfl rfl rfl rfl (Nat.le_of_ble_eq_true rfl) (Nat.le_of_ble_eq_true rfl) rfl rfl (Or.inl rfl) ?_
    cases h
    exact x_iret2 dX9_rests_20 rfl rfl
noncomputable def L_hB_X9_rest_23 (p0 : Int32) (p1 : Int32) (p2 : Int32)  (f1 : Int32) (K : Int32 → Option (Int32 × Int32 × Int32 × Int32)) : Nat → Int32 → Option (Int32 × Int32 × Int32 × Int32)
  | 0, _ => none
  | n23 + 1, l3_23 => if (49 : Int32) ≤ l3_23 then K l3_23 else ((e_hB_X9_isRest f1 (l3_23 / (7 : Int32)) (l3_23 - l3_23 / (7 : Int32) * (7 : Int32))).bind fun z38 => if z38 = (0 : Int32) then L_hB_X9_rest_23 p0 p1 p2 f1 K n23 (l3_23 + (1 : Int32)) else ((e_hB_X9_good p1 p2 (((10 : Int32) * (l3_23 / (7 : Int32))) + (l3_23 - l3_23 / (7 : Int32) * (7 : Int32)))).bind fun z57 => some (z57.1, p0, z57.2.1, z57.2.2)))
noncomputable def e_hB_X9_rest (p0 : Int32) (p1 : Int32) (p2 : Int32) (x1 : Int32) : Option (Int32 × Int32 × Int32 × Int32) :=
  ((e_hB_X9_refusesRests x1).bind fun z7 => if z7 ≤ (0 : Int32) then L_hB_X9_rest_23 (0 : Int32) p1 p2 x1 (fun l3_23 => ((e_hB_X9_good p1 p2 (-2 : Int32)).bind fun z70 => some (z70.1, (0 : Int32), z70.2.1, z70.2.2))) 200000 (0 : Int32) else ((e_hB_X9_refused p1 p2 z7).bind fun z17 => some (z17.1, (0 : Int32), z17.2.1, z17.2.2)))
set_option maxRecDepth 100000 in
set_option maxHeartbeats 4000000 in
theorem lp_hB_X9_rest_23 {g0 g1 g2 g3 g4 g5 g6 g7 g8 g9 g10 g11 g12 g13 g14 g15 g16 g17 g18 g19 g20 g21 g22 g23 g24 g25 g26 : Int32} {a0 a1 a2 a3 a4 a5 a6 a7 a8 a9 a10 a11 a12 a13 a14 a15 a16 a17 a18 a19 a20 a21 a22 a23 : (Nat → Int32)} {b0 : (Nat → Int64)} {w0 : Int64} {rv : Value} (d n0 : Nat) (f1 : Int32) (res : Int32 × Int32 × Int32 × Int32) (K : Int32 → Option (Int32 × Int32 × Int32 × Int32)) (hK : ∀ (l3_23 : Int32), K l3_23 = some res → xW xks YX9_rest (d + 3) 0 0 n0 (xZ 0 0 n0 (some (.int res.1)) (hB res.2.1 res.2.2.1 res.2.2.2 g3 g4 g5 g6 g7 g8 g9 g10 g11 g12 g13 g14 g15 g16 g17 g18 g19 g20 g21 g22 g23 g24 g25 g26 a0 a1 a2 a3 a4 a5 a6 a7 a8 a9 a10 a11 a12 a13 a14 a15 a16 a17 a18 a19 a20 a21 a22 a23 b0 w0 (.ref 11) rv)) 0 0 67 [some (.ref 0), none, none, none] [] (hB g0 g1 g2 g3 g4 g5 g6 g7 g8 g9 g10 g11 g12 g13 g14 g15 g16 g17 g18 g19 g20 g21 g22 g23 g24 g25 g26 a0 a1 a2 a3 a4 a5 a6 a7 a8 a9 a10 a11 a12 a13 a14 a15 a16 a17 a18 a19 a20 a21 a22 a23 b0 w0 (.ref 11) rv)) : ∀ (n : Nat) (l3_23 : Int32), L_hB_X9_rest_23 g0 g1 g2 f1 K n l3_23 = some res → xW xks YX9_rest (d + 3) 0 0 n0 (xZ 0 0 n0 (some (.int res.1)) (hB res.2.1 res.2.2.1 res.2.2.2 g3 g4 g5 g6 g7 g8 g9 g10 g11 g12 g13 g14 g15 g16 g17 g18 g19 g20 g21 g22 g23 g24 g25 g26 a0 a1 a2 a3 a4 a5 a6 a7 a8 a9 a10 a11 a12 a13 a14 a15 a16 a17 a18 a19 a20 a21 a22 a23 b0 w0 (.ref 11) rv)) 0 0 23 [some (.ref 0), some (.int f1), none, some (.int l3_23)] [] (hB g0 g1 g2 g3 g4 g5 g6 g7 g8 g9 g10 g11 g12 g13 g14 g15 g16 g17 g18 g19 g20 g21 g22 g23 g24 g25 g26 a0 a1 a2 a3 a4 a5 a6 a7 a8 a9 a10 a11 a12 a13 a14 a15 a16 a17 a18 a19 a20 a21 a22 a23 b0 w0 (.ref 11) rv) := by
  intro n
  induction n with
  | zero =>
    intro l3_23 h
    cases (show (none : Option (Int32 × Int32 × Int32 × Int32)) = some res from h)
  | succ n23 ih23 =>
    intro l3_23 h
    unfold L_hB_X9_rest_23 at h
    refine x_iload_n dX9_rest_23 rfl ?_
    refine x_bipush (49 : Int32) dX9_rest_24 (by decide) ?_
    refine x_icmp_ge 67 dX9_rest_26 (by decide) (fun q => ?_) (fun q => ?_)
    · have h := xif_t q h
      refine x_weak (pl2 := [some (.ref 0), none, none, none]) ⟨rfl, trivial⟩ ?_
      exact hK l3_23 h
    · have h := xif_f q h
      refine x_iload_n dX9_rest_29 rfl ?_
      refine x_iload_n dX9_rest_30 rfl ?_
      refine x_bipush (7 : Int32) dX9_rest_31 (by decide) ?_
      refine x_idiv dX9_rest_33 (by decide) ?_
      refine x_iload_n dX9_rest_34 rfl ?_
      refine x_bipush (7 : Int32) dX9_rest_35 (by decide) ?_
      refine x_irem dX9_rest_37 (by decide) ?_
      obtain ⟨z38, y38, h⟩ := xbind h
      refine x_callS (t_hB_X9_isRest f1 (l3_23 / (7 : Int32)) (l3_23 - l3_23 / (7 : Int32) * (7 : Int32)) z38 y38 (d + 0)) kX9_462 dX9_rest_38 rfl rfl (Nat.le_of_ble_eq_true rfl) (Nat.le_of_ble_eq_true rfl) rfl rfl (Or.inl rfl) ?_
      refine x_if_eq 61 dX9_rest_41 (by decide) (fun q => ?_) (fun q => ?_)
      · have h := xif_t q h
        refine x_iincK (1 : Int32) (pl' := [some (.ref 0), some (.int f1), none, some (.int (l3_23 + (1 : Int32)))]) dX9_rest_61 rfl (by decide) (by decide) rfl ?_
        refine x_goto 23 dX9_rest_64 (by decide) ?_
        refine x_weak (pl2 := [some (.ref 0), some (.int f1), none, some (.int (l3_23 + (1 : Int32)))]) ⟨rfl, rfl, rfl, trivial⟩ ?_
        exact ih23 (l3_23 + (1 : Int32)) h
      · have h := xif_f q h
        refine x_aload_n dX9_rest_44 rfl ?_
        refine x_bipush (10 : Int32) dX9_rest_45 (by decide) ?_
        refine x_iload_n dX9_rest_47 rfl ?_
        refine x_bipush (7 : Int32) dX9_rest_48 (by decide) ?_
        refine x_idiv dX9_rest_50 (by decide) ?_
        refine x_imul dX9_rest_51 ?_
        refine x_iload_n dX9_rest_52 rfl ?_
        refine x_bipush (7 : Int32) dX9_rest_53 (by decide) ?_
        refine x_irem dX9_rest_55 (by decide) ?_
        refine x_iadd dX9_rest_56 ?_
        obtain ⟨z57, y57, h⟩ := xbind h
        refine x_callV (t_hB_X9_good (((10 : Int32) * (l3_23 / (7 : Int32))) + (l3_23 - l3_23 / (7 : Int32) * (7 : Int32))) z57 y57 (d + 1)) kX9_55 dX9_rest_57 rfl rfl rfl rfl rfl (Nat.le_of_ble_eq_true rfl) (Nat.le_of_ble_eq_true rfl) rfl rfl (Or.inl rfl) ?_
        cases h
        exact x_iret2 dX9_rest_60 rfl rfl
set_option maxRecDepth 100000 in
set_option maxHeartbeats 4000000 in
theorem t_hB_X9_rest {g0 g1 g2 g3 g4 g5 g6 g7 g8 g9 g10 g11 g12 g13 g14 g15 g16 g17 g18 g19 g20 g21 g22 g23 g24 g25 g26 : Int32} {a0 a1 a2 a3 a4 a5 a6 a7 a8 a9 a10 a11 a12 a13 a14 a15 a16 a17 a18 a19 a20 a21 a22 a23 : (Nat → Int32)} {b0 : (Nat → Int64)} {w0 : Int64} {rv : Value} (x1 : Int32) (res : Int32 × Int32 × Int32 × Int32) (h : e_hB_X9_rest g0 g1 g2 x1 = some res) (d : Nat) : xMet xks YX9_rest (d + 3) 0 0 [.ref 0, .int x1] (hB g0 g1 g2 g3 g4 g5 g6 g7 g8 g9 g10 g11 g12 g13 g14 g15 g16 g17 g18 g19 g20 g21 g22 g23 g24 g25 g26 a0 a1 a2 a3 a4 a5 a6 a7 a8 a9 a10 a11 a12 a13 a14 a15 a16 a17 a18 a19 a20 a21 a22 a23 b0 w0 (.ref 11) rv) (some (.int res.1)) (hB res.2.1 res.2.2.1 res.2.2.2 g3 g4 g5 g6 g7 g8 g9 g10 g11 g12 g13 g14 g15 g16 g17 g18 g19 g20 g21 g22 g23 g24 g25 g26 a0 a1 a2 a3 a4 a5 a6 a7 a8 a9 a10 a11 a12 a13 a14 a15 a16 a17 a18 a19 a20 a21 a22 a23 b0 w0 (.ref 11) rv) := by
  unfold e_hB_X9_rest at h
  refine xMet_of (pl := [some (.ref 0), some (.int x1), none, none]) (by decide) (Nat.le_of_ble_eq_true rfl) rfl (Nat.le_of_ble_eq_true rfl) ?_
  refine x_aload_n dX9_rest_0 rfl ?_
  refine x_iconst (0 : Int32) dX9_rest_1 (by decide) ?_
  refine x_put (h2 := (hB (0 : Int32) g1 g2 g3 g4 g5 g6 g7 g8 g9 g10 g11 g12 g13 g14 g15 g16 g17 g18 g19 g20 g21 g22 g23 g24 g25 g26 a0 a1 a2 a3 a4 a5 a6 a7 a8 a9 a10 a11 a12 a13 a14 a15 a16 a17 a18 a19 a20 a21 a22 a23 b0 w0 (.ref 11) rv)) fX9_45 dX9_rest_2 rfl rfl (Nat.le_of_ble_eq_true rfl : 0 + 1 ≤ _) (fun α => ⟨rfl, rfl⟩) rfl ?_
  refine x_aload_n dX9_rest_5 rfl ?_
  refine x_iload_n dX9_rest_6 rfl ?_
  obtain ⟨z7, y7, h⟩ := xbind h
  refine x_callV (t_hB_X9_refusesRests x1 z7 y7 (d + 0)) kX9_459 dX9_rest_7 rfl rfl rfl rfl rfl (Nat.le_of_ble_eq_true rfl) (Nat.le_of_ble_eq_true rfl) rfl rfl (Or.inl rfl) ?_
  refine x_istore_n (pl' := [some (.ref 0), some (.int x1), some (.int z7), none]) dX9_rest_10 (by decide) rfl ?_
  refine x_iload_n dX9_rest_11 rfl ?_
  refine x_if_le 21 dX9_rest_12 (by decide) (fun q => ?_) (fun q => ?_)
  · have h := xif_t q h
    refine x_iconst (0 : Int32) dX9_rest_21 (by decide) ?_
    refine x_istore_n (pl' := [some (.ref 0), some (.int x1), some (.int z7), some (.int (0 : Int32))]) dX9_rest_22 (by decide) rfl ?_
    refine x_weak (pl2 := [some (.ref 0), some (.int x1), none, some (.int (0 : Int32))]) ⟨rfl, rfl, rfl, trivial⟩ ?_
    refine lp_hB_X9_rest_23 d _ x1 res _ (fun l3_23 h => ?_) 200000 (0 : Int32) h
    refine x_aload_n dX9_rest_67 rfl ?_
    refine x_bipush (-2 : Int32) dX9_rest_68 (by decide) ?_
    obtain ⟨z70, y70, h⟩ := xbind h
    refine x_callV (t_hB_X9_good (-2 : Int32) z70 y70 (d + 1)) kX9_55 dX9_rest_70 rfl rfl rfl rfl rfl (Nat.le_of_ble_eq_true rfl) (Nat.le_of_ble_eq_true rfl) rfl rfl (Or.inl rfl) ?_
    cases h
    exact x_iret2 dX9_rest_73 rfl rfl
  · have h := xif_f q h
    refine x_aload_n dX9_rest_15 rfl ?_
    refine x_iload_n dX9_rest_16 rfl ?_
    obtain ⟨z17, y17, h⟩ := xbind h
    refine x_callV (t_hB_X9_refused z7 z17 y17 (d + 1)) kX9_51 dX9_rest_17 rfl rfl rfl rfl rfl (Nat.le_of_ble_eq_true rfl) (Nat.le_of_ble_eq_true rfl) rfl rfl (Or.inl rfl) ?_
    cases h
    exact x_iret2 dX9_rest_20 rfl rfl
