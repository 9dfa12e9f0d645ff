noncomputable def e_hN_X9_isParty  (x1 : Int32) : Option (Int32) :=
  some (0 : Int32)
set_option maxRecDepth 100000 in
set_option maxHeartbeats 4000000 in
theorem t_hN_X9_isParty {g0 g1 g2 g3 g4 g5 g6 g7 g8 g9 g10 g11 g12 g13 g14 g15 g16 g17 g18 : Int32} {a0 a1 a2 a3 a4 a5 a6 a7 a8 a9 : (Nat → Int32)} {w0 : Int64} {rv : Value} (x1 : Int32) (res : Int32) (h : e_hN_X9_isParty  x1 = some res) (d : Nat) : xMet xks YX9_isParty (d + 1) 0 0 [.ref 0, .int x1] (hN g0 g1 g2 g3 g4 g5 g6 g7 g8 g9 g10 g11 g12 g13 g14 g15 g16 g17 g18 a0 a1 a2 a3 a4 a5 a6 a7 a8 a9 w0 .null rv) (some (.int res)) (hN g0 g1 g2 g3 g4 g5 g6 g7 g8 g9 g10 g11 g12 g13 g14 g15 g16 g17 g18 a0 a1 a2 a3 a4 a5 a6 a7 a8 a9 w0 .null rv) := by
  unfold e_hN_X9_isParty at h
  refine xMet_of (pl := [some (.ref 0), some (.int x1)]) (by decide) (Nat.le_of_ble_eq_true rfl) rfl (Nat.le_of_ble_eq_true rfl) ?_
  refine x_aload_n dX9_isParty_0 rfl ?_
  refine x_get fX9_316 dX9_isParty_1 rfl rfl rfl ?_
  refine x_ifnullN 30 dX9_isParty_4 (by decide) ?_
  refine x_iconst (0 : Int32) dX9_isParty_30 (by decide) ?_
  cases h
  exact x_zret2 dX9_isParty_31 rfl rfl rfl
noncomputable def L_hN_X9_guest_27 (p0 : Int32) (p1 : Int32) (p2 : Int32)  (f1 : Int32) (K : Int32 → Int32 → Int32 → Option (Int32 × Int32 × Int32 × Int32)) : Nat → Int32 → Int32 → Int32 → Option (Int32 × Int32 × Int32 × Int32)
  | 0, _, _, _ => none
  | n27 + 1, l2_27, l3_27, l4_27 => none
noncomputable def e_hN_X9_guest (p0 : Int32) (p1 : Int32) (p2 : Int32) (x1 : Int32) : Option (Int32 × Int32 × Int32 × Int32) :=
  ((e_hN_X9_isParty x1).bind fun z7 => if z7 = (0 : Int32) then ((e_hN_X9_refused p1 p2 (1 : Int32)).bind fun z15 => some (z15.1, (0 : Int32), z15.2.1, z15.2.2)) else L_hN_X9_guest_27 (0 : Int32) p1 p2 x1 (fun l2_27 l3_27 l4_27 => none) 200000 (-2 : Int32) (0 : Int32) (0 : Int32))
set_option maxRecDepth 100000 in
set_option maxHeartbeats 4000000 in
theorem lp_hN_X9_guest_27 {g0 g1 g2 g3 g4 g5 g6 g7 g8 g9 g10 g11 g12 g13 g14 g15 g16 g17 g18 : Int32} {a0 a1 a2 a3 a4 a5 a6 a7 a8 a9 : (Nat → Int32)} {w0 : Int64} {rv : Value} (d n0 : Nat) (f1 : Int32) (res : Int32 × Int32 × Int32 × Int32) (K : Int32 → Int32 → Int32 → Option (Int32 × Int32 × Int32 × Int32)) (hK : ∀ (l2_27 : Int32) (l3_27 : Int32) (l4_27 : Int32), K l2_27 l3_27 l4_27 = some res → xW xks YX9_guest (d + 2) 0 0 n0 (xZ 0 0 n0 (some (.int res.1)) (hN res.2.1 res.2.2.1 res.2.2.2 g3 g4 g5 g6 g7 g8 g9 g10 g11 g12 g13 g14 g15 g16 g17 g18 a0 a1 a2 a3 a4 a5 a6 a7 a8 a9 w0 .null rv)) 0 0 101 [some (.ref 0), none, some (.int l2_27), none, none] [] (hN g0 g1 g2 g3 g4 g5 g6 g7 g8 g9 g10 g11 g12 g13 g14 g15 g16 g17 g18 a0 a1 a2 a3 a4 a5 a6 a7 a8 a9 w0 .null rv)) : ∀ (n : Nat) (l2_27 : Int32) (l3_27 : Int32) (l4_27 : Int32), L_hN_X9_guest_27 g0 g1 g2 f1 K n l2_27 l3_27 l4_27 = some res → xW xks YX9_guest (d + 2) 0 0 n0 (xZ 0 0 n0 (some (.int res.1)) (hN res.2.1 res.2.2.1 res.2.2.2 g3 g4 g5 g6 g7 g8 g9 g10 g11 g12 g13 g14 g15 g16 g17 g18 a0 a1 a2 a3 a4 a5 a6 a7 a8 a9 w0 .null rv)) 0 0 27 [some (.ref 0), some (.int f1), some (.int l2_27), some (.int l3_27), some (.int l4_27)] [] (hN g0 g1 g2 g3 g4 g5 g6 g7 g8 g9 g10 g11 g12 g13 g14 g15 g16 g17 g18 a0 a1 a2 a3 a4 a5 a6 a7 a8 a9 w0 .null rv) := by
  intro n
  induction n with
  | zero =>
    intro l2_27 l3_27 l4_27 h
    cases (show (none : Option (Int32 × Int32 × Int32 × Int32)) = some res from h)
  | succ n27 ih27 =>
    intro l2_27 l3_27 l4_27 h
    unfold L_hN_X9_guest_27 at h
    refine x_iload dX9_guest_27 rfl ?_
    refine x_aload_n dX9_guest_29 rfl ?_
    refine x_get fX9_316 dX9_guest_30 rfl rfl rfl ?_
    cases h
set_option maxRecDepth 100000 in
set_option maxHeartbeats 4000000 in
theorem t_hN_X9_guest {g0 g1 g2 g3 g4 g5 g6 g7 g8 g9 g10 g11 g12 g13 g14 g15 g16 g17 g18 : Int32} {a0 a1 a2 a3 a4 a5 a6 a7 a8 a9 : (Nat → Int32)} {w0 : Int64} {rv : Value} (x1 : Int32) (res : Int32 × Int32 × Int32 × Int32) (h : e_hN_X9_guest g0 g1 g2 x1 = some res) (d : Nat) : xMet xks YX9_guest (d + 2) 0 0 [.ref 0, .int x1] (hN g0 g1 g2 g3 g4 g5 g6 g7 g8 g9 g10 g11 g12 g13 g14 g15 g16 g17 g18 a0 a1 a2 a3 a4 a5 a6 a7 a8 a9 w0 .null rv) (some (.int res.1)) (hN res.2.1 res.2.2.1 res.2.2.2 g3 g4 g5 g6 g7 g8 g9 g10 g11 g12 g13 g14 g15 g16 g17 g18 a0 a1 a2 a3 a4 a5 a6 a7 a8 a9 w0 .null rv) := by
  unfold e_hN_X9_guest at h
  refine xMet_of (pl := [some (.ref 0), some (.int x1), none, none, none]) (by decide) (Nat.le_of_ble_eq_true rfl) rfl (Nat.le_of_ble_eq_true rfl) ?_
  refine x_aload_n dX9_guest_0 rfl ?_
  refine x_iconst (0 : Int32) dX9_guest_1 (by decide) ?_
  refine x_put (h2 := (hN (0 : Int32) g1 g2 g3 g4 g5 g6 g7 g8 g9 g10 g11 g12 g13 g14 g15 g16 g17 g18 a0 a1 a2 a3 a4 a5 a6 a7 a8 a9 w0 .null rv)) fX9_45 dX9_guest_2 rfl rfl (Nat.le_of_ble_eq_true rfl : 0 + 1 ≤ _) (fun α => ⟨rfl, rfl⟩) rfl ?_
  refine x_aload_n dX9_guest_5 rfl ?_
  refine x_iload_n dX9_guest_6 rfl ?_
  obtain ⟨z7, y7, h⟩ := xbind h
  refine x_callV (t_hN_X9_isParty x1 z7 y7 (d + 0)) kX9_433 dX9_guest_7 rfl rfl rfl rfl rfl (Nat.le_of_ble_eq_true rfl) (Nat.le_of_ble_eq_true rfl) rfl rfl (Or.inl rfl) ?_
  refine x_if_ne 19 dX9_guest_10 (by decide) (fun q => ?_) (fun q => ?_)
  · have h := xif_f q h
    refine x_bipush (-2 : Int32) dX9_guest_19 (by decide) ?_
    refine x_istore_n (pl' := [some (.ref 0), some (.int x1), some (.int (-2 : Int32)), none, none]) dX9_guest_21 (by decide) rfl ?_
    refine x_iconst (0 : Int32) dX9_guest_22 (by decide) ?_
    refine x_istore_n (pl' := [some (.ref 0), some (.int x1), some (.int (-2 : Int32)), some (.int (0 : Int32)), none]) dX9_guest_23 (by decide) rfl ?_
    refine x_iconst (0 : Int32) dX9_guest_24 (by decide) ?_
    refine x_istore (pl' := [some (.ref 0), some (.int x1), some (.int (-2 : Int32)), some (.int (0 : Int32)), some (.int (0 : Int32))]) dX9_guest_25 (by decide) rfl ?_
    refine x_weak (pl2 := [some (.ref 0), some (.int x1), some (.int (-2 : Int32)), some (.int (0 : Int32)), some (.int (0 : Int32))]) ⟨rfl, rfl, rfl, rfl, rfl, trivial⟩ ?_
    refine lp_hN_X9_guest_27 d _ x1 res _ (fun l2_27 l3_27 l4_27 h => ?_) 200000 (-2 : Int32) (0 : Int32) (0 : Int32) h
    cases h
  · have h := xif_t q h
    refine x_aload_n dX9_guest_13 rfl ?_
    refine x_iconst (1 : Int32) dX9_guest_14 (by decide) ?_
    obtain ⟨z15, y15, h⟩ := xbind h
    refine x_callV (t_hN_X9_refused (1 : Int32) z15 y15 (d + 0)) kX9_51 dX9_guest_15 rfl rfl rfl rfl rfl (Nat.le_of_ble_eq_true rfl) (Nat.le_of_ble_eq_true rfl) rfl rfl (Or.inl rfl) ?_
    cases h
    exact x_iret2 dX9_guest_18 rfl rfl
noncomputable def e_hN_X9_putRight (p0 : Int32) (p1 : Int32) (p2 : Int32)  : Option (Int32 × Int32 × Int32 × Int32) :=
  ((e_hN_X9_refused p1 p2 (1 : Int32)).bind fun z14 => some (z14.1, (0 : Int32), z14.2.1, z14.2.2))
set_option maxRecDepth 100000 in
set_option maxHeartbeats 4000000 in
theorem t_hN_X9_putRight {g0 g1 g2 g3 g4 g5 g6 g7 g8 g9 g10 g11 g12 g13 g14 g15 g16 g17 g18 : Int32} {a0 a1 a2 a3 a4 a5 a6 a7 a8 a9 : (Nat → Int32)} {w0 : Int64} {rv : Value}  (res : Int32 × Int32 × Int32 × Int32) (h : e_hN_X9_putRight g0 g1 g2  = some res) (d : Nat) : xMet xks YX9_putRight (d + 2) 0 0 [.ref 0] (hN g0 g1 g2 g3 g4 g5 g6 g7 g8 g9 g10 g11 g12 g13 g14 g15 g16 g17 g18 a0 a1 a2 a3 a4 a5 a6 a7 a8 a9 w0 .null rv) (some (.int res.1)) (hN res.2.1 res.2.2.1 res.2.2.2 g3 g4 g5 g6 g7 g8 g9 g10 g11 g12 g13 g14 g15 g16 g17 g18 a0 a1 a2 a3 a4 a5 a6 a7 a8 a9 w0 .null rv) := by
  unfold e_hN_X9_putRight at h
  refine xMet_of (pl := [some (.ref 0)]) (by decide) (Nat.le_of_ble_eq_true rfl) rfl (Nat.le_of_ble_eq_true rfl) ?_
  refine x_aload_n dX9_putRight_0 rfl ?_
  refine x_iconst (0 : Int32) dX9_putRight_1 (by decide) ?_
  refine x_put (h2 := (hN (0 : Int32) g1 g2 g3 g4 g5 g6 g7 g8 g9 g10 g11 g12 g13 g14 g15 g16 g17 g18 a0 a1 a2 a3 a4 a5 a6 a7 a8 a9 w0 .null rv)) fX9_45 dX9_putRight_2 rfl rfl (Nat.le_of_ble_eq_true rfl : 0 + 1 ≤ _) (fun α => ⟨rfl, rfl⟩) rfl ?_
  refine x_aload_n dX9_putRight_5 rfl ?_
  refine x_get fX9_316 dX9_putRight_6 rfl rfl rfl ?_
  refine x_ifnonnullN dX9_putRight_9 ?_
  refine x_aload_n dX9_putRight_12 rfl ?_
  refine x_iconst (1 : Int32) dX9_putRight_13 (by decide) ?_
  obtain ⟨z14, y14, h⟩ := xbind h
  refine x_callV (t_hN_X9_refused (1 : Int32) z14 y14 (d + 0)) kX9_51 dX9_putRight_14 rfl rfl rfl rfl rfl (Nat.le_of_ble_eq_true rfl) (Nat.le_of_ble_eq_true rfl) rfl rfl (Or.inl rfl) ?_
  cases h
  exact x_iret2 dX9_putRight_17 rfl rfl
noncomputable def e_hN_X9_exchanges (p0 : Int32) (p1 : Int32) (p2 : Int32)  : Option (Int32 × Int32 × Int32 × Int32) :=
  ((e_hN_X9_refused p1 p2 (1 : Int32)).bind fun z14 => some (z14.1, (0 : Int32), z14.2.1, z14.2.2))
set_option maxRecDepth 100000 in
set_option maxHeartbeats 4000000 in
theorem t_hN_X9_exchanges {g0 g1 g2 g3 g4 g5 g6 g7 g8 g9 g10 g11 g12 g13 g14 g15 g16 g17 g18 : Int32} {a0 a1 a2 a3 a4 a5 a6 a7 a8 a9 : (Nat → Int32)} {w0 : Int64} {rv : Value}  (res : Int32 × Int32 × Int32 × Int32) (h : e_hN_X9_exchanges g0 g1 g2  = some res) (d : Nat) : xMet xks YX9_exchanges (d + 2) 0 0 [.ref 0] (hN g0 g1 g2 g3 g4 g5 g6 g7 g8 g9 g10 g11 g12 g13 g14 g15 g16 g17 g18 a0 a1 a2 a3 a4 a5 a6 a7 a8 a9 w0 .null rv) (some (.int res.1)) (hN res.2.1 res.2.2.1 res.2.2.2 g3 g4 g5 g6 g7 g8 g9 g10 g11 g12 g13 g14 g15 g16 g17 g18 a0 a1 a2 a3 a4 a5 a6 a7 a8 a9 w0 .null rv) := by
  unfold e_hN_X9_exchanges at h
  refine xMet_of (pl := [some (.ref 0)]) (by decide) (Nat.le_of_ble_eq_true rfl) rfl (Nat.le_of_ble_eq_true rfl) ?_
  refine x_aload_n dX9_exchanges_0 rfl ?_
  refine x_iconst (0 : Int32) dX9_exchanges_1 (by decide) ?_
  refine x_put (h2 := (hN (0 : Int32) g1 g2 g3 g4 g5 g6 g7 g8 g9 g10 g11 g12 g13 g14 g15 g16 g17 g18 a0 a1 a2 a3 a4 a5 a6 a7 a8 a9 w0 .null rv)) fX9_45 dX9_exchanges_2 rfl rfl (Nat.le_of_ble_eq_true rfl : 0 + 1 ≤ _) (fun α => ⟨rfl, rfl⟩) rfl ?_
  refine x_aload_n dX9_exchanges_5 rfl ?_
  refine x_get fX9_316 dX9_exchanges_6 rfl rfl rfl ?_
  refine x_ifnonnullN dX9_exchanges_9 ?_
  refine x_aload_n dX9_exchanges_12 rfl ?_
  refine x_iconst (1 : Int32) dX9_exchanges_13 (by decide) ?_
  obtain ⟨z14, y14, h⟩ := xbind h
  refine x_callV (t_hN_X9_refused (1 : Int32) z14 y14 (d + 0)) kX9_51 dX9_exchanges_14 rfl rfl rfl rfl rfl (Nat.le_of_ble_eq_true rfl) (Nat.le_of_ble_eq_true rfl) rfl rfl (Or.inl rfl) ?_
  cases h
  exact x_iret2 dX9_exchanges_17 rfl rfl
noncomputable def e_hN_X9_exchangeAt (p0 : Int32) (p1 : Int32) (p2 : Int32) (x1 : Int32) : Option (Int32 × Int32 × Int32 × Int32) :=
  ((e_hN_X9_refused p1 p2 (1 : Int32)).bind fun z14 => some (z14.1, (0 : Int32), z14.2.1, z14.2.2))
set_option maxRecDepth 100000 in
set_option maxHeartbeats 4000000 in
theorem t_hN_X9_exchangeAt {g0 g1 g2 g3 g4 g5 g6 g7 g8 g9 g10 g11 g12 g13 g14 g15 g16 g17 g18 : Int32} {a0 a1 a2 a3 a4 a5 a6 a7 a8 a9 : (Nat → Int32)} {w0 : Int64} {rv : Value} (x1 : Int32) (res : Int32 × Int32 × Int32 × Int32) (h : e_hN_X9_exchangeAt g0 g1 g2 x1 = some res) (d : Nat) : xMet xks YX9_exchangeAt (d + 2) 0 0 [.ref 0, .int x1] (hN g0 g1 g2 g3 g4 g5 g6 g7 g8 g9 g10 g11 g12 g13 g14 g15 g16 g17 g18 a0 a1 a2 a3 a4 a5 a6 a7 a8 a9 w0 .null rv) (some (.int res.1)) (hN res.2.1 res.2.2.1 res.2.2.2 g3 g4 g5 g6 g7 g8 g9 g10 g11 g12 g13 g14 g15 g16 g17 g18 a0 a1 a2 a3 a4 a5 a6 a7 a8 a9 w0 .null rv) := by
  unfold e_hN_X9_exchangeAt at h
  refine xMet_of (pl := [some (.ref 0), some (.int x1)]) (by decide) (Nat.le_of_ble_eq_true rfl) rfl (Nat.le_of_ble_eq_true rfl) ?_
  refine x_aload_n dX9_exchangeAt_0 rfl ?_
  refine x_iconst (0 : Int32) dX9_exchangeAt_1 (by decide) ?_
  refine x_put (h2 := (hN (0 : Int32) g1 g2 g3 g4 g5 g6 g7 g8 g9 g10 g11 g12 g13 g14 g15 g16 g17 g18 a0 a1 a2 a3 a4 a5 a6 a7 a8 a9 w0 .null rv)) fX9_45 dX9_exchangeAt_2 rfl rfl (Nat.le_of_ble_eq_true rfl : 0 + 1 ≤ _) (fun α => ⟨rfl, rfl⟩) rfl ?_
  refine x_aload_n dX9_exchangeAt_5 rfl ?_
  refine x_get fX9_316 dX9_exchangeAt_6 rfl rfl rfl ?_
  refine x_ifnonnullN dX9_exchangeAt_9 ?_
  refine x_aload_n dX9_exchangeAt_12 rfl ?_
  refine x_iconst (1 : Int32) dX9_exchangeAt_13 (by decide) ?_
  obtain ⟨z14, y14, h⟩ := xbind h
  refine x_callV (t_hN_X9_refused (1 : Int32) z14 y14 (d + 0)) kX9_51 dX9_exchangeAt_14 rfl rfl rfl rfl rfl (Nat.le_of_ble_eq_true rfl) (Nat.le_of_ble_eq_true rfl) rfl rfl (Or.inl rfl) ?_
  cases h
  exact x_iret2 dX9_exchangeAt_17 rfl rfl
noncomputable def L_hN_X9_dangerOf_4   (f1 : Int32) (f2 : Int32) (K : Int32 → Option (Int32)) : Nat → Int32 → Option (Int32)
  | 0, _ => none
  | n4 + 1, l3_4 => none
noncomputable def e_hN_X9_dangerOf  (x1 : Int32) : Option (Int32) :=
  L_hN_X9_dangerOf_4  x1 (0 : Int32) (fun l3_4 => none) 200000 (0 : Int32)
set_option maxRecDepth 100000 in
set_option maxHeartbeats 4000000 in
theorem lp_hN_X9_dangerOf_4 {g0 g1 g2 g3 g4 g5 g6 g7 g8 g9 g10 g11 g12 g13 g14 g15 g16 g17 g18 : Int32} {a0 a1 a2 a3 a4 a5 a6 a7 a8 a9 : (Nat → Int32)} {w0 : Int64} {rv : Value} (d n0 : Nat) (f1 : Int32) (f2 : Int32) (res : Int32) (K : Int32 → Option (Int32)) (hK : ∀ (l3_4 : Int32), K l3_4 = some res → xW xks YX9_dangerOf (d + 1) 0 0 n0 (xZ 0 0 n0 (some (.int res)) (hN g0 g1 g2 g3 g4 g5 g6 g7 g8 g9 g10 g11 g12 g13 g14 g15 g16 g17 g18 a0 a1 a2 a3 a4 a5 a6 a7 a8 a9 w0 .null rv)) 0 0 33 [some (.ref 0), some (.int f1), some (.int f2), none, none] [] (hN g0 g1 g2 g3 g4 g5 g6 g7 g8 g9 g10 g11 g12 g13 g14 g15 g16 g17 g18 a0 a1 a2 a3 a4 a5 a6 a7 a8 a9 w0 .null rv)) : ∀ (n : Nat) (l3_4 : Int32), L_hN_X9_dangerOf_4  f1 f2 K n l3_4 = some res → xW xks YX9_dangerOf (d + 1) 0 0 n0 (xZ 0 0 n0 (some (.int res)) (hN g0 g1 g2 g3 g4 g5 g6 g7 g8 g9 g10 g11 g12 g13 g14 g15 g16 g17 g18 a0 a1 a2 a3 a4 a5 a6 a7 a8 a9 w0 .null rv)) 0 0 4 [some (.ref 0), some (.int f1), some (.int f2), some (.int l3_4), none] [] (hN g0 g1 g2 g3 g4 g5 g6 g7 g8 g9 g10 g11 g12 g13 g14 g15 g16 g17 g18 a0 a1 a2 a3 a4 a5 a6 a7 a8 a9 w0 .null rv) := by
  intro n
  induction n with
  | zero =>
    intro l3_4 h
    cases (show (none : Option (Int32)) = some res from h)
  | succ n4 ih4 =>
    intro l3_4 h
    unfold L_hN_X9_dangerOf_4 at h
    refine x_iload_n dX9_dangerOf_4 rfl ?_
    refine x_aload_n dX9_dangerOf_5 rfl ?_
    refine x_get fX9_316 dX9_dangerOf_6 rfl rfl rfl ?_
    cases h
set_option maxRecDepth 100000 in
set_option maxHeartbeats 4000000 in
theorem t_hN_X9_dangerOf {g0 g1 g2 g3 g4 g5 g6 g7 g8 g9 g10 g11 g12 g13 g14 g15 g16 g17 g18 : Int32} {a0 a1 a2 a3 a4 a5 a6 a7 a8 a9 : (Nat → Int32)} {w0 : Int64} {rv : Value} (x1 : Int32) (res : Int32) (h : e_hN_X9_dangerOf  x1 = some res) (d : Nat) : xMet xks YX9_dangerOf (d + 1) 0 0 [.ref 0, .int x1] (hN g0 g1 g2 g3 g4 g5 g6 g7 g8 g9 g10 g11 g12 g13 g14 g15 g16 g17 g18 a0 a1 a2 a3 a4 a5 a6 a7 a8 a9 w0 .null rv) (some (.int res)) (hN g0 g1 g2 g3 g4 g5 g6 g7 g8 g9 g10 g11 g12 g13 g14 g15 g16 g17 g18 a0 a1 a2 a3 a4 a5 a6 a7 a8 a9 w0 .null rv) := by
  unfold e_hN_X9_dangerOf at h
  refine xMet_of (pl := [some (.ref 0), some (.int x1), none, none, none]) (by decide) (Nat.le_of_ble_eq_true rfl) rfl (Nat.le_of_ble_eq_true rfl) ?_
  refine x_iconst (0 : Int32) dX9_dangerOf_0 (by decide) ?_
  refine x_istore_n (pl' := [some (.ref 0), some (.int x1), some (.int (0 : Int32)), none, none]) dX9_dangerOf_1 (by decide) rfl ?_
  refine x_iconst (0 : Int32) dX9_dangerOf_2 (by decide) ?_
  refine x_istore_n (pl' := [some (.ref 0), some (.int x1), some (.int (0 : Int32)), some (.int (0 : Int32)), none]) dX9_dangerOf_3 (by decide) rfl ?_
  refine x_weak (pl2 := [some (.ref 0), some (.int x1), some (.int (0 : Int32)), some (.int (0 : Int32)), none]) ⟨rfl, rfl, rfl, rfl, trivial⟩ ?_
  refine lp_hN_X9_dangerOf_4 d _ x1 (0 : Int32) res _ (fun l3_4 h => ?_) 200000 (0 : Int32) h
  cases h
noncomputable def e_hN_X9_nextUnder  (x1 : Int32) : Option (Int32) :=
  none
set_option maxRecDepth 100000 in
set_option maxHeartbeats 4000000 in
theorem t_hN_X9_nextUnder {g0 g1 g2 g3 g4 g5 g6 g7 g8 g9 g10 g11 g12 g13 g14 g15 g16 g17 g18 : Int32} {a0 a1 a2 a3 a4 a5 a6 a7 a8 a9 : (Nat → Int32)} {w0 : Int64} {rv : Value} (x1 : Int32) (res : Int32) (h : e_hN_X9_nextUnder  x1 = some res) (d : Nat) : xMet xks YX9_nextUnder (d + 1) 0 0 [.ref 0, .int x1] (hN g0 g1 g2 g3 g4 g5 g6 g7 g8 g9 g10 g11 g12 g13 g14 g15 g16 g17 g18 a0 a1 a2 a3 a4 a5 a6 a7 a8 a9 w0 .null rv) (some (.int res)) (hN g0 g1 g2 g3 g4 g5 g6 g7 g8 g9 g10 g11 g12 g13 g14 g15 g16 g17 g18 a0 a1 a2 a3 a4 a5 a6 a7 a8 a9 w0 .null rv) := by
  unfold e_hN_X9_nextUnder at h
  refine xMet_of (pl := [some (.ref 0), some (.int x1), none]) (by decide) (Nat.le_of_ble_eq_true rfl) rfl (Nat.le_of_ble_eq_true rfl) ?_
  refine x_aload_n dX9_nextUnder_0 rfl ?_
  refine x_get fX9_316 dX9_nextUnder_1 rfl rfl rfl ?_
  cases h
noncomputable def L_hN_X9_parties_8 (p0 : Int32) (p2 : (Nat → Int32))  (f1 : Int32) (K : Int32 → (Nat → Int32) → Option (Int32 × (Nat → Int32) × (Nat → Int32))) : Nat → Int32 → (Nat → Int32) → Option (Int32 × (Nat → Int32) × (Nat → Int32))
  | 0, _, _ => none
  | n8 + 1, l2_8, ma7_8 => if (6 : Int32) ≤ l2_8 then K l2_8 ma7_8 else (xix l2_8 6 (L_hN_X9_parties_8 p0 p2 f1 K n8 (l2_8 + (1 : Int32)) (upd ma7_8 l2_8.toNatClampNeg (0 : Int32))))
noncomputable def L_hN_X9_parties_70 (p0 : Int32) (p1 : (Nat → Int32))  (f1 : Int32) (K : Int32 → (Nat → Int32) → Option (Int32 × (Nat → Int32) × (Nat → Int32))) : Nat → Int32 → (Nat → Int32) → Option (Int32 × (Nat → Int32) × (Nat → Int32))
  | 0, _, _ => none
  | n70 + 1, l4_70, ma8_70 => if (6 : Int32) ≤ l4_70 then K l4_70 ma8_70 else (xix l4_70 6 (xix l4_70 6 (L_hN_X9_parties_70 p0 p1 f1 K n70 (l4_70 + (1 : Int32)) (upd ma8_70 l4_70.toNatClampNeg (p1 l4_70.toNatClampNeg)))))
noncomputable def L_hN_X9_parties_29 (p1 : (Nat → Int32))  (f1 : Int32) (K : Int32 → Int32 → (Nat → Int32) → Option (Int32 × (Nat → Int32) × (Nat → Int32))) : Nat → Int32 → Int32 → (Nat → Int32) → Option (Int32 × (Nat → Int32) × (Nat → Int32))
  | 0, _, _, _ => none
  | n29 + 1, l2_29, mg16_29, ma8_29 => if l2_29 = (0 : Int32) then K l2_29 mg16_29 ma8_29 else ((e_hN_X9_dangerOf f1).bind fun z35 => if z35 = (-2 : Int32) then ((e_hN_X9_nextUnder f1).bind fun z99 => L_hN_X9_parties_29 p1 f1 K n29 z99 mg16_29 ma8_29) else if mg16_29 = (-2 : Int32) then L_hN_X9_parties_70 z35 p1 f1 (fun l4_70 ma8_70 => ((e_hN_X9_nextUnder f1).bind fun z99 => L_hN_X9_parties_29 p1 f1 K n29 z99 z35 ma8_70)) 200000 (0 : Int32) ma8_29 else if mg16_29 ≤ z35 then ((e_hN_X9_nextUnder f1).bind fun z99 => L_hN_X9_parties_29 p1 f1 K n29 z99 mg16_29 ma8_29) else L_hN_X9_parties_70 z35 p1 f1 (fun l4_70 ma8_70 => ((e_hN_X9_nextUnder f1).bind fun z99 => L_hN_X9_parties_29 p1 f1 K n29 z99 z35 ma8_70)) 200000 (0 : Int32) ma8_29)
noncomputable def e_hN_X9_parties (p0 : Int32) (p1 : (Nat → Int32)) (p2 : (Nat → Int32)) (x1 : Int32) : Option (Int32 × (Nat → Int32) × (Nat → Int32)) :=
  L_hN_X9_parties_8 (-2 : Int32) p2 x1 (fun l2_8 ma7_8 => L_hN_X9_parties_29 ma7_8 x1 (fun l2_29 mg16_29 ma8_29 => some (mg16_29, ma8_29, ma7_8)) 200000 (1 : Int32) (-2 : Int32) p2) 200000 (0 : Int32) p1
set_option maxRecDepth 100000 in
set_option maxHeartbeats 4000000 in
theorem lp_hN_X9_parties_8 {g0 g1 g2 g3 g4 g5 g6 g7 g8 g9 g10 g11 g12 g13 g14 g15 g16 g17 g18 : Int32} {a0 a1 a2 a3 a4 a5 a6 a8 a9 : (Nat → Int32)} {w0 : Int64} {rv : Value} (d n0 : Nat) (f1 : Int32) (res : Int32 × (Nat → Int32) × (Nat → Int32)) (K : Int32 → (Nat → Int32) → Option (Int32 × (Nat → Int32) × (Nat → Int32))) (hK : ∀ (l2_8 : Int32) (ma7_8 : (Nat → Int32)), K l2_8 ma7_8 = some res → xW xks YX9_parties (d + 2) 0 0 n0 (xZ 0 0 n0 none (hN g0 g1 g2 g3 g4 g5 g6 g7 g8 g9 g10 g11 g12 g13 g14 g15 res.1 g17 g18 a0 a1 a2 a3 a4 a5 a6 res.2.2 res.2.1 a9 w0 .null rv)) 0 0 27 [some (.ref 0), some (.int f1), none, none, none] [] (hN g0 g1 g2 g3 g4 g5 g6 g7 g8 g9 g10 g11 g12 g13 g14 g15 g16 g17 g18 a0 a1 a2 a3 a4 a5 a6 ma7_8 a8 a9 w0 .null rv)) : ∀ (n : Nat) (l2_8 : Int32) (ma7_8 : (Nat → Int32)), L_hN_X9_parties_8 g16 a8 f1 K n l2_8 ma7_8 = some res → xW xks YX9_parties (d + 2) 0 0 n0 (xZ 0 0 n0 none (hN g0 g1 g2 g3 g4 g5 g6 g7 g8 g9 g10 g11 g12 g13 g14 g15 res.1 g17 g18 a0 a1 a2 a3 a4 a5 a6 res.2.2 res.2.1 a9 w0 .null rv)) 0 0 8 [some (.ref 0), some (.int f1), some (.int l2_8), none, none] [] (hN g0 g1 g2 g3 g4 g5 g6 g7 g8 g9 g10 g11 g12 g13 g14 g15 g16 g17 g18 a0 a1 a2 a3 a4 a5 a6 ma7_8 a8 a9 w0 .null rv) := by
  intro n
  induction n with
  | zero =>
    intro l2_8 ma7_8 h
    cases (show (none : Option (Int32 × (Nat → Int32) × (Nat → Int32))) = some res from h)
  | succ n8 ih8 =>
    intro l2_8 ma7_8 h
    unfold L_hN_X9_parties_8 at h
    refine x_iload_n dX9_parties_8 rfl ?_
    refine x_bipush (6 : Int32) dX9_parties_9 (by decide) ?_
    refine x_icmp_ge 27 dX9_parties_11 (by decide) (fun q => ?_) (fun q => ?_)
    · have h := xif_t q h
      refine x_weak (pl2 := [some (.ref 0), some (.int f1), none, none, none]) ⟨rfl, rfl, trivial⟩ ?_
      exact hK l2_8 ma7_8 h
    · have h := xif_f q h
      refine x_aload_n dX9_parties_14 rfl ?_
      refine x_get fX9_36 dX9_parties_15 rfl rfl rfl ?_
      refine x_iload_n dX9_parties_18 rfl ?_
      refine x_iconst (0 : Int32) dX9_parties_19 (by decide) ?_
      obtain ⟨q20, h⟩ := xix_of h
      refine x_iast (h2 := (hN g0 g1 g2 g3 g4 g5 g6 g7 g8 g9 g10 g11 g12 g13 g14 g15 g16 g17 g18 a0 a1 a2 a3 a4 a5 a6 (upd ma7_8 l2_8.toNatClampNeg (0 : Int32)) a8 a9 w0 .null rv)) dX9_parties_20 rfl q20 rfl ?_
      refine x_iincK (1 : Int32) (pl' := [some (.ref 0), some (.int f1), some (.int (l2_8 + (1 : Int32))), none, none]) dX9_parties_21 rfl (by decide) (by decide) rfl ?_
      refine x_goto 8 dX9_parties_24 (by decide) ?_
      refine x_weak (pl2 := [some (.ref 0), some (.int f1), some (.int (l2_8 + (1 : Int32))), none, none]) ⟨rfl, rfl, rfl, trivial⟩ ?_
      exact ih8 (l2_8 + (1 : Int32)) (upd ma7_8 l2_8.toNatClampNeg (0 : Int32)) h
set_option maxRecDepth 100000 in
set_option maxHeartbeats 4000000 in
theorem lp_hN_X9_parties_70 {g0 g1 g2 g3 g4 g5 g6 g7 g8 g9 g10 g11 g12 g13 g14 g15 g16 g17 g18 : Int32} {a0 a1 a2 a3 a4 a5 a6 a7 a9 : (Nat → Int32)} {w0 : Int64} {rv : Value} (d n0 : Nat) (f1 : Int32) (res : Int32 × (Nat → Int32) × (Nat → Int32)) (K : Int32 → (Nat → Int32) → Option (Int32 × (Nat → Int32) × (Nat → Int32))) (hK : ∀ (l4_70 : Int32) (ma8_70 : (Nat → Int32)), K l4_70 ma8_70 = some res → xW xks YX9_parties (d + 2) 0 0 n0 (xZ 0 0 n0 none (hN g0 g1 g2 g3 g4 g5 g6 g7 g8 g9 g10 g11 g12 g13 g14 g15 res.1 g17 g18 a0 a1 a2 a3 a4 a5 a6 res.2.2 res.2.1 a9 w0 .null rv)) 0 0 97 [some (.ref 0), some (.int f1), none, none, none] [] (hN g0 g1 g2 g3 g4 g5 g6 g7 g8 g9 g10 g11 g12 g13 g14 g15 g16 g17 g18 a0 a1 a2 a3 a4 a5 a6 a7 ma8_70 a9 w0 .null rv)) : ∀ (n : Nat) (l4_70 : Int32) (ma8_70 : (Nat → Int32)), L_hN_X9_parties_70 g16 a7 f1 K n l4_70 ma8_70 = some res → xW xks YX9_parties (d + 2) 0 0 n0 (xZ 0 0 n0 none (hN g0 g1 g2 g3 g4 g5 g6 g7 g8 g9 g10 g11 g12 g13 g14 g15 res.1 g17 g18 a0 a1 a2 a3 a4 a5 a6 res.2.2 res.2.1 a9 w0 .null rv)) 0 0 70 [some (.ref 0), some (.int f1), none, none, some (.int l4_70)] [] (hN g0 g1 g2 g3 g4 g5 g6 g7 g8 g9 g10 g11 g12 g13 g14 g15 g16 g17 g18 a0 a1 a2 a3 a4 a5 a6 a7 ma8_70 a9 w0 .null rv) := by
  intro n
  induction n with
  | zero =>
    intro l4_70 ma8_70 h
    cases (show (none : Option (Int32 × (Nat → Int32) × (Nat → Int32))) = some res from h)
  | succ n70 ih70 =>
    intro l4_70 ma8_70 h
    unfold L_hN_X9_parties_70 at h
    refine x_iload dX9_parties_70 rfl ?_
    refine x_bipush (6 : Int32) dX9_parties_72 (by decide) ?_
    refine x_icmp_ge 97 dX9_parties_74 (by decide) (fun q => ?_) (fun q => ?_)
    · have h := xif_t q h
      refine x_weak (pl2 := [some (.ref 0), some (.int f1), none, none, none]) ⟨rfl, rfl, trivial⟩ ?_
      exact hK l4_70 ma8_70 h
    · have h := xif_f q h
      refine x_aload_n dX9_parties_77 rfl ?_
      refine x_get fX9_39 dX9_parties_78 rfl rfl rfl ?_
      refine x_iload dX9_parties_81 rfl ?_
      refine x_aload_n dX9_parties_83 rfl ?_
      refine x_get fX9_36 dX9_parties_84 rfl rfl rfl ?_
      refine x_iload dX9_parties_87 rfl ?_
      obtain ⟨q89, h⟩ := xix_of h
      refine x_iald dX9_parties_89 rfl q89 ?_
      obtain ⟨q90, h⟩ := xix_of h
      refine x_iast (h2 := (hN g0 g1 g2 g3 g4 g5 g6 g7 g8 g9 g10 g11 g12 g13 g14 g15 g16 g17 g18 a0 a1 a2 a3 a4 a5 a6 a7 (upd ma8_70 l4_70.toNatClampNeg (a7 l4_70.toNatClampNeg)) a9 w0 .null rv)) dX9_parties_90 rfl q90 rfl ?_
      refine x_iincK (1 : Int32) (pl' := [some (.ref 0), some (.int f1), none, none, some (.int (l4_70 + (1 : Int32)))]) dX9_parties_91 rfl (by decide) (by decide) rfl ?_
      refine x_goto 70 dX9_parties_94 (by decide) ?_
      refine x_weak (pl2 := [some (.ref 0), some (.int f1), none, none, some (.int (l4_70 + (1 : Int32)))]) ⟨rfl, rfl, rfl, trivial⟩ ?_
      exact ih70 (l4_70 + (1 : Int32)) (upd ma8_70 l4_70.toNatClampNeg (a7 l4_70.toNatClampNeg)) h
set_option maxRecDepth 100000 in
set_option maxHeartbeats 4000000 in
theorem lp_hN_X9_parties_29 {g0 g1 g2 g3 g4 g5 g6 g7 g8 g9 g10 g11 g12 g13 g14 g15 g17 g18 : Int32} {a0 a1 a2 a3 a4 a5 a6 a7 a9 : (Nat → Int32)} {w0 : Int64} {rv : Value} (d n0 : Nat) (f1 : Int32) (res : Int32 × (Nat → Int32) × (Nat → Int32)) (K : Int32 → Int32 → (Nat → Int32) → Option (Int32 × (Nat → Int32) × (Nat → Int32))) (hK : ∀ (l2_29 : Int32) (mg16_29 : Int32) (ma8_29 : (Nat → Int32)), K l2_29 mg16_29 ma8_29 = some res → xW xks YX9_parties (d + 2) 0 0 n0 (xZ 0 0 n0 none (hN g0 g1 g2 g3 g4 g5 g6 g7 g8 g9 g10 g11 g12 g13 g14 g15 res.1 g17 g18 a0 a1 a2 a3 a4 a5 a6 res.2.2 res.2.1 a9 w0 .null rv)) 0 0 106 [none, none, none, none, none] [] (hN g0 g1 g2 g3 g4 g5 g6 g7 g8 g9 g10 g11 g12 g13 g14 g15 mg16_29 g17 g18 a0 a1 a2 a3 a4 a5 a6 a7 ma8_29 a9 w0 .null rv)) : ∀ (n : Nat) (l2_29 : Int32) (mg16_29 : Int32) (ma8_29 : (Nat → Int32)), L_hN_X9_parties_29 a7 f1 K n l2_29 mg16_29 ma8_29 = some res → xW xks YX9_parties (d + 2) 0 0 n0 (xZ 0 0 n0 none (hN g0 g1 g2 g3 g4 g5 g6 g7 g8 g9 g10 g11 g12 g13 g14 g15 res.1 g17 g18 a0 a1 a2 a3 a4 a5 a6 res.2.2 res.2.1 a9 w0 .null rv)) 0 0 29 [some (.ref 0), some (.int f1), some (.int l2_29), none, none] [] (hN g0 g1 g2 g3 g4 g5 g6 g7 g8 g9 g10 g11 g12 g13 g14 g15 mg16_29 g17 g18 a0 a1 a2 a3 a4 a5 a6 a7 ma8_29 a9 w0 .null rv) := by
  intro n
  induction n with
  | zero =>
    intro l2_29 mg16_29 ma8_29 h
    cases (show (none : Option (Int32 × (Nat → Int32) × (Nat → Int32))) = some res from h)
  | succ n29 ih29 =>
    intro l2_29 mg16_29 ma8_29 h
    unfold L_hN_X9_parties_29 at h
    refine x_iload_n dX9_parties_29 rfl ?_
    refine x_if_eq 106 dX9_parties_30 (by decide) (fun q => ?_) (fun q => ?_)
    · have h := xif_t q h
      refine x_weak (pl2 := [none, none, none, none, none]) trivial ?_
      exact hK l2_29 mg16_29 ma8_29 h
    · have h := xif_f q h
      refine x_aload_n dX9_parties_33 rfl ?_
      refine x_iload_n dX9_parties_34 rfl ?_
      obtain ⟨z35, y35, h⟩ := xbind h
      refine x_callV (t_hN_X9_dangerOf f1 z35 y35 (d + 0)) kX9_424 dX9_parties_35 rfl rfl rfl rfl rfl (Nat.le_of_ble_eq_true rfl) (Nat.le_of_ble_eq_true rfl) rfl rfl (Or.inl rfl) ?_
      refine x_istore_n (pl' := [some (.ref 0), some (.int f1), some (.int l2_29), some (.int z35), none]) dX9_parties_38 (by decide) rfl ?_
      refine x_iload_n dX9_parties_39 rfl ?_
      refine x_bipush (-2 : Int32) dX9_parties_40 (by decide) ?_
      refine x_icmp_eq 97 dX9_parties_42 (by decide) (fun q => ?_) (fun q => ?_)
      · have h := xif_t q h
        refine x_aload_n dX9_parties_97 rfl ?_
        refine x_iload_n dX9_parties_98 rfl ?_
        obtain ⟨z99, y99, h⟩ := xbind h
        refine x_callV (t_hN_X9_nextUnder f1 z99 y99 (d + 0)) kX9_427 dX9_parties_99 rfl rfl rfl rfl rfl (Nat.le_of_ble_eq_true rfl) (Nat.le_of_ble_eq_true rfl) rfl rfl (Or.inl rfl) ?_
        refine x_istore_n (pl' := [some (.ref 0), some (.int f1), some (.int z99), some (.int z35), none]) dX9_parties_102 (by decide) rfl ?_
        refine x_goto 29 dX9_parties_103 (by decide) ?_
        refine x_weak (pl2 := [some (.ref 0), some (.int f1), some (.int z99), none, none]) ⟨rfl, rfl, rfl, trivial⟩ ?_
        exact ih29 z99 mg16_29 ma8_29 h
      · have h := xif_f q h
        refine x_aload_n dX9_parties_45 rfl ?_
        refine x_get fX9_421 dX9_parties_46 rfl rfl rfl ?_
        refine x_bipush (-2 : Int32) dX9_parties_49 (by decide) ?_
        refine x_icmp_eq 62 dX9_parties_51 (by decide) (fun q => ?_) (fun q => ?_)
        · have h := xif_t q h
          refine x_aload_n dX9_parties_62 rfl ?_
          refine x_iload_n dX9_parties_63 rfl ?_
          refine x_put (h2 := (hN g0 g1 g2 g3 g4 g5 g6 g7 g8 g9 g10 g11 g12 g13 g14 g15 z35 g17 g18 a0 a1 a2 a3 a4 a5 a6 a7 ma8_29 a9 w0 .null rv)) fX9_421 dX9_parties_64 rfl rfl (Nat.le_of_ble_eq_true rfl : 29 + 1 ≤ _) (fun α => ⟨rfl, rfl⟩) rfl ?_
          refine x_iconst (0 : Int32) dX9_parties_67 (by decide) ?_
          refine x_istore (pl' := [some (.ref 0), some (.int f1), some (.int l2_29), some (.int z35), some (.int (0 : Int32))]) dX9_parties_68 (by decide) rfl ?_
          refine x_weak (pl2 := [some (.ref 0), some (.int f1), none, none, some (.int (0 : Int32))]) ⟨rfl, rfl, rfl, trivial⟩ ?_
          refine lp_hN_X9_parties_70 d _ f1 res _ (fun l4_70 ma8_70 h => ?_) 200000 (0 : Int32) ma8_29 h
          refine x_aload_n dX9_parties_97 rfl ?_
          refine x_iload_n dX9_parties_98 rfl ?_
          obtain ⟨z99, y99, h⟩ := xbind h
          refine x_callV (t_hN_X9_nextUnder f1 z99 y99 (d + 0)) kX9_427 dX9_parties_99 rfl rfl rfl rfl rfl (Nat.le_of_ble_eq_true rfl) (Nat.le_of_ble_eq_true rfl) rfl rfl (Or.inl rfl) ?_
          refine x_istore_n (pl' := [some (.ref 0), some (.int f1), some (.int z99), none, none]) dX9_parties_102 (by decide) rfl ?_
          refine x_goto 29 dX9_parties_103 (by decide) ?_
          refine x_weak (pl2 := [some (.ref 0), some (.int f1), some (.int z99), none, none]) ⟨rfl, rfl, rfl, trivial⟩ ?_
          exact ih29 z99 z35 ma8_70 h
        · have h := xif_f q h
          refine x_iload_n dX9_parties_54 rfl ?_
          refine x_aload_n dX9_parties_55 rfl ?_
          refine x_get fX9_421 dX9_parties_56 rfl rfl rfl ?_
          refine x_icmp_ge 97 dX9_parties_59 (by decide) (fun q => ?_) (fun q => ?_)
          · have h := xif_t q h
            refine x_aload_n dX9_parties_97 rfl ?_
            refine x_iload_n dX9_parties_98 rfl ?_
            obtain ⟨z99, y99, h⟩ := xbind h
            refine x_callV (t_hN_X9_nextUnder f1 z99 y99 (d + 0)) kX9_427 dX9_parties_99 rfl rfl rfl rfl rfl (Nat.le_of_ble_eq_true rfl) (Nat.le_of_ble_eq_true rfl) rfl rfl (Or.inl rfl) ?_
            refine x_istore_n (pl' := [some (.ref 0), some (.int f1), some (.int z99), some (.int z35), none]) dX9_parties_102 (by decide) rfl ?_
            refine x_goto 29 dX9_parties_103 (by decide) ?_
            refine x_weak (pl2 := [some (.ref 0), some (.int f1), some (.int z99), none, none]) ⟨rfl, rfl, rfl, trivial⟩ ?_
            exact ih29 z99 mg16_29 ma8_29 h
          · have h := xif_f q h
            refine x_aload_n dX9_parties_62 rfl ?_
            refine x_iload_n dX9_parties_63 rfl ?_
            refine x_put (h2 := (hN g0 g1 g2 g3 g4 g5 g6 g7 g8 g9 g10 g11 g12 g13 g14 g15 z35 g17 g18 a0 a1 a2 a3 a4 a5 a6 a7 ma8_29 a9 w0 .null rv)) fX9_421 dX9_parties_64 rfl rfl (Nat.le_of_ble_eq_true rfl : 29 + 1 ≤ _) (fun α => ⟨rfl, rfl⟩) rfl ?_
            refine x_iconst (0 : Int32) dX9_parties_67 (by decide) ?_
            refine x_istore (pl' := [some (.ref 0), some (.int f1), some (.int l2_29), some (.int z35), some (.int (0 : Int32))]) dX9_parties_68 (by decide) rfl ?_
            refine x_weak (pl2 := [some (.ref 0), some (.int f1), none, none, some (.int (0 : Int32))]) ⟨rfl, rfl, rfl, trivial⟩ ?_
            refine lp_hN_X9_parties_70 d _ f1 res _ (fun l4_70 ma8_70 h => ?_) 200000 (0 : Int32) ma8_29 h
            refine x_aload_n dX9_parties_97 rfl ?_
            refine x_iload_n dX9_parties_98 rfl ?_
            obtain ⟨z99, y99, h⟩ := xbind h
            refine x_callV (t_hN_X9_nextUnder f1 z99 y99 (d + 0)) kX9_427 dX9_parties_99 rfl rfl rfl rfl rfl (Nat.le_of_ble_eq_true rfl) (Nat.le_of_ble_eq_true rfl) rfl rfl (Or.inl rfl) ?_
            refine x_istore_n (pl' := [some (.ref 0), some (.int f1), some (.int z99), none, none]) dX9_parties_102 (by decide) rfl ?_
            refine x_goto 29 dX9_parties_103 (by decide) ?_
            refine x_weak (pl2 := [some (.ref 0), some (.int f1), some (.int z99), none, none]) ⟨rfl, rfl, rfl, trivial⟩ ?_
            exact ih29 z99 z35 ma8_70 h
set_option maxRecDepth 100000 in
set_option maxHeartbeats 4000000 in
theorem t_hN_X9_parties {g0 g1 g2 g3 g4 g5 g6 g7 g8 g9 g10 g11 g12 g13 g14 g15 g16 g17 g18 : Int32} {a0 a1 a2 a3 a4 a5 a6 a7 a8 a9 : (Nat → Int32)} {w0 : Int64} {rv : Value} (x1 : Int32) (res : Int32 × (Nat → Int32) × (Nat → Int32)) (h : e_hN_X9_parties g16 a7 a8 x1 = some res) (d : Nat) : xMet xks YX9_parties (d + 2) 0 0 [.ref 0, .int x1] (hN g0 g1 g2 g3 g4 g5 g6 g7 g8 g9 g10 g11 g12 g13 g14 g15 g16 g17 g18 a0 a1 a2 a3 a4 a5 a6 a7 a8 a9 w0 .null rv) none (hN g0 g1 g2 g3 g4 g5 g6 g7 g8 g9 g10 g11 g12 g13 g14 g15 res.1 g17 g18 a0 a1 a2 a3 a4 a5 a6 res.2.2 res.2.1 a9 w0 .null rv) := by
  unfold e_hN_X9_parties at h
  refine xMet_of (pl := [some (.ref 0), some (.int x1), none, none, none]) (by decide) (Nat.le_of_ble_eq_true rfl) rfl (Nat.le_of_ble_eq_true rfl) ?_
  refine x_aload_n dX9_parties_0 rfl ?_
  refine x_bipush (-2 : Int32) dX9_parties_1 (by decide) ?_
  refine x_put (h2 := (hN g0 g1 g2 g3 g4 g5 g6 g7 g8 g9 g10 g11 g12 g13 g14 g15 (-2 : Int32) g17 g18 a0 a1 a2 a3 a4 a5 a6 a7 a8 a9 w0 .null rv)) fX9_421 dX9_parties_3 rfl rfl (Nat.le_of_ble_eq_true rfl : 29 + 1 ≤ _) (fun α => ⟨rfl, rfl⟩) rfl ?_
  refine x_iconst (0 : Int32) dX9_parties_6 (by decide) ?_
  refine x_istore_n (pl' := [some (.ref 0), some (.int x1), some (.int (0 : Int32)), none, none]) dX9_parties_7 (by decide) rfl ?_
  refine x_weak (pl2 := [some (.ref 0), some (.int x1), some (.int (0 : Int32)), none, none]) ⟨rfl, rfl, rfl, trivial⟩ ?_
  refine lp_hN_X9_parties_8 d _ x1 res _ (fun l2_8 ma7_8 h => ?_) 200000 (0 : Int32) a7 h
  refine x_iconst (1 : Int32) dX9_parties_27 (by decide) ?_
  refine x_istore_n (pl' := [some (.ref 0), some (.int x1), some (.int (1 : Int32)), none, none]) dX9_parties_28 (by decide) rfl ?_
  refine x_weak (pl2 := [some (.ref 0), some (.int x1), some (.int (1 : Int32)), none, none]) ⟨rfl, rfl, rfl, trivial⟩ ?_
  refine lp_hN_X9_parties_29 d _ x1 res _ (fun l2_29 mg16_29 ma8_29 h => ?_) 200000 (1 : Int32) (-2 : Int32) a8 h
  cases h
  exact x_vret2 dX9_parties_106 rfl rfl
noncomputable def e_hN_X9_party (p0 : Int32) (p1 : Int32) (p2 : (Nat → Int32)) (p3 : (Nat → Int32)) (p4 : Int32) (p5 : Int32) (x1 : Int32) : Option (Int32 × Int32 × Int32 × (Nat → Int32) × (Nat → Int32) × Int32 × Int32) :=
  ((e_hN_X9_isParty x1).bind fun z7 => if z7 = (0 : Int32) then ((e_hN_X9_refused p4 p5 (1 : Int32)).bind fun z15 => some (z15.1, (0 : Int32), p1, p3, p2, z15.2.1, z15.2.2)) else ((e_hN_X9_parties p1 p2 p3 x1).bind fun z21 => (e_hN_X9_good p4 p5 z21.1).bind fun z29 => some (z29.1, (0 : Int32), z21.1, z21.2.1, z21.2.2, z29.2.1, z29.2.2)))
set_option maxRecDepth 100000 in
set_option maxHeartbeats 4000000 in
theorem t_hN_X9_party {g0 g1 g2 g3 g4 g5 g6 g7 g8 g9 g10 g11 g12 g13 g14 g15 g16 g17 g18 : Int32} {a0 a1 a2 a3 a4 a5 a6 a7 a8 a9 : (Nat → Int32)} {w0 : Int64} {rv : Value} (x1 : Int32) (res : Int32 × Int32 × Int32 × (Nat → Int32) × (Nat → Int32) × Int32 × Int32) (h : e_hN_X9_party g0 g16 a7 a8 g1 g2 x1 = some res) (d : Nat) : xMet xks YX9_party (d + 3) 0 0 [.ref 0, .int x1] (hN g0 g1 g2 g3 g4 g5 g6 g7 g8 g9 g10 g11 g12 g13 g14 g15 g16 g17 g18 a0 a1 a2 a3 a4 a5 a6 a7 a8 a9 w0 .null rv) (some (.int res.1)) (hN res.2.1 res.2.2.2.2.2.1 res.2.2.2.2.2.2 g3 g4 g5 g6 g7 g8 g9 g10 g11 g12 g13 g14 g15 res.2.2.1 g17 g18 a0 a1 a2 a3 a4 a5 a6 res.2.2.2.2.1 res.2.2.2.1 a9 w0 .null rv) := by
  unfold e_hN_X9_party at h
  refine xMet_of (pl := [some (.ref 0), some (.int x1)]) (by decide) (Nat.le_of_ble_eq_true rfl) rfl (Nat.le_of_ble_eq_true rfl) ?_
  refine x_aload_n dX9_party_0 rfl ?_
  refine x_iconst (0 : Int32) dX9_party_1 (by decide) ?_
  refine x_put (h2 := (hN (0 : Int32) g1 g2 g3 g4 g5 g6 g7 g8 g9 g10 g11 g12 g13 g14 g15 g16 g17 g18 a0 a1 a2 a3 a4 a5 a6 a7 a8 a9 w0 .null rv)) fX9_45 dX9_party_2 rfl rfl (Nat.le_of_ble_eq_true rfl : 0 + 1 ≤ _) (fun α => ⟨rfl, rfl⟩) rfl ?_
  refine x_aload_n dX9_party_5 rfl ?_
  refine x_iload_n dX9_party_6 rfl ?_
  obtain ⟨z7, y7, h⟩ := xbind h
  refine x_callV (t_hN_X9_isParty x1 z7 y7 (d + 1)) kX9_433 dX9_party_7 rfl rfl rfl rfl rfl (Nat.le_of_ble_eq_true rfl) (Nat.le_of_ble_eq_true rfl) rfl rfl (Or.inl rfl) ?_
  refine x_if_ne 19 dX9_party_10 (by decide) (fun q => ?_) (fun q => ?_)
  · have h := xif_f q h
    refine x_aload_n dX9_party_19 rfl ?_
    refine x_iload_n dX9_party_20 rfl ?_
    obtain ⟨z21, y21, h⟩ := xbind h
    refine x_callV (t_hN_X9_parties x1 z21 y21 (d + 0)) kX9_436 dX9_party_21 rfl rfl rfl rfl rfl (Nat.le_of_ble_eq_true rfl) (Nat.le_of_ble_eq_true rfl) rfl rfl (Or.inl rfl) ?_
    refine x_aload_n dX9_party_24 rfl ?_
    refine x_aload_n dX9_party_25 rfl ?_
    refine x_get fX9_421 dX9_party_26 rfl rfl rfl ?_
    obtain ⟨z29, y29, h⟩ := xbind h
    refine x_callV (t_hN_X9_good z21.1 z29 y29 (d + 1)) kX9_55 dX9_party_29 rfl rfl rfl rfl rfl (Nat.le_of_ble_eq_true rfl) (Nat.le_of_ble_eq_true rfl) rfl rfl (Or.inl rfl) ?_
    cases h
    exact x_iret2 dX9_party_32 rfl rfl
  · have h := xif_t q h
    refine x_aload_n dX9_party_13 rfl ?_
    refine x_iconst (1 : Int32) dX9_party_14 (by decide) ?_
    obtain ⟨z15, y15, h⟩ := xbind h
    refine x_callV (t_hN_X9_refused (1 : Int32) z15 y15 (d + 1)) kX9_51 dX9_party_15 rfl rfl rfl rfl rfl (Nat.le_of_ble_eq_true rfl) (Nat.le_of_ble_eq_true rfl) rfl rfl (Or.inl rfl) ?_
    cases h
    exact x_iret2 dX9_party_18 rfl rfl
noncomputable def e_hN_X9_bit  (x0 : Int32) (x1 : Int32) : Option (Int32) :=
  if ((x0 >>> (x1 &&& 31)) &&& (1 : Int32)) = (1 : Int32) then some (1 : Int32) else some (0 : Int32)
set_option maxRecDepth 100000 in
set_option maxHeartbeats 4000000 in
theorem t_hN_X9_bit {g0 g1 g2 g3 g4 g5 g6 g7 g8 g9 g10 g11 g12 g13 g14 g15 g16 g17 g18 : Int32} {a0 a1 a2 a3 a4 a5 a6 a7 a8 a9 : (Nat → Int32)} {w0 : Int64} {rv : Value} (x0 : Int32) (x1 : Int32) (res : Int32) (h : e_hN_X9_bit  x0 x1 = some res) (d : Nat) : xMet xks YX9_bit (d + 1) 0 0 [.int x0, .int x1] (hN g0 g1 g2 g3 g4 g5 g6 g7 g8 g9 g10 g11 g12 g13 g14 g15 g16 g17 g18 a0 a1 a2 a3 a4 a5 a6 a7 a8 a9 w0 .null rv) (some (.int res)) (hN g0 g1 g2 g3 g4 g5 g6 g7 g8 g9 g10 g11 g12 g13 g14 g15 g16 g17 g18 a0 a1 a2 a3 a4 a5 a6 a7 a8 a9 w0 .null rv) := by
  unfold e_hN_X9_bit at h
  refine xMet_of (pl := [some (.int x0), some (.int x1)]) (by decide) (Nat.le_of_ble_eq_true rfl) rfl (Nat.le_of_ble_eq_true rfl) ?_
  refine x_iload_n dX9_bit_0 rfl ?_
  refine x_iload_n dX9_bit_1 rfl ?_
  refine x_ishr dX9_bit_2 ?_
  refine x_iconst (1 : Int32) dX9_bit_3 (by decide) ?_
  refine x_iand dX9_bit_4 ?_
  refine x_iconst (1 : Int32) dX9_bit_5 (by decide) ?_
  refine x_icmp_ne 13 dX9_bit_6 (by decide) (fun q => ?_) (fun q => ?_)
  · have h := xif_f q h
    refine x_iconst (0 : Int32) dX9_bit_13 (by decide) ?_
    cases h
    exact x_zret2 dX9_bit_14 rfl rfl rfl
  · have h := xif_t q h
    refine x_iconst (1 : Int32) dX9_bit_9 (by decide) ?_
    refine x_goto 14 dX9_bit_10 (by decide) ?_
    cases h
    exact x_zret2 dX9_bit_14 rfl rfl rfl
noncomputable def e_hN_X9_partyOf (p0 : Int32) (p1 : Int32) (p2 : Int32) (p3 : Int32) (p4 : (Nat → Int32)) (p5 : (Nat → Int32)) (x1 : Int32) (x2 : Int32) : Option (Int32 × Int32 × Int32 × Int32 × Int32 × (Nat → Int32) × (Nat → Int32)) :=
  ((e_hN_X9_isParty x1).bind fun z7 => if z7 = (0 : Int32) then ((e_hN_X9_refused p1 p2 (1 : Int32)).bind fun z23 => some (z23.1, (0 : Int32), z23.2.1, z23.2.2, p3, p5, p4)) else ((e_hN_X9_isPerson x2).bind fun z15 => if z15 = (0 : Int32) then ((e_hN_X9_refused p1 p2 (1 : Int32)).bind fun z23 => some (z23.1, (0 : Int32), z23.2.1, z23.2.2, p3, p5, p4)) else ((e_hN_X9_parties p3 p4 p5 x1).bind fun z29 => if z29.1 = (-2 : Int32) then ((e_hN_X9_refused p1 p2 (6 : Int32)).bind fun z44 => some (z44.1, (0 : Int32), z44.2.1, z44.2.2, z29.1, z29.2.1, z29.2.2)) else ((e_hN_X9_bit x1 x2).bind fun z51 => if z51 = (0 : Int32) then ((e_hN_X9_good p1 p2 (-2 : Int32)).bind fun z68 => some (z68.1, (0 : Int32), z68.2.1, z68.2.2, z29.1, z29.2.1, z29.2.2)) else (xix x2 6 (((e_hN_X9_good p1 p2 (z29.2.1 x2.toNatClampNeg)).bind fun z68 => some (z68.1, (0 : Int32), z68.2.1, z68.2.2, z29.1, z29.2.1, z29.2.2))))))))
set_option maxRecDepth 100000 in
set_option maxHeartbeats 4000000 in
theorem t_hN_X9_partyOf {g0 g1 g2 g3 g4 g5 g6 g7 g8 g9 g10 g11 g12 g13 g14 g15 g16 g17 g18 : Int32} {a0 a1 a2 a3 a4 a5 a6 a7 a8 a9 : (Nat → Int32)} {w0 : Int64} {rv : Value} (x1 : Int32) (x2 : Int32) (res : Int32 × Int32 × Int32 × Int32 × Int32 × (Nat → Int32) × (Nat → Int32)) (h : e_hN_X9_partyOf g0 g1 g2 g16 a7 a8 x1 x2 = some res) (d : Nat) : xMet xks YX9_partyOf (d + 3) 0 0 [.ref 0, .int x1, .int x2] (hN g0 g1 g2 g3 g4 g5 g6 g7 g8 g9 g10 g11 g12 g13 g14 g15 g16 g17 g18 a0 a1 a2 a3 a4 a5 a6 a7 a8 a9 w0 .null rv) (some (.int res.1)) (hN res.2.1 res.2.2.1 res.2.2.2.1 g3 g4 g5 g6 g7 g8 g9 g10 g11 g12 g13 g14 g15 res.2.2.2.2.1 g17 g18 a0 a1 a2 a3 a4 a5 a6 res.2.2.2.2.2.2 res.2.2.2.2.2.1 a9 w0 .null rv) := by
  unfold e_hN_X9_partyOf at h
  refine xMet_of (pl := [some (.ref 0), some (.int x1), some (.int x2)]) (by decide) (Nat.le_of_ble_eq_true rfl) rfl (Nat.le_of_ble_eq_true rfl) ?_
  refine x_aload_n dX9_partyOf_0 rfl ?_
  refine x_iconst (0 : Int32) dX9_partyOf_1 (by decide) ?_
  refine x_put (h2 := (hN (0 : Int32) g1 g2 g3 g4 g5 g6 g7 g8 g9 g10 g11 g12 g13 g14 g15 g16 g17 g18 a0 a1 a2 a3 a4 a5 a6 a7 a8 a9 w0 .null rv)) fX9_45 dX9_partyOf_2 rfl rfl (Nat.le_of_ble_eq_true rfl : 0 + 1 ≤ _) (fun α => ⟨rfl, rfl⟩) rfl ?_
  refine x_aload_n dX9_partyOf_5 rfl ?_
  refine x_iload_n dX9_partyOf_6 rfl ?_
  obtain ⟨z7, y7, h⟩ := xbind h
  refine x_callV (t_hN_X9_isParty x1 z7 y7 (d + 1)) kX9_433 dX9_partyOf_7 rfl rfl rfl rfl rfl (Nat.le_of_ble_eq_true rfl) (Nat.le_of_ble_eq_true rfl) rfl rfl (Or.inl rfl) ?_
  refine x_if_eq 21 dX9_partyOf_10 (by decide) (fun q => ?_) (fun q => ?_)
  · have h := xif_t q h
    refine x_aload_n dX9_partyOf_21 rfl ?_
    refine x_iconst (1 : Int32) dX9_partyOf_22 (by decide) ?_
    obtain ⟨z23, y23, h⟩ := xbind h
    refine x_callV (t_hN_X9_refused (1 : Int32) z23 y23 (d + 1)) kX9_51 dX9_partyOf_23 rfl rfl rfl rfl rfl (Nat.le_of_ble_eq_true rfl) (Nat.le_of_ble_eq_true rfl) rfl rfl (Or.inl rfl) ?_
    cases h
    exact x_iret2 dX9_partyOf_26 rfl rfl
  · have h := xif_f q h
    refine x_aload_n dX9_partyOf_13 rfl ?_
    refine x_iload_n dX9_partyOf_14 rfl ?_
    obtain ⟨z15, y15, h⟩ := xbind h
    refine x_callV (t_hN_X9_isPerson x2 z15 y15 (d + 1)) kX9_362 dX9_partyOf_15 rfl rfl rfl rfl rfl (Nat.le_of_ble_eq_true rfl) (Nat.le_of_ble_eq_true rfl) rfl rfl (Or.inl rfl) ?_
    refine x_if_ne 27 dX9_partyOf_18 (by decide) (fun q => ?_) (fun q => ?_)
    · have h := xif_f q h
      refine x_aload_n dX9_partyOf_27 rfl ?_
      refine x_iload_n dX9_partyOf_28 rfl ?_
      obtain ⟨z29, y29, h⟩ := xbind h
      refine x_callV (t_hN_X9_parties x1 z29 y29 (d + 0)) kX9_436 dX9_partyOf_29 rfl rfl rfl rfl rfl (Nat.le_of_ble_eq_true rfl) (Nat.le_of_ble_eq_true rfl) rfl rfl (Or.inl rfl) ?_
      refine x_aload_n dX9_partyOf_32 rfl ?_
      refine x_get fX9_421 dX9_partyOf_33 rfl rfl rfl ?_
      refine x_bipush (-2 : Int32) dX9_partyOf_36 (by decide) ?_
      refine x_icmp_ne 48 dX9_partyOf_38 (by decide) (fun q => ?_) (fun q => ?_)
      · have h := xif_f q h
        refine x_aload_n dX9_partyOf_48 rfl ?_
        refine x_iload_n dX9_partyOf_49 rfl ?_
        refine x_iload_n dX9_partyOf_50 rfl ?_
        obtain ⟨z51, y51, h⟩ := xbind h
        refine x_callS (t_hN_X9_bit x1 x2 z51 y51 (d + 1)) kX9_418 dX9_partyOf_51 rfl rfl (Nat.le_of_ble_eq_true rfl) (Nat.le_of_ble_eq_true rfl) rfl rfl (Or.inl rfl) ?_
        refine x_if_eq 66 dX9_partyOf_54 (by decide) (fun q => ?_) (fun q => ?_)
        · have h := xif_t q h
          refine x_bipush (-2 : Int32) dX9_partyOf_66 (by decide) ?_
          obtain ⟨z68, y68, h⟩ := xbind h
          refine x_callV (t_hN_X9_good (-2 : Int32) z68 y68 (d + 1)) kX9_55 dX9_partyOf_68 rfl rfl rfl rfl rfl (Nat.le_of_ble_eq_true rfl) (Nat.le_of_ble_eq_true rfl) rfl rfl (Or.inl rfl) ?_
          cases h
          exact x_iret2 dX9_partyOf_71 rfl rfl
        · have h := xif_f q h
          refine x_aload_n dX9_partyOf_57 rfl ?_
          refine x_get fX9_39 dX9_partyOf_58 rfl rfl rfl ?_
          refine x_iload_n dX9_partyOf_61 rfl ?_
          obtain ⟨q62, h⟩ := xix_of h
          refine x_iald dX9_partyOf_62 rfl q62 ?_
          refine x_goto 68 dX9_partyOf_63 (by decide) ?_
          obtain ⟨z68, y68, h⟩ := xbind h
          refine x_callV (t_hN_X9_good (z29.2.1 x2.toNatClampNeg) z68 y68 (d + 1)) kX9_55 dX9_partyOf_68 rfl rfl rfl rfl rfl (Nat.le_of_ble_eq_true rfl) (Nat.le_of_ble_eq_true rfl) rfl rfl (Or.inl rfl) ?_
          cases h
          exact x_iret2 dX9_partyOf_71 rfl rfl
      · have h := xif_t q h
        refine x_aload_n dX9_partyOf_41 rfl ?_
        refine x_bipush (6 : Int32) dX9_partyOf_42 (by decide) ?_
        obtain ⟨z44, y44, h⟩ := xbind h
        refine x_callV (t_hN_X9_refused (6 : Int32) z44 y44 (d + 1)) kX9_51 dX9_partyOf_44 rfl rfl rfl rfl rfl (Nat.le_of_ble_eq_true rfl) (Nat.le_of_ble_eq_true rfl) rfl rfl (Or.inl rfl) ?_
        cases h
        exact x_iret2 dX9_partyOf_47 rfl rfl
    · have h := xif_t q h
      refine x_aload_n dX9_partyOf_21 rfl ?_
      refine x_iconst (1 : Int32) dX9_partyOf_22 (by decide) ?_
      obtain ⟨z23, y23, h⟩ := xbind h
      refine x_callV (t_hN_X9_refused (1 : Int32) z23 y23 (d + 1)) kX9_51 dX9_partyOf_23 rfl rfl rfl rfl rfl (Nat.le_of_ble_eq_true rfl) (Nat.le_of_ble_eq_true rfl) rfl rfl (Or.inl rfl) ?_
      cases h
      exact x_iret2 dX9_partyOf_26 rfl rfl
noncomputable def L_hN_X9_room_23 (p0 : Int32) (p1 : Int32) (p2 : Int32)  (f1 : Int32) (K : Int32 → Int32 → Option (Int32 × Int32 × Int32 × Int32)) : Nat → Int32 → Int32 → Option (Int32 × Int32 × Int32 × Int32)
  | 0, _, _ => none
  | n23 + 1, l2_23, l3_23 => none
noncomputable def e_hN_X9_room (p0 : Int32) (p1 : Int32) (p2 : Int32) (x1 : Int32) : Option (Int32 × Int32 × Int32 × Int32) :=
  ((e_hN_X9_isParty x1).bind fun z7 => if z7 = (0 : Int32) then ((e_hN_X9_refused p1 p2 (1 : Int32)).bind fun z15 => some (z15.1, (0 : Int32), z15.2.1, z15.2.2)) else L_hN_X9_room_23 (0 : Int32) p1 p2 x1 (fun l2_23 l3_23 => none) 200000 (0 : Int32) (0 : Int32))
set_option maxRecDepth 100000 in
set_option maxHeartbeats 4000000 in
theorem lp_hN_X9_room_23 {g0 g1 g2 g3 g4 g5 g6 g7 g8 g9 g10 g11 g12 g13 g14 g15 g16 g17 g18 : Int32} {a0 a1 a2 a3 a4 a5 a6 a7 a8 a9 : (Nat → Int32)} {w0 : Int64} {rv : Value} (d n0 : Nat) (f1 : Int32) (res : Int32 × Int32 × Int32 × Int32) (K : Int32 → Int32 → Option (Int32 × Int32 × Int32 × Int32)) (hK : ∀ (l2_23 : Int32) (l3_23 : Int32), K l2_23 l3_23 = some res → xW xks YX9_room (d + 2) 0 0 n0 (xZ 0 0 n0 (some (.int res.1)) (hN res.2.1 res.2.2.1 res.2.2.2 g3 g4 g5 g6 g7 g8 g9 g10 g11 g12 g13 g14 g15 g16 g17 g18 a0 a1 a2 a3 a4 a5 a6 a7 a8 a9 w0 .null rv)) 0 0 49 [some (.ref 0), none, some (.int l2_23), none] [] (hN g0 g1 g2 g3 g4 g5 g6 g7 g8 g9 g10 g11 g12 g13 g14 g15 g16 g17 g18 a0 a1 a2 a3 a4 a5 a6 a7 a8 a9 w0 .null rv)) : ∀ (n : Nat) (l2_23 : Int32) (l3_23 : Int32), L_hN_X9_room_23 g0 g1 g2 f1 K n l2_23 l3_23 = some res → xW xks YX9_room (d + 2) 0 0 n0 (xZ 0 0 n0 (some (.int res.1)) (hN res.2.1 res.2.2.1 res.2.2.2 g3 g4 g5 g6 g7 g8 g9 g10 g11 g12 g13 g14 g15 g16 g17 g18 a0 a1 a2 a3 a4 a5 a6 a7 a8 a9 w0 .null rv)) 0 0 23 [some (.ref 0), some (.int f1), some (.int l2_23), some (.int l3_23)] [] (hN g0 g1 g2 g3 g4 g5 g6 g7 g8 g9 g10 g11 g12 g13 g14 g15 g16 g17 g18 a0 a1 a2 a3 a4 a5 a6 a7 a8 a9 w0 .null rv) := by
  intro n
  induction n with
  | zero =>
    intro l2_23 l3_23 h
    cases (show (none : Option (Int32 × Int32 × Int32 × Int32)) = some res from h)
  | succ n23 ih23 =>
    intro l2_23 l3_23 h
    unfold L_hN_X9_room_23 at h
    refine x_iload_n dX9_room_23 rfl ?_
    refine x_aload_n dX9_room_24 rfl ?_
    refine x_get fX9_316 dX9_room_25 rfl rfl rfl ?_
    cases h
set_option maxRecDepth 100000 in
set_option maxHeartbeats 4000000 in
theorem t_hN_X9_room {g0 g1 g2 g3 g4 g5 g6 g7 g8 g9 g10 g11 g12 g13 g14 g15 g16 g17 g18 : Int32} {a0 a1 a2 a3 a4 a5 a6 a7 a8 a9 : (Nat → Int32)} {w0 : Int64} {rv : Value} (x1 : Int32) (res : Int32 × Int32 × Int32 × Int32) (h : e_hN_X9_room g0 g1 g2 x1 = some res) (d : Nat) : xMet xks YX9_room (d + 2) 0 0 [.ref 0, .int x1] (hN g0 g1 g2 g3 g4 g5 g6 g7 g8 g9 g10 g11 g12 g13 g14 g15 g16 g17 g18 a0 a1 a2 a3 a4 a5 a6 a7 a8 a9 w0 .null rv) (some (.int res.1)) (hN res.2.1 res.2.2.1 res.2.2.2 g3 g4 g5 g6 g7 g8 g9 g10 g11 g12 g13 g14 g15 g16 g17 g18 a0 a1 a2 a3 a4 a5 a6 a7 a8 a9 w0 .null rv) := by
  unfold e_hN_X9_room at h
  refine xMet_of (pl := [some (.ref 0), some (.int x1), none, none]) (by decide) (Nat.le_of_ble_eq_true rfl) rfl (Nat.le_of_ble_eq_true rfl) ?_
  refine x_aload_n dX9_room_0 rfl ?_
  refine x_iconst (0 : Int32) dX9_room_1 (by decide) ?_
  refine x_put (h2 := (hN (0 : Int32) g1 g2 g3 g4 g5 g6 g7 g8 g9 g10 g11 g12 g13 g14 g15 g16 g17 g18 a0 a1 a2 a3 a4 a5 a6 a7 a8 a9 w0 .null rv)) fX9_45 dX9_room_2 rfl rfl (Nat.le_of_ble_eq_true rfl : 0 + 1 ≤ _) (fun α => ⟨rfl, rfl⟩) rfl ?_
  refine x_aload_n dX9_room_5 rfl ?_
  refine x_iload_n dX9_room_6 rfl ?_
  obtain ⟨z7, y7, h⟩ := xbind h
  refine x_callV (t_hN_X9_isParty x1 z7 y7 (d + 0)) kX9_433 dX9_room_7 rfl rfl rfl rfl rfl (Nat.le_of_ble_eq_true rfl) (Nat.le_of_ble_eq_true rfl) rfl rfl (Or.inl rfl) ?_
  refine x_if_ne 19 dX9_room_10 (by decide) (fun q => ?_) (fun q => ?_)
  · have h := xif_f q h
    refine x_iconst (0 : Int32) dX9_room_19 (by decide) ?_
    refine x_istore_n (pl' := [some (.ref 0), some (.int x1), some (.int (0 : Int32)), none]) dX9_room_20 (by decide) rfl ?_
    refine x_iconst (0 : Int32) dX9_room_21 (by decide) ?_
    refine x_istore_n (pl' := [some (.ref 0), some (.int x1), some (.int (0 : Int32)), some (.int (0 : Int32))]) dX9_room_22 (by decide) rfl ?_
    refine x_weak (pl2 := [some (.ref 0), some (.int x1), some (.int (0 : Int32)), some (.int (0 : Int32))]) ⟨rfl, rfl, rfl, rfl, trivial⟩ ?_
    refine lp_hN_X9_room_23 d _ x1 res _ (fun l2_23 l3_23 h => ?_) 200000 (0 : Int32) (0 : Int32) h
    cases h
  · have h := xif_t q h
    refine x_aload_n dX9_room_13 rfl ?_
    refine x_iconst (1 : Int32) dX9_room_14 (by decide) ?_
    obtain ⟨z15, y15, h⟩ := xbind h
    refine x_callV (t_hN_X9_refused (1 : Int32) z15 y15 (d + 0)) kX9_51 dX9_room_15 rfl rfl rfl rfl rfl (Nat.le_of_ble_eq_true rfl) (Nat.le_of_ble_eq_true rfl) rfl rfl (Or.inl rfl) ?_
    cases h
    exact x_iret2 dX9_room_18 rfl rfl
noncomputable def e_hN_X9_calm  (x1 : Int32) : Option (Int64) :=
  none
set_option maxRecDepth 100000 in
set_option maxHeartbeats 4000000 in
theorem t_hN_X9_calm {g0 g1 g2 g3 g4 g5 g6 g7 g8 g9 g10 g11 g12 g13 g14 g15 g16 g17 g18 : Int32} {a0 a1 a2 a3 a4 a5 a6 a7 a8 a9 : (Nat → Int32)} {w0 : Int64} {rv : Value} (x1 : Int32) (res : Int64) (h : e_hN_X9_calm  x1 = some res) (d : Nat) : xMet xks YX9_calm (d + 1) 0 0 [.ref 0, .int x1] (hN g0 g1 g2 g3 g4 g5 g6 g7 g8 g9 g10 g11 g12 g13 g14 g15 g16 g17 g18 a0 a1 a2 a3 a4 a5 a6 a7 a8 a9 w0 .null rv) (some (.long res)) (hN g0 g1 g2 g3 g4 g5 g6 g7 g8 g9 g10 g11 g12 g13 g14 g15 g16 g17 g18 a0 a1 a2 a3 a4 a5 a6 a7 a8 a9 w0 .null rv) := by
  unfold e_hN_X9_calm at h
  refine xMet_of (pl := [some (.ref 0), some (.int x1)]) (by decide) (Nat.le_of_ble_eq_true rfl) rfl (Nat.le_of_ble_eq_true rfl) ?_
  refine x_ldc2 iX9_439 dX9_calm_0 ?_
  refine x_aload_n dX9_calm_3 rfl ?_
  refine x_get fX9_316 dX9_calm_4 rfl rfl rfl ?_
  cases h
noncomputable def L_hN_X9_power_5   (f0 : Int64) (f2 : Int32) (K : Int64 → Int32 → Option (Int64)) : Nat → Int64 → Int32 → Option (Int64)
  | 0, _, _ => none
  | n5 + 1, l3_5, l5_5 => if f2 ≤ l5_5 then K l3_5 l5_5 else L_hN_X9_power_5  f0 f2 K n5 (l3_5 * f0) (l5_5 + (1 : Int32))
noncomputable def e_hN_X9_power  (x0 : Int64) (x2 : Int32) : Option (Int64) :=
  L_hN_X9_power_5  x0 x2 (fun l3_5 l5_5 => some l3_5) 200000 (1 : Int64) (0 : Int32)
set_option maxRecDepth 100000 in
set_option maxHeartbeats 4000000 in
theorem lp_hN_X9_power_5 {g0 g1 g2 g3 g4 g5 g6 g7 g8 g9 g10 g11 g12 g13 g14 g15 g16 g17 g18 : Int32} {a0 a1 a2 a3 a4 a5 a6 a7 a8 a9 : (Nat → Int32)} {w0 : Int64} {rv : Value} (d n0 : Nat) (f0 : Int64) (f2 : Int32) (res : Int64) (K : Int64 → Int32 → Option (Int64)) (hK : ∀ (l3_5 : Int64) (l5_5 : Int32), K l3_5 l5_5 = some res → xW xks YX9_power (d + 1) 0 0 n0 (xZ 0 0 n0 (some (.long res)) (hN g0 g1 g2 g3 g4 g5 g6 g7 g8 g9 g10 g11 g12 g13 g14 g15 g16 g17 g18 a0 a1 a2 a3 a4 a5 a6 a7 a8 a9 w0 .null rv)) 0 0 21 [none, none, none, some (.long l3_5), none, none] [] (hN g0 g1 g2 g3 g4 g5 g6 g7 g8 g9 g10 g11 g12 g13 g14 g15 g16 g17 g18 a0 a1 a2 a3 a4 a5 a6 a7 a8 a9 w0 .null rv)) : ∀ (n : Nat) (l3_5 : Int64) (l5_5 : Int32), L_hN_X9_power_5  f0 f2 K n l3_5 l5_5 = some res → xW xks YX9_power (d + 1) 0 0 n0 (xZ 0 0 n0 (some (.long res)) (hN g0 g1 g2 g3 g4 g5 g6 g7 g8 g9 g10 g11 g12 g13 g14 g15 g16 g17 g18 a0 a1 a2 a3 a4 a5 a6 a7 a8 a9 w0 .null rv)) 0 0 5 [some (.long f0), none, some (.int f2), some (.long l3_5), none, some (.int l5_5)] [] (hN g0 g1 g2 g3 g4 g5 g6 g7 g8 g9 g10 g11 g12 g13 g14 g15 g16 g17 g18 a0 a1 a2 a3 a4 a5 a6 a7 a8 a9 w0 .null rv) := by
  intro n
  induction n with
  | zero =>
    intro l3_5 l5_5 h
    cases (show (none : Option (Int64)) = some res from h)
  | succ n5 ih5 =>
    intro l3_5 l5_5 h
    unfold L_hN_X9_power_5 at h
    refine x_iload dX9_power_5 rfl ?_
    refine x_iload_n dX9_power_7 rfl ?_
    refine x_icmp_ge 21 dX9_power_8 (by decide) (fun q => ?_) (fun q => ?_)
    · have h := xif_t q h
      refine x_weak (pl2 := [none, none, none, some (.long l3_5), none, none]) ⟨rfl, trivial⟩ ?_
      exact hK l3_5 l5_5 h
    · have h := xif_f q h
      refine x_lload_n dX9_power_11 rfl ?_
      refine x_lload_n dX9_power_12 rfl ?_
      refine x_lmul dX9_power_13 ?_
      refine x_lstore_n (pl' := [some (.long f0), none, some (.int f2), some (.long (l3_5 * f0)), none, some (.int l5_5)]) dX9_power_14 (by decide) rfl ?_
      refine x_iincK (1 : Int32) (pl' := [some (.long f0), none, some (.int f2), some (.long (l3_5 * f0)), none, some (.int (l5_5 + (1 : Int32)))]) dX9_power_15 rfl (by decide) (by decide) rfl ?_
      refine x_goto 5 dX9_power_18 (by decide) ?_
      refine x_weak (pl2 := [some (.long f0), none, some (.int f2), some (.long (l3_5 * f0)), none, some (.int (l5_5 + (1 : Int32)))]) ⟨rfl, rfl, rfl, rfl, trivial⟩ ?_
      exact ih5 (l3_5 * f0) (l5_5 + (1 : Int32)) h
set_option maxRecDepth 100000 in
set_option maxHeartbeats 4000000 in
theorem t_hN_X9_power {g0 g1 g2 g3 g4 g5 g6 g7 g8 g9 g10 g11 g12 g13 g14 g15 g16 g17 g18 : Int32} {a0 a1 a2 a3 a4 a5 a6 a7 a8 a9 : (Nat → Int32)} {w0 : Int64} {rv : Value} (x0 : Int64) (x2 : Int32) (res : Int64) (h : e_hN_X9_power  x0 x2 = some res) (d : Nat) : xMet xks YX9_power (d + 1) 0 0 [.long x0, .int x2] (hN g0 g1 g2 g3 g4 g5 g6 g7 g8 g9 g10 g11 g12 g13 g14 g15 g16 g17 g18 a0 a1 a2 a3 a4 a5 a6 a7 a8 a9 w0 .null rv) (some (.long res)) (hN g0 g1 g2 g3 g4 g5 g6 g7 g8 g9 g10 g11 g12 g13 g14 g15 g16 g17 g18 a0 a1 a2 a3 a4 a5 a6 a7 a8 a9 w0 .null rv) := by
  unfold e_hN_X9_power at h
  refine xMet_of (pl := [some (.long x0), none, some (.int x2), none, none, none]) (by decide) (Nat.le_of_ble_eq_true rfl) rfl (Nat.le_of_ble_eq_true rfl) ?_
  refine x_lconst (1 : Int64) dX9_power_0 (by decide) ?_
  refine x_lstore_n (pl' := [some (.long x0), none, some (.int x2), some (.long (1 : Int64)), none, none]) dX9_power_1 (by decide) rfl ?_
  refine x_iconst (0 : Int32) dX9_power_2 (by decide) ?_
  refine x_istore (pl' := [some (.long x0), none, some (.int x2), some (.long (1 : Int64)), none, some (.int (0 : Int32))]) dX9_power_3 (by decide) rfl ?_
  refine x_weak (pl2 := [some (.long x0), none, some (.int x2), some (.long (1 : Int64)), none, some (.int (0 : Int32))]) ⟨rfl, rfl, rfl, rfl, trivial⟩ ?_
  refine lp_hN_X9_power_5 d _ x0 x2 res _ (fun l3_5 l5_5 h => ?_) 200000 (1 : Int64) (0 : Int32) h
  refine x_lload_n dX9_power_21 rfl ?_
  cases h
  exact x_lret2 dX9_power_22 rfl rfl
noncomputable def L_hN_X9_common_6    (K : Int64 → Int64 → Option (Int64)) : Nat → Int64 → Int64 → Option (Int64)
  | 0, _, _ => none
  | n6 + 1, l4_6, l6_6 => if (lg_cmp l6_6 (0 : Int64)) = (0 : Int32) then K l4_6 l6_6 else (xnzL l6_6 (L_hN_X9_common_6   K n6 l6_6 (l4_6 - l4_6 / l6_6 * l6_6)))
noncomputable def e_hN_X9_common  (x0 : Int64) (x2 : Int64) : Option (Int64) :=
  L_hN_X9_common_6   (fun l4_6 l6_6 => some l4_6) 200000 x0 x2
set_option maxRecDepth 100000 in
set_option maxHeartbeats 4000000 in
theorem lp_hN_X9_common_6 {g0 g1 g2 g3 g4 g5 g6 g7 g8 g9 g10 g11 g12 g13 g14 g15 g16 g17 g18 : Int32} {a0 a1 a2 a3 a4 a5 a6 a7 a8 a9 : (Nat → Int32)} {w0 : Int64} {rv : Value} (d n0 : Nat)  (res : Int64) (K : Int64 → Int64 → Option (Int64)) (hK : ∀ (l4_6 : Int64) (l6_6 : Int64), K l4_6 l6_6 = some res → xW xks YX9_common (d + 1) 0 0 n0 (xZ 0 0 n0 (some (.long res)) (hN g0 g1 g2 g3 g4 g5 g6 g7 g8 g9 g10 g11 g12 g13 g14 g15 g16 g17 g18 a0 a1 a2 a3 a4 a5 a6 a7 a8 a9 w0 .null rv)) 0 0 31 [none, none, none, none, some (.long l4_6), none, none, none, none, none] [] (hN g0 g1 g2 g3 g4 g5 g6 g7 g8 g9 g10 g11 g12 g13 g14 g15 g16 g17 g18 a0 a1 a2 a3 a4 a5 a6 a7 a8 a9 w0 .null rv)) : ∀ (n : Nat) (l4_6 : Int64) (l6_6 : Int64), L_hN_X9_common_6   K n l4_6 l6_6 = some res → xW xks YX9_common (d + 1) 0 0 n0 (xZ 0 0 n0 (some (.long res)) (hN g0 g1 g2 g3 g4 g5 g6 g7 g8 g9 g10 g11 g12 g13 g14 g15 g16 g17 g18 a0 a1 a2 a3 a4 a5 a6 a7 a8 a9 w0 .null rv)) 0 0 6 [none, none, none, none, some (.long l4_6), none, some (.long l6_6), none, none, none] [] (hN g0 g1 g2 g3 g4 g5 g6 g7 g8 g9 g10 g11 g12 g13 g14 g15 g16 g17 g18 a0 a1 a2 a3 a4 a5 a6 a7 a8 a9 w0 .null rv) := by
  intro n
  induction n with
  | zero =>
    intro l4_6 l6_6 h
    cases (show (none : Option (Int64)) = some res from h)
  | succ n6 ih6 =>
    intro l4_6 l6_6 h
    unfold L_hN_X9_common_6 at h
    refine x_lload dX9_common_6 rfl ?_
    refine x_lconst (0 : Int64) dX9_common_8 (by decide) ?_
    refine x_lcmp dX9_common_9 ?_
    refine x_if_eq 31 dX9_common_10 (by decide) (fun q => ?_) (fun q => ?_)
    · have h := xif_t q h
      refine x_weak (pl2 := [none, none, none, none, some (.long l4_6), none, none, none, none, none]) ⟨rfl, trivial⟩ ?_
      exact hK l4_6 l6_6 h
    · have h := xif_f q h
      refine x_lload dX9_common_13 rfl ?_
      refine x_lload dX9_common_15 rfl ?_
      obtain ⟨q17, h⟩ := xnzL_of h
      refine x_lrem dX9_common_17 q17 ?_
      refine x_lstore (pl' := [none, none, none, none, some (.long l4_6), none, some (.long l6_6), none, some (.long (l4_6 - l4_6 / l6_6 * l6_6)), none]) dX9_common_18 (by decide) rfl ?_
      refine x_lload dX9_common_20 rfl ?_
      refine x_lstore (pl' := [none, none, none, none, some (.long l6_6), none, some (.long l6_6), none, some (.long (l4_6 - l4_6 / l6_6 * l6_6)), none]) dX9_common_22 (by decide) rfl ?_
      refine x_lload dX9_common_24 rfl ?_
      refine x_lstore (pl' := [none, none, none, none, some (.long l6_6), none, some (.long (l4_6 - l4_6 / l6_6 * l6_6)), none, some (.long (l4_6 - l4_6 / l6_6 * l6_6)), none]) dX9_common_26 (by decide) rfl ?_
      refine x_goto 6 dX9_common_28 (by decide) ?_
      refine x_weak (pl2 := [none, none, none, none, some (.long l6_6), none, some (.long (l4_6 - l4_6 / l6_6 * l6_6)), none, none, none]) ⟨rfl, rfl, trivial⟩ ?_
      exact ih6 l6_6 (l4_6 - l4_6 / l6_6 * l6_6) h
set_option maxRecDepth 100000 in
set_option maxHeartbeats 4000000 in
theorem t_hN_X9_common {g0 g1 g2 g3 g4 g5 g6 g7 g8 g9 g10 g11 g12 g13 g14 g15 g16 g17 g18 : Int32} {a0 a1 a2 a3 a4 a5 a6 a7 a8 a9 : (Nat → Int32)} {w0 : Int64} {rv : Value} (x0 : Int64) (x2 : Int64) (res : Int64) (h : e_hN_X9_common  x0 x2 = some res) (d : Nat) : xMet xks YX9_common (d + 1) 0 0 [.long x0, .long x2] (hN g0 g1 g2 g3 g4 g5 g6 g7 g8 g9 g10 g11 g12 g13 g14 g15 g16 g17 g18 a0 a1 a2 a3 a4 a5 a6 a7 a8 a9 w0 .null rv) (some (.long res)) (hN g0 g1 g2 g3 g4 g5 g6 g7 g8 g9 g10 g11 g12 g13 g14 g15 g16 g17 g18 a0 a1 a2 a3 a4 a5 a6 a7 a8 a9 w0 .null rv) := by
  unfold e_hN_X9_common at h
  refine xMet_of (pl := [some (.long x0), none, some (.long x2), none, none, none, none, none, none, none]) (by decide) (Nat.le_of_ble_eq_true rfl) rfl (Nat.le_of_ble_eq_true rfl) ?_
  refine x_lload_n dX9_common_0 rfl ?_
  refine x_lstore (pl' := [some (.long x0), none, some (.long x2), none, some (.long x0), none, none, none, none, none]) dX9_common_1 (by decide) rfl ?_
  refine x_lload_n dX9_common_3 rfl ?_
  refine x_lstore (pl' := [some (.long x0), none, some (.long x2), none, some (.long x0), none, some (.long x2), none, none, none]) dX9_common_4 (by decide) rfl ?_
  refine x_weak (pl2 := [none, none, none, none, some (.long x0), none, some (.long x2), none, none, none]) ⟨rfl, rfl, trivial⟩ ?_
  refine lp_hN_X9_common_6 d _  res _ (fun l4_6 l6_6 h => ?_) 200000 x0 x2 h
  refine x_lload dX9_common_31 rfl ?_
  cases h
  exact x_lret2 dX9_common_33 rfl rfl
noncomputable def e_hN_X9_fraction (p0 : Int32) (p1 : Int32) (x1 : Int64) (x3 : Int64) (x5 : Int32) : Option (Int64 × Int32 × Int32) :=
  ((e_hN_X9_good p0 p1 (0 : Int32)).bind fun z2 => if x5 = (0 : Int32) then ((e_hN_X9_common x1 x3).bind fun z18 => xnzL z18 (some ((x1 / z18), z2.2.1, z2.2.2))) else ((e_hN_X9_common x1 x3).bind fun z18 => xnzL z18 (some ((x3 / z18), z2.2.1, z2.2.2))))
set_option maxRecDepth 100000 in
set_option maxHeartbeats 4000000 in
theorem t_hN_X9_fraction {g0 g1 g2 g3 g4 g5 g6 g7 g8 g9 g10 g11 g12 g13 g14 g15 g16 g17 g18 : Int32} {a0 a1 a2 a3 a4 a5 a6 a7 a8 a9 : (Nat → Int32)} {w0 : Int64} {rv : Value} (x1 : Int64) (x3 : Int64) (x5 : Int32) (res : Int64 × Int32 × Int32) (h : e_hN_X9_fraction g1 g2 x1 x3 x5 = some res) (d : Nat) : xMet xks YX9_fraction (d + 2) 0 0 [.ref 0, .long x1, .long x3, .int x5] (hN g0 g1 g2 g3 g4 g5 g6 g7 g8 g9 g10 g11 g12 g13 g14 g15 g16 g17 g18 a0 a1 a2 a3 a4 a5 a6 a7 a8 a9 w0 .null rv) (some (.long res.1)) (hN g0 res.2.1 res.2.2 g3 g4 g5 g6 g7 g8 g9 g10 g11 g12 g13 g14 g15 g16 g17 g18 a0 a1 a2 a3 a4 a5 a6 a7 a8 a9 w0 .null rv) := by
  unfold e_hN_X9_fraction at h
  refine xMet_of (pl := [some (.ref 0), some (.long x1), none, some (.long x3), none, some (.int x5)]) (by decide) (Nat.le_of_ble_eq_true rfl) rfl (Nat.le_of_ble_eq_true rfl) ?_
  refine x_aload_n dX9_fraction_0 rfl ?_
  refine x_iconst (0 : Int32) dX9_fraction_1 (by decide) ?_
  obtain ⟨z2, y2, h⟩ := xbind h
  refine x_callV (t_hN_X9_good (0 : Int32) z2 y2 (d + 0)) kX9_55 dX9_fraction_2 rfl rfl rfl rfl rfl (Nat.le_of_ble_eq_true rfl) (Nat.le_of_ble_eq_true rfl) rfl rfl (Or.inl rfl) ?_
  refine x_pop dX9_fraction_5 rfl ?_
  refine x_iload dX9_fraction_6 rfl ?_
  refine x_if_eq 15 dX9_fraction_8 (by decide) (fun q => ?_) (fun q => ?_)
  · have h := xif_t q h
    refine x_lload_n dX9_fraction_15 rfl ?_
    refine x_lload_n dX9_fraction_16 rfl ?_
    refine x_lload_n dX9_fraction_17 rfl ?_
    obtain ⟨z18, y18, h⟩ := xbind h
    refine x_callS (t_hN_X9_common x1 x3 z18 y18 (d + 0)) kX9_58 dX9_fraction_18 rfl rfl (Nat.le_of_ble_eq_true rfl) (Nat.le_of_ble_eq_true rfl) rfl rfl (Or.inl rfl) ?_
    obtain ⟨q21, h⟩ := xnzL_of h
    refine x_ldiv dX9_fraction_21 q21 ?_
    cases h
    exact x_lret2 dX9_fraction_22 rfl rfl
  · have h := xif_f q h
    refine x_lload_n dX9_fraction_11 rfl ?_
    refine x_goto 16 dX9_fraction_12 (by decide) ?_
    refine x_lload_n dX9_fraction_16 rfl ?_
    refine x_lload_n dX9_fraction_17 rfl ?_
    obtain ⟨z18, y18, h⟩ := xbind h
    refine x_callS (t_hN_X9_common x1 x3 z18 y18 (d + 0)) kX9_58 dX9_fraction_18 rfl rfl (Nat.le_of_ble_eq_true rfl) (Nat.le_of_ble_eq_true rfl) rfl rfl (Or.inl rfl) ?_
    obtain ⟨q21, h⟩ := xnzL_of h
    refine x_ldiv dX9_fraction_21 q21 ?_
    cases h
    exact x_lret2 dX9_fraction_22 rfl rfl
noncomputable def e_hN_X9_whole (p0 : Int32) (p1 : Int32) (p2 : Int32) (x1 : Int32) (x2 : Int32) (x3 : Int32) : Option (Int64 × Int32 × Int32 × Int32) :=
  ((e_hN_X9_isUmbrella x1).bind fun z7 => if z7 = (0 : Int32) then ((e_hN_X9_refused p1 p2 (1 : Int32)).bind fun z15 => some (z15.1.toInt64, (0 : Int32), z15.2.1, z15.2.2)) else ((e_hN_X9_in x2 (0 : Int32) (6 : Int32)).bind fun z24 => if z24 = (0 : Int32) then ((e_hN_X9_refused p1 p2 (2 : Int32)).bind fun z56 => some (z56.1.toInt64, (0 : Int32), z56.2.1, z56.2.2)) else ((e_hN_X9_calm x1).bind fun z33 => (e_hN_X9_power z33 x2).bind fun z37 => (e_hN_X9_power (100 : Int64) x2).bind fun z44 => (e_hN_X9_fraction p1 p2 z37 z44 x3).bind fun z48 => some (z48.1, (0 : Int32), z48.2.1, z48.2.2))))
set_option maxRecDepth 100000 in
set_option maxHeartbeats 4000000 in
theorem t_hN_X9_whole {g0 g1 g2 g3 g4 g5 g6 g7 g8 g9 g10 g11 g12 g13 g14 g15 g16 g17 g18 : Int32} {a0 a1 a2 a3 a4 a5 a6 a7 a8 a9 : (Nat → Int32)} {w0 : Int64} {rv : Value} (x1 : Int32) (x2 : Int32) (x3 : Int32) (res : Int64 × Int32 × Int32 × Int32) (h : e_hN_X9_whole g0 g1 g2 x1 x2 x3 = some res) (d : Nat) : xMet xks YX9_whole (d + 3) 0 0 [.ref 0, .int x1, .int x2, .int x3] (hN g0 g1 g2 g3 g4 g5 g6 g7 g8 g9 g10 g11 g12 g13 g14 g15 g16 g17 g18 a0 a1 a2 a3 a4 a5 a6 a7 a8 a9 w0 .null rv) (some (.long res.1)) (hN res.2.1 res.2.2.1 res.2.2.2 g3 g4 g5 g6 g7 g8 g9 g10 g11 g12 g13 g14 g15 g16 g17 g18 a0 a1 a2 a3 a4 a5 a6 a7 a8 a9 w0 .null rv) := by
  unfold e_hN_X9_whole at h
  refine xMet_of (pl := [some (.ref 0), some (.int x1), some (.int x2), some (.int x3)]) (by decide) (Nat.le_of_ble_eq_true rfl) rfl (Nat.le_of_ble_eq_true rfl) ?_
  refine x_aload_n dX9_whole_0 rfl ?_
  refine x_iconst (0 : Int32) dX9_whole_1 (by decide) ?_
  refine x_put (h2 := (hN (0 : Int32) g1 g2 g3 g4 g5 g6 g7 g8 g9 g10 g11 g12 g13 g14 g15 g16 g17 g18 a0 a1 a2 a3 a4 a5 a6 a7 a8 a9 w0 .null rv)) fX9_45 dX9_whole_2 rfl rfl (Nat.le_of_ble_eq_true rfl : 0 + 1 ≤ _) (fun α => ⟨rfl, rfl⟩) rfl ?_
  refine x_aload_n dX9_whole_5 rfl ?_
  refine x_iload_n dX9_whole_6 rfl ?_
  obtain ⟨z7, y7, h⟩ := xbind h
  refine x_callV (t_hN_X9_isUmbrella x1 z7 y7 (d + 1)) kX9_359 dX9_whole_7 rfl rfl rfl rfl rfl (Nat.le_of_ble_eq_true rfl) (Nat.le_of_ble_eq_true rfl) rfl rfl (Or.inl rfl) ?_
  refine x_if_ne 20 dX9_whole_10 (by decide) (fun q => ?_) (fun q => ?_)
  · have h := xif_f q h
    refine x_iload_n dX9_whole_20 rfl ?_
    refine x_iconst (0 : Int32) dX9_whole_21 (by decide) ?_
    refine x_bipush (6 : Int32) dX9_whole_22 (by decide) ?_
    obtain ⟨z24, y24, h⟩ := xbind h
    refine x_callS (t_hN_X9_in x2 (0 : Int32) (6 : Int32) z24 y24 (d + 1)) kX9_124 dX9_whole_24 rfl rfl (Nat.le_of_ble_eq_true rfl) (Nat.le_of_ble_eq_true rfl) rfl rfl (Or.inl rfl) ?_
    refine x_if_eq 54 dX9_whole_27 (by decide) (fun q => ?_) (fun q => ?_)
    · have h := xif_t q h
      refine x_aload_n dX9_whole_54 rfl ?_
      refine x_iconst (2 : Int32) dX9_whole_55 (by decide) ?_
      obtain ⟨z56, y56, h⟩ := xbind h
      refine x_callV (t_hN_X9_refused (2 : Int32) z56 y56 (d + 1)) kX9_51 dX9_whole_56 rfl rfl rfl rfl rfl (Nat.le_of_ble_eq_true rfl) (Nat.le_of_ble_eq_true rfl) rfl rfl (Or.inl rfl) ?_
      refine x_i2l dX9_whole_59 ?_
      cases h
      exact x_lret2 dX9_whole_60 rfl rfl
    · have h := xif_f q h
      refine x_aload_n dX9_whole_30 rfl ?_
      refine x_aload_n dX9_whole_31 rfl ?_
      refine x_iload_n dX9_whole_32 rfl ?_
      obtain ⟨z33, y33, h⟩ := xbind h
      refine x_callV (t_hN_X9_calm x1 z33 y33 (d + 1)) kX9_441 dX9_whole_33 rfl rfl rfl rfl rfl (Nat.le_of_ble_eq_true rfl) (Nat.le_of_ble_eq_true rfl) rfl rfl (Or.inl rfl) ?_
      refine x_iload_n dX9_whole_36 rfl ?_
      obtain ⟨z37, y37, h⟩ := xbind h
      refine x_callS (t_hN_X9_power z33 x2 z37 y37 (d + 1)) kX9_445 dX9_whole_37 rfl rfl (Nat.le_of_ble_eq_true rfl) (Nat.le_of_ble_eq_true rfl) rfl rfl (Or.inl rfl) ?_
      refine x_ldc2 iX9_439 dX9_whole_40 ?_
      refine x_iload_n dX9_whole_43 rfl ?_
      obtain ⟨z44, y44, h⟩ := xbind h
      refine x_callS (t_hN_X9_power (100 : Int64) x2 z44 y44 (d + 1)) kX9_445 dX9_whole_44 rfl rfl (Nat.le_of_ble_eq_true rfl) (Nat.le_of_ble_eq_true rfl) rfl rfl (Or.inl rfl) ?_
      refine x_iload_n dX9_whole_47 rfl ?_
      obtain ⟨z48, y48, h⟩ := xbind h
      refine x_callV (t_hN_X9_fraction z37 z44 x3 z48 y48 (d + 0)) kX9_449 dX9_whole_48 rfl rfl rfl rfl rfl (Nat.le_of_ble_eq_true rfl) (Nat.le_of_ble_eq_true rfl) rfl rfl (Or.inl rfl) ?_
      refine x_goto 60 dX9_whole_51 (by decide) ?_
      cases h
      exact x_lret2 dX9_whole_60 rfl rfl
  · have h := xif_t q h
    refine x_aload_n dX9_whole_13 rfl ?_
    refine x_iconst (1 : Int32) dX9_whole_14 (by decide) ?_
    obtain ⟨z15, y15, h⟩ := xbind h
    refine x_callV (t_hN_X9_refused (1 : Int32) z15 y15 (d + 1)) kX9_51 dX9_whole_15 rfl rfl rfl rfl rfl (Nat.le_of_ble_eq_true rfl) (Nat.le_of_ble_eq_true rfl) rfl rfl (Or.inl rfl) ?_
    refine x_i2l dX9_whole_18 ?_
    cases h
    exact x_lret2 dX9_whole_19 rfl rfl
noncomputable def L_hN_X9_allWhole_45 (p0 : Int32) (p1 : Int32) (p2 : Int32)  (f1 : Int32) (f2 : Int32) (f3 : Int32) (K : Int64 → Int64 → Int32 → Option (Int64 × Int32 × Int32 × Int32)) : Nat → Int64 → Int64 → Int32 → Option (Int64 × Int32 × Int32 × Int32)
  | 0, _, _, _ => none
  | n45 + 1, l4_45, l6_45, l8_45 => none
noncomputable def e_hN_X9_allWhole (p0 : Int32) (p1 : Int32) (p2 : Int32) (x1 : Int32) (x2 : Int32) (x3 : Int32) : Option (Int64 × Int32 × Int32 × Int32) :=
  ((e_hN_X9_isPerson x1).bind fun z7 => if z7 = (0 : Int32) then ((e_hN_X9_refused p1 p2 (1 : Int32)).bind fun z15 => some (z15.1.toInt64, (0 : Int32), z15.2.1, z15.2.2)) else ((e_hN_X9_in x2 (0 : Int32) (1 : Int32)).bind fun z23 => if z23 = (0 : Int32) then ((e_hN_X9_refused p1 p2 (2 : Int32)).bind fun z31 => some (z31.1.toInt64, (0 : Int32), z31.2.1, z31.2.2)) else L_hN_X9_allWhole_45 (0 : Int32) p1 p2 x1 x2 x3 (fun l4_45 l6_45 l8_45 => none) 200000 (1 : Int64) (1 : Int64) (0 : Int32)))
set_option maxRecDepth 100000 in
set_option maxHeartbeats 4000000 in
theorem lp_hN_X9_allWhole_45 {g0 g1 g2 g3 g4 g5 g6 g7 g8 g9 g10 g11 g12 g13 g14 g15 g16 g17 g18 : Int32} {a0 a1 a2 a3 a4 a5 a6 a7 a8 a9 : (Nat → Int32)} {w0 : Int64} {rv : Value} (d n0 : Nat) (f1 : Int32) (f2 : Int32) (f3 : Int32) (res : Int64 × Int32 × Int32 × Int32) (K : Int64 → Int64 → Int32 → Option (Int64 × Int32 × Int32 × Int32)) (hK : ∀ (l4_45 : Int64) (l6_45 : Int64) (l8_45 : Int32), K l4_45 l6_45 l8_45 = some res → xW xks YX9_allWhole (d + 2) 0 0 n0 (xZ 0 0 n0 (some (.long res.1)) (hN res.2.1 res.2.2.1 res.2.2.2 g3 g4 g5 g6 g7 g8 g9 g10 g11 g12 g13 g14 g15 g16 g17 g18 a0 a1 a2 a3 a4 a5 a6 a7 a8 a9 w0 .null rv)) 0 0 106 [some (.ref 0), none, none, some (.int f3), some (.long l4_45), none, some (.long l6_45), none, none] [] (hN g0 g1 g2 g3 g4 g5 g6 g7 g8 g9 g10 g11 g12 g13 g14 g15 g16 g17 g18 a0 a1 a2 a3 a4 a5 a6 a7 a8 a9 w0 .null rv)) : ∀ (n : Nat) (l4_45 : Int64) (l6_45 : Int64) (l8_45 : Int32), L_hN_X9_allWhole_45 g0 g1 g2 f1 f2 f3 K n l4_45 l6_45 l8_45 = some res → xW xks YX9_allWhole (d + 2) 0 0 n0 (xZ 0 0 n0 (some (.long res.1)) (hN res.2.1 res.2.2.1 res.2.2.2 g3 g4 g5 g6 g7 g8 g9 g10 g11 g12 g13 g14 g15 g16 g17 g18 a0 a1 a2 a3 a4 a5 a6 a7 a8 a9 w0 .null rv)) 0 0 45 [some (.ref 0), some (.int f1), some (.int f2), some (.int f3), some (.long l4_45), none, some (.long l6_45), none, some (.int l8_45)] [] (hN g0 g1 g2 g3 g4 g5 g6 g7 g8 g9 g10 g11 g12 g13 g14 g15 g16 g17 g18 a0 a1 a2 a3 a4 a5 a6 a7 a8 a9 w0 .null rv) := by
  intro n
  induction n with
  | zero =>
    intro l4_45 l6_45 l8_45 h
    cases (show (none : Option (Int64 × Int32 × Int32 × Int32)) = some res from h)
  | succ n45 ih45 =>
    intro l4_45 l6_45 l8_45 h
    unfold L_hN_X9_allWhole_45 at h
    refine x_iload dX9_allWhole_45 rfl ?_
    refine x_aload_n dX9_allWhole_47 rfl ?_
    refine x_get fX9_316 dX9_allWhole_48 rfl rfl rfl ?_
    cases h
set_option maxRecDepth 100000 in
set_option maxHeartbeats 4000000 in
theorem t_hN_X9_allWhole {g0 g1 g2 g3 g4 g5 g6 g7 g8 g9 g10 g11 g12 g13 g14 g15 g16 g17 g18 : Int32} {a0 a1 a2 a3 a4 a5 a6 a7 a8 a9 : (Nat → Int32)} {w0 : Int64} {rv : Value} (x1 : Int32) (x2 : Int32) (x3 : Int32) (res : Int64 × Int32 × Int32 × Int32) (h : e_hN_X9_allWhole g0 g1 g2 x1 x2 x3 = some res) (d : Nat) : xMet xks YX9_allWhole (d + 2) 0 0 [.ref 0, .int x1, .int x2, .int x3] (hN g0 g1 g2 g3 g4 g5 g6 g7 g8 g9 g10 g11 g12 g13 g14 g15 g16 g17 g18 a0 a1 a2 a3 a4 a5 a6 a7 a8 a9 w0 .null rv) (some (.long res.1)) (hN res.2.1 res.2.2.1 res.2.2.2 g3 g4 g5 g6 g7 g8 g9 g10 g11 g12 g13 g14 g15 g16 g17 g18 a0 a1 a2 a3 a4 a5 a6 a7 a8 a9 w0 .null rv) := by
  unfold e_hN_X9_allWhole at h
  refine xMet_of (pl := [some (.ref 0), some (.int x1), some (.int x2), some (.int x3), none, none, none, none, none]) (by decide) (Nat.le_of_ble_eq_true rfl) rfl (Nat.le_of_ble_eq_true rfl) ?_
  refine x_aload_n dX9_allWhole_0 rfl ?_
  refine x_iconst (0 : Int32) dX9_allWhole_1 (by decide) ?_
  refine x_put (h2 := (hN (0 : Int32) g1 g2 g3 g4 g5 g6 g7 g8 g9 g10 g11 g12 g13 g14 g15 g16 g17 g18 a0 a1 a2 a3 a4 a5 a6 a7 a8 a9 w0 .null rv)) fX9_45 dX9_allWhole_2 rfl rfl (Nat.le_of_ble_eq_true rfl : 0 + 1 ≤ _) (fun α => ⟨rfl, rfl⟩) rfl ?_
  refine x_aload_n dX9_allWhole_5 rfl ?_
  refine x_iload_n dX9_allWhole_6 rfl ?_
  obtain ⟨z7, y7, h⟩ := xbind h
  refine x_callV (t_hN_X9_isPerson x1 z7 y7 (d + 0)) kX9_362 dX9_allWhole_7 rfl rfl rfl rfl rfl (Nat.le_of_ble_eq_true rfl) (Nat.le_of_ble_eq_true rfl) rfl rfl (Or.inl rfl) ?_
  refine x_if_ne 20 dX9_allWhole_10 (by decide) (fun q => ?_) (fun q => ?_)
  · have h := xif_f q h
    refine x_iload_n dX9_allWhole_20 rfl ?_
    refine x_iconst (0 : Int32) dX9_allWhole_21 (by decide) ?_
    refine x_iconst (1 : Int32) dX9_allWhole_22 (by decide) ?_
    obtain ⟨z23, y23, h⟩ := xbind h
    refine x_callS (t_hN_X9_in x2 (0 : Int32) (1 : Int32) z23 y23 (d + 0)) kX9_124 dX9_allWhole_23 rfl rfl (Nat.le_of_ble_eq_true rfl) (Nat.le_of_ble_eq_true rfl) rfl rfl (Or.inl rfl) ?_
    refine x_if_ne 36 dX9_allWhole_26 (by decide) (fun q => ?_) (fun q => ?_)
    · have h := xif_f q h
      refine x_lconst (1 : Int64) dX9_allWhole_36 (by decide) ?_
      refine x_lstore (pl' := [some (.ref 0), some (.int x1), some (.int x2), some (.int x3), some (.long (1 : Int64)), none, none, none, none]) dX9_allWhole_37 (by decide) rfl ?_
      refine x_lconst (1 : Int64) dX9_allWhole_39 (by decide) ?_
      refine x_lstore (pl' := [some (.ref 0), some (.int x1), some (.int x2), some (.int x3), some (.long (1 : Int64)), none, some (.long (1 : Int64)), none, none]) dX9_allWhole_40 (by decide) rfl ?_
      refine x_iconst (0 : Int32) dX9_allWhole_42 (by decide) ?_
      refine x_istore (pl' := [some (.ref 0), some (.int x1), some (.int x2), some (.int x3), some (.long (1 : Int64)), none, some (.long (1 : Int64)), none, some (.int (0 : Int32))]) dX9_allWhole_43 (by decide) rfl ?_
      refine x_weak (pl2 := [some (.ref 0), some (.int x1), some (.int x2), some (.int x3), some (.long (1 : Int64)), none, some (.long (1 : Int64)), none, some (.int (0 : Int32))]) ⟨rfl, rfl, rfl, rfl, rfl, rfl, rfl, trivial⟩ ?_
      refine lp_hN_X9_allWhole_45 d _ x1 x2 x3 res _ (fun l4_45 l6_45 l8_45 h => ?_) 200000 (1 : Int64) (1 : Int64) (0 : Int32) h
      cases h
    · have h := xif_t q h
      refine x_aload_n dX9_allWhole_29 rfl ?_
      refine x_iconst (2 : Int32) dX9_allWhole_30 (by decide) ?_
      obtain ⟨z31, y31, h⟩ := xbind h
      refine x_callV (t_hN_X9_refused (2 : Int32) z31 y31 (d + 0)) kX9_51 dX9_allWhole_31 rfl rfl rfl rfl rfl (Nat.le_of_ble_eq_true rfl) (Nat.le_of_ble_eq_true rfl) rfl rfl (Or.inl rfl) ?_
      refine x_i2l dX9_allWhole_34 ?_
      cases h
      exact x_lret2 dX9_allWhole_35 rfl rfl
  · have h := xif_t q h
    refine x_aload_n dX9_allWhole_13 rfl ?_
    refine x_iconst (1 : Int32) dX9_allWhole_14 (by decide) ?_
    obtain ⟨z15, y15, h⟩ := xbind h
    refine x_callV (t_hN_X9_refused (1 : Int32) z15 y15 (d + 0)) kX9_51 dX9_allWhole_15 rfl rfl rfl rfl rfl (Nat.le_of_ble_eq_true rfl) (Nat.le_of_ble_eq_true rfl) rfl rfl (Or.inl rfl) ?_
    refine x_i2l dX9_allWhole_18 ?_
    cases h
    exact x_lret2 dX9_allWhole_19 rfl rfl
noncomputable def e_hN_X9_divided (p0 : Int32) (p1 : Int32) (p2 : Int32) (x1 : Int32) (x2 : Int32) (x3 : Int32) : Option (Int32 × Int32 × Int32 × Int32) :=
  ((e_hN_X9_isUmbrella x1).bind fun z7 => if z7 = (0 : Int32) then ((e_hN_X9_refused p1 p2 (1 : Int32)).bind fun z15 => some (z15.1, (0 : Int32), z15.2.1, z15.2.2)) else ((e_hN_X9_in x2 (1 : Int32) (9 : Int32)).bind fun z23 => if z23 = (0 : Int32) then ((e_hN_X9_refused p1 p2 (2 : Int32)).bind fun z31 => some (z31.1, (0 : Int32), z31.2.1, z31.2.2)) else ((e_hN_X9_in x3 (0 : Int32) (x2 - (1 : Int32))).bind fun z40 => if z40 = (0 : Int32) then ((e_hN_X9_refused p1 p2 (1 : Int32)).bind fun z48 => some (z48.1, (0 : Int32), z48.2.1, z48.2.2)) else none)))
set_option maxRecDepth 100000 in
set_option maxHeartbeats 4000000 in
theorem t_hN_X9_divided {g0 g1 g2 g3 g4 g5 g6 g7 g8 g9 g10 g11 g12 g13 g14 g15 g16 g17 g18 : Int32} {a0 a1 a2 a3 a4 a5 a6 a7 a8 a9 : (Nat → Int32)} {w0 : Int64} {rv : Value} (x1 : Int32) (x2 : Int32) (x3 : Int32) (res : Int32 × Int32 × Int32 × Int32) (h : e_hN_X9_divided g0 g1 g2 x1 x2 x3 = some res) (d : Nat) : xMet xks YX9_divided (d + 2) 0 0 [.ref 0, .int x1, .int x2, .int x3] (hN g0 g1 g2 g3 g4 g5 g6 g7 g8 g9 g10 g11 g12 g13 g14 g15 g16 g17 g18 a0 a1 a2 a3 a4 a5 a6 a7 a8 a9 w0 .null rv) (some (.int res.1)) (hN res.2.1 res.2.2.1 res.2.2.2 g3 g4 g5 g6 g7 g8 g9 g10 g11 g12 g13 g14 g15 g16 g17 g18 a0 a1 a2 a3 a4 a5 a6 a7 a8 a9 w0 .null rv) := by
  unfold e_hN_X9_divided at h
  refine xMet_of (pl := [some (.ref 0), some (.int x1), some (.int x2), some (.int x3)]) (by decide) (Nat.le_of_ble_eq_true rfl) rfl (Nat.le_of_ble_eq_true rfl) ?_
  refine x_aload_n dX9_divided_0 rfl ?_
  refine x_iconst (0 : Int32) dX9_divided_1 (by decide) ?_
  refine x_put (h2 := (hN (0 : Int32) g1 g2 g3 g4 g5 g6 g7 g8 g9 g10 g11 g12 g13 g14 g15 g16 g17 g18 a0 a1 a2 a3 a4 a5 a6 a7 a8 a9 w0 .null rv)) fX9_45 dX9_divided_2 rfl rfl (Nat.le_of_ble_eq_true rfl : 0 + 1 ≤ _) (fun α => ⟨rfl, rfl⟩) rfl ?_
  refine x_aload_n dX9_divided_5 rfl ?_
  refine x_iload_n dX9_divided_6 rfl ?_
  obtain ⟨z7, y7, h⟩ := xbind h
  refine x_callV (t_hN_X9_isUmbrella x1 z7 y7 (d + 0)) kX9_359 dX9_divided_7 rfl rfl rfl rfl rfl (Nat.le_of_ble_eq_true rfl) (Nat.le_of_ble_eq_true rfl) rfl rfl (Or.inl rfl) ?_
  refine x_if_ne 19 dX9_divided_10 (by decide) (fun q => ?_) (fun q => ?_)
  · have h := xif_f q h
    refine x_iload_n dX9_divided_19 rfl ?_
    refine x_iconst (1 : Int32) dX9_divided_20 (by decide) ?_
    refine x_bipush (9 : Int32) dX9_divided_21 (by decide) ?_
    obtain ⟨z23, y23, h⟩ := xbind h
    refine x_callS (t_hN_X9_in x2 (1 : Int32) (9 : Int32) z23 y23 (d + 0)) kX9_124 dX9_divided_23 rfl rfl (Nat.le_of_ble_eq_true rfl) (Nat.le_of_ble_eq_true rfl) rfl rfl (Or.inl rfl) ?_
    refine x_if_ne 35 dX9_divided_26 (by decide) (fun q => ?_) (fun q => ?_)
    · have h := xif_f q h
      refine x_iload_n dX9_divided_35 rfl ?_
      refine x_iconst (0 : Int32) dX9_divided_36 (by decide) ?_
      refine x_iload_n dX9_divided_37 rfl ?_
      refine x_iconst (1 : Int32) dX9_divided_38 (by decide) ?_
      refine x_isub dX9_divided_39 ?_
      obtain ⟨z40, y40, h⟩ := xbind h
      refine x_callS (t_hN_X9_in x3 (0 : Int32) (x2 - (1 : Int32)) z40 y40 (d + 0)) kX9_124 dX9_divided_40 rfl rfl (Nat.le_of_ble_eq_true rfl) (Nat.le_of_ble_eq_true rfl) rfl rfl (Or.inl rfl) ?_
      refine x_if_ne 52 dX9_divided_43 (by decide) (fun q => ?_) (fun q => ?_)
      · have h := xif_f q h
        refine x_aload_n dX9_divided_52 rfl ?_
        refine x_aload_n dX9_divided_53 rfl ?_
        refine x_get fX9_316 dX9_divided_54 rfl rfl rfl ?_
        cases h
      · have h := xif_t q h
        refine x_aload_n dX9_divided_46 rfl ?_
        refine x_iconst (1 : Int32) dX9_divided_47 (by decide) ?_
        obtain ⟨z48, y48, h⟩ := xbind h
        refine x_callV (t_hN_X9_refused (1 : Int32) z48 y48 (d + 0)) kX9_51 dX9_divided_48 rfl rfl rfl rfl rfl (Nat.le_of_ble_eq_true rfl) (Nat.le_of_ble_eq_true rfl) rfl rfl (Or.inl rfl) ?_
        cases h
        exact x_iret2 dX9_divided_51 rfl rfl
    · have h := xif_t q h
      refine x_aload_n dX9_divided_29 rfl ?_
      refine x_iconst (2 : Int32) dX9_divided_30 (by decide) ?_
      obtain ⟨z31, y31, h⟩ := xbind h
      refine x_callV (t_hN_X9_refused (2 : Int32) z31 y31 (d + 0)) kX9_51 dX9_divided_31 rfl rfl rfl rfl rfl (Nat.le_of_ble_eq_true rfl) (Nat.le_of_ble_eq_true rfl) rfl rfl (Or.inl rfl) ?_
      cases h
      exact x_iret2 dX9_divided_34 rfl rfl
  · have h := xif_t q h
    refine x_aload_n dX9_divided_13 rfl ?_
    refine x_iconst (1 : Int32) dX9_divided_14 (by decide) ?_
    obtain ⟨z15, y15, h⟩ := xbind h
    refine x_callV (t_hN_X9_refused (1 : Int32) z15 y15 (d + 0)) kX9_51 dX9_divided_15 rfl rfl rfl rfl rfl (Nat.le_of_ble_eq_true rfl) (Nat.le_of_ble_eq_true rfl) rfl rfl (Or.inl rfl) ?_
    cases h
    exact x_iret2 dX9_divided_18 rfl rfl
noncomputable def e_hN_X9_lost (p0 : Int32) (p1 : Int32) (x1 : Int32) : Option (Int32 × Int32 × Int32) :=
  ((e_hN_X9_refused p0 p1 x1).bind fun z2 => some ((-100 : Int32), z2.2.1, z2.2.2))
set_option maxRecDepth 100000 in
set_option maxHeartbeats 4000000 in
theorem t_hN_X9_lost {g0 g1 g2 g3 g4 g5 g6 g7 g8 g9 g10 g11 g12 g13 g14 g15 g16 g17 g18 : Int32} {a0 a1 a2 a3 a4 a5 a6 a7 a8 a9 : (Nat → Int32)} {w0 : Int64} {rv : Value} (x1 : Int32) (res : Int32 × Int32 × Int32) (h : e_hN_X9_lost g1 g2 x1 = some res) (d : Nat) : xMet xks YX9_lost (d + 2) 0 0 [.ref 0, .int x1] (hN g0 g1 g2 g3 g4 g5 g6 g7 g8 g9 g10 g11 g12 g13 g14 g15 g16 g17 g18 a0 a1 a2 a3 a4 a5 a6 a7 a8 a9 w0 .null rv) (some (.int res.1)) (hN g0 res.2.1 res.2.2 g3 g4 g5 g6 g7 g8 g9 g10 g11 g12 g13 g14 g15 g16 g17 g18 a0 a1 a2 a3 a4 a5 a6 a7 a8 a9 w0 .null rv) := by
  unfold e_hN_X9_lost at h
  refine xMet_of (pl := [some (.ref 0), some (.int x1)]) (by decide) (Nat.le_of_ble_eq_true rfl) rfl (Nat.le_of_ble_eq_true rfl) ?_
  refine x_aload_n dX9_lost_0 rfl ?_
  refine x_iload_n dX9_lost_1 rfl ?_
  obtain ⟨z2, y2, h⟩ := xbind h
  refine x_callV (t_hN_X9_refused x1 z2 y2 (d + 0)) kX9_51 dX9_lost_2 rfl rfl rfl rfl rfl (Nat.le_of_ble_eq_true rfl) (Nat.le_of_ble_eq_true rfl) rfl rfl (Or.inl rfl) ?_
  refine x_pop dX9_lost_5 rfl ?_
  refine x_bipush (-100 : Int32) dX9_lost_6 (by decide) ?_
  cases h
  exact x_iret2 dX9_lost_8 rfl rfl
noncomputable def e_hN_X9_heirs (p0 : Int32) (p1 : Int32) (p2 : Int32) (x1 : Int32) (x2 : Int32) (x3 : Int32) (x4 : Int32) : Option (Int32 × Int32 × Int32 × Int32) :=
  ((e_hN_X9_lost p1 p2 (1 : Int32)).bind fun z14 => some (z14.1, (0 : Int32), z14.2.1, z14.2.2))
set_option maxRecDepth 100000 in
set_option maxHeartbeats 4000000 in
theorem t_hN_X9_heirs {g0 g1 g2 g3 g4 g5 g6 g7 g8 g9 g10 g11 g12 g13 g14 g15 g16 g17 g18 : Int32} {a0 a1 a2 a3 a4 a5 a6 a7 a8 a9 : (Nat → Int32)} {w0 : Int64} {rv : Value} (x1 : Int32) (x2 : Int32) (x3 : Int32) (x4 : Int32) (res : Int32 × Int32 × Int32 × Int32) (h : e_hN_X9_heirs g0 g1 g2 x1 x2 x3 x4 = some res) (d : Nat) : xMet xks YX9_heirs (d + 3) 0 0 [.ref 0, .int x1, .int x2, .int x3, .int x4] (hN g0 g1 g2 g3 g4 g5 g6 g7 g8 g9 g10 g11 g12 g13 g14 g15 g16 g17 g18 a0 a1 a2 a3 a4 a5 a6 a7 a8 a9 w0 .null rv) (some (.int res.1)) (hN res.2.1 res.2.2.1 res.2.2.2 g3 g4 g5 g6 g7 g8 g9 g10 g11 g12 g13 g14 g15 g16 g17 g18 a0 a1 a2 a3 a4 a5 a6 a7 a8 a9 w0 .null rv) := by
  unfold e_hN_X9_heirs at h
  refine xMet_of (pl := [some (.ref 0), some (.int x1), some (.int x2), some (.int x3), some (.int x4)]) (by decide) (Nat.le_of_ble_eq_true rfl) rfl (Nat.le_of_ble_eq_true rfl) ?_
  refine x_aload_n dX9_heirs_0 rfl ?_
  refine x_iconst (0 : Int32) dX9_heirs_1 (by decide) ?_
  refine x_put (h2 := (hN (0 : Int32) g1 g2 g3 g4 g5 g6 g7 g8 g9 g10 g11 g12 g13 g14 g15 g16 g17 g18 a0 a1 a2 a3 a4 a5 a6 a7 a8 a9 w0 .null rv)) fX9_45 dX9_heirs_2 rfl rfl (Nat.le_of_ble_eq_true rfl : 0 + 1 ≤ _) (fun α => ⟨rfl, rfl⟩) rfl ?_
  refine x_aload_n dX9_heirs_5 rfl ?_
  refine x_get fX9_316 dX9_heirs_6 rfl rfl rfl ?_
  refine x_ifnonnullN dX9_heirs_9 ?_
  refine x_aload_n dX9_heirs_12 rfl ?_
  refine x_iconst (1 : Int32) dX9_heirs_13 (by decide) ?_
  obtain ⟨z14, y14, h⟩ := xbind h
  refine x_callV (t_hN_X9_lost (1 : Int32) z14 y14 (d + 0)) kX9_453 dX9_heirs_14 rfl rfl rfl rfl rfl (Nat.le_of_ble_eq_true rfl) (Nat.le_of_ble_eq_true rfl) rfl rfl (Or.inl rfl) ?_
  cases h
  exact x_iret2 dX9_heirs_17 rfl rfl
noncomputable def e_hN_X9_refusesRests  (x1 : Int32) : Option (Int32) :=
  some (1 : Int32)
set_option maxRecDepth 100000 in
set_option maxHeartbeats 4000000 in
theorem t_hN_X9_refusesRests {g0 g1 g2 g3 g4 g5 g6 g7 g8 g9 g10 g11 g12 g13 g14 g15 g16 g17 g18 : Int32} {a0 a1 a2 a3 a4 a5 a6 a7 a8 a9 : (Nat → Int32)} {w0 : Int64} {rv : Value} (x1 : Int32) (res : Int32) (h : e_hN_X9_refusesRests  x1 = some res) (d : Nat) : xMet xks YX9_refusesRests (d + 1) 0 0 [.ref 0, .int x1] (hN g0 g1 g2 g3 g4 g5 g6 g7 g8 g9 g10 g11 g12 g13 g14 g15 g16 g17 g18 a0 a1 a2 a3 a4 a5 a6 a7 a8 a9 w0 .null rv) (some (.int res)) (hN g0 g1 g2 g3 g4 g5 g6 g7 g8 g9 g10 g11 g12 g13 g14 g15 g16 g17 g18 a0 a1 a2 a3 a4 a5 a6 a7 a8 a9 w0 .null rv) := by
  unfold e_hN_X9_refusesRests at h
  refine xMet_of (pl := [some (.ref 0), some (.int x1)]) (by decide) (Nat.le_of_ble_eq_true rfl) rfl (Nat.le_of_ble_eq_true rfl) ?_
  refine x_aload_n dX9_refusesRests_0 rfl ?_
  refine x_get fX9_316 dX9_refusesRests_1 rfl rfl rfl ?_
  refine x_ifnonnullN dX9_refusesRests_4 ?_
  refine x_iconst (1 : Int32) dX9_refusesRests_7 (by decide) ?_
  refine x_goto 26 dX9_refusesRests_8 (by decide) ?_
  cases h
  exact x_iret2 dX9_refusesRests_26 rfl rfl
noncomputable def e_hN_X9_gets  (x0 : Int32) (x1 : Int32) (x2 : Int32) : Option (Int32) :=
  if x1 ≤ x2 then if x1 = x2 then some ((x0 / (2 : Int32)) - ((2 : Int32) * x1)) else some ((0 : Int32) - ((2 : Int32) * x1)) else some (x0 - ((2 : Int32) * x1))
set_option maxRecDepth 100000 in
set_option maxHeartbeats 4000000 in
theorem t_hN_X9_gets {g0 g1 g2 g3 g4 g5 g6 g7 g8 g9 g10 g11 g12 g13 g14 g15 g16 g17 g18 : Int32} {a0 a1 a2 a3 a4 a5 a6 a7 a8 a9 : (Nat → Int32)} {w0 : Int64} {rv : Value} (x0 : Int32) (x1 : Int32) (x2 : Int32) (res : Int32) (h : e_hN_X9_gets  x0 x1 x2 = some res) (d : Nat) : xMet xks YX9_gets (d + 1) 0 0 [.int x0, .int x1, .int x2] (hN g0 g1 g2 g3 g4 g5 g6 g7 g8 g9 g10 g11 g12 g13 g14 g15 g16 g17 g18 a0 a1 a2 a3 a4 a5 a6 a7 a8 a9 w0 .null rv) (some (.int res)) (hN g0 g1 g2 g3 g4 g5 g6 g7 g8 g9 g10 g11 g12 g13 g14 g15 g16 g17 g18 a0 a1 a2 a3 a4 a5 a6 a7 a8 a9 w0 .null rv) := by
  unfold e_hN_X9_gets at h
  refine xMet_of (pl := [some (.int x0), some (.int x1), some (.int x2)]) (by decide) (Nat.le_of_ble_eq_true rfl) rfl (Nat.le_of_ble_eq_true rfl) ?_
  refine x_iload_n dX9_gets_0 rfl ?_
  refine x_iload_n dX9_gets_1 rfl ?_
  refine x_icmp_le 9 dX9_gets_2 (by decide) (fun q => ?_) (fun q => ?_)
  · have h := xif_t q h
    refine x_iload_n dX9_gets_9 rfl ?_
    refine x_iload_n dX9_gets_10 rfl ?_
    refine x_icmp_ne 20 dX9_gets_11 (by decide) (fun q => ?_) (fun q => ?_)
    · have h := xif_f q h
      refine x_iconst (0 : Int32) dX9_gets_20 (by decide) ?_
      refine x_iconst (2 : Int32) dX9_gets_21 (by decide) ?_
      refine x_iload_n dX9_gets_22 rfl ?_
      refine x_imul dX9_gets_23 ?_
      refine x_isub dX9_gets_24 ?_
      cases h
      exact x_iret2 dX9_gets_25 rfl rfl
    · have h := xif_t q h
      refine x_iload_n dX9_gets_14 rfl ?_
      refine x_iconst (2 : Int32) dX9_gets_15 (by decide) ?_
      refine x_idiv dX9_gets_16 (by decide) ?_
      refine x_goto 21 dX9_gets_17 (by decide) ?_
      refine x_iconst (2 : Int32) dX9_gets_21 (by decide) ?_
      refine x_iload_n dX9_gets_22 rfl ?_
      refine x_imul dX9_gets_23 ?_
      refine x_isub dX9_gets_24 ?_
      cases h
      exact x_iret2 dX9_gets_25 rfl rfl
  · have h := xif_f q h
    refine x_iload_n dX9_gets_5 rfl ?_
    refine x_goto 21 dX9_gets_6 (by decide) ?_
    refine x_iconst (2 : Int32) dX9_gets_21 (by decide) ?_
    refine x_iload_n dX9_gets_22 rfl ?_
    refine x_imul dX9_gets_23 ?_
    refine x_isub dX9_gets_24 ?_
    cases h
    exact x_iret2 dX9_gets_25 rfl rfl
noncomputable def L_hN_X9_isRest_2   (f0 : Int32) (f1 : Int32) (f2 : Int32) (K : Int32 → Option (Int32)) : Nat → Int32 → Option (Int32)
  | 0, _ => none
  | n2 + 1, l3_2 => if (7 : Int32) ≤ l3_2 then K l3_2 else ((e_hN_X9_gets f0 l3_2 f2).bind fun z11 => (e_hN_X9_gets f0 f1 f2).bind fun z17 => if z17 < z11 then some (0 : Int32) else ((e_hN_X9_gets f0 l3_2 f1).bind fun z26 => (e_hN_X9_gets f0 f2 f1).bind fun z32 => if z26 ≤ z32 then L_hN_X9_isRest_2  f0 f1 f2 K n2 (l3_2 + (1 : Int32)) else some (0 : Int32)))
noncomputable def e_hN_X9_isRest  (x0 : Int32) (x1 : Int32) (x2 : Int32) : Option (Int32) :=
  L_hN_X9_isRest_2  x0 x1 x2 (fun l3_2 => some (1 : Int32)) 200000 (0 : Int32)
set_option maxRecDepth 100000 in
set_option maxHeartbeats 4000000 in
theorem lp_hN_X9_isRest_2 {g0 g1 g2 g3 g4 g5 g6 g7 g8 g9 g10 g11 g12 g13 g14 g15 g16 g17 g18 : Int32} {a0 a1 a2 a3 a4 a5 a6 a7 a8 a9 : (Nat → Int32)} {w0 : Int64} {rv : Value} (d n0 : Nat) (f0 : Int32) (f1 : Int32) (f2 : Int32) (res : Int32) (K : Int32 → Option (Int32)) (hK : ∀ (l3_2 : Int32), K l3_2 = some res → xW xks YX9_isRest (d + 2) 0 0 n0 (xZ 0 0 n0 (some (.int res)) (hN g0 g1 g2 g3 g4 g5 g6 g7 g8 g9 g10 g11 g12 g13 g14 g15 g16 g17 g18 a0 a1 a2 a3 a4 a5 a6 a7 a8 a9 w0 .null rv)) 0 0 46 [none, none, none, none] [] (hN g0 g1 g2 g3 g4 g5 g6 g7 g8 g9 g10 g11 g12 g13 g14 g15 g16 g17 g18 a0 a1 a2 a3 a4 a5 a6 a7 a8 a9 w0 .null rv)) : ∀ (n : Nat) (l3_2 : Int32), L_hN_X9_isRest_2  f0 f1 f2 K n l3_2 = some res → xW xks YX9_isRest (d + 2) 0 0 n0 (xZ 0 0 n0 (some (.int res)) (hN g0 g1 g2 g3 g4 g5 g6 g7 g8 g9 g10 g11 g12 g13 g14 g15 g16 g17 g18 a0 a1 a2 a3 a4 a5 a6 a7 a8 a9 w0 .null rv)) 0 0 2 [some (.int f0), some (.int f1), some (.int f2), some (.int l3_2)] [] (hN g0 g1 g2 g3 g4 g5 g6 g7 g8 g9 g10 g11 g12 g13 g14 g15 g16 g17 g18 a0 a1 a2 a3 a4 a5 a6 a7 a8 a9 w0 .null rv) := by
  intro n
  induction n with
  | zero =>
    intro l3_2 h
    cases (show (none : Option (Int32)) = some res from h)
  | succ n2 ih2 =>
    intro l3_2 h
    unfold L_hN_X9_isRest_2 at h
    refine x_iload_n dX9_isRest_2 rfl ?_
    refine x_bipush (7 : Int32) dX9_isRest_3 (by decide) ?_
    refine x_icmp_ge 46 dX9_isRest_5 (by decide) (fun q => ?_) (fun q => ?_)
    · have h := xif_t q h
      refine x_weak (pl2 := [none, none, none, none]) trivial ?_
      exact hK l3_2 h
    · have h := xif_f q h
      refine x_iload_n dX9_isRest_8 rfl ?_
      refine x_iload_n dX9_isRest_9 rfl ?_
      refine x_iload_n dX9_isRest_10 rfl ?_
      obtain ⟨z11, y11, h⟩ := xbind h
      refine x_callS (t_hN_X9_gets f0 l3_2 f2 z11 y11 (d + 0)) kX9_456 dX9_isRest_11 rfl rfl (Nat.le_of_ble_eq_true rfl) (Nat.le_of_ble_eq_true rfl) rfl rfl (Or.inl rfl) ?_
      refine x_iload_n dX9_isRest_14 rfl ?_
      refine x_iload_n dX9_isRest_15 rfl ?_
      refine x_iload_n dX9_isRest_16 rfl ?_
      obtain ⟨z17, y17, h⟩ := xbind h
      refine x_callS (t_hN_X9_gets f0 f1 f2 z17 y17 (d + 0)) kX9_456 dX9_isRest_17 rfl rfl (Nat.le_of_ble_eq_true rfl) (Nat.le_of_ble_eq_true rfl) rfl rfl (Or.inl rfl) ?_
      refine x_icmp_gt 38 dX9_isRest_20 (by decide) (fun q => ?_) (fun q => ?_)
      · have h := xif_t q h
        refine x_iconst (0 : Int32) dX9_isRest_38 (by decide) ?_
        cases h
        exact x_zret2 dX9_isRest_39 rfl rfl rfl
      · have h := xif_f q h
        refine x_iload_n dX9_isRest_23 rfl ?_
        refine x_iload_n dX9_isRest_24 rfl ?_
        refine x_iload_n dX9_isRest_25 rfl ?_
        obtain ⟨z26, y26, h⟩ := xbind h
        refine x_callS (t_hN_X9_gets f0 l3_2 f1 z26 y26 (d + 0)) kX9_456 dX9_isRest_26 rfl rfl (Nat.le_of_ble_eq_true rfl) (Nat.le_of_ble_eq_true rfl) rfl rfl (Or.inl rfl) ?_
        refine x_iload_n dX9_isRest_29 rfl ?_
        refine x_iload_n dX9_isRest_30 rfl ?_
        refine x_iload_n dX9_isRest_31 rfl ?_
        obtain ⟨z32, y32, h⟩ := xbind h
        refine x_callS (t_hN_X9_gets f0 f2 f1 z32 y32 (d + 0)) kX9_456 dX9_isRest_32 rfl rfl (Nat.le_of_ble_eq_true rfl) (Nat.le_of_ble_eq_true rfl) rfl rfl (Or.inl rfl) ?_
        refine x_icmp_le 40 dX9_isRest_35 (by decide) (fun q => ?_) (fun q => ?_)
        · have h := xif_t q h
          refine x_iincK (1 : Int32) (pl' := [some (.int f0), some (.int f1), some (.int f2), some (.int (l3_2 + (1 : Int32)))]) dX9_isRest_40 rfl (by decide) (by decide) rfl ?_
          refine x_goto 2 dX9_isRest_43 (by decide) ?_
          refine x_weak (pl2 := [some (.int f0), some (.int f1), some (.int f2), some (.int (l3_2 + (1 : Int32)))]) ⟨rfl, rfl, rfl, rfl, trivial⟩ ?_
          exact ih2 (l3_2 + (1 : Int32)) h
        · have h := xif_f q h
          refine x_iconst (0 : Int32) dX9_isRest_38 (by decide) ?_
          cases h
          exact x_zret2 dX9_isRest_39 rfl rfl rfl
set_option maxRecDepth 100000 in
set_option maxHeartbeats 4000000 in
theorem t_hN_X9_isRest {g0 g1 g2 g3 g4 g5 g6 g7 g8 g9 g10 g11 g12 g13 g14 g15 g16 g17 g18 : Int32} {a0 a1 a2 a3 a4 a5 a6 a7 a8 a9 : (Nat → Int32)} {w0 : Int64} {rv : Value} (x0 : Int32) (x1 : Int32) (x2 : Int32) (res : Int32) (h : e_hN_X9_isRest  x0 x1 x2 = some res) (d : Nat) : xMet xks YX9_isRest (d + 2) 0 0 [.int x0, .int x1, .int x2] (hN g0 g1 g2 g3 g4 g5 g6 g7 g8 g9 g10 g11 g12 g13 g14 g15 g16 g17 g18 a0 a1 a2 a3 a4 a5 a6 a7 a8 a9 w0 .null rv) (some (.int res)) (hN g0 g1 g2 g3 g4 g5 g6 g7 g8 g9 g10 g11 g12 g13 g14 g15 g16 g17 g18 a0 a1 a2 a3 a4 a5 a6 a7 a8 a9 w0 .null rv) := by
  unfold e_hN_X9_isRest at h
  refine xMet_of (pl := [some (.int x0), some (.int x1), some (.int x2), none]) (by decide) (Nat.le_of_ble_eq_true rfl) rfl (Nat.le_of_ble_eq_true rfl) ?_
  refine x_iconst (0 : Int32) dX9_isRest_0 (by decide) ?_
  refine x_istore_n (pl' := [some (.int x0), some (.int x1), some (.int x2), some (.int (0 : Int32))]) dX9_isRest_1 (by decide) rfl ?_
  refine x_weak (pl2 := [some (.int x0), some (.int x1), some (.int x2), some (.int (0 : Int32))]) ⟨rfl, rfl, rfl, rfl, trivial⟩ ?_
  refine lp_hN_X9_isRest_2 d _ x0 x1 x2 res _ (fun l3_2 h => ?_) 200000 (0 : Int32) h
  refine x_iconst (1 : Int32) dX9_isRest_46 (by decide) ?_
  cases h
  exact x_zret2 dX9_isRest_47 rfl rfl rfl
noncomputable def L_hN_X9_rests_26 (p0 : Int32) (p1 : Int32) (p2 : Int32)  (f1 : Int32) (K : Int32 → Int32 → Option (Int32 × Int32 × Int32 × Int32)) : Nat → Int32 → Int32 → Option (Int32 × Int32 × Int32 × Int32)
  | 0, _, _ => none
  | n26 + 1, l3_26, l4_26 => if (49 : Int32) ≤ l4_26 then K l3_26 l4_26 else ((e_hN_X9_isRest f1 (l4_26 / (7 : Int32)) (l4_26 - l4_26 / (7 : Int32) * (7 : Int32))).bind fun z45 => if z45 = (0 : Int32) then L_hN_X9_rests_26 p0 p1 p2 f1 K n26 (l3_26 + (0 : Int32)) (l4_26 + (1 : Int32)) else L_hN_X9_rests_26 p0 p1 p2 f1 K n26 (l3_26 + (1 : Int32)) (l4_26 + (1 : Int32)))
noncomputable def e_hN_X9_rests (p0 : Int32) (p1 : Int32) (p2 : Int32) (x1 : Int32) : Option (Int32 × Int32 × Int32 × Int32) :=
  ((e_hN_X9_refusesRests x1).bind fun z7 => if z7 ≤ (0 : Int32) then L_hN_X9_rests_26 (0 : Int32) p1 p2 x1 (fun l3_26 l4_26 => ((e_hN_X9_good p1 p2 l3_26).bind fun z66 => some (z66.1, (0 : Int32), z66.2.1, z66.2.2))) 200000 (0 : Int32) (0 : Int32) else ((e_hN_X9_refused p1 p2 z7).bind fun z17 => some (z17.1, (0 : Int32), z17.2.1, z17.2.2)))
set_option maxRecDepth 100000 in
set_option maxHeartbeats 4000000 in
theorem lp_hN_X9_rests_26 {g0 g1 g2 g3 g4 g5 g6 g7 g8 g9 g10 g11 g12 g13 g14 g15 g16 g17 g18 : Int32} {a0 a1 a2 a3 a4 a5 a6 a7 a8 a9 : (Nat → Int32)} {w0 : Int64} {rv : Value} (d n0 : Nat) (f1 : Int32) (res : Int32 × Int32 × Int32 × Int32) (K : Int32 → Int32 → Option (Int32 × Int32 × Int32 × Int32)) (hK : ∀ (l3_26 : Int32) (l4_26 : Int32), K l3_26 l4_26 = some res → xW xks YX9_rests (d + 3) 0 0 n0 (xZ 0 0 n0 (some (.int res.1)) (hN res.2.1 res.2.2.1 res.2.2.2 g3 g4 g5 g6 g7 g8 g9 g10 g11 g12 g13 g14 g15 g16 g17 g18 a0 a1 a2 a3 a4 a5 a6 a7 a8 a9 w0 .null rv)) 0 0 64 [some (.ref 0), none, none, some (.int l3_26), none] [] (hN g0 g1 g2 g3 g4 g5 g6 g7 g8 g9 g10 g11 g12 g13 g14 g15 g16 g17 g18 a0 a1 a2 a3 a4 a5 a6 a7 a8 a9 w0 .null rv)) : ∀ (n : Nat) (l3_26 : Int32) (l4_26 : Int32), L_hN_X9_rests_26 g0 g1 g2 f1 K n l3_26 l4_26 = some res → xW xks YX9_rests (d + 3) 0 0 n0 (xZ 0 0 n0 (some (.int res.1)) (hN res.2.1 res.2.2.1 res.2.2.2 g3 g4 g5 g6 g7 g8 g9 g10 g11 g12 g13 g14 g15 g16 g17 g18 a0 a1 a2 a3 a4 a5 a6 a7 a8 a9 w0 .null rv)) 0 0 26 [some (.ref 0), some (.int f1), none, some (.int l3_26), some (.int l4_26)] [] (hN g0 g1 g2 g3 g4 g5 g6 g7 g8 g9 g10 g11 g12 g13 g14 g15 g16 g17 g18 a0 a1 a2 a3 a4 a5 a6 a7 a8 a9 w0 .null rv) := by
  intro n
  induction n with
  | zero =>
    intro l3_26 l4_26 h
    cases (show (none : Option (Int32 × Int32 × Int32 × Int32)) = some res from h)
  | succ n26 ih26 =>
    intro l3_26 l4_26 h
    unfold L_hN_X9_rests_26 at h
    refine x_iload dX9_rests_26 rfl ?_
    refine x_bipush (49 : Int32) dX9_rests_28 (by decide) ?_
    refine x_icmp_ge 64 dX9_rests_30 (by decide) (fun q => ?_) (fun q => ?_)
    · have h := xif_t q h
      refine x_weak (pl2 := [some (.ref 0), none, none, some (.int l3_26), none]) ⟨rfl, rfl, trivial⟩ ?_
      exact hK l3_26 l4_26 h
    · have h := xif_f q h
      refine x_iload_n dX9_rests_33 rfl ?_
      refine x_iload_n dX9_rests_34 rfl ?_
      refine x_iload dX9_rests_35 rfl ?_
      refine x_bipush (7 : Int32) dX9_rests_37 (by decide) ?_
      refine x_idiv dX9_rests_39 (by decide) ?_
      refine x_iload dX9_rests_40 rfl ?_
      refine x_bipush (7 : Int32) dX9_rests_42 (by decide) ?_
      refine x_irem dX9_rests_44 (by decide) ?_
      obtain ⟨z45, y45, h⟩ := xbind h
      refine x_callS (t_hN_X9_isRest f1 (l4_26 / (7 : Int32)) (l4_26 - l4_26 / (7 : Int32) * (7 : Int32)) z45 y45 (d + 0)) kX9_462 dX9_rests_45 rfl rfl (Nat.le_of_ble_eq_true rfl) (Nat.le_of_ble_eq_true rfl) rfl rfl (Or.inl rfl) ?_
      refine x_if_eq 55 dX9_rests_48 (by decide) (fun q => ?_) (fun q => ?_)
      · have h := xif_t q h
        refine x_iconst (0 : Int32) dX9_rests_55 (by decide) ?_
        refine x_iadd dX9_rests_56 ?_
        refine x_istore_n (pl' := [some (.ref 0), some (.int f1), none, some (.int (l3_26 + (0 : Int32))), some (.int l4_26)]) dX9_rests_57 (by decide) rfl ?_
        refine x_iincK (1 : Int32) (pl' := [some (.ref 0), some (.int f1), none, some (.int (l3_26 + (0 : Int32))), some (.int (l4_26 + (1 : Int32)))]) dX9_rests_58 rfl (by decide) (by decide) rfl ?_
        refine x_goto 26 dX9_rests_61 (by decide) ?_
        refine x_weak (pl2 := [some (.ref 0), some (.int f1), none, some (.int (l3_26 + (0 : Int32))), some (.int (l4_26 + (1 : Int32)))]) ⟨rfl, rfl, rfl, rfl, trivial⟩ ?_
        exact ih26 (l3_26 + (0 : Int32)) (l4_26 + (1 : Int32)) h
      · have h := xif_f q h
        refine x_iconst (1 : Int32) dX9_rests_51 (by decide) ?_
        refine x_goto 56 dX9_rests_52 (by decide) ?_
        refine x_iadd dX9_rests_56 ?_
        refine x_istore_n (pl' := [some (.ref 0), some (.int f1), none, some (.int (l3_26 + (1 : Int32))), some (.int l4_26)]) dX9_rests_57 (by decide) rfl ?_
        refine x_iincK (1 : Int32) (pl' := [some (.ref 0), some (.int f1), none, some (.int (l3_26 + (1 : Int32))), some (.int (l4_26 + (1 : Int32)))]) dX9_rests_58 rfl (by decide) (by decide) rfl ?_
        refine x_goto 26 dX9_rests_61 (by decide) ?_
        refine x_weak (pl2 := [some (.ref 0), some (.int f1), none, some (.int (l3_26 + (1 : Int32))), some (.int (l4_26 + (1 : Int32)))]) ⟨rfl, rfl, rfl, rfl, trivial⟩ ?_
        exact ih26 (l3_26 + (1 : Int32)) (l4_26 + (1 : Int32)) h
set_option maxRecDepth 100000 in
set_option maxHeartbeats 4000000 in
theorem t_hN_X9_rests {g0 g1 g2 g3 g4 g5 g6 g7 g8 g9 g10 g11 g12 g13 g14 g15 g16 g17 g18 : Int32} {a0 a1 a2 a3 a4 a5 a6 a7 a8 a9 : (Nat → Int32)} {w0 : Int64} {rv : Value} (x1 : Int32) (res : Int32 × Int32 × Int32 × Int32) (h : e_hN_X9_rests g0 g1 g2 x1 = some res) (d : Nat) : xMet xks YX9_rests (d + 3) 0 0 [.ref 0, .int x1] (hN g0 g1 g2 g3 g4 g5 g6 g7 g8 g9 g10 g11 g12 g13 g14 g15 g16 g17 g18 a0 a1 a2 a3 a4 a5 a6 a7 a8 a9 w0 .null rv) (some (.int res.1)) (hN res.2.1 res.2.2.1 res.2.2.2 g3 g4 g5 g6 g7 g8 g9 g10 g11 g12 g13 g14 g15 g16 g17 g18 a0 a1 a2 a3 a4 a5 a6 a7 a8 a9 w0 .null rv) := by
  unfold e_hN_X9_rests at h
  refine xMet_of (pl := [some (.ref 0), some (.int x1), none, none, none]) (by decide) (Nat.le_of_ble_eq_true rfl) rfl (Nat.le_of_ble_eq_true rfl) ?_
  refine x_aload_n dX9_rests_0 rfl ?_
  refine x_iconst (0 : Int32) dX9_rests_1 (by decide) ?_
  refine x_put (h2 := (hN (0 : Int32) g1 g2 g3 g4 g5 g6 g7 g8 g9 g10 g11 g12 g13 g14 g15 g16 g17 g18 a0 a1 a2 a3 a4 a5 a6 a7 a8 a9 w0 .null rv)) fX9_45 dX9_rests_2 rfl rfl (Nat.le_of_ble_eq_true rfl : 0 + 1 ≤ _) (fun α => ⟨rfl, rfl⟩) rfl ?_
  refine x_aload_n dX9_rests_5 rfl ?_
  refine x_iload_n dX9_rests_6 rfl ?_
  obtain ⟨z7, y7, h⟩ := xbind h
  refine x_callV (t_hN_X9_refusesRests x1 z7 y7 (d + 1)) kX9_459 dX9_rests_7 rfl rfl rfl rfl rfl (Nat.le_of_ble_eq_true rfl) (Nat.le_of_ble_eq_true rfl) rfl rfl (Or.inl rfl) ?_
  refine x_istore_n (pl' := [some (.ref 0), some (.int x1), some (.int z7), none, none]) dX9_rests_10 (by decide) rfl ?_
  refine x_iload_n dX9_rests_11 rfl ?_
  refine x_if_le 21 dX9_rests_12 (by decide) (fun q => ?_) (fun q => ?_)
  · have h := xif_t q h
    refine x_iconst (0 : Int32) dX9_rests_21 (by decide) ?_
    refine x_istore_n (pl' := [some (.ref 0), some (.int x1), some (.int z7), some (.int (0 : Int32)), none]) dX9_rests_22 (by decide) rfl ?_
    refine x_iconst (0 : Int32) dX9_rests_23 (by decide) ?_
    refine x_istore (pl' := [some (.ref 0), some (.int x1), some (.int z7), some (.int (0 : Int32)), some (.int (0 : Int32))]) dX9_rests_24 (by decide) rfl ?_
    refine x_weak (pl2 := [some (.ref 0), some (.int x1), none, some (.int (0 : Int32)), some (.int (0 : Int32))]) ⟨rfl, rfl, rfl, rfl, trivial⟩ ?_
    refine lp_hN_X9_rests_26 d _ x1 res _ (fun l3_26 l4_26 h => ?_) 200000 (0 : Int32) (0 : Int32) h
    refine x_aload_n dX9_rests_64 rfl ?_
    refine x_iload_n dX9_rests_65 rfl ?_
    obtain ⟨z66, y66, h⟩ := xbind h
    refine x_callV (t_hN_X9_good l3_26 z66 y66 (d + 1)) kX9_55 dX9_rests_66 rfl rfl rfl rfl rfl (Nat.le_of_ble_eq_true rfl) (Nat.le_of_ble_eq_true rfl) rfl rfl (Or.inl rfl) ?_
    cases h
    exact x_iret2 dX9_rests_69 rfl rfl
  · have h := xif_f q h
    refine x_aload_n dX9_rests_15 rfl ?_
    refine x_iload_n dX9_rests_16 rfl ?_
    obtain ⟨z17, y17, h⟩ := xbind h
    refine x_callV (t_hN_X9_refused z7 z17 y17 (d + 1)) kX9_51 dX9_rests_17 rfl rfl rfl rfl rfl (Nat.le_of_ble_eq_true rfl) (Nat.le_of_ble_eq_true rfl) rfl rfl (Or.inl rfl) ?_
    cases h
    exact x_iret2 dX9_rests_20 rfl rfl
noncomputable def L_hN_X9_rest_23 (p0 : Int32) (p1 : Int32) (p2 : Int32)  (f1 : Int32) (K : Int32 → Option (Int32 × Int32 × Int32 × Int32)) : Nat → Int32 → Option (Int32 × Int32 × Int32 × Int32)
  | 0, _ => none
  | n23 + 1, l3_23 => if (49 : Int32) ≤ l3_23 then K l3_23 else ((e_hN_X9_isRest f1 (l3_23 / (7 : Int32)) (l3_23 - l3_23 / (7 : Int32) * (7 : Int32))).bind fun z38 => if z38 = (0 : Int32) then L_hN_X9_rest_23 p0 p1 p2 f1 K n23 (l3_23 + (1 : Int32)) else ((e_hN_X9_good p1 p2 (((10 : Int32) * (l3_23 / (7 : Int32))) + (l3_23 - l3_23 / (7 : Int32) * (7 : Int32)))).bind fun z57 => some (z57.1, p0, z57.2.1, z57.2.2)))
noncomputable def e_hN_X9_rest (p0 : Int32) (p1 : Int32) (p2 : Int32) (x1 : Int32) : Option (Int32 × Int32 × Int32 × Int32) :=
  ((e_hN_X9_refusesRests x1).bind fun z7 => if z7 ≤ (0 : Int32) then L_hN_X9_rest_23 (0 : Int32) p1 p2 x1 (fun l3_23 => ((e_hN_X9_good p1 p2 (-2 : Int32)).bind fun z70 => some (z70.1, (0 : Int32), z70.2.1, z70.2.2))) 200000 (0 : Int32) else ((e_hN_X9_refused p1 p2 z7).bind fun z17 => some (z17.1, (0 : Int32), z17.2.1, z17.2.2)))
set_option maxRecDepth 100000 in
set_option maxHeartbeats 4000000 in
theorem lp_hN_X9_rest_23 {g0 g1 g2 g3 g4 g5 g6 g7 g8 g9 g10 g11 g12 g13 g14 g15 g16 g17 g18 : Int32} {a0 a1 a2 a3 a4 a5 a6 a7 a8 a9 : (Nat → Int32)} {w0 : Int64} {rv : Value} (d n0 : Nat) (f1 : Int32) (res : Int32 × Int32 × Int32 × Int32) (K : Int32 → Option (Int32 × Int32 × Int32 × Int32)) (hK : ∀ (l3_23 : Int32), K l3_23 = some res → xW xks YX9_rest (d + 3) 0 0 n0 (xZ 0 0 n0 (some (.int res.1)) (hN res.2.1 res.2.2.1 res.2.2.2 g3 g4 g5 g6 g7 g8 g9 g10 g11 g12 g13 g14 g15 g16 g17 g18 a0 a1 a2 a3 a4 a5 a6 a7 a8 a9 w0 .null rv)) 0 0 67 [some (.ref 0), none, none, none] [] (hN g0 g1 g2 g3 g4 g5 g6 g7 g8 g9 g10 g11 g12 g13 g14 g15 g16 g17 g18 a0 a1 a2 a3 a4 a5 a6 a7 a8 a9 w0 .null rv)) : ∀ (n : Nat) (l3_23 : Int32), L_hN_X9_rest_23 g0 g1 g2 f1 K n l3_23 = some res → xW xks YX9_rest (d + 3) 0 0 n0 (xZ 0 0 n0 (some (.int res.1)) (hN res.2.1 res.2.2.1 res.2.2.2 g3 g4 g5 g6 g7 g8 g9 g10 g11 g12 g13 g14 g15 g16 g17 g18 a0 a1 a2 a3 a4 a5 a6 a7 a8 a9 w0 .null rv)) 0 0 23 [some (.ref 0), some (.int f1), none, some (.int l3_23)] [] (hN g0 g1 g2 g3 g4 g5 g6 g7 g8 g9 g10 g11 g12 g13 g14 g15 g16 g17 g18 a0 a1 a2 a3 a4 a5 a6 a7 a8 a9 w0 .null rv) := by
  intro n
  induction n with
  | zero =>
    intro l3_23 h
    cases (show (none : Option (Int32 × Int32 × Int32 × Int32)) = some res from h)
  | succ n23 ih23 =>
    intro l3_23 h
    unfold L_hN_X9_rest_23 at h
    refine x_iload_n dX9_rest_23 rfl ?_
    refine x_bipush (49 : Int32) dX9_rest_24 (by decide) ?_
    refine x_icmp_ge 67 dX9_rest_26 (by decide) (fun q => ?_) (fun q => ?_)
    · have h := xif_t q h
      refine x_weak (pl2 := [some (.ref 0), none, none, none]) ⟨rfl, trivial⟩ ?_
      exact hK l3_23 h
    · have h := xif_f q h
      refine x_iload_n dX9_rest_29 rfl ?_
      refine x_iload_n dX9_rest_30 rfl ?_
      refine x_bipush (7 : Int32) dX9_rest_31 (by decide) ?_
      refine x_idiv dX9_rest_33 (by decide) ?_
      refine x_iload_n dX9_rest_34 rfl ?_
      refine x_bipush (7 : Int32) dX9_rest_35 (by decide) ?_
      refine x_irem dX9_rest_37 (by decide) ?_
      obtain ⟨z38, y38, h⟩ := xbind h
      refine x_callS (t_hN_X9_isRest f1 (l3_23 / (7 : Int32)) (l3_23 - l3_23 / (7 : Int32) * (7 : Int32)) z38 y38 (d + 0)) kX9_462 dX9_rest_38 rfl rfl (Nat.le_of_ble_eq_true rfl) (Nat.le_of_ble_eq_true rfl) rfl rfl (Or.inl rfl) ?_
      refine x_if_eq 61 dX9_rest_41 (by decide) (fun q => ?_) (fun q => ?_)
      · have h := xif_t q h
        refine x_iincK (1 : Int32) (pl' := [some (.ref 0), some (.int f1), none, some (.int (l3_23 + (1 : Int32)))]) dX9_rest_61 rfl (by decide) (by decide) rfl ?_
        refine x_goto 23 dX9_rest_64 (by decide) ?_
        refine x_weak (pl2 := [some (.ref 0), some (.int f1), none, some (.int (l3_23 + (1 : Int32)))]) ⟨rfl, rfl, rfl, trivial⟩ ?_
        exact ih23 (l3_23 + (1 : Int32)) h
      · have h := xif_f q h
        refine x_aload_n dX9_rest_44 rfl ?_
        refine x_bipush (10 : Int32) dX9_rest_45 (by decide) ?_
        refine x_iload_n dX9_rest_47 rfl ?_
        refine x_bipush (7 : Int32) dX9_rest_48 (by decide) ?_
        refine x_idiv dX9_rest_50 (by decide) ?_
        refine x_imul dX9_rest_51 ?_
        refine x_iload_n dX9_rest_52 rfl ?_
        refine x_bipush (7 : Int32) dX9_rest_53 (by decide) ?_
        refine x_irem dX9_rest_55 (by decide) ?_
        refine x_iadd dX9_rest_56 ?_
        obtain ⟨z57, y57, h⟩ := xbind h
        refine x_callV (t_hN_X9_good (((10 : Int32) * (l3_23 / (7 : Int32))) + (l3_23 - l3_23 / (7 : Int32) * (7 : Int32))) z57 y57 (d + 1)) kX9_55 dX9_rest_57 rfl rfl rfl rfl rfl (Nat.le_of_ble_eq_true rfl) (Nat.le_of_ble_eq_true rfl) rfl rfl (Or.inl rfl) ?_
        cases h
        exact x_iret2 dX9_rest_60 rfl rfl
set_option maxRecDepth 100000 in
set_option maxHeartbeats 4000000 in
theorem t_hN_X9_rest {g0 g1 g2 g3 g4 g5 g6 g7 g8 g9 g10 g11 g12 g13 g14 g15 g16 g17 g18 : Int32} {a0 a1 a2 a3 a4 a5 a6 a7 a8 a9 : (Nat → Int32)} {w0 : Int64} {rv : Value} (x1 : Int32) (res : Int32 × Int32 × Int32 × Int32) (h : e_hN_X9_rest g0 g1 g2 x1 = some res) (d : Nat) : xMet xks YX9_rest (d + 3) 0 0 [.ref 0, .int x1] (hN g0 g1 g2 g3 g4 g5 g6 g7 g8 g9 g10 g11 g12 g13 g14 g15 g16 g17 g18 a0 a1 a2 a3 a4 a5 a6 a7 a8 a9 w0 .null rv) (some (.int res.1)) (hN res.2.1 res.2.2.1 res.2.2.2 g3 g4 g5 g6 g7 g8 g9 g10 g11 g12 g13 g14 g15 g16 g17 g18 a0 a1 a2 a3 a4 a5 a6 a7 a8 a9 w0 .null rv) := by
  unfold e_hN_X9_rest at h
  refine xMet_of (pl := [some (.ref 0), some (.int x1), none, none]) (by decide) (Nat.le_of_ble_eq_true rfl) rfl (Nat.le_of_ble_eq_true rfl) ?_
  refine x_aload_n dX9_rest_0 rfl ?_
  refine x_iconst (0 : Int32) dX9_rest_1 (by decide) ?_
  refine x_put (h2 := (hN (0 : Int32) g1 g2 g3 g4 g5 g6 g7 g8 g9 g10 g11 g12 g13 g14 g15 g16 g17 g18 a0 a1 a2 a3 a4 a5 a6 a7 a8 a9 w0 .null rv)) fX9_45 dX9_rest_2 rfl rfl (Nat.le_of_ble_eq_true rfl : 0 + 1 ≤ _) (fun α => ⟨rfl, rfl⟩) rfl ?_
  refine x_aload_n dX9_rest_5 rfl ?_
  refine x_iload_n dX9_rest_6 rfl ?_
  obtain ⟨z7, y7, h⟩ := xbind h
  refine x_callV (t_hN_X9_refusesRests x1 z7 y7 (d + 1)) kX9_459 dX9_rest_7 rfl rfl rfl rfl rfl (Nat.le_of_ble_eq_true rfl) (Nat.le_of_ble_eq_true rfl) rfl rfl (Or.inl rfl) ?_
  refine x_istore_n (pl' := [some (.ref 0), some (.int x1), some (.int z7), none]) dX9_rest_10 (by decide) rfl ?_
  refine x_iload_n dX9_rest_11 rfl ?_
  refine x_if_le 21 dX9_rest_12 (by decide) (fun q => ?_) (fun q => ?_)
  · have h := xif_t q h
    refine x_iconst (0 : Int32) dX9_rest_21 (by decide) ?_
    refine x_istore_n (pl' := [some (.ref 0), some (.int x1), some (.int z7), some (.int (0 : Int32))]) dX9_rest_22 (by decide) rfl ?_
    refine x_weak (pl2 := [some (.ref 0), some (.int x1), none, some (.int (0 : Int32))]) ⟨rfl, rfl, rfl, trivial⟩ ?_
    refine lp_hN_X9_rest_23 d _ x1 res _ (fun l3_23 h => ?_) 200000 (0 : Int32) h
    refine x_aload_n dX9_rest_67 rfl ?_
    refine x_bipush (-2 : Int32) dX9_rest_68 (by decide) ?_
    obtain ⟨z70, y70, h⟩ := xbind h
    refine x_callV (t_hN_X9_good (-2 : Int32) z70 y70 (d + 1)) kX9_55 dX9_rest_70 rfl rfl rfl rfl rfl (Nat.le_of_ble_eq_true rfl) (Nat.le_of_ble_eq_true rfl) rfl rfl (Or.inl rfl) ?_
    cases h
    exact x_iret2 dX9_rest_73 rfl rfl
  · have h := xif_f q h
    refine x_aload_n dX9_rest_15 rfl ?_
    refine x_iload_n dX9_rest_16 rfl ?_
    obtain ⟨z17, y17, h⟩ := xbind h
    refine x_callV (t_hN_X9_refused z7 z17 y17 (d + 1)) kX9_51 dX9_rest_17 rfl rfl rfl rfl rfl (Nat.le_of_ble_eq_true rfl) (Nat.le_of_ble_eq_true rfl) rfl rfl (Or.inl rfl) ?_
    cases h
    exact x_iret2 dX9_rest_20 rfl rfl
noncomputable def L_hN_X9_mosts_4   (f1 : Int32) (K : Int32 → Int32 → Option (Int32)) : Nat → Int32 → Int32 → Option (Int32)
  | 0, _, _ => none
  | n4 + 1, l2_4, l3_4 => none
noncomputable def e_hN_X9_mosts  (x1 : Int32) : Option (Int32) :=
  L_hN_X9_mosts_4  x1 (fun l2_4 l3_4 => none) 200000 (-1 : Int32) (0 : Int32)
set_option maxRecDepth 100000 in
set_option maxHeartbeats 4000000 in
theorem lp_hN_X9_mosts_4 {g0 g1 g2 g3 g4 g5 g6 g7 g8 g9 g10 g11 g12 g13 g14 g15 g16 g17 g18 : Int32} {a0 a1 a2 a3 a4 a5 a6 a7 a8 a9 : (Nat → Int32)} {w0 : Int64} {rv : Value} (d n0 : Nat) (f1 : Int32) (res : Int32) (K : Int32 → Int32 → Option (Int32)) (hK : ∀ (l2_4 : Int32) (l3_4 : Int32), K l2_4 l3_4 = some res → xW xks YX9_mosts (d + 1) 0 0 n0 (xZ 0 0 n0 (some (.int res)) (hN g0 g1 g2 g3 g4 g5 g6 g7 g8 g9 g10 g11 g12 g13 g14 g15 g16 g17 g18 a0 a1 a2 a3 a4 a5 a6 a7 a8 a9 w0 .null rv)) 0 0 82 [none, none, some (.int l2_4), none] [] (hN g0 g1 g2 g3 g4 g5 g6 g7 g8 g9 g10 g11 g12 g13 g14 g15 g16 g17 g18 a0 a1 a2 a3 a4 a5 a6 a7 a8 a9 w0 .null rv)) : ∀ (n : Nat) (l2_4 : Int32) (l3_4 : Int32), L_hN_X9_mosts_4  f1 K n l2_4 l3_4 = some res → xW xks YX9_mosts (d + 1) 0 0 n0 (xZ 0 0 n0 (some (.int res)) (hN g0 g1 g2 g3 g4 g5 g6 g7 g8 g9 g10 g11 g12 g13 g14 g15 g16 g17 g18 a0 a1 a2 a3 a4 a5 a6 a7 a8 a9 w0 .null rv)) 0 0 4 [some (.ref 0), some (.int f1), some (.int l2_4), some (.int l3_4)] [] (hN g0 g1 g2 g3 g4 g5 g6 g7 g8 g9 g10 g11 g12 g13 g14 g15 g16 g17 g18 a0 a1 a2 a3 a4 a5 a6 a7 a8 a9 w0 .null rv) := by
  intro n
  induction n with
  | zero =>
    intro l2_4 l3_4 h
    cases (show (none : Option (Int32)) = some res from h)
  | succ n4 ih4 =>
    intro l2_4 l3_4 h
    unfold L_hN_X9_mosts_4 at h
    refine x_iload_n dX9_mosts_4 rfl ?_
    refine x_aload_n dX9_mosts_5 rfl ?_
    refine x_get fX9_316 dX9_mosts_6 rfl rfl rfl ?_
    cases h
set_option maxRecDepth 100000 in
set_option maxHeartbeats 4000000 in
theorem t_hN_X9_mosts {g0 g1 g2 g3 g4 g5 g6 g7 g8 g9 g10 g11 g12 g13 g14 g15 g16 g17 g18 : Int32} {a0 a1 a2 a3 a4 a5 a6 a7 a8 a9 : (Nat → Int32)} {w0 : Int64} {rv : Value} (x1 : Int32) (res : Int32) (h : e_hN_X9_mosts  x1 = some res) (d : Nat) : xMet xks YX9_mosts (d + 1) 0 0 [.ref 0, .int x1] (hN g0 g1 g2 g3 g4 g5 g6 g7 g8 g9 g10 g11 g12 g13 g14 g15 g16 g17 g18 a0 a1 a2 a3 a4 a5 a6 a7 a8 a9 w0 .null rv) (some (.int res)) (hN g0 g1 g2 g3 g4 g5 g6 g7 g8 g9 g10 g11 g12 g13 g14 g15 g16 g17 g18 a0 a1 a2 a3 a4 a5 a6 a7 a8 a9 w0 .null rv) := by
  unfold e_hN_X9_mosts at h
  refine xMet_of (pl := [some (.ref 0), some (.int x1), none, none]) (by decide) (Nat.le_of_ble_eq_true rfl) rfl (Nat.le_of_ble_eq_true rfl) ?_
  refine x_iconst (-1 : Int32) dX9_mosts_0 (by decide) ?_
  refine x_istore_n (pl' := [some (.ref 0), some (.int x1), some (.int (-1 : Int32)), none]) dX9_mosts_1 (by decide) rfl ?_
  refine x_iconst (0 : Int32) dX9_mosts_2 (by decide) ?_
  refine x_istore_n (pl' := [some (.ref 0), some (.int x1), some (.int (-1 : Int32)), some (.int (0 : Int32))]) dX9_mosts_3 (by decide) rfl ?_
  refine x_weak (pl2 := [some (.ref 0), some (.int x1), some (.int (-1 : Int32)), some (.int (0 : Int32))]) ⟨rfl, rfl, rfl, rfl, trivial⟩ ?_
  refine lp_hN_X9_mosts_4 d _ x1 res _ (fun l2_4 l3_4 h => ?_) 200000 (-1 : Int32) (0 : Int32) h
  cases h
noncomputable def e_hN_X9_most (p0 : Int32) (p1 : Int32) (p2 : Int32) (x1 : Int32) : Option (Int32 × Int32 × Int32 × Int32) :=
  ((e_hN_X9_isPerson x1).bind fun z7 => if z7 = (0 : Int32) then ((e_hN_X9_refused p1 p2 (1 : Int32)).bind fun z27 => some (z27.1, (0 : Int32), z27.2.1, z27.2.2)) else ((e_hN_X9_mosts x1).bind fun z16 => (e_hN_X9_good p1 p2 z16).bind fun z19 => some (z19.1, (0 : Int32), z19.2.1, z19.2.2)))
set_option maxRecDepth 100000 in
set_option maxHeartbeats 4000000 in
theorem t_hN_X9_most {g0 g1 g2 g3 g4 g5 g6 g7 g8 g9 g10 g11 g12 g13 g14 g15 g16 g17 g18 : Int32} {a0 a1 a2 a3 a4 a5 a6 a7 a8 a9 : (Nat → Int32)} {w0 : Int64} {rv : Value} (x1 : Int32) (res : Int32 × Int32 × Int32 × Int32) (h : e_hN_X9_most g0 g1 g2 x1 = some res) (d : Nat) : xMet xks YX9_most (d + 2) 0 0 [.ref 0, .int x1] (hN g0 g1 g2 g3 g4 g5 g6 g7 g8 g9 g10 g11 g12 g13 g14 g15 g16 g17 g18 a0 a1 a2 a3 a4 a5 a6 a7 a8 a9 w0 .null rv) (some (.int res.1)) (hN res.2.1 res.2.2.1 res.2.2.2 g3 g4 g5 g6 g7 g8 g9 g10 g11 g12 g13 g14 g15 g16 g17 g18 a0 a1 a2 a3 a4 a5 a6 a7 a8 a9 w0 .null rv) := by
  unfold e_hN_X9_most at h
  refine xMet_of (pl := [some (.ref 0), some (.int x1)]) (by decide) (Nat.le_of_ble_eq_true rfl) rfl (Nat.le_of_ble_eq_true rfl) ?_
  refine x_aload_n dX9_most_0 rfl ?_
  refine x_iconst (0 : Int32) dX9_most_1 (by decide) ?_
  refine x_put (h2 := (hN (0 : Int32) g1 g2 g3 g4 g5 g6 g7 g8 g9 g10 g11 g12 g13 g14 g15 g16 g17 g18 a0 a1 a2 a3 a4 a5 a6 a7 a8 a9 w0 .null rv)) fX9_45 dX9_most_2 rfl rfl (Nat.le_of_ble_eq_true rfl : 0 + 1 ≤ _) (fun α => ⟨rfl, rfl⟩) rfl ?_
  refine x_aload_n dX9_most_5 rfl ?_
  refine x_iload_n dX9_most_6 rfl ?_
  obtain ⟨z7, y7, h⟩ := xbind h
  refine x_callV (t_hN_X9_isPerson x1 z7 y7 (d + 0)) kX9_362 dX9_most_7 rfl rfl rfl rfl rfl (Nat.le_of_ble_eq_true rfl) (Nat.le_of_ble_eq_true rfl) rfl rfl (Or.inl rfl) ?_
  refine x_if_eq 25 dX9_most_10 (by decide) (fun q => ?_) (fun q => ?_)
  · have h := xif_t q h
    refine x_aload_n dX9_most_25 rfl ?_
    refine x_iconst (1 : Int32) dX9_most_26 (by decide) ?_
    obtain ⟨z27, y27, h⟩ := xbind h
    refine x_callV (t_hN_X9_refused (1 : Int32) z27 y27 (d + 0)) kX9_51 dX9_most_27 rfl rfl rfl rfl rfl (Nat.le_of_ble_eq_true rfl) (Nat.le_of_ble_eq_true rfl) rfl rfl (Or.inl rfl) ?_
    cases h
    exact x_iret2 dX9_most_30 rfl rfl
  · have h := xif_f q h
    refine x_aload_n dX9_most_13 rfl ?_
    refine x_aload_n dX9_most_14 rfl ?_
    refine x_iload_n dX9_most_15 rfl ?_
    obtain ⟨z16, y16, h⟩ := xbind h
    refine x_callV (t_hN_X9_mosts x1 z16 y16 (d + 0)) kX9_468 dX9_most_16 rfl rfl rfl rfl rfl (Nat.le_of_ble_eq_true rfl) (Nat.le_of_ble_eq_true rfl) rfl rfl (Or.inl rfl) ?_
    obtain ⟨z19, y19, h⟩ := xbind h
    refine x_callV (t_hN_X9_good z16 z19 y19 (d + 0)) kX9_55 dX9_most_19 rfl rfl rfl rfl rfl (Nat.le_of_ble_eq_true rfl) (Nat.le_of_ble_eq_true rfl) rfl rfl (Or.inl rfl) ?_
    refine x_goto 30 dX9_most_22 (by decide) ?_
    cases h
    exact x_iret2 dX9_most_30 rfl rfl
noncomputable def e_hN_X9_mostLands (p0 : Int32) (p1 : Int32) (p2 : Int32) (p3 : Int32) (x1 : Int32) : Option (Int32 × Int32 × Int32 × Int32) :=
  ((e_hN_X9_isPerson x1).bind fun z7 => if z7 = (0 : Int32) then ((e_hN_X9_refused p2 p3 (1 : Int32)).bind fun z15 => some (z15.1, (0 : Int32), z15.2.1, z15.2.2)) else ((e_hN_X9_mosts x1).bind fun z21 => (e_hN_X9_good p2 p3 p1).bind fun z30 => some (z30.1, (0 : Int32), z30.2.1, z30.2.2)))
set_option maxRecDepth 100000 in
set_option maxHeartbeats 4000000 in
theorem t_hN_X9_mostLands {g0 g1 g2 g3 g4 g5 g6 g7 g8 g9 g10 g11 g12 g13 g14 g15 g16 g17 g18 : Int32} {a0 a1 a2 a3 a4 a5 a6 a7 a8 a9 : (Nat → Int32)} {w0 : Int64} {rv : Value} (x1 : Int32) (res : Int32 × Int32 × Int32 × Int32) (h : e_hN_X9_mostLands g0 g17 g1 g2 x1 = some res) (d : Nat) : xMet xks YX9_mostLands (d + 2) 0 0 [.ref 0, .int x1] (hN g0 g1 g2 g3 g4 g5 g6 g7 g8 g9 g10 g11 g12 g13 g14 g15 g16 g17 g18 a0 a1 a2 a3 a4 a5 a6 a7 a8 a9 w0 .null rv) (some (.int res.1)) (hN res.2.1 res.2.2.1 res.2.2.2 g3 g4 g5 g6 g7 g8 g9 g10 g11 g12 g13 g14 g15 g16 g17 g18 a0 a1 a2 a3 a4 a5 a6 a7 a8 a9 w0 .null rv) := by
  unfold e_hN_X9_mostLands at h
  refine xMet_of (pl := [some (.ref 0), some (.int x1)]) (by decide) (Nat.le_of_ble_eq_true rfl) rfl (Nat.le_of_ble_eq_true rfl) ?_
  refine x_aload_n dX9_mostLands_0 rfl ?_
  refine x_iconst (0 : Int32) dX9_mostLands_1 (by decide) ?_
  refine x_put (h2 := (hN (0 : Int32) g1 g2 g3 g4 g5 g6 g7 g8 g9 g10 g11 g12 g13 g14 g15 g16 g17 g18 a0 a1 a2 a3 a4 a5 a6 a7 a8 a9 w0 .null rv)) fX9_45 dX9_mostLands_2 rfl rfl (Nat.le_of_ble_eq_true rfl : 0 + 1 ≤ _) (fun α => ⟨rfl, rfl⟩) rfl ?_
  refine x_aload_n dX9_mostLands_5 rfl ?_
  refine x_iload_n dX9_mostLands_6 rfl ?_
  obtain ⟨z7, y7, h⟩ := xbind h
  refine x_callV (t_hN_X9_isPerson x1 z7 y7 (d + 0)) kX9_362 dX9_mostLands_7 rfl rfl rfl rfl rfl (Nat.le_of_ble_eq_true rfl) (Nat.le_of_ble_eq_true rfl) rfl rfl (Or.inl rfl) ?_
  refine x_if_ne 19 dX9_mostLands_10 (by decide) (fun q => ?_) (fun q => ?_)
  · have h := xif_f q h
    refine x_aload_n dX9_mostLands_19 rfl ?_
    refine x_iload_n dX9_mostLands_20 rfl ?_
    obtain ⟨z21, y21, h⟩ := xbind h
    refine x_callV (t_hN_X9_mosts x1 z21 y21 (d + 0)) kX9_468 dX9_mostLands_21 rfl rfl rfl rfl rfl (Nat.le_of_ble_eq_true rfl) (Nat.le_of_ble_eq_true rfl) rfl rfl (Or.inl rfl) ?_
    refine x_pop dX9_mostLands_24 rfl ?_
    refine x_aload_n dX9_mostLands_25 rfl ?_
    refine x_aload_n dX9_mostLands_26 rfl ?_
    refine x_get fX9_465 dX9_mostLands_27 rfl rfl rfl ?_
    obtain ⟨z30, y30, h⟩ := xbind h
    refine x_callV (t_hN_X9_good g17 z30 y30 (d + 0)) kX9_55 dX9_mostLands_30 rfl rfl rfl rfl rfl (Nat.le_of_ble_eq_true rfl) (Nat.le_of_ble_eq_true rfl) rfl rfl (Or.inl rfl) ?_
    cases h
    exact x_iret2 dX9_mostLands_33 rfl rfl
  · have h := xif_t q h
    refine x_aload_n dX9_mostLands_13 rfl ?_
    refine x_iconst (1 : Int32) dX9_mostLands_14 (by decide) ?_
    obtain ⟨z15, y15, h⟩ := xbind h
    refine x_callV (t_hN_X9_refused (1 : Int32) z15 y15 (d + 0)) kX9_51 dX9_mostLands_15 rfl rfl rfl rfl rfl (Nat.le_of_ble_eq_true rfl) (Nat.le_of_ble_eq_true rfl) rfl rfl (Or.inl rfl) ?_
    cases h
    exact x_iret2 dX9_mostLands_18 rfl rfl
noncomputable def L_hN_X9_centuries_41 (p0 : Int32) (p1 : (Nat → Int32)) (p2 : (Nat → Int32))  (f3 : Int32) (K : Int32 → Option (Int32 × Int32 × (Nat → Int32))) : Nat → Int32 → Option (Int32 × Int32 × (Nat → Int32))
  | 0, _ => none
  | n41 + 1, l4_41 => if f3 ≤ l4_41 then K l4_41 else none
noncomputable def e_hN_X9_centuries (p0 : Int32) (p1 : (Nat → Int32)) (p2 : (Nat → Int32)) (x1 : Int32) (x2 : Int32) (x3 : Int32) : Option (Int32 × Int32 × (Nat → Int32)) :=
  if x1 = (0 : Int32) then some ((1 : Int32), p0, p2) else ((e_hN_X9_in x2 (0 : Int32) (65536 : Int32)).bind fun z11 => if z11 = (0 : Int32) then some ((2 : Int32), p0, p2) else ((e_hN_X9_in x3 (0 : Int32) (60 : Int32)).bind fun z21 => if z21 = (0 : Int32) then some ((2 : Int32), p0, p2) else ((e_hN_X9_tries p1 p2).bind fun z35 => L_hN_X9_centuries_41 x2 p1 z35 x3 (fun l4_41 => some ((0 : Int32), x2, z35)) 200000 (0 : Int32))))
set_option maxRecDepth 100000 in
set_option maxHeartbeats 4000000 in
theorem lp_hN_X9_centuries_41 {g0 g1 g2 g3 g4 g5 g6 g7 g8 g9 g10 g11 g12 g13 g14 g15 g16 g17 g18 : Int32} {a0 a1 a2 a3 a4 a5 a6 a7 a8 a9 : (Nat → Int32)} {w0 : Int64} {rv : Value} (d n0 : Nat) (f3 : Int32) (res : Int32 × Int32 × (Nat → Int32)) (K : Int32 → Option (Int32 × Int32 × (Nat → Int32))) (hK : ∀ (l4_41 : Int32), K l4_41 = some res → xW xks YX9_centuries (d + 2) 0 0 n0 (xZ 0 0 n0 (some (.int res.1)) (hN g0 g1 g2 g3 g4 g5 g6 g7 g8 g9 g10 g11 g12 g13 g14 g15 g16 g17 res.2.1 a0 a1 res.2.2 a3 a4 a5 a6 a7 a8 a9 w0 .null rv)) 0 0 115 [none, none, none, none, none, none] [] (hN g0 g1 g2 g3 g4 g5 g6 g7 g8 g9 g10 g11 g12 g13 g14 g15 g16 g17 g18 a0 a1 a2 a3 a4 a5 a6 a7 a8 a9 w0 .null rv)) : ∀ (n : Nat) (l4_41 : Int32), L_hN_X9_centuries_41 g18 a1 a2 f3 K n l4_41 = some res → xW xks YX9_centuries (d + 2) 0 0 n0 (xZ 0 0 n0 (some (.int res.1)) (hN g0 g1 g2 g3 g4 g5 g6 g7 g8 g9 g10 g11 g12 g13 g14 g15 g16 g17 res.2.1 a0 a1 res.2.2 a3 a4 a5 a6 a7 a8 a9 w0 .null rv)) 0 0 41 [some (.ref 0), none, none, some (.int f3), some (.int l4_41), none] [] (hN g0 g1 g2 g3 g4 g5 g6 g7 g8 g9 g10 g11 g12 g13 g14 g15 g16 g17 g18 a0 a1 a2 a3 a4 a5 a6 a7 a8 a9 w0 .null rv) := by
  intro n
  induction n with
  | zero =>
    intro l4_41 h
    cases (show (none : Option (Int32 × Int32 × (Nat → Int32))) = some res from h)
  | succ n41 ih41 =>
    intro l4_41 h
    unfold L_hN_X9_centuries_41 at h
    refine x_iload dX9_centuries_41 rfl ?_
    refine x_iload_n dX9_centuries_43 rfl ?_
    refine x_icmp_ge 115 dX9_centuries_44 (by decide) (fun q => ?_) (fun q => ?_)
    · have h := xif_t q h
      refine x_weak (pl2 := [none, none, none, none, none, none]) trivial ?_
      exact hK l4_41 h
    · have h := xif_f q h
      refine x_aload_n dX9_centuries_47 rfl ?_
      refine x_aload_n dX9_centuries_48 rfl ?_
      refine x_get fX9_316 dX9_centuries_49 rfl rfl rfl ?_
      cases h
set_option maxRecDepth 100000 in
set_option maxHeartbeats 4000000 in
theorem t_hN_X9_centuries {g0 g1 g2 g3 g4 g5 g6 g7 g8 g9 g10 g11 g12 g13 g14 g15 g16 g17 g18 : Int32} {a0 a1 a2 a3 a4 a5 a6 a7 a8 a9 : (Nat → Int32)} {w0 : Int64} {rv : Value} (x1 : Int32) (x2 : Int32) (x3 : Int32) (res : Int32 × Int32 × (Nat → Int32)) (h : e_hN_X9_centuries g18 a1 a2 x1 x2 x3 = some res) (d : Nat) : xMet xks YX9_centuries (d + 2) 0 0 [.ref 0, .int x1, .int x2, .int x3] (hN g0 g1 g2 g3 g4 g5 g6 g7 g8 g9 g10 g11 g12 g13 g14 g15 g16 g17 g18 a0 a1 a2 a3 a4 a5 a6 a7 a8 a9 w0 .null rv) (some (.int res.1)) (hN g0 g1 g2 g3 g4 g5 g6 g7 g8 g9 g10 g11 g12 g13 g14 g15 g16 g17 res.2.1 a0 a1 res.2.2 a3 a4 a5 a6 a7 a8 a9 w0 .null rv) := by
  unfold e_hN_X9_centuries at h
  refine xMet_of (pl := [some (.ref 0), some (.int x1), some (.int x2), some (.int x3), none, none]) (by decide) (Nat.le_of_ble_eq_true rfl) rfl (Nat.le_of_ble_eq_true rfl) ?_
  refine x_iload_n dX9_centuries_0 rfl ?_
  refine x_if_ne 6 dX9_centuries_1 (by decide) (fun q => ?_) (fun q => ?_)
  · have h := xif_f q h
    refine x_iload_n dX9_centuries_6 rfl ?_
    refine x_iconst (0 : Int32) dX9_centuries_7 (by decide) ?_
    refine x_ldcw iX9_480 dX9_centuries_8 ?_
    obtain ⟨z11, y11, h⟩ := xbind h
    refine x_callS (t_hN_X9_in x2 (0 : Int32) (65536 : Int32) z11 y11 (d + 0)) kX9_124 dX9_centuries_11 rfl rfl (Nat.le_of_ble_eq_true rfl) (Nat.le_of_ble_eq_true rfl) rfl rfl (Or.inl rfl) ?_
    refine x_if_eq 27 dX9_centuries_14 (by decide) (fun q => ?_) (fun q => ?_)
    · have h := xif_t q h
      refine x_iconst (2 : Int32) dX9_centuries_27 (by decide) ?_
      cases h
      exact x_iret2 dX9_centuries_28 rfl rfl
    · have h := xif_f q h
      refine x_iload_n dX9_centuries_17 rfl ?_
      refine x_iconst (0 : Int32) dX9_centuries_18 (by decide) ?_
      refine x_bipush (60 : Int32) dX9_centuries_19 (by decide) ?_
      obtain ⟨z21, y21, h⟩ := xbind h
      refine x_callS (t_hN_X9_in x3 (0 : Int32) (60 : Int32) z21 y21 (d + 0)) kX9_124 dX9_centuries_21 rfl rfl (Nat.le_of_ble_eq_true rfl) (Nat.le_of_ble_eq_true rfl) rfl rfl (Or.inl rfl) ?_
      refine x_if_ne 29 dX9_centuries_24 (by decide) (fun q => ?_) (fun q => ?_)
      · have h := xif_f q h
        refine x_aload_n dX9_centuries_29 rfl ?_
        refine x_iload_n dX9_centuries_30 rfl ?_
        refine x_put (h2 := (hN g0 g1 g2 g3 g4 g5 g6 g7 g8 g9 g10 g11 g12 g13 g14 g15 g16 g17 x2 a0 a1 a2 a3 a4 a5 a6 a7 a8 a9 w0 .null rv)) fX9_473 dX9_centuries_31 rfl rfl (Nat.le_of_ble_eq_true rfl : 31 + 1 ≤ _) (fun α => ⟨rfl, rfl⟩) rfl ?_
        refine x_aload_n dX9_centuries_34 rfl ?_
        obtain ⟨z35, y35, h⟩ := xbind h
        refine x_callV (t_hN_X9_tries  z35 y35 (d + 0)) kX9_393 dX9_centuries_35 rfl rfl rfl rfl rfl (Nat.le_of_ble_eq_true rfl) (Nat.le_of_ble_eq_true rfl) rfl rfl (Or.inl rfl) ?_
        refine x_iconst (0 : Int32) dX9_centuries_38 (by decide) ?_
        refine x_istore (pl' := [some (.ref 0), some (.int x1), some (.int x2), some (.int x3), some (.int (0 : Int32)), none]) dX9_centuries_39 (by decide) rfl ?_
        refine x_weak (pl2 := [some (.ref 0), none, none, some (.int x3), some (.int (0 : Int32)), none]) ⟨rfl, rfl, rfl, trivial⟩ ?_
        refine lp_hN_X9_centuries_41 d _ x3 res _ (fun l4_41 h => ?_) 200000 (0 : Int32) h
        refine x_iconst (0 : Int32) dX9_centuries_115 (by decide) ?_
        cases h
        exact x_iret2 dX9_centuries_116 rfl rfl
      · have h := xif_t q h
        refine x_iconst (2 : Int32) dX9_centuries_27 (by decide) ?_
        cases h
        exact x_iret2 dX9_centuries_28 rfl rfl
  · have h := xif_t q h
    refine x_iconst (1 : Int32) dX9_centuries_4 (by decide) ?_
    cases h
    exact x_iret2 dX9_centuries_5 rfl rfl
noncomputable def e_hN_X9_century (p0 : Int32) (p1 : Int32) (p2 : (Nat → Int32)) (p3 : (Nat → Int32)) (p4 : Int32) (p5 : Int32) (x1 : Int32) (x2 : Int32) (x3 : Int32) : Option (Int32 × Int32 × Int32 × (Nat → Int32) × Int32 × Int32) :=
  ((e_hN_X9_isPerson x1).bind fun z8 => (e_hN_X9_centuries p1 p2 p3 z8 x2 x3).bind fun z13 => if z13.1 ≤ (0 : Int32) then ((e_hN_X9_landsIn x1).bind fun z39 => (e_hN_X9_good p4 p5 z39).bind fun z42 => some (z42.1, (0 : Int32), z13.2.1, z13.2.2, z42.2.1, z42.2.2)) else ((e_hN_X9_refused p4 p5 z13.1).bind fun z26 => some (z26.1, (0 : Int32), z13.2.1, z13.2.2, z26.2.1, z26.2.2)))
set_option maxRecDepth 100000 in
set_option maxHeartbeats 4000000 in
theorem t_hN_X9_century {g0 g1 g2 g3 g4 g5 g6 g7 g8 g9 g10 g11 g12 g13 g14 g15 g16 g17 g18 : Int32} {a0 a1 a2 a3 a4 a5 a6 a7 a8 a9 : (Nat → Int32)} {w0 : Int64} {rv : Value} (x1 : Int32) (x2 : Int32) (x3 : Int32) (res : Int32 × Int32 × Int32 × (Nat → Int32) × Int32 × Int32) (h : e_hN_X9_century g0 g18 a1 a2 g1 g2 x1 x2 x3 = some res) (d : Nat) : xMet xks YX9_century (d + 3) 0 0 [.ref 0, .int x1, .int x2, .int x3] (hN g0 g1 g2 g3 g4 g5 g6 g7 g8 g9 g10 g11 g12 g13 g14 g15 g16 g17 g18 a0 a1 a2 a3 a4 a5 a6 a7 a8 a9 w0 .null rv) (some (.int res.1)) (hN res.2.1 res.2.2.2.2.1 res.2.2.2.2.2 g3 g4 g5 g6 g7 g8 g9 g10 g11 g12 g13 g14 g15 g16 g17 res.2.2.1 a0 a1 res.2.2.2.1 a3 a4 a5 a6 a7 a8 a9 w0 .null rv) := by
  unfold e_hN_X9_century at h
  refine xMet_of (pl := [some (.ref 0), some (.int x1), some (.int x2), some (.int x3), none]) (by decide) (Nat.le_of_ble_eq_true rfl) rfl (Nat.le_of_ble_eq_true rfl) ?_
  refine x_aload_n dX9_century_0 rfl ?_
  refine x_iconst (0 : Int32) dX9_century_1 (by decide) ?_
  refine x_put (h2 := (hN (0 : Int32) g1 g2 g3 g4 g5 g6 g7 g8 g9 g10 g11 g12 g13 g14 g15 g16 g17 g18 a0 a1 a2 a3 a4 a5 a6 a7 a8 a9 w0 .null rv)) fX9_45 dX9_century_2 rfl rfl (Nat.le_of_ble_eq_true rfl : 0 + 1 ≤ _) (fun α => ⟨rfl, rfl⟩) rfl ?_
  refine x_aload_n dX9_century_5 rfl ?_
  refine x_aload_n dX9_century_6 rfl ?_
  refine x_iload_n dX9_century_7 rfl ?_
  obtain ⟨z8, y8, h⟩ := xbind h
  refine x_callV (t_hN_X9_isPerson x1 z8 y8 (d + 1)) kX9_362 dX9_century_8 rfl rfl rfl rfl rfl (Nat.le_of_ble_eq_true rfl) (Nat.le_of_ble_eq_true rfl) rfl rfl (Or.inl rfl) ?_
  refine x_iload_n dX9_century_11 rfl ?_
  refine x_iload_n dX9_century_12 rfl ?_
  obtain ⟨z13, y13, h⟩ := xbind h
  refine x_callV (t_hN_X9_centuries z8 x2 x3 z13 y13 (d + 0)) kX9_484 dX9_century_13 rfl rfl rfl rfl rfl (Nat.le_of_ble_eq_true rfl) (Nat.le_of_ble_eq_true rfl) rfl rfl (Or.inl rfl) ?_
  refine x_istore (pl' := [some (.ref 0), some (.int x1), some (.int x2), some (.int x3), some (.int z13.1)]) dX9_century_16 (by decide) rfl ?_
  refine x_iload dX9_century_18 rfl ?_
  refine x_if_le 32 dX9_century_20 (by decide) (fun q => ?_) (fun q => ?_)
  · have h := xif_t q h
    refine x_aload_n dX9_century_32 rfl ?_
    refine x_aload_n dX9_century_33 rfl ?_
    refine x_aload_n dX9_century_34 rfl ?_
    refine x_get fX9_21 dX9_century_35 rfl rfl rfl ?_
    refine x_iload_n dX9_century_38 rfl ?_
    obtain ⟨z39, y39, h⟩ := xbind h
    refine x_callV (t_hN_X9_landsIn_2 x1 z39 y39 (d + 1)) kX9_365 dX9_century_39 rfl rfl rfl rfl rfl (Nat.le_of_ble_eq_true rfl) (Nat.le_of_ble_eq_true rfl) rfl rfl (Or.inl rfl) ?_
    obtain ⟨z42, y42, h⟩ := xbind h
    refine x_callV (t_hN_X9_good z39 z42 y42 (d + 1)) kX9_55 dX9_century_42 rfl rfl rfl rfl rfl (Nat.le_of_ble_eq_true rfl) (Nat.le_of_ble_eq_true rfl) rfl rfl (Or.inl rfl) ?_
    cases h
    exact x_iret2 dX9_century_45 rfl rfl
  · have h := xif_f q h
    refine x_aload_n dX9_century_23 rfl ?_
    refine x_iload dX9_century_24 rfl ?_
    obtain ⟨z26, y26, h⟩ := xbind h
    refine x_callV (t_hN_X9_refused z13.1 z26 y26 (d + 1)) kX9_51 dX9_century_26 rfl rfl rfl rfl rfl (Nat.le_of_ble_eq_true rfl) (Nat.le_of_ble_eq_true rfl) rfl rfl (Or.inl rfl) ?_
    refine x_goto 45 dX9_century_29 (by decide) ?_
    cases h
    exact x_iret2 dX9_century_45 rfl rfl
noncomputable def L_hN_X9_untitled_40 (p0 : Int32) (p1 : Int32) (p2 : (Nat → Int32)) (p3 : (Nat → Int32)) (p4 : Int32) (p5 : Int32)   (K : Int32 → Int32 → Option (Int32 × Int32 × Int32 × (Nat → Int32) × Int32 × Int32)) : Nat → Int32 → Int32 → Option (Int32 × Int32 × Int32 × (Nat → Int32) × Int32 × Int32)
  | 0, _, _ => none
  | n40 + 1, l4_40, l5_40 => none
noncomputable def e_hN_X9_untitled (p0 : Int32) (p1 : Int32) (p2 : (Nat → Int32)) (p3 : (Nat → Int32)) (p4 : Int32) (p5 : Int32) (x1 : Int32) (x2 : Int32) : Option (Int32 × Int32 × Int32 × (Nat → Int32) × Int32 × Int32) :=
  ((e_hN_X9_centuries p1 p2 p3 (0 : Int32) x1 x2).bind fun z20 => if z20.1 ≤ (0 : Int32) then L_hN_X9_untitled_40 (0 : Int32) z20.2.1 p2 z20.2.2 p4 p5  (fun l4_40 l5_40 => none) 200000 (0 : Int32) (0 : Int32) else ((e_hN_X9_refused p4 p5 z20.1).bind fun z30 => some (z30.1, (0 : Int32), z20.2.1, z20.2.2, z30.2.1, z30.2.2)))
set_option maxRecDepth 100000 in
set_option maxHeartbeats 4000000 in
theorem lp_hN_X9_untitled_40 {g0 g1 g2 g3 g4 g5 g6 g7 g8 g9 g10 g11 g12 g13 g14 g15 g16 g17 g18 : Int32} {a0 a1 a2 a3 a4 a5 a6 a7 a8 a9 : (Nat → Int32)} {w0 : Int64} {rv : Value} (d n0 : Nat)  (res : Int32 × Int32 × Int32 × (Nat → Int32) × Int32 × Int32) (K : Int32 → Int32 → Option (Int32 × Int32 × Int32 × (Nat → Int32) × Int32 × Int32)) (hK : ∀ (l4_40 : Int32) (l5_40 : Int32), K l4_40 l5_40 = some res → xW xks YX9_untitled (d + 3) 0 0 n0 (xZ 0 0 n0 (some (.int res.1)) (hN res.2.1 res.2.2.2.2.1 res.2.2.2.2.2 g3 g4 g5 g6 g7 g8 g9 g10 g11 g12 g13 g14 g15 g16 g17 res.2.2.1 a0 a1 res.2.2.2.1 a3 a4 a5 a6 a7 a8 a9 w0 .null rv)) 0 0 82 [some (.ref 0), none, none, none, some (.int l4_40), none] [] (hN g0 g1 g2 g3 g4 g5 g6 g7 g8 g9 g10 g11 g12 g13 g14 g15 g16 g17 g18 a0 a1 a2 a3 a4 a5 a6 a7 a8 a9 w0 .null rv)) : ∀ (n : Nat) (l4_40 : Int32) (l5_40 : Int32), L_hN_X9_untitled_40 g0 g18 a1 a2 g1 g2  K n l4_40 l5_40 = some res → xW xks YX9_untitled (d + 3) 0 0 n0 (xZ 0 0 n0 (some (.int res.1)) (hN res.2.1 res.2.2.2.2.1 res.2.2.2.2.2 g3 g4 g5 g6 g7 g8 g9 g10 g11 g12 g13 g14 g15 g16 g17 res.2.2.1 a0 a1 res.2.2.2.1 a3 a4 a5 a6 a7 a8 a9 w0 .null rv)) 0 0 40 [some (.ref 0), none, none, none, some (.int l4_40), some (.int l5_40)] [] (hN g0 g1 g2 g3 g4 g5 g6 g7 g8 g9 g10 g11 g12 g13 g14 g15 g16 g17 g18 a0 a1 a2 a3 a4 a5 a6 a7 a8 a9 w0 .null rv) := by
  intro n
  induction n with
  | zero =>
    intro l4_40 l5_40 h
    cases (show (none : Option (Int32 × Int32 × Int32 × (Nat → Int32) × Int32 × Int32)) = some res from h)
  | succ n40 ih40 =>
    intro l4_40 l5_40 h
    unfold L_hN_X9_untitled_40 at h
    refine x_iload dX9_untitled_40 rfl ?_
    refine x_aload_n dX9_untitled_42 rfl ?_
    refine x_get fX9_316 dX9_untitled_43 rfl rfl rfl ?_
    cases h
set_option maxRecDepth 100000 in
set_option maxHeartbeats 4000000 in
theorem t_hN_X9_untitled {g0 g1 g2 g3 g4 g5 g6 g7 g8 g9 g10 g11 g12 g13 g14 g15 g16 g17 g18 : Int32} {a0 a1 a2 a3 a4 a5 a6 a7 a8 a9 : (Nat → Int32)} {w0 : Int64} {rv : Value} (x1 : Int32) (x2 : Int32) (res : Int32 × Int32 × Int32 × (Nat → Int32) × Int32 × Int32) (h : e_hN_X9_untitled g0 g18 a1 a2 g1 g2 x1 x2 = some res) (d : Nat) : xMet xks YX9_untitled (d + 3) 0 0 [.ref 0, .int x1, .int x2] (hN g0 g1 g2 g3 g4 g5 g6 g7 g8 g9 g10 g11 g12 g13 g14 g15 g16 g17 g18 a0 a1 a2 a3 a4 a5 a6 a7 a8 a9 w0 .null rv) (some (.int res.1)) (hN res.2.1 res.2.2.2.2.1 res.2.2.2.2.2 g3 g4 g5 g6 g7 g8 g9 g10 g11 g12 g13 g14 g15 g16 g17 res.2.2.1 a0 a1 res.2.2.2.1 a3 a4 a5 a6 a7 a8 a9 w0 .null rv) := by
  unfold e_hN_X9_untitled at h
  refine xMet_of (pl := [some (.ref 0), some (.int x1), some (.int x2), none, none, none]) (by decide) (Nat.le_of_ble_eq_true rfl) rfl (Nat.le_of_ble_eq_true rfl) ?_
  refine x_aload_n dX9_untitled_0 rfl ?_
  refine x_iconst (0 : Int32) dX9_untitled_1 (by decide) ?_
  refine x_put (h2 := (hN (0 : Int32) g1 g2 g3 g4 g5 g6 g7 g8 g9 g10 g11 g12 g13 g14 g15 g16 g17 g18 a0 a1 a2 a3 a4 a5 a6 a7 a8 a9 w0 .null rv)) fX9_45 dX9_untitled_2 rfl rfl (Nat.le_of_ble_eq_true rfl : 0 + 1 ≤ _) (fun α => ⟨rfl, rfl⟩) rfl ?_
  refine x_aload_n dX9_untitled_5 rfl ?_
  refine x_aload_n dX9_untitled_6 rfl ?_
  refine x_get fX9_316 dX9_untitled_7 rfl rfl rfl ?_
  refine x_ifnullN 17 dX9_untitled_10 (by decide) ?_
  refine x_iconst (0 : Int32) dX9_untitled_17 (by decide) ?_
  refine x_iload_n dX9_untitled_18 rfl ?_
  refine x_iload_n dX9_untitled_19 rfl ?_
  obtain ⟨z20, y20, h⟩ := xbind h
  refine x_callV (t_hN_X9_centuries (0 : Int32) x1 x2 z20 y20 (d + 0)) kX9_484 dX9_untitled_20 rfl rfl rfl rfl rfl (Nat.le_of_ble_eq_true rfl) (Nat.le_of_ble_eq_true rfl) rfl rfl (Or.inl rfl) ?_
  refine x_istore_n (pl' := [some (.ref 0), some (.int x1), some (.int x2), some (.int z20.1), none, none]) dX9_untitled_23 (by decide) rfl ?_
  refine x_iload_n dX9_untitled_24 rfl ?_
  refine x_if_le 34 dX9_untitled_25 (by decide) (fun q => ?_) (fun q => ?_)
  · have h := xif_t q h
    refine x_iconst (0 : Int32) dX9_untitled_34 (by decide) ?_
    refine x_istore (pl' := [some (.ref 0), some (.int x1), some (.int x2), some (.int z20.1), some (.int (0 : Int32)), none]) dX9_untitled_35 (by decide) rfl ?_
    refine x_iconst (0 : Int32) dX9_untitled_37 (by decide) ?_
    refine x_istore (pl' := [some (.ref 0), some (.int x1), some (.int x2), some (.int z20.1), some (.int (0 : Int32)), some (.int (0 : Int32))]) dX9_untitled_38 (by decide) rfl ?_
    refine x_weak (pl2 := [some (.ref 0), none, none, none, some (.int (0 : Int32)), some (.int (0 : Int32))]) ⟨rfl, rfl, rfl, trivial⟩ ?_
    refine lp_hN_X9_untitled_40 d _  res _ (fun l4_40 l5_40 h => ?_) 200000 (0 : Int32) (0 : Int32) h
    cases h
  · have h := xif_f q h
    refine x_aload_n dX9_untitled_28 rfl ?_
    refine x_iload_n dX9_untitled_29 rfl ?_
    obtain ⟨z30, y30, h⟩ := xbind h
    refine x_callV (t_hN_X9_refused z20.1 z30 y30 (d + 1)) kX9_51 dX9_untitled_30 rfl rfl rfl rfl rfl (Nat.le_of_ble_eq_true rfl) (Nat.le_of_ble_eq_true rfl) rfl rfl (Or.inl rfl) ?_
    cases h
    exact x_iret2 dX9_untitled_33 rfl rfl
noncomputable def e_hN_X9_denied (p0 : Int32) (p1 : Int32) (x1 : Int32) : Option (Int32 × Int32 × Int32) :=
  ((e_hN_X9_refused p0 p1 x1).bind fun z2 => some ((0 : Int32), z2.2.1, z2.2.2))
set_option maxRecDepth 100000 in
set_option maxHeartbeats 4000000 in
theorem t_hN_X9_denied {g0 g1 g2 g3 g4 g5 g6 g7 g8 g9 g10 g11 g12 g13 g14 g15 g16 g17 g18 : Int32} {a0 a1 a2 a3 a4 a5 a6 a7 a8 a9 : (Nat → Int32)} {w0 : Int64} {rv : Value} (x1 : Int32) (res : Int32 × Int32 × Int32) (h : e_hN_X9_denied g1 g2 x1 = some res) (d : Nat) : xMet xks YX9_denied (d + 2) 0 0 [.ref 0, .int x1] (hN g0 g1 g2 g3 g4 g5 g6 g7 g8 g9 g10 g11 g12 g13 g14 g15 g16 g17 g18 a0 a1 a2 a3 a4 a5 a6 a7 a8 a9 w0 .null rv) (some (.int res.1)) (hN g0 res.2.1 res.2.2 g3 g4 g5 g6 g7 g8 g9 g10 g11 g12 g13 g14 g15 g16 g17 g18 a0 a1 a2 a3 a4 a5 a6 a7 a8 a9 w0 .null rv) := by
  unfold e_hN_X9_denied at h
  refine xMet_of (pl := [some (.ref 0), some (.int x1)]) (by decide) (Nat.le_of_ble_eq_true rfl) rfl (Nat.le_of_ble_eq_true rfl) ?_
  refine x_aload_n dX9_denied_0 rfl ?_
  refine x_iload_n dX9_denied_1 rfl ?_
  obtain ⟨z2, y2, h⟩ := xbind h
  refine x_callV (t_hN_X9_refused x1 z2 y2 (d + 0)) kX9_51 dX9_denied_2 rfl rfl rfl rfl rfl (Nat.le_of_ble_eq_true rfl) (Nat.le_of_ble_eq_true rfl) rfl rfl (Or.inl rfl) ?_
  refine x_pop dX9_denied_5 rfl ?_
  refine x_iconst (0 : Int32) dX9_denied_6 (by decide) ?_
  cases h
  exact x_zret2 dX9_denied_7 rfl rfl rfl
noncomputable def L_hN_X9_remembers_51 (p0 : Int32) (p1 : (Nat → Int32))   (K : Int32 → (Nat → Int32) → Option (Int32 × (Nat → Int32))) : Nat → Int32 → (Nat → Int32) → Option (Int32 × (Nat → Int32))
  | 0, _, _ => none
  | n51 + 1, l1_51, ma3_51 => if (11 : Int32) ≤ l1_51 then K l1_51 ma3_51 else (xix l1_51 11 (xix (((11 : Int32) * p0) + l1_51) 176 (L_hN_X9_remembers_51 p0 p1  K n51 (l1_51 + (1 : Int32)) (upd ma3_51 (((11 : Int32) * p0) + l1_51).toNatClampNeg (p1 l1_51.toNatClampNeg)))))
noncomputable def L_hN_X9_remembers_11 (p0 : Int32) (p1 : (Nat → Int32))   (K : Int32 → (Nat → Int32) → Option (Int32 × (Nat → Int32))) : Nat → Int32 → (Nat → Int32) → Option (Int32 × (Nat → Int32))
  | 0, _, _ => none
  | n11 + 1, l1_11, ma3_11 => if (165 : Int32) ≤ l1_11 then K l1_11 ma3_11 else (xix (l1_11 + (11 : Int32)) 176 (xix l1_11 176 (L_hN_X9_remembers_11 p0 p1  K n11 (l1_11 + (1 : Int32)) (upd ma3_11 l1_11.toNatClampNeg (ma3_11 (l1_11 + (11 : Int32)).toNatClampNeg)))))
noncomputable def e_hN_X9_remembers (p0 : Int32) (p1 : (Nat → Int32)) (p2 : (Nat → Int32))  : Option (Int32 × (Nat → Int32)) :=
  if p0 = (16 : Int32) then L_hN_X9_remembers_11 p0 p1  (fun l1_11 ma3_11 => L_hN_X9_remembers_51 (p0 - (1 : Int32)) p1  (fun l1_51 ma3_51 => some (((p0 - (1 : Int32)) + (1 : Int32)), ma3_51)) 200000 (0 : Int32) ma3_11) 200000 (0 : Int32) p2 else L_hN_X9_remembers_51 p0 p1  (fun l1_51 ma3_51 => some ((p0 + (1 : Int32)), ma3_51)) 200000 (0 : Int32) p2
set_option maxRecDepth 100000 in
set_option maxHeartbeats 4000000 in
theorem lp_hN_X9_remembers_51 {g0 g1 g2 g3 g4 g5 g6 g7 g8 g9 g10 g11 g12 g13 g14 g15 g16 g17 g18 : Int32} {a0 a1 a2 a4 a5 a6 a7 a8 a9 : (Nat → Int32)} {w0 : Int64} {rv : Value} (d n0 : Nat)  (res : Int32 × (Nat → Int32)) (K : Int32 → (Nat → Int32) → Option (Int32 × (Nat → Int32))) (hK : ∀ (l1_51 : Int32) (ma3_51 : (Nat → Int32)), K l1_51 ma3_51 = some res → xW xks YX9_remembers (d + 1) 0 0 n0 (xZ 0 0 n0 none (hN g0 g1 g2 g3 g4 g5 g6 g7 g8 g9 g10 res.1 g12 g13 g14 g15 g16 g17 g18 a0 a1 a2 res.2 a4 a5 a6 a7 a8 a9 w0 .null rv)) 0 0 83 [some (.ref 0), none] [] (hN g0 g1 g2 g3 g4 g5 g6 g7 g8 g9 g10 g11 g12 g13 g14 g15 g16 g17 g18 a0 a1 a2 ma3_51 a4 a5 a6 a7 a8 a9 w0 .null rv)) : ∀ (n : Nat) (l1_51 : Int32) (ma3_51 : (Nat → Int32)), L_hN_X9_remembers_51 g11 a1  K n l1_51 ma3_51 = some res → xW xks YX9_remembers (d + 1) 0 0 n0 (xZ 0 0 n0 none (hN g0 g1 g2 g3 g4 g5 g6 g7 g8 g9 g10 res.1 g12 g13 g14 g15 g16 g17 g18 a0 a1 a2 res.2 a4 a5 a6 a7 a8 a9 w0 .null rv)) 0 0 51 [some (.ref 0), some (.int l1_51)] [] (hN g0 g1 g2 g3 g4 g5 g6 g7 g8 g9 g10 g11 g12 g13 g14 g15 g16 g17 g18 a0 a1 a2 ma3_51 a4 a5 a6 a7 a8 a9 w0 .null rv) := by
  intro n
  induction n with
  | zero =>
    intro l1_51 ma3_51 h
    cases (show (none : Option (Int32 × (Nat → Int32))) = some res from h)
  | succ n51 ih51 =>
    intro l1_51 ma3_51 h
    unfold L_hN_X9_remembers_51 at h
    refine x_iload_n dX9_remembers_51 rfl ?_
    refine x_bipush (11 : Int32) dX9_remembers_52 (by decide) ?_
    refine x_icmp_ge 83 dX9_remembers_54 (by decide) (fun q => ?_) (fun q => ?_)
    · have h := xif_t q h
      refine x_weak (pl2 := [some (.ref 0), none]) ⟨rfl, trivial⟩ ?_
      exact hK l1_51 ma3_51 h
    · have h := xif_f q h
      refine x_aload_n dX9_remembers_57 rfl ?_
      refine x_get fX9_24 dX9_remembers_58 rfl rfl rfl ?_
      refine x_bipush (11 : Int32) dX9_remembers_61 (by decide) ?_
      refine x_aload_n dX9_remembers_63 rfl ?_
      refine x_get fX9_322 dX9_remembers_64 rfl rfl rfl ?_
      refine x_imul dX9_remembers_67 ?_
      refine x_iload_n dX9_remembers_68 rfl ?_
      refine x_iadd dX9_remembers_69 ?_
      refine x_aload_n dX9_remembers_70 rfl ?_
      refine x_get fX9_17 dX9_remembers_71 rfl rfl rfl ?_
      refine x_iload_n dX9_remembers_74 rfl ?_
      obtain ⟨q75, h⟩ := xix_of h
      refine x_iald dX9_remembers_75 rfl q75 ?_
      obtain ⟨q76, h⟩ := xix_of h
      refine x_iast (h2 := (hN g0 g1 g2 g3 g4 g5 g6 g7 g8 g9 g10 g11 g12 g13 g14 g15 g16 g17 g18 a0 a1 a2 (upd ma3_51 (((11 : Int32) * g11) + l1_51).toNatClampNeg (a1 l1_51.toNatClampNeg)) a4 a5 a6 a7 a8 a9 w0 .null rv)) dX9_remembers_76 rfl q76 rfl ?_
      refine x_iincK (1 : Int32) (pl' := [some (.ref 0), some (.int (l1_51 + (1 : Int32)))]) dX9_remembers_77 rfl (by decide) (by decide) rfl ?_
      refine x_goto 51 dX9_remembers_80 (by decide) ?_
      refine x_weak (pl2 := [some (.ref 0), some (.int (l1_51 + (1 : Int32)))]) ⟨rfl, rfl, trivial⟩ ?_
      exact ih51 (l1_51 + (1 : Int32)) (upd ma3_51 (((11 : Int32) * g11) + l1_51).toNatClampNeg (a1 l1_51.toNatClampNeg)) h
set_option maxRecDepth 100000 in
set_option maxHeartbeats 4000000 in
theorem lp_hN_X9_remembers_11 {g0 g1 g2 g3 g4 g5 g6 g7 g8 g9 g10 g11 g12 g13 g14 g15 g16 g17 g18 : Int32} {a0 a1 a2 a4 a5 a6 a7 a8 a9 : (Nat → Int32)} {w0 : Int64} {rv : Value} (d n0 : Nat)  (res : Int32 × (Nat → Int32)) (K : Int32 → (Nat → Int32) → Option (Int32 × (Nat → Int32))) (hK : ∀ (l1_11 : Int32) (ma3_11 : (Nat → Int32)), K l1_11 ma3_11 = some res → xW xks YX9_remembers (d + 1) 0 0 n0 (xZ 0 0 n0 none (hN g0 g1 g2 g3 g4 g5 g6 g7 g8 g9 g10 res.1 g12 g13 g14 g15 g16 g17 g18 a0 a1 a2 res.2 a4 a5 a6 a7 a8 a9 w0 .null rv)) 0 0 39 [some (.ref 0), none] [] (hN g0 g1 g2 g3 g4 g5 g6 g7 g8 g9 g10 g11 g12 g13 g14 g15 g16 g17 g18 a0 a1 a2 ma3_11 a4 a5 a6 a7 a8 a9 w0 .null rv)) : ∀ (n : Nat) (l1_11 : Int32) (ma3_11 : (Nat → Int32)), L_hN_X9_remembers_11 g11 a1  K n l1_11 ma3_11 = some res → xW xks YX9_remembers (d + 1) 0 0 n0 (xZ 0 0 n0 none (hN g0 g1 g2 g3 g4 g5 g6 g7 g8 g9 g10 res.1 g12 g13 g14 g15 g16 g17 g18 a0 a1 a2 res.2 a4 a5 a6 a7 a8 a9 w0 .null rv)) 0 0 11 [some (.ref 0), some (.int l1_11)] [] (hN g0 g1 g2 g3 g4 g5 g6 g7 g8 g9 g10 g11 g12 g13 g14 g15 g16 g17 g18 a0 a1 a2 ma3_11 a4 a5 a6 a7 a8 a9 w0 .null rv) := by
  intro n
  induction n with
  | zero =>
    intro l1_11 ma3_11 h
    cases (show (none : Option (Int32 × (Nat → Int32))) = some res from h)
  | succ n11 ih11 =>
    intro l1_11 ma3_11 h
    unfold L_hN_X9_remembers_11 at h
    refine x_iload_n dX9_remembers_11 rfl ?_
    refine x_sipush (165 : Int32) dX9_remembers_12 (by decide) ?_
    refine x_icmp_ge 39 dX9_remembers_15 (by decide) (fun q => ?_) (fun q => ?_)
    · have h := xif_t q h
      refine x_weak (pl2 := [some (.ref 0), none]) ⟨rfl, trivial⟩ ?_
      exact hK l1_11 ma3_11 h
    · have h := xif_f q h
      refine x_aload_n dX9_remembers_18 rfl ?_
      refine x_get fX9_24 dX9_remembers_19 rfl rfl rfl ?_
      refine x_iload_n dX9_remembers_22 rfl ?_
      refine x_aload_n dX9_remembers_23 rfl ?_
      refine x_get fX9_24 dX9_remembers_24 rfl rfl rfl ?_
      refine x_iload_n dX9_remembers_27 rfl ?_
      refine x_bipush (11 : Int32) dX9_remembers_28 (by decide) ?_
      refine x_iadd dX9_remembers_30 ?_
      obtain ⟨q31, h⟩ := xix_of h
      refine x_iald dX9_remembers_31 rfl q31 ?_
      obtain ⟨q32, h⟩ := xix_of h
      refine x_iast (h2 := (hN g0 g1 g2 g3 g4 g5 g6 g7 g8 g9 g10 g11 g12 g13 g14 g15 g16 g17 g18 a0 a1 a2 (upd ma3_11 l1_11.toNatClampNeg (ma3_11 (l1_11 + (11 : Int32)).toNatClampNeg)) a4 a5 a6 a7 a8 a9 w0 .null rv)) dX9_remembers_32 rfl q32 rfl ?_
      refine x_iincK (1 : Int32) (pl' := [some (.ref 0), some (.int (l1_11 + (1 : Int32)))]) dX9_remembers_33 rfl (by decide) (by decide) rfl ?_
      refine x_goto 11 dX9_remembers_36 (by decide) ?_
      refine x_weak (pl2 := [some (.ref 0), some (.int (l1_11 + (1 : Int32)))]) ⟨rfl, rfl, trivial⟩ ?_
      exact ih11 (l1_11 + (1 : Int32)) (upd ma3_11 l1_11.toNatClampNeg (ma3_11 (l1_11 + (11 : Int32)).toNatClampNeg)) h
set_option maxRecDepth 100000 in
set_option maxHeartbeats 4000000 in
theorem t_hN_X9_remembers {g0 g1 g2 g3 g4 g5 g6 g7 g8 g9 g10 g11 g12 g13 g14 g15 g16 g17 g18 : Int32} {a0 a1 a2 a3 a4 a5 a6 a7 a8 a9 : (Nat → Int32)} {w0 : Int64} {rv : Value}  (res : Int32 × (Nat → Int32)) (h : e_hN_X9_remembers g11 a1 a3  = some res) (d : Nat) : xMet xks YX9_remembers (d + 1) 0 0 [.ref 0] (hN g0 g1 g2 g3 g4 g5 g6 g7 g8 g9 g10 g11 g12 g13 g14 g15 g16 g17 g18 a0 a1 a2 a3 a4 a5 a6 a7 a8 a9 w0 .null rv) none (hN g0 g1 g2 g3 g4 g5 g6 g7 g8 g9 g10 res.1 g12 g13 g14 g15 g16 g17 g18 a0 a1 a2 res.2 a4 a5 a6 a7 a8 a9 w0 .null rv) := by
  unfold e_hN_X9_remembers at h
  refine xMet_of (pl := [some (.ref 0), none]) (by decide) (Nat.le_of_ble_eq_true rfl) rfl (Nat.le_of_ble_eq_true rfl) ?_
  refine x_aload_n dX9_remembers_0 rfl ?_
  refine x_get fX9_322 dX9_remembers_1 rfl rfl rfl ?_
  refine x_bipush (16 : Int32) dX9_remembers_4 (by decide) ?_
  refine x_icmp_ne 49 dX9_remembers_6 (by decide) (fun q => ?_) (fun q => ?_)
  · have h := xif_f q h
    refine x_iconst (0 : Int32) dX9_remembers_49 (by decide) ?_
    refine x_istore_n (pl' := [some (.ref 0), some (.int (0 : Int32))]) dX9_remembers_50 (by decide) rfl ?_
    refine x_weak (pl2 := [some (.ref 0), some (.int (0 : Int32))]) ⟨rfl, rfl, trivial⟩ ?_
    refine lp_hN_X9_remembers_51 d _  res _ (fun l1_51 ma3_51 h => ?_) 200000 (0 : Int32) a3 h
    refine x_aload_n dX9_remembers_83 rfl ?_
    refine x_dup dX9_remembers_84 rfl ?_
    refine x_get fX9_322 dX9_remembers_85 rfl rfl rfl ?_
    refine x_iconst (1 : Int32) dX9_remembers_88 (by decide) ?_
    refine x_iadd dX9_remembers_89 ?_
    refine x_put (h2 := (hN g0 g1 g2 g3 g4 g5 g6 g7 g8 g9 g10 (g11 + (1 : Int32)) g12 g13 g14 g15 g16 g17 g18 a0 a1 a2 ma3_51 a4 a5 a6 a7 a8 a9 w0 .null rv)) fX9_322 dX9_remembers_90 rfl rfl (Nat.le_of_ble_eq_true rfl : 19 + 1 ≤ _) (fun α => ⟨rfl, rfl⟩) rfl ?_
    cases h
    exact x_vret2 dX9_remembers_93 rfl rfl
  · have h := xif_t q h
    refine x_iconst (0 : Int32) dX9_remembers_9 (by decide) ?_
    refine x_istore_n (pl' := [some (.ref 0), some (.int (0 : Int32))]) dX9_remembers_10 (by decide) rfl ?_
    refine x_weak (pl2 := [some (.ref 0), some (.int (0 : Int32))]) ⟨rfl, rfl, trivial⟩ ?_
    refine lp_hN_X9_remembers_11 d _  res _ (fun l1_11 ma3_11 h => ?_) 200000 (0 : Int32) a3 h
    refine x_aload_n dX9_remembers_39 rfl ?_
    refine x_dup dX9_remembers_40 rfl ?_
    refine x_get fX9_322 dX9_remembers_41 rfl rfl rfl ?_
    refine x_iconst (1 : Int32) dX9_remembers_44 (by decide) ?_
    refine x_isub dX9_remembers_45 ?_
    refine x_put (h2 := (hN g0 g1 g2 g3 g4 g5 g6 g7 g8 g9 g10 (g11 - (1 : Int32)) g12 g13 g14 g15 g16 g17 g18 a0 a1 a2 ma3_11 a4 a5 a6 a7 a8 a9 w0 .null rv)) fX9_322 dX9_remembers_46 rfl rfl (Nat.le_of_ble_eq_true rfl : 19 + 1 ≤ _) (fun α => ⟨rfl, rfl⟩) rfl ?_
    refine x_iconst (0 : Int32) dX9_remembers_49 (by decide) ?_
    refine x_istore_n (pl' := [some (.ref 0), some (.int (0 : Int32))]) dX9_remembers_50 (by decide) rfl ?_
    refine x_weak (pl2 := [some (.ref 0), some (.int (0 : Int32))]) ⟨rfl, rfl, trivial⟩ ?_
    refine lp_hN_X9_remembers_51 d _  res _ (fun l1_51 ma3_51 h => ?_) 200000 (0 : Int32) ma3_11 h
    refine x_aload_n dX9_remembers_83 rfl ?_
    refine x_dup dX9_remembers_84 rfl ?_
    refine x_get fX9_322 dX9_remembers_85 rfl rfl rfl ?_
    refine x_iconst (1 : Int32) dX9_remembers_88 (by decide) ?_
    refine x_iadd dX9_remembers_89 ?_
    refine x_put (h2 := (hN g0 g1 g2 g3 g4 g5 g6 g7 g8 g9 g10 ((g11 - (1 : Int32)) + (1 : Int32)) g12 g13 g14 g15 g16 g17 g18 a0 a1 a2 ma3_51 a4 a5 a6 a7 a8 a9 w0 .null rv)) fX9_322 dX9_remembers_90 rfl rfl (Nat.le_of_ble_eq_true rfl : 19 + 1 ≤ _) (fun α => ⟨rfl, rfl⟩) rfl ?_
    cases h
    exact x_vret2 dX9_remembers_93 rfl rfl
noncomputable def e_hN_X9_granted (p0 : Int32) (p1 : Int32)  : Option (Int32 × Int32 × Int32) :=
  ((e_hN_X9_good p0 p1 (0 : Int32)).bind fun z2 => some ((1 : Int32), z2.2.1, z2.2.2))
set_option maxRecDepth 100000 in
set_option maxHeartbeats 4000000 in
theorem t_hN_X9_granted {g0 g1 g2 g3 g4 g5 g6 g7 g8 g9 g10 g11 g12 g13 g14 g15 g16 g17 g18 : Int32} {a0 a1 a2 a3 a4 a5 a6 a7 a8 a9 : (Nat → Int32)} {w0 : Int64} {rv : Value}  (res : Int32 × Int32 × Int32) (h : e_hN_X9_granted g1 g2  = some res) (d : Nat) : xMet xks YX9_granted (d + 2) 0 0 [.ref 0] (hN g0 g1 g2 g3 g4 g5 g6 g7 g8 g9 g10 g11 g12 g13 g14 g15 g16 g17 g18 a0 a1 a2 a3 a4 a5 a6 a7 a8 a9 w0 .null rv) (some (.int res.1)) (hN g0 res.2.1 res.2.2 g3 g4 g5 g6 g7 g8 g9 g10 g11 g12 g13 g14 g15 g16 g17 g18 a0 a1 a2 a3 a4 a5 a6 a7 a8 a9 w0 .null rv) := by
  unfold e_hN_X9_granted at h
  refine xMet_of (pl := [some (.ref 0)]) (by decide) (Nat.le_of_ble_eq_true rfl) rfl (Nat.le_of_ble_eq_true rfl) ?_
  refine x_aload_n dX9_granted_0 rfl ?_
  refine x_iconst (0 : Int32) dX9_granted_1 (by decide) ?_
  obtain ⟨z2, y2, h⟩ := xbind h
  refine x_callV (t_hN_X9_good (0 : Int32) z2 y2 (d + 0)) kX9_55 dX9_granted_2 rfl rfl rfl rfl rfl (Nat.le_of_ble_eq_true rfl) (Nat.le_of_ble_eq_true rfl) rfl rfl (Or.inl rfl) ?_
  refine x_pop dX9_granted_5 rfl ?_
  refine x_iconst (1 : Int32) dX9_granted_6 (by decide) ?_
  cases h
  exact x_zret2 dX9_granted_7 rfl rfl rfl
