noncomputable def e_hP_X9_good (p0 : Int32) (p1 : Int32) (x1 : Int32) : Option (Int32 × Int32 × Int32) :=
  some (x1, (0 : Int32), (-1 : Int32))
set_option maxRecDepth 100000 in
set_option maxHeartbeats 4000000 in
theorem t_hP_X9_good {g0 g1 g2 g3 g4 g5 g6 g7 g8 g9 g10 g11 g12 g13 g14 g15 g16 g17 g18 g19 g20 g21 g22 g23 g24 g25 g26 : Int32} {a0 a1 a2 a3 a4 a5 a6 a7 a8 a9 a10 a11 a12 a13 a14 a15 a16 a17 a18 a19 a20 a21 a22 a23 : (Nat → Int32)} {b0 : (Nat → Int64)} {w0 : Int64} {k0 k1 k2 k3 k4 k5 k6 k7 k8 k9 k10 k11 k12 k13 k14 k15 : xC} (x1 : Int32) (res : Int32 × Int32 × Int32) (h : e_hP_X9_good g1 g2 x1 = some res) (d : Nat) : xMet xks YX9_good (d + 1) 0 0 [.ref 0, .int x1] (hP g0 g1 g2 g3 g4 g5 g6 g7 g8 g9 g10 g11 g12 g13 g14 g15 g16 g17 g18 g19 g20 g21 g22 g23 g24 g25 g26 a0 a1 a2 a3 a4 a5 a6 a7 a8 a9 a10 a11 a12 a13 a14 a15 a16 a17 a18 a19 a20 a21 a22 a23 b0 w0 k0 k1 k2 k3 k4 k5 k6 k7 k8 k9 k10 k11 k12 k13 k14 k15 (.ref 27) (.ref 27)) (some (.int res.1)) (hP g0 res.2.1 res.2.2 g3 g4 g5 g6 g7 g8 g9 g10 g11 g12 g13 g14 g15 g16 g17 g18 g19 g20 g21 g22 g23 g24 g25 g26 a0 a1 a2 a3 a4 a5 a6 a7 a8 a9 a10 a11 a12 a13 a14 a15 a16 a17 a18 a19 a20 a21 a22 a23 b0 w0 k0 k1 k2 k3 k4 k5 k6 k7 k8 k9 k10 k11 k12 k13 k14 k15 (.ref 27) (.ref 27)) := by
  unfold e_hP_X9_good at h
  refine xMet_of (pl := [some (.ref 0), some (.int x1)]) (by decide) (Nat.le_of_ble_eq_true rfl) rfl (Nat.le_of_ble_eq_true rfl) ?_
  refine x_aload_n dX9_good_0 rfl ?_
  refine x_iconst (0 : Int32) dX9_good_1 (by decide) ?_
  refine x_put (h2 := (hP g0 (0 : Int32) g2 g3 g4 g5 g6 g7 g8 g9 g10 g11 g12 g13 g14 g15 g16 g17 g18 g19 g20 g21 g22 g23 g24 g25 g26 a0 a1 a2 a3 a4 a5 a6 a7 a8 a9 a10 a11 a12 a13 a14 a15 a16 a17 a18 a19 a20 a21 a22 a23 b0 w0 k0 k1 k2 k3 k4 k5 k6 k7 k8 k9 k10 k11 k12 k13 k14 k15 (.ref 27) (.ref 27))) fX9_48 dX9_good_2 rfl rfl (Nat.le_of_ble_eq_true rfl : 1 + 1 ≤ _) (fun α => ⟨rfl, rfl⟩) rfl ?_
  refine x_aload_n dX9_good_5 rfl ?_
  refine x_iconst (-1 : Int32) dX9_good_6 (by decide) ?_
  refine x_put (h2 := (hP g0 (0 : Int32) (-1 : Int32) g3 g4 g5 g6 g7 g8 g9 g10 g11 g12 g13 g14 g15 g16 g17 g18 g19 g20 g21 g22 g23 g24 g25 g26 a0 a1 a2 a3 a4 a5 a6 a7 a8 a9 a10 a11 a12 a13 a14 a15 a16 a17 a18 a19 a20 a21 a22 a23 b0 w0 k0 k1 k2 k3 k4 k5 k6 k7 k8 k9 k10 k11 k12 k13 k14 k15 (.ref 27) (.ref 27))) fX9_9 dX9_good_7 rfl rfl (Nat.le_of_ble_eq_true rfl : 2 + 1 ≤ _) (fun α => ⟨rfl, rfl⟩) rfl ?_
  refine x_iload_n dX9_good_10 rfl ?_
  cases h
  exact x_iret2 dX9_good_11 rfl rfl
