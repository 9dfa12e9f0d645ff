theorem hQ_nr {g0 g1 g2 g3 g4 g5 g6 g7 g8 g9 g10 g11 g12 g13 g14 g15 g16 g17 g18 : Int32} {a0 a1 a2 a3 a4 a5 a6 a7 a8 a9 : (Nat → Int32)} {w0 : Int64} {k0 k1 k2 k3 k4 k5 k6 k7 k8 k9 k10 k11 k12 k13 k14 k15 : xC} {cv rv : Value} (hk : ∀ n, 27 ≤ n → xnrH n [k0, k1, k2, k3, k4, k5, k6, k7, k8, k9, k10, k11, k12, k13, k14, k15] = true) (hc : ∀ n, 27 ≤ n → xnr n cv = true ∧ xnr n rv = true) : ∀ n, 27 ≤ n → xnrH n (hQ g0 g1 g2 g3 g4 g5 g6 g7 g8 g9 g10 g11 g12 g13 g14 g15 g16 g17 g18 a0 a1 a2 a3 a4 a5 a6 a7 a8 a9 w0 k0 k1 k2 k3 k4 k5 k6 k7 k8 k9 k10 k11 k12 k13 k14 k15 cv rv) = true := by
  intro n hn
  have h1 := hk n hn
  have h2 := hc n hn
  have h3 : ∀ i, i < 27 → (i == n) = false := fun i hi => by simp; omega
  unfold xnrH at h1 ⊢
  unfold hQ
  simp only [List.all_cons, List.all_nil, Bool.and_true, Bool.and_eq_true] at h1 ⊢
  simp only [xnr, h2.1, h2.2, Bool.not_eq_true', true_and, and_true]
  refine ⟨?_, ?_⟩
  · simp [h3]
    exact ⟨h2.1, h2.2⟩
  · exact h1
noncomputable def e_hQ_X9_county (p0 : Int32) (p1 : Int32) (p2 : Int32) (p3 : Int32) (p4 : Int32) (p5 : Int32) (p6 : (Nat → Int32)) (p7 : Int32) (p8 : Int32) (p9 : Int64) (p10 : Int32) (p11 : (Nat → Int32)) (p12 : Int32) (p13 : Int32) (p14 : Int32) (p15 : Int32) (x1 : Int32) (cv rv : Value) : Option (Int32 × Int32 × Int32 × Int32 × Int32 × Int32 × Int32 × Int32 × Int32 × Int32 × Int32 × Int32 × Int32 × Int32 × (Nat → Int32) × (Nat → Int32) × (Nat → Int32) × (Nat → Int32) × (Nat → Int32) × (Nat → Int32) × (Nat → Int32) × (Nat → Int32) × (Nat → Int32) × (Nat → Int32) × (Nat → Int32) × (Nat → Int32) × (Nat → Int32) × (Nat → Int32) × (Nat → Int64) × Value × Int32 × Int32 × Int32 × Int64 × Int32 × Value × (Nat → Int32) × Int32 × Int32 × Int32 × Int32) :=
  ((e_hP_X9_goesOn (0 : Int32) (0 : Int32) x1 p6 p7 p8 p9).bind fun z60 => (e_hP_X9_readAll z60.2.1 (0 : Int32) (0 : Int32) z60.1 p10 (0 : Int32) z60.2.2.2.2 (0 : Int32) (0 : Int32) z60.2.2.1 x1 p6 z60.2.2.2.1 (0 : Int32) (fun _ => 0) (fun _ => 0) (fun _ => 0) (fun _ => 0) (fun _ => 0) (fun _ => 0) (0 : Int32) (fun _ => 0) (fun _ => 0) (fun _ => 0) (fun _ => 0) (fun _ => 0) (fun _ => 0) (fun _ => 0) (fun _ => 0) (fun _ => 0) (0 : Int32) (0 : Int32)).bind fun z64 => if z64.1 ≤ (0 : Int32) then ((e_hP_X9_starts p11 z64.2.2.2.2.2.2.2.2.2.2.2.2.2.2.2.2.2.2.2.2.2.2.2.2.1 z64.2.2.2.2.2.2.2.2.2.2.2.2.2.2.2.2.2.2.2.2.1 z64.2.2.2.2.2.2.2.2.2.2.2.2.2.2.2.2.2.2.2.2.2.2.2.2.2.1 z64.2.2.2.2.2.2.2.2.2.2.2.2.2.2.2.2.2.2.2.2.2.2.2.1).bind fun z102 => (e_hP_X9_good p14 p15 z64.2.2.2.2.2.2.2.2.2.2.2.2.2.2.2.2.2.2.2.2.2.2.2.2.1).bind fun z123 => some (z123.1, (0 : Int32), x1, (0 : Int32), z64.2.2.2.2.1, z64.1, z64.2.2.2.2.2.2.2.2.2.2.2.2.2.2.2.2.2.2.2.2.2.2.2.2.2.2.2.1, z64.2.2.2.2.2.2.2.2.2.2.2.2.2.2.2.2.2.2.2.2.2.2.2.2.2.2.2.2.1, z64.2.2.2.2.2.2.2.2.2.2.2.2.2.2.2.2.2.2.2.2.2.2.2.2.2.2.2.2.2, z64.2.2.2.2.2.2.2.2.2.2.2.2.2.2.2.2.2.2.2.2.2.2.2.2.2.2.1, z64.2.2.2.2.2.2.2.2.2.2.2.2.2.2.2.2.2.2.2.2.2.2.2.2.1, z64.2.2.2.2.2.2.2.2.2.2.2.2.2.2.2.1, z64.2.2.2.2.2.2.2.2.2.2.1, z64.2.2.2.2.2.2.2.2.2.2.2.2.2.2.2.2.2.2.2.1, z64.2.2.2.2.2.2.2.2.2.2.2.2.2.2.2.2.2.2.2.2.2.2.2.2.2.1, z64.2.2.2.2.2.2.2.2.2.2.2.2.2.2.2.2.2.2.2.2.1, z64.2.2.2.2.2.2.2.2.2.2.2.2.2.2.2.2.2.2.2.2.2.1, z64.2.2.2.2.2.2.2.2.2.2.2.2.2.2.2.2.2.2.2.2.2.2.1, z64.2.2.2.2.2.2.2.2.2.2.2.2.2.2.2.2.2.2.2.2.2.2.2.1, z64.2.2.2.2.2.2.2.2.2.2.2.1, z64.2.2.2.2.2.2.2.2.2.2.2.2.1, z64.2.2.2.2.2.2.2.2.2.2.2.2.2.1, z64.2.2.2.2.2.2.2.2.2.2.2.2.2.2.1, z64.2.2.2.2.2.2.2.1, z64.2.2.2.2.2.2.2.2.1, z64.2.2.2.2.2.2.2.2.2.1, z64.2.2.2.2.2.2.2.2.2.2.2.2.2.2.2.2.2.1, z64.2.2.2.2.2.2.2.2.2.2.2.2.2.2.2.2.2.2.1, z64.2.2.2.2.2.2.2.2.2.2.2.2.2.2.2.2.1, (.ref 27), z64.2.2.1, z64.2.2.2.1, z64.2.2.2.2.2.1, z64.2.2.2.2.2.2.1, z64.2.1, (.ref 27), z102, (0 : Int32), (0 : Int32), z123.2.1, z123.2.2)) else some ((-1 : Int32), (0 : Int32), x1, (0 : Int32), z64.2.2.2.2.1, z64.1, z64.2.2.2.2.2.2.2.2.2.2.2.2.2.2.2.2.2.2.2.2.2.2.2.2.2.2.2.1, z64.2.2.2.2.2.2.2.2.2.2.2.2.2.2.2.2.2.2.2.2.2.2.2.2.2.2.2.2.1, z64.2.2.2.2.2.2.2.2.2.2.2.2.2.2.2.2.2.2.2.2.2.2.2.2.2.2.2.2.2, z64.2.2.2.2.2.2.2.2.2.2.2.2.2.2.2.2.2.2.2.2.2.2.2.2.2.2.1, z64.2.2.2.2.2.2.2.2.2.2.2.2.2.2.2.2.2.2.2.2.2.2.2.2.1, z64.2.2.2.2.2.2.2.2.2.2.2.2.2.2.2.1, z64.2.2.2.2.2.2.2.2.2.2.1, z64.2.2.2.2.2.2.2.2.2.2.2.2.2.2.2.2.2.2.2.1, z64.2.2.2.2.2.2.2.2.2.2.2.2.2.2.2.2.2.2.2.2.2.2.2.2.2.1, z64.2.2.2.2.2.2.2.2.2.2.2.2.2.2.2.2.2.2.2.2.1, z64.2.2.2.2.2.2.2.2.2.2.2.2.2.2.2.2.2.2.2.2.2.1, z64.2.2.2.2.2.2.2.2.2.2.2.2.2.2.2.2.2.2.2.2.2.2.1, z64.2.2.2.2.2.2.2.2.2.2.2.2.2.2.2.2.2.2.2.2.2.2.2.1, z64.2.2.2.2.2.2.2.2.2.2.2.1, z64.2.2.2.2.2.2.2.2.2.2.2.2.1, z64.2.2.2.2.2.2.2.2.2.2.2.2.2.1, z64.2.2.2.2.2.2.2.2.2.2.2.2.2.2.1, z64.2.2.2.2.2.2.2.1, z64.2.2.2.2.2.2.2.2.1, z64.2.2.2.2.2.2.2.2.2.1, z64.2.2.2.2.2.2.2.2.2.2.2.2.2.2.2.2.2.1, z64.2.2.2.2.2.2.2.2.2.2.2.2.2.2.2.2.2.2.1, z64.2.2.2.2.2.2.2.2.2.2.2.2.2.2.2.2.1, (.ref 27), z64.2.2.1, z64.2.2.2.1, z64.2.2.2.2.2.1, z64.2.2.2.2.2.2.1, z64.2.1, cv, p11, p12, p13, (4 : Int32), z64.2.1))
set_option maxRecDepth 100000 in
set_option maxHeartbeats 4000000 in
theorem t_hQ_X9_county {g0 g1 g2 g3 g4 g5 g6 g7 g8 g9 g10 g11 g12 g13 g14 g15 g16 g17 g18 : Int32} {a0 a1 a2 a3 a4 a5 a6 a7 a8 a9 : (Nat → Int32)} {w0 : Int64} {k0 k1 k2 k3 k4 k5 k6 k7 k8 k9 k10 k11 k12 k13 k14 k15 : xC} {cv rv : Value} (x1 : Int32) (hk : ∀ n, 27 ≤ n → xnrH n [k0, k1, k2, k3, k4, k5, k6, k7, k8, k9, k10, k11, k12, k13, k14, k15] = true) (hc : ∀ n, 27 ≤ n → xnr n cv = true ∧ xnr n rv = true) (hn0 : ¬ x1 < (0 : Int32)) (hn1 : x1 ≤ g3) (res : Int32 × Int32 × Int32 × Int32 × Int32 × Int32 × Int32 × Int32 × Int32 × Int32 × Int32 × Int32 × Int32 × Int32 × (Nat → Int32) × (Nat → Int32) × (Nat → Int32) × (Nat → Int32) × (Nat → Int32) × (Nat → Int32) × (Nat → Int32) × (Nat → Int32) × (Nat → Int32) × (Nat → Int32) × (Nat → Int32) × (Nat → Int32) × (Nat → Int32) × (Nat → Int32) × (Nat → Int64) × Value × Int32 × Int32 × Int32 × Int64 × Int32 × Value × (Nat → Int32) × Int32 × Int32 × Int32 × Int32) (h : e_hQ_X9_county g0 g3 g4 g5 g9 g6 a0 g7 g8 w0 g10 a1 g11 g12 g1 g2 x1 cv rv = some res) (d : Nat) : xMet xks YX9_county (d + 13) 16 164 [.ref 0, .int x1] (hQ g0 g1 g2 g3 g4 g5 g6 g7 g8 g9 g10 g11 g12 g13 g14 g15 g16 g17 g18 a0 a1 a2 a3 a4 a5 a6 a7 a8 a9 w0 k0 k1 k2 k3 k4 k5 k6 k7 k8 k9 k10 k11 k12 k13 k14 k15 cv rv) (some (.int res.1)) (hP res.2.1 res.2.2.2.2.2.2.2.2.2.2.2.2.2.2.2.2.2.2.2.2.2.2.2.2.2.2.2.2.2.2.2.2.2.2.2.2.2.2.2.1 res.2.2.2.2.2.2.2.2.2.2.2.2.2.2.2.2.2.2.2.2.2.2.2.2.2.2.2.2.2.2.2.2.2.2.2.2.2.2.2.2 res.2.2.2.1 res.2.2.1 res.2.2.2.2.1 res.2.2.2.2.2.2.2.2.2.2.2.2.2.2.2.2.2.2.2.2.2.2.2.2.2.2.2.2.2.2.1 res.2.2.2.2.2.2.2.2.2.2.2.2.2.2.2.2.2.2.2.2.2.2.2.2.2.2.2.2.2.2.2.1 res.2.2.2.2.2.2.2.2.2.2.2.2.2.2.2.2.2.2.2.2.2.2.2.2.2.2.2.2.2.2.2.2.1 res.2.2.2.2.2.1 res.2.2.2.2.2.2.2.2.2.2.2.2.2.2.2.2.2.2.2.2.2.2.2.2.2.2.2.2.2.2.2.2.2.2.1 res.2.2.2.2.2.2.2.2.2.2.2.2.2.2.2.2.2.2.2.2.2.2.2.2.2.2.2.2.2.2.2.2.2.2.2.2.2.1 res.2.2.2.2.2.2.2.2.2.2.2.2.2.2.2.2.2.2.2.2.2.2.2.2.2.2.2.2.2.2.2.2.2.2.2.2.2.2.1 g13 g14 g15 g16 g17 g18 res.2.2.2.2.2.2.1 res.2.2.2.2.2.2.2.1 res.2.2.2.2.2.2.2.2.1 res.2.2.2.2.2.2.2.2.2.1 res.2.2.2.2.2.2.2.2.2.2.1 res.2.2.2.2.2.2.2.2.2.2.2.1 res.2.2.2.2.2.2.2.2.2.2.2.2.1 res.2.2.2.2.2.2.2.2.2.2.2.2.2.1 a0 res.2.2.2.2.2.2.2.2.2.2.2.2.2.2.2.2.2.2.2.2.2.2.2.2.2.2.2.2.2.2.2.2.2.2.2.2.1 a2 a3 a4 a5 a6 a7 a8 a9 res.2.2.2.2.2.2.2.2.2.2.2.2.2.2.1 res.2.2.2.2.2.2.2.2.2.2.2.2.2.2.2.1 res.2.2.2.2.2.2.2.2.2.2.2.2.2.2.2.2.1 res.2.2.2.2.2.2.2.2.2.2.2.2.2.2.2.2.2.1 res.2.2.2.2.2.2.2.2.2.2.2.2.2.2.2.2.2.2.1 res.2.2.2.2.2.2.2.2.2.2.2.2.2.2.2.2.2.2.2.1 res.2.2.2.2.2.2.2.2.2.2.2.2.2.2.2.2.2.2.2.2.1 res.2.2.2.2.2.2.2.2.2.2.2.2.2.2.2.2.2.2.2.2.2.1 res.2.2.2.2.2.2.2.2.2.2.2.2.2.2.2.2.2.2.2.2.2.2.1 res.2.2.2.2.2.2.2.2.2.2.2.2.2.2.2.2.2.2.2.2.2.2.2.1 res.2.2.2.2.2.2.2.2.2.2.2.2.2.2.2.2.2.2.2.2.2.2.2.2.1 res.2.2.2.2.2.2.2.2.2.2.2.2.2.2.2.2.2.2.2.2.2.2.2.2.2.1 res.2.2.2.2.2.2.2.2.2.2.2.2.2.2.2.2.2.2.2.2.2.2.2.2.2.2.1 res.2.2.2.2.2.2.2.2.2.2.2.2.2.2.2.2.2.2.2.2.2.2.2.2.2.2.2.1 res.2.2.2.2.2.2.2.2.2.2.2.2.2.2.2.2.2.2.2.2.2.2.2.2.2.2.2.2.1 res.2.2.2.2.2.2.2.2.2.2.2.2.2.2.2.2.2.2.2.2.2.2.2.2.2.2.2.2.2.2.2.2.2.1 k0 k1 k2 k3 k4 k5 k6 k7 k8 k9 k10 k11 k12 k13 k14 k15 res.2.2.2.2.2.2.2.2.2.2.2.2.2.2.2.2.2.2.2.2.2.2.2.2.2.2.2.2.2.2.2.2.2.2.2.1 res.2.2.2.2.2.2.2.2.2.2.2.2.2.2.2.2.2.2.2.2.2.2.2.2.2.2.2.2.2.1) := by
  unfold e_hQ_X9_county at h
  refine xMet_of (pl := [some (.ref 0), some (.int x1)]) (by decide) (Nat.le_of_ble_eq_true rfl) rfl (Nat.le_of_ble_eq_true rfl) ?_
  refine x_aload_n dX9_county_0 rfl ?_
  refine x_iconst (0 : Int32) dX9_county_1 (by decide) ?_
  refine x_put (h2 := (hQ (0 : Int32) g1 g2 g3 g4 g5 g6 g7 g8 g9 g10 g11 g12 g13 g14 g15 g16 g17 g18 a0 a1 a2 a3 a4 a5 a6 a7 a8 a9 w0 k0 k1 k2 k3 k4 k5 k6 k7 k8 k9 k10 k11 k12 k13 k14 k15 cv rv)) fX9_45 dX9_county_2 rfl rfl (Nat.le_of_ble_eq_true rfl : 0 + 1 ≤ _) (fun α => ⟨rfl, rfl⟩) rfl ?_
  refine x_iload_n dX9_county_5 rfl ?_
  refine x_if_lt 17 dX9_county_6 (by decide) (fun q => absurd q hn0) (fun _ => ?_)
  refine x_iload_n dX9_county_9 rfl ?_
  refine x_aload_n dX9_county_10 rfl ?_
  refine x_get fX9_309 dX9_county_11 rfl rfl rfl ?_
  refine x_icmp_le 23 dX9_county_14 (by decide) (fun _ => ?_) (fun q => absurd hn1 q)
  refine x_aload_n dX9_county_23 rfl ?_
  refine x_iload_n dX9_county_24 rfl ?_
  refine x_put (h2 := (hQ (0 : Int32) g1 g2 g3 x1 g5 g6 g7 g8 g9 g10 g11 g12 g13 g14 g15 g16 g17 g18 a0 a1 a2 a3 a4 a5 a6 a7 a8 a9 w0 k0 k1 k2 k3 k4 k5 k6 k7 k8 k9 k10 k11 k12 k13 k14 k15 cv rv)) fX9_62 dX9_county_25 rfl rfl (Nat.le_of_ble_eq_true rfl : 7 + 1 ≤ _) (fun α => ⟨rfl, rfl⟩) rfl ?_
  refine x_aload_n dX9_county_28 rfl ?_
  refine x_iconst (0 : Int32) dX9_county_29 (by decide) ?_
  refine x_put (h2 := (hQ (0 : Int32) g1 g2 (0 : Int32) x1 g5 g6 g7 g8 g9 g10 g11 g12 g13 g14 g15 g16 g17 g18 a0 a1 a2 a3 a4 a5 a6 a7 a8 a9 w0 k0 k1 k2 k3 k4 k5 k6 k7 k8 k9 k10 k11 k12 k13 k14 k15 cv rv)) fX9_309 dX9_county_30 rfl rfl (Nat.le_of_ble_eq_true rfl : 6 + 1 ≤ _) (fun α => ⟨rfl, rfl⟩) rfl ?_
  refine x_aload_n dX9_county_33 rfl ?_
  refine x_iconst (0 : Int32) dX9_county_34 (by decide) ?_
  refine x_put (h2 := (hQ (0 : Int32) g1 g2 (0 : Int32) x1 (0 : Int32) g6 g7 g8 g9 g10 g11 g12 g13 g14 g15 g16 g17 g18 a0 a1 a2 a3 a4 a5 a6 a7 a8 a9 w0 k0 k1 k2 k3 k4 k5 k6 k7 k8 k9 k10 k11 k12 k13 k14 k15 cv rv)) fX9_80 dX9_county_35 rfl rfl (Nat.le_of_ble_eq_true rfl : 8 + 1 ≤ _) (fun α => ⟨rfl, rfl⟩) rfl ?_
  refine x_aload_n dX9_county_38 rfl ?_
  refine x_iconst (0 : Int32) dX9_county_39 (by decide) ?_
  refine x_put (h2 := (hQ (0 : Int32) g1 g2 (0 : Int32) x1 (0 : Int32) g6 g7 g8 (0 : Int32) g10 g11 g12 g13 g14 g15 g16 g17 g18 a0 a1 a2 a3 a4 a5 a6 a7 a8 a9 w0 k0 k1 k2 k3 k4 k5 k6 k7 k8 k9 k10 k11 k12 k13 k14 k15 cv rv)) fX9_103 dX9_county_40 rfl rfl (Nat.le_of_ble_eq_true rfl : 12 + 1 ≤ _) (fun α => ⟨rfl, rfl⟩) rfl ?_
  refine x_aload_n dX9_county_43 rfl ?_
  refine x_new (h2 := ((hQ (0 : Int32) g1 g2 (0 : Int32) x1 (0 : Int32) g6 g7 g8 (0 : Int32) g10 g11 g12 g13 g14 g15 g16 g17 g18 a0 a1 a2 a3 a4 a5 a6 a7 a8 a9 w0 k0 k1 k2 k3 k4 k5 k6 k7 k8 k9 k10 k11 k12 k13 k14 k15 cv rv) ++ [.inr (8, [.int 0, .int 0, .int 0, .int 0, .int 0, .int 0, .int 0, .int 0, .null, .null, .null, .null, .null, .null, .null, .null, .null, .null, .null, .null, .null, .null, .null])])) (kc2 := 15) (kz2 := 141) (i := 27) nX9_157 dX9_county_44 rfl rfl (hQ_nr hk hc 27 (Nat.le_refl _)) rfl rfl (Nat.le_of_ble_eq_true rfl) rfl rfl rfl rfl ?_
  refine x_dup dX9_county_47 rfl ?_
  refine x_callI (t_newC (hQ_nr hk hc) (d + 11)) kX9_312 dX9_county_48 rfl rfl (Nat.le_of_ble_eq_true rfl) (Nat.le_of_ble_eq_true rfl) (kc2 := 0) (kz2 := 0) rfl rfl (Or.inr ⟨rfl, rfl⟩) ?_
  refine x_heap (h2 := (hP (0 : Int32) g1 g2 (0 : Int32) x1 (0 : Int32) g6 g7 g8 (0 : Int32) g10 g11 g12 g13 g14 g15 g16 g17 g18 (0 : Int32) (0 : Int32) (0 : Int32) (0 : Int32) (0 : Int32) (0 : Int32) (0 : Int32) (0 : Int32) a0 a1 a2 a3 a4 a5 a6 a7 a8 a9 (fun _ => 0) (fun _ => 0) (fun _ => 0) (fun _ => 0) (fun _ => 0) (fun _ => 0) (fun _ => 0) (fun _ => 0) (fun _ => 0) (fun _ => 0) (fun _ => 0) (fun _ => 0) (fun _ => 0) (fun _ => 0) (fun _ => 0) w0 k0 k1 k2 k3 k4 k5 k6 k7 k8 k9 k10 k11 k12 k13 k14 k15 cv rv)) rfl ?_
  refine x_put (h2 := (hP (0 : Int32) g1 g2 (0 : Int32) x1 (0 : Int32) g6 g7 g8 (0 : Int32) g10 g11 g12 g13 g14 g15 g16 g17 g18 (0 : Int32) (0 : Int32) (0 : Int32) (0 : Int32) (0 : Int32) (0 : Int32) (0 : Int32) (0 : Int32) a0 a1 a2 a3 a4 a5 a6 a7 a8 a9 (fun _ => 0) (fun _ => 0) (fun _ => 0) (fun _ => 0) (fun _ => 0) (fun _ => 0) (fun _ => 0) (fun _ => 0) (fun _ => 0) (fun _ => 0) (fun _ => 0) (fun _ => 0) (fun _ => 0) (fun _ => 0) (fun _ => 0) w0 k0 k1 k2 k3 k4 k5 k6 k7 k8 k9 k10 k11 k12 k13 k14 k15 cv (.ref 27))) fX9_152 dX9_county_51 rfl rfl (Nat.le_of_ble_eq_true rfl : 4 + 1 ≤ _) (fun α => ⟨rfl, rfl⟩) rfl ?_
  refine x_aload_n dX9_county_54 rfl ?_
  refine x_iconst (0 : Int32) dX9_county_55 (by decide) ?_
  refine x_put (h2 := (hP (0 : Int32) g1 g2 (0 : Int32) x1 (0 : Int32) (0 : Int32) g7 g8 (0 : Int32) g10 g11 g12 g13 g14 g15 g16 g17 g18 (0 : Int32) (0 : Int32) (0 : Int32) (0 : Int32) (0 : Int32) (0 : Int32) (0 : Int32) (0 : Int32) a0 a1 a2 a3 a4 a5 a6 a7 a8 a9 (fun _ => 0) (fun _ => 0) (fun _ => 0) (fun _ => 0) (fun _ => 0) (fun _ => 0) (fun _ => 0) (fun _ => 0) (fun _ => 0) (fun _ => 0) (fun _ => 0) (fun _ => 0) (fun _ => 0) (fun _ => 0) (fun _ => 0) w0 k0 k1 k2 k3 k4 k5 k6 k7 k8 k9 k10 k11 k12 k13 k14 k15 cv (.ref 27))) fX9_77 dX9_county_56 rfl rfl (Nat.le_of_ble_eq_true rfl : 9 + 1 ≤ _) (fun α => ⟨rfl, rfl⟩) rfl ?_
  refine x_aload_n dX9_county_59 rfl ?_
  obtain ⟨z60, y60, h⟩ := xbind h
  refine x_callV (t_hP_X9_goesOn  z60 y60 (d + 10)) kX9_113 dX9_county_60 rfl rfl rfl rfl rfl (Nat.le_of_ble_eq_true rfl) (Nat.le_of_ble_eq_true rfl) rfl rfl (Or.inl rfl) ?_
  refine x_aload_n dX9_county_63 rfl ?_
  obtain ⟨z64, y64, h⟩ := xbind h
  refine x_callV (t_hP_X9_readAll  z64 y64 (d + 0)) kX9_313 dX9_county_64 rfl rfl rfl rfl rfl (Nat.le_of_ble_eq_true rfl) (Nat.le_of_ble_eq_true rfl) rfl rfl (Or.inl rfl) ?_
  refine x_aload_n dX9_county_67 rfl ?_
  refine x_get fX9_103 dX9_county_68 rfl rfl rfl ?_
  refine x_if_le 89 dX9_county_71 (by decide) (fun q => ?_) (fun q => ?_)
  · have h := xif_t q h
    refine x_aload_n dX9_county_89 rfl ?_
    refine x_aload_n dX9_county_90 rfl ?_
    refine x_get fX9_152 dX9_county_91 rfl rfl rfl ?_
    refine x_put (h2 := (hP (0 : Int32) g1 g2 (0 : Int32) x1 z64.2.2.2.2.1 z64.2.2.1 z64.2.2.2.1 z64.2.2.2.2.2.1 z64.1 z64.2.1 g11 g12 g13 g14 g15 g16 g17 g18 z64.2.2.2.2.2.2.2.2.2.2.2.2.2.2.2.2.2.2.2.2.2.2.2.2.2.2.2.1 z64.2.2.2.2.2.2.2.2.2.2.2.2.2.2.2.2.2.2.2.2.2.2.2.2.2.2.2.2.1 z64.2.2.2.2.2.2.2.2.2.2.2.2.2.2.2.2.2.2.2.2.2.2.2.2.2.2.2.2.2 z64.2.2.2.2.2.2.2.2.2.2.2.2.2.2.2.2.2.2.2.2.2.2.2.2.2.2.1 z64.2.2.2.2.2.2.2.2.2.2.2.2.2.2.2.2.2.2.2.2.2.2.2.2.1 z64.2.2.2.2.2.2.2.2.2.2.2.2.2.2.2.1 z64.2.2.2.2.2.2.2.2.2.2.1 z64.2.2.2.2.2.2.2.2.2.2.2.2.2.2.2.2.2.2.2.1 a0 a1 a2 a3 a4 a5 a6 a7 a8 a9 z64.2.2.2.2.2.2.2.2.2.2.2.2.2.2.2.2.2.2.2.2.2.2.2.2.2.1 z64.2.2.2.2.2.2.2.2.2.2.2.2.2.2.2.2.2.2.2.2.1 z64.2.2.2.2.2.2.2.2.2.2.2.2.2.2.2.2.2.2.2.2.2.1 z64.2.2.2.2.2.2.2.2.2.2.2.2.2.2.2.2.2.2.2.2.2.2.1 z64.2.2.2.2.2.2.2.2.2.2.2.2.2.2.2.2.2.2.2.2.2.2.2.1 z64.2.2.2.2.2.2.2.2.2.2.2.1 z64.2.2.2.2.2.2.2.2.2.2.2.2.1 z64.2.2.2.2.2.2.2.2.2.2.2.2.2.1 z64.2.2.2.2.2.2.2.2.2.2.2.2.2.2.1 z64.2.2.2.2.2.2.2.1 z64.2.2.2.2.2.2.2.2.1 z64.2.2.2.2.2.2.2.2.2.1 z64.2.2.2.2.2.2.2.2.2.2.2.2.2.2.2.2.2.1 z64.2.2.2.2.2.2.2.2.2.2.2.2.2.2.2.2.2.2.1 z64.2.2.2.2.2.2.2.2.2.2.2.2.2.2.2.2.1 z64.2.2.2.2.2.2.1 k0 k1 k2 k3 k4 k5 k6 k7 k8 k9 k10 k11 k12 k13 k14 k15 (.ref 27) (.ref 27))) fX9_316 dX9_county_94 rfl rfl (Nat.le_of_ble_eq_true rfl : 3 + 1 ≤ _) (fun α => ⟨rfl, rfl⟩) rfl ?_
    refine x_aload_n dX9_county_97 rfl ?_
    refine x_aload_n dX9_county_98 rfl ?_
    refine x_get fX9_17 dX9_county_99 rfl rfl rfl ?_
    obtain ⟨z102, y102, h⟩ := xbind h
    refine x_callV (t_hP_X9_starts  z102 y102 (d + 10)) kX9_318 dX9_county_102 rfl rfl rfl rfl rfl (Nat.le_of_ble_eq_true rfl) (Nat.le_of_ble_eq_true rfl) rfl rfl (Or.inl rfl) ?_
    refine x_aload_n dX9_county_105 rfl ?_
    refine x_iconst (0 : Int32) dX9_county_106 (by decide) ?_
    refine x_put (h2 := (hP (0 : Int32) g1 g2 (0 : Int32) x1 z64.2.2.2.2.1 z64.2.2.1 z64.2.2.2.1 z64.2.2.2.2.2.1 z64.1 z64.2.1 (0 : Int32) g12 g13 g14 g15 g16 g17 g18 z64.2.2.2.2.2.2.2.2.2.2.2.2.2.2.2.2.2.2.2.2.2.2.2.2.2.2.2.1 z64.2.2.2.2.2.2.2.2.2.2.2.2.2.2.2.2.2.2.2.2.2.2.2.2.2.2.2.2.1 z64.2.2.2.2.2.2.2.2.2.2.2.2.2.2.2.2.2.2.2.2.2.2.2.2.2.2.2.2.2 z64.2.2.2.2.2.2.2.2.2.2.2.2.2.2.2.2.2.2.2.2.2.2.2.2.2.2.1 z64.2.2.2.2.2.2.2.2.2.2.2.2.2.2.2.2.2.2.2.2.2.2.2.2.1 z64.2.2.2.2.2.2.2.2.2.2.2.2.2.2.2.1 z64.2.2.2.2.2.2.2.2.2.2.1 z64.2.2.2.2.2.2.2.2.2.2.2.2.2.2.2.2.2.2.2.1 a0 z102 a2 a3 a4 a5 a6 a7 a8 a9 z64.2.2.2.2.2.2.2.2.2.2.2.2.2.2.2.2.2.2.2.2.2.2.2.2.2.1 z64.2.2.2.2.2.2.2.2.2.2.2.2.2.2.2.2.2.2.2.2.1 z64.2.2.2.2.2.2.2.2.2.2.2.2.2.2.2.2.2.2.2.2.2.1 z64.2.2.2.2.2.2.2.2.2.2.2.2.2.2.2.2.2.2.2.2.2.2.1 z64.2.2.2.2.2.2.2.2.2.2.2.2.2.2.2.2.2.2.2.2.2.2.2.1 z64.2.2.2.2.2.2.2.2.2.2.2.1 z64.2.2.2.2.2.2.2.2.2.2.2.2.1 z64.2.2.2.2.2.2.2.2.2.2.2.2.2.1 z64.2.2.2.2.2.2.2.2.2.2.2.2.2.2.1 z64.2.2.2.2.2.2.2.1 z64.2.2.2.2.2.2.2.2.1 z64.2.2.2.2.2.2.2.2.2.1 z64.2.2.2.2.2.2.2.2.2.2.2.2.2.2.2.2.2.1 z64.2.2.2.2.2.2.2.2.2.2.2.2.2.2.2.2.2.2.1 z64.2.2.2.2.2.2.2.2.2.2.2.2.2.2.2.2.1 z64.2.2.2.2.2.2.1 k0 k1 k2 k3 k4 k5 k6 k7 k8 k9 k10 k11 k12 k13 k14 k15 (.ref 27) (.ref 27))) fX9_322 dX9_county_107 rfl rfl (Nat.le_of_ble_eq_true rfl : 19 + 1 ≤ _) (fun α => ⟨rfl, rfl⟩) rfl ?_
    refine x_aload_n dX9_county_110 rfl ?_
    refine x_iconst (0 : Int32) dX9_county_111 (by decide) ?_
    refine x_put (h2 := (hP (0 : Int32) g1 g2 (0 : Int32) x1 z64.2.2.2.2.1 z64.2.2.1 z64.2.2.2.1 z64.2.2.2.2.2.1 z64.1 z64.2.1 (0 : Int32) (0 : Int32) g13 g14 g15 g16 g17 g18 z64.2.2.2.2.2.2.2.2.2.2.2.2.2.2.2.2.2.2.2.2.2.2.2.2.2.2.2.1 z64.2.2.2.2.2.2.2.2.2.2.2.2.2.2.2.2.2.2.2.2.2.2.2.2.2.2.2.2.1 z64.2.2.2.2.2.2.2.2.2.2.2.2.2.2.2.2.2.2.2.2.2.2.2.2.2.2.2.2.2 z64.2.2.2.2.2.2.2.2.2.2.2.2.2.2.2.2.2.2.2.2.2.2.2.2.2.2.1 z64.2.2.2.2.2.2.2.2.2.2.2.2.2.2.2.2.2.2.2.2.2.2.2.2.1 z64.2.2.2.2.2.2.2.2.2.2.2.2.2.2.2.1 z64.2.2.2.2.2.2.2.2.2.2.1 z64.2.2.2.2.2.2.2.2.2.2.2.2.2.2.2.2.2.2.2.1 a0 z102 a2 a3 a4 a5 a6 a7 a8 a9 z64.2.2.2.2.2.2.2.2.2.2.2.2.2.2.2.2.2.2.2.2.2.2.2.2.2.1 z64.2.2.2.2.2.2.2.2.2.2.2.2.2.2.2.2.2.2.2.2.1 z64.2.2.2.2.2.2.2.2.2.2.2.2.2.2.2.2.2.2.2.2.2.1 z64.2.2.2.2.2.2.2.2.2.2.2.2.2.2.2.2.2.2.2.2.2.2.1 z64.2.2.2.2.2.2.2.2.2.2.2.2.2.2.2.2.2.2.2.2.2.2.2.1 z64.2.2.2.2.2.2.2.2.2.2.2.1 z64.2.2.2.2.2.2.2.2.2.2.2.2.1 z64.2.2.2.2.2.2.2.2.2.2.2.2.2.1 z64.2.2.2.2.2.2.2.2.2.2.2.2.2.2.1 z64.2.2.2.2.2.2.2.1 z64.2.2.2.2.2.2.2.2.1 z64.2.2.2.2.2.2.2.2.2.1 z64.2.2.2.2.2.2.2.2.2.2.2.2.2.2.2.2.2.1 z64.2.2.2.2.2.2.2.2.2.2.2.2.2.2.2.2.2.2.1 z64.2.2.2.2.2.2.2.2.2.2.2.2.2.2.2.2.1 z64.2.2.2.2.2.2.1 k0 k1 k2 k3 k4 k5 k6 k7 k8 k9 k10 k11 k12 k13 k14 k15 (.ref 27) (.ref 27))) fX9_325 dX9_county_112 rfl rfl (Nat.le_of_ble_eq_true rfl : 20 + 1 ≤ _) (fun α => ⟨rfl, rfl⟩) rfl ?_
    refine x_aload_n dX9_county_115 rfl ?_
    refine x_aload_n dX9_county_116 rfl ?_
    refine x_get fX9_316 dX9_county_117 rfl rfl rfl ?_
    refine x_get fX9_194 dX9_county_120 rfl rfl rfl ?_
    obtain ⟨z123, y123, h⟩ := xbind h
    refine x_callV (t_hP_X9_good z64.2.2.2.2.2.2.2.2.2.2.2.2.2.2.2.2.2.2.2.2.2.2.2.2.1 z123 y123 (d + 11)) kX9_55 dX9_county_123 rfl rfl rfl rfl rfl (Nat.le_of_ble_eq_true rfl) (Nat.le_of_ble_eq_true rfl) rfl rfl (Or.inl rfl) ?_
    cases h
    exact x_iret2 dX9_county_126 rfl rfl
  · have h := xif_f q h
    refine x_aload_n dX9_county_74 rfl ?_
    refine x_iconst (4 : Int32) dX9_county_75 (by decide) ?_
    refine x_put (h2 := (hP (0 : Int32) (4 : Int32) g2 (0 : Int32) x1 z64.2.2.2.2.1 z64.2.2.1 z64.2.2.2.1 z64.2.2.2.2.2.1 z64.1 z64.2.1 g11 g12 g13 g14 g15 g16 g17 g18 z64.2.2.2.2.2.2.2.2.2.2.2.2.2.2.2.2.2.2.2.2.2.2.2.2.2.2.2.1 z64.2.2.2.2.2.2.2.2.2.2.2.2.2.2.2.2.2.2.2.2.2.2.2.2.2.2.2.2.1 z64.2.2.2.2.2.2.2.2.2.2.2.2.2.2.2.2.2.2.2.2.2.2.2.2.2.2.2.2.2 z64.2.2.2.2.2.2.2.2.2.2.2.2.2.2.2.2.2.2.2.2.2.2.2.2.2.2.1 z64.2.2.2.2.2.2.2.2.2.2.2.2.2.2.2.2.2.2.2.2.2.2.2.2.1 z64.2.2.2.2.2.2.2.2.2.2.2.2.2.2.2.1 z64.2.2.2.2.2.2.2.2.2.2.1 z64.2.2.2.2.2.2.2.2.2.2.2.2.2.2.2.2.2.2.2.1 a0 a1 a2 a3 a4 a5 a6 a7 a8 a9 z64.2.2.2.2.2.2.2.2.2.2.2.2.2.2.2.2.2.2.2.2.2.2.2.2.2.1 z64.2.2.2.2.2.2.2.2.2.2.2.2.2.2.2.2.2.2.2.2.1 z64.2.2.2.2.2.2.2.2.2.2.2.2.2.2.2.2.2.2.2.2.2.1 z64.2.2.2.2.2.2.2.2.2.2.2.2.2.2.2.2.2.2.2.2.2.2.1 z64.2.2.2.2.2.2.2.2.2.2.2.2.2.2.2.2.2.2.2.2.2.2.2.1 z64.2.2.2.2.2.2.2.2.2.2.2.1 z64.2.2.2.2.2.2.2.2.2.2.2.2.1 z64.2.2.2.2.2.2.2.2.2.2.2.2.2.1 z64.2.2.2.2.2.2.2.2.2.2.2.2.2.2.1 z64.2.2.2.2.2.2.2.1 z64.2.2.2.2.2.2.2.2.1 z64.2.2.2.2.2.2.2.2.2.1 z64.2.2.2.2.2.2.2.2.2.2.2.2.2.2.2.2.2.1 z64.2.2.2.2.2.2.2.2.2.2.2.2.2.2.2.2.2.2.1 z64.2.2.2.2.2.2.2.2.2.2.2.2.2.2.2.2.1 z64.2.2.2.2.2.2.1 k0 k1 k2 k3 k4 k5 k6 k7 k8 k9 k10 k11 k12 k13 k14 k15 cv (.ref 27))) fX9_48 dX9_county_76 rfl rfl (Nat.le_of_ble_eq_true rfl : 1 + 1 ≤ _) (fun α => ⟨rfl, rfl⟩) rfl ?_
    refine x_aload_n dX9_county_79 rfl ?_
    refine x_aload_n dX9_county_80 rfl ?_
    refine x_get fX9_106 dX9_county_81 rfl rfl rfl ?_
    refine x_put (h2 := (hP (0 : Int32) (4 : Int32) z64.2.1 (0 : Int32) x1 z64.2.2.2.2.1 z64.2.2.1 z64.2.2.2.1 z64.2.2.2.2.2.1 z64.1 z64.2.1 g11 g12 g13 g14 g15 g16 g17 g18 z64.2.2.2.2.2.2.2.2.2.2.2.2.2.2.2.2.2.2.2.2.2.2.2.2.2.2.2.1 z64.2.2.2.2.2.2.2.2.2.2.2.2.2.2.2.2.2.2.2.2.2.2.2.2.2.2.2.2.1 z64.2.2.2.2.2.2.2.2.2.2.2.2.2.2.2.2.2.2.2.2.2.2.2.2.2.2.2.2.2 z64.2.2.2.2.2.2.2.2.2.2.2.2.2.2.2.2.2.2.2.2.2.2.2.2.2.2.1 z64.2.2.2.2.2.2.2.2.2.2.2.2.2.2.2.2.2.2.2.2.2.2.2.2.1 z64.2.2.2.2.2.2.2.2.2.2.2.2.2.2.2.1 z64.2.2.2.2.2.2.2.2.2.2.1 z64.2.2.2.2.2.2.2.2.2.2.2.2.2.2.2.2.2.2.2.1 a0 a1 a2 a3 a4 a5 a6 a7 a8 a9 z64.2.2.2.2.2.2.2.2.2.2.2.2.2.2.2.2.2.2.2.2.2.2.2.2.2.1 z64.2.2.2.2.2.2.2.2.2.2.2.2.2.2.2.2.2.2.2.2.1 z64.2.2.2.2.2.2.2.2.2.2.2.2.2.2.2.2.2.2.2.2.2.1 z64.2.2.2.2.2.2.2.2.2.2.2.2.2.2.2.2.2.2.2.2.2.2.1 z64.2.2.2.2.2.2.2.2.2.2.2.2.2.2.2.2.2.2.2.2.2.2.2.1 z64.2.2.2.2.2.2.2.2.2.2.2.1 z64.2.2.2.2.2.2.2.2.2.2.2.2.1 z64.2.2.2.2.2.2.2.2.2.2.2.2.2.1 z64.2.2.2.2.2.2.2.2.2.2.2.2.2.2.1 z64.2.2.2.2.2.2.2.1 z64.2.2.2.2.2.2.2.2.1 z64.2.2.2.2.2.2.2.2.2.1 z64.2.2.2.2.2.2.2.2.2.2.2.2.2.2.2.2.2.1 z64.2.2.2.2.2.2.2.2.2.2.2.2.2.2.2.2.2.2.1 z64.2.2.2.2.2.2.2.2.2.2.2.2.2.2.2.2.1 z64.2.2.2.2.2.2.1 k0 k1 k2 k3 k4 k5 k6 k7 k8 k9 k10 k11 k12 k13 k14 k15 cv (.ref 27))) fX9_9 dX9_county_84 rfl rfl (Nat.le_of_ble_eq_true rfl : 2 + 1 ≤ _) (fun α => ⟨rfl, rfl⟩) rfl ?_
    refine x_iconst (-1 : Int32) dX9_county_87 (by decide) ?_
    cases h
    exact x_iret2 dX9_county_88 rfl rfl
noncomputable def e_hQ_X9_refused (p0 : Int32) (p1 : Int32) (x1 : Int32) : Option (Int32 × Int32 × Int32) :=
  some ((-1 : Int32), x1, (-1 : Int32))
set_option maxRecDepth 100000 in
set_option maxHeartbeats 4000000 in
theorem t_hQ_X9_refused {g0 g1 g2 g3 g4 g5 g6 g7 g8 g9 g10 g11 g12 g13 g14 g15 g16 g17 g18 : Int32} {a0 a1 a2 a3 a4 a5 a6 a7 a8 a9 : (Nat → Int32)} {w0 : Int64} {k0 k1 k2 k3 k4 k5 k6 k7 k8 k9 k10 k11 k12 k13 k14 k15 : xC} {cv rv : Value} (x1 : Int32) (res : Int32 × Int32 × Int32) (h : e_hQ_X9_refused g1 g2 x1  = some res) (d : Nat) : xMet xks YX9_refused (d + 1) 0 0 [.ref 0, .int x1] (hQ g0 g1 g2 g3 g4 g5 g6 g7 g8 g9 g10 g11 g12 g13 g14 g15 g16 g17 g18 a0 a1 a2 a3 a4 a5 a6 a7 a8 a9 w0 k0 k1 k2 k3 k4 k5 k6 k7 k8 k9 k10 k11 k12 k13 k14 k15 cv rv) (some (.int res.1)) (hQ g0 res.2.1 res.2.2 g3 g4 g5 g6 g7 g8 g9 g10 g11 g12 g13 g14 g15 g16 g17 g18 a0 a1 a2 a3 a4 a5 a6 a7 a8 a9 w0 k0 k1 k2 k3 k4 k5 k6 k7 k8 k9 k10 k11 k12 k13 k14 k15 cv rv) := by
  unfold e_hQ_X9_refused at h
  refine xMet_of (pl := [some (.ref 0), some (.int x1)]) (by decide) (Nat.le_of_ble_eq_true rfl) rfl (Nat.le_of_ble_eq_true rfl) ?_
  refine x_aload_n dX9_refused_0 rfl ?_
  refine x_iload_n dX9_refused_1 rfl ?_
  refine x_put (h2 := (hQ g0 x1 g2 g3 g4 g5 g6 g7 g8 g9 g10 g11 g12 g13 g14 g15 g16 g17 g18 a0 a1 a2 a3 a4 a5 a6 a7 a8 a9 w0 k0 k1 k2 k3 k4 k5 k6 k7 k8 k9 k10 k11 k12 k13 k14 k15 cv rv)) fX9_48 dX9_refused_2 rfl rfl (Nat.le_of_ble_eq_true rfl : 1 + 1 ≤ _) (fun α => ⟨rfl, rfl⟩) rfl ?_
  refine x_aload_n dX9_refused_5 rfl ?_
  refine x_iconst (-1 : Int32) dX9_refused_6 (by decide) ?_
  refine x_put (h2 := (hQ g0 x1 (-1 : Int32) g3 g4 g5 g6 g7 g8 g9 g10 g11 g12 g13 g14 g15 g16 g17 g18 a0 a1 a2 a3 a4 a5 a6 a7 a8 a9 w0 k0 k1 k2 k3 k4 k5 k6 k7 k8 k9 k10 k11 k12 k13 k14 k15 cv rv)) fX9_9 dX9_refused_7 rfl rfl (Nat.le_of_ble_eq_true rfl : 2 + 1 ≤ _) (fun α => ⟨rfl, rfl⟩) rfl ?_
  refine x_iconst (-1 : Int32) dX9_refused_10 (by decide) ?_
  cases h
  exact x_iret2 dX9_refused_11 rfl rfl
noncomputable def e_hQ_X9_countyR (p0 : Int32) (p1 : Int32) (p2 : Int32) (p3 : Int32) (x1 : Int32) : Option (Int32 × Int32 × Int32 × Int32) :=
  if x1 < (0 : Int32) then ((e_hQ_X9_refused p1 p2 (2 : Int32)).bind fun z19 => some (z19.1, (0 : Int32), z19.2.1, z19.2.2)) else if x1 ≤ p3 then none else ((e_hQ_X9_refused p1 p2 (2 : Int32)).bind fun z19 => some (z19.1, (0 : Int32), z19.2.1, z19.2.2))
set_option maxRecDepth 100000 in
set_option maxHeartbeats 4000000 in
theorem t_hQ_X9_countyR {g0 g1 g2 g3 g4 g5 g6 g7 g8 g9 g10 g11 g12 g13 g14 g15 g16 g17 g18 : Int32} {a0 a1 a2 a3 a4 a5 a6 a7 a8 a9 : (Nat → Int32)} {w0 : Int64} {k0 k1 k2 k3 k4 k5 k6 k7 k8 k9 k10 k11 k12 k13 k14 k15 : xC} {cv rv : Value} (x1 : Int32) (res : Int32 × Int32 × Int32 × Int32) (h : e_hQ_X9_countyR g0 g1 g2 g3 x1  = some res) (d : Nat) : xMet xks YX9_county (d + 2) 0 0 [.ref 0, .int x1] (hQ g0 g1 g2 g3 g4 g5 g6 g7 g8 g9 g10 g11 g12 g13 g14 g15 g16 g17 g18 a0 a1 a2 a3 a4 a5 a6 a7 a8 a9 w0 k0 k1 k2 k3 k4 k5 k6 k7 k8 k9 k10 k11 k12 k13 k14 k15 cv rv) (some (.int res.1)) (hQ res.2.1 res.2.2.1 res.2.2.2 g3 g4 g5 g6 g7 g8 g9 g10 g11 g12 g13 g14 g15 g16 g17 g18 a0 a1 a2 a3 a4 a5 a6 a7 a8 a9 w0 k0 k1 k2 k3 k4 k5 k6 k7 k8 k9 k10 k11 k12 k13 k14 k15 cv rv) := by
  unfold e_hQ_X9_countyR at h
  refine xMet_of (pl := [some (.ref 0), some (.int x1)]) (by decide) (Nat.le_of_ble_eq_true rfl) rfl (Nat.le_of_ble_eq_true rfl) ?_
  refine x_aload_n dX9_county_0 rfl ?_
  refine x_iconst (0 : Int32) dX9_county_1 (by decide) ?_
  refine x_put (h2 := (hQ (0 : Int32) g1 g2 g3 g4 g5 g6 g7 g8 g9 g10 g11 g12 g13 g14 g15 g16 g17 g18 a0 a1 a2 a3 a4 a5 a6 a7 a8 a9 w0 k0 k1 k2 k3 k4 k5 k6 k7 k8 k9 k10 k11 k12 k13 k14 k15 cv rv)) fX9_45 dX9_county_2 rfl rfl (Nat.le_of_ble_eq_true rfl : 0 + 1 ≤ _) (fun α => ⟨rfl, rfl⟩) rfl ?_
  refine x_iload_n dX9_county_5 rfl ?_
  refine x_if_lt 17 dX9_county_6 (by decide) (fun q => ?_) (fun q => ?_)
  · have h := xif_t q h
    refine x_aload_n dX9_county_17 rfl ?_
    refine x_iconst (2 : Int32) dX9_county_18 (by decide) ?_
    obtain ⟨z19, y19, h⟩ := xbind h
    refine x_callV (t_hQ_X9_refused (2 : Int32) z19 y19 (d + 0)) kX9_51 dX9_county_19 rfl rfl rfl rfl rfl (Nat.le_of_ble_eq_true rfl) (Nat.le_of_ble_eq_true rfl) rfl rfl (Or.inl rfl) ?_
    cases h
    exact x_iret2 dX9_county_22 rfl rfl
  · have h := xif_f q h
    refine x_iload_n dX9_county_9 rfl ?_
    refine x_aload_n dX9_county_10 rfl ?_
    refine x_get fX9_309 dX9_county_11 rfl rfl rfl ?_
    refine x_icmp_le 23 dX9_county_14 (by decide) (fun q => ?_) (fun q => ?_)
    · have h := xif_t q h
      cases h
    · have h := xif_f q h
      refine x_aload_n dX9_county_17 rfl ?_
      refine x_iconst (2 : Int32) dX9_county_18 (by decide) ?_
      obtain ⟨z19, y19, h⟩ := xbind h
      refine x_callV (t_hQ_X9_refused (2 : Int32) z19 y19 (d + 0)) kX9_51 dX9_county_19 rfl rfl rfl rfl rfl (Nat.le_of_ble_eq_true rfl) (Nat.le_of_ble_eq_true rfl) rfl rfl (Or.inl rfl) ?_
      cases h
      exact x_iret2 dX9_county_22 rfl rfl
