def hA (g : Nat → Int32) (a : Nat → Nat → Int32) (b : Nat → Nat → Int64) (w : Nat → Int64) (c0 c1 : Value) : xH := [
  .inr (7, [c1, .ref 17, .int (g 32), .int (g 33), .int (g 34), .ref 37, .ref 40, .ref 43, .ref 49, .ref 54, .ref 57, .int (g 35), .ref 58, .int (g 36)]),
  .inr (1, [.int (g 0), .int (g 1), .int (g 2), .int (g 3), .int (g 4), .ref 2, .ref 3, .ref 4, .ref 5, .ref 6, .ref 7, .ref 12]),
  .inl (0, 6, .inl (a 0)),
  .inl (0, 5, .inl (a 1)),
  .inl (0, 5, .inl (a 2)),
  .inl (0, 5, .inl (a 3)),
  .inl (0, 5, .inl (a 4)),
  .inr (2, [.int (g 5), .ref 8, .ref 9, .ref 10, .ref 11]),
  .inl (0, 16, .inl (a 5)),
  .inl (0, 16, .inl (a 6)),
  .inl (0, 16, .inl (a 7)),
  .inl (0, 16, .inl (a 8)),
  .inr (2, [.int (g 6), .ref 13, .ref 14, .ref 15, .ref 16]),
  .inl (0, 6, .inl (a 9)),
  .inl (0, 6, .inl (a 10)),
  .inl (0, 6, .inl (a 11)),
  .inl (0, 6, .inl (a 12)),
  .inr (5, [.int (g 14), .int (g 15), .int (g 16), .ref 18, .int (g 17), .int (g 18), .int (g 19), .long (w 0), .int (g 20), .int (g 21), c0, .ref 35, .ref 36]),
  .inl (2, 1000, .inl (a 13)),
  .inr (1, [.int (g 7), .int (g 8), .int (g 9), .int (g 10), .int (g 11), .ref 20, .ref 21, .ref 22, .ref 23, .ref 24, .ref 25, .ref 30]),
  .inl (0, 6, .inl (a 14)),
  .inl (0, 5, .inl (a 15)),
  .inl (0, 5, .inl (a 16)),
  .inl (0, 5, .inl (a 17)),
  .inl (0, 5, .inl (a 18)),
  .inr (2, [.int (g 12), .ref 26, .ref 27, .ref 28, .ref 29]),
  .inl (0, 16, .inl (a 19)),
  .inl (0, 16, .inl (a 20)),
  .inl (0, 16, .inl (a 21)),
  .inl (0, 16, .inl (a 22)),
  .inr (2, [.int (g 13), .ref 31, .ref 32, .ref 33, .ref 34]),
  .inl (0, 6, .inl (a 23)),
  .inl (0, 6, .inl (a 24)),
  .inl (0, 6, .inl (a 25)),
  .inl (0, 6, .inl (a 26)),
  .inl (1, 6, .inr (.inl (b 0))),
  .inl (1, 5, .inr (.inl (b 1))),
  .inr (3, [.ref 38, .ref 39, .int (g 22)]),
  .inl (0, 5, .inl (a 27)),
  .inl (0, 5, .inl (a 28)),
  .inr (3, [.ref 41, .ref 42, .int (g 23)]),
  .inl (0, 5, .inl (a 29)),
  .inl (0, 5, .inl (a 30)),
  .inr (0, [.ref 44, .ref 45, .ref 46, .int (g 25), .int (g 26), .int (g 27)]),
  .inl (1, 42, .inr (.inl (b 2))),
  .inl (0, 41, .inl (a 31)),
  .inr (3, [.ref 47, .ref 48, .int (g 24)]),
  .inl (0, 5, .inl (a 32)),
  .inl (0, 5, .inl (a 33)),
  .inr (6, [.ref 50, .ref 51, .ref 52, .ref 53, .int (g 28), .int (g 29)]),
  .inl (0, 5, .inl (a 34)),
  .inl (0, 6, .inl (a 35)),
  .inl (0, 6, .inl (a 36)),
  .inl (0, 7, .inl (a 37)),
  .inr (4, [.ref 55, .ref 56, .int (g 30), .int (g 31)]),
  .inl (0, 3, .inl (a 38)),
  .inl (0, 3, .inl (a 39)),
  .inl (1, 16, .inr (.inl (b 3))),
  .inl (1, 3, .inr (.inl (b 4)))]
def e_hA_X7_isUmbrella (p0 : Int32) (x1 : Int32) : Option (Int32) :=
  if x1 < (0 : Int32) then some (0 : Int32) else if p0 ≤ x1 then some (0 : Int32) else some (1 : Int32)
set_option maxRecDepth 100000 in
set_option maxHeartbeats 4000000 in
theorem t_hA_X7_isUmbrella (ks : List xSK) (g : Nat → Int32) (a : Nat → Nat → Int32) (b : Nat → Nat → Int64) (w : Nat → Int64) (x1 : Int32) (res : Int32) (h : e_hA_X7_isUmbrella (g 4) x1 = some res) (d : Nat) : xMet ks YX7_isUmbrella (d + 1) 0 0 [.ref 0, .int x1] (hA g a b w (.ref 19) (.ref 1)) (some (.int res)) (hA g a b w (.ref 19) (.ref 1)) := by
  unfold e_hA_X7_isUmbrella at h
  refine xMet_of (pl := [some (.ref 0), some (.int x1)]) (by decide) (Nat.le_of_ble_eq_true rfl) rfl (Nat.le_of_ble_eq_true rfl) ?_
  refine x_iload_n dX7_isUmbrella_0 rfl ?_
  refine x_if_lt 19 dX7_isUmbrella_1 (by decide) (fun q => ?_) (fun q => ?_)
  · have h := xif_t q h
    refine x_iconst (0 : Int32) dX7_isUmbrella_19 (by decide) ?_
    cases h
    exact x_zret dX7_isUmbrella_20 rfl rfl rfl rfl
  · have h := xif_f q h
    refine x_iload_n dX7_isUmbrella_4 rfl ?_
    refine x_aload_n dX7_isUmbrella_5 rfl ?_
    refine x_get fX7_10 dX7_isUmbrella_6 rfl rfl rfl ?_
    refine x_get fX7_107 dX7_isUmbrella_9 rfl rfl rfl ?_
    refine x_icmp_ge 19 dX7_isUmbrella_12 (by decide) (fun q => ?_) (fun q => ?_)
    · have h := xif_t q h
      refine x_iconst (0 : Int32) dX7_isUmbrella_19 (by decide) ?_
      cases h
      exact x_zret dX7_isUmbrella_20 rfl rfl rfl rfl
    · have h := xif_f q h
      refine x_iconst (1 : Int32) dX7_isUmbrella_15 (by decide) ?_
      refine x_goto 20 dX7_isUmbrella_16 (by decide) ?_
      cases h
      exact x_zret dX7_isUmbrella_20 rfl rfl rfl rfl
def e_hA_X7_answer (p0 : Int32) (x1 : Int32) : Option (Int32 × Int32) :=
  some (x1, (0 : Int32))
set_option maxRecDepth 100000 in
set_option maxHeartbeats 4000000 in
theorem t_hA_X7_answer (ks : List xSK) (g : Nat → Int32) (a : Nat → Nat → Int32) (b : Nat → Nat → Int64) (w : Nat → Int64) (x1 : Int32) (res : Int32 × Int32) (h : e_hA_X7_answer (g 34) x1 = some res) (d : Nat) : xMet ks YX7_answer (d + 1) 0 0 [.ref 0, .int x1] (hA g a b w (.ref 19) (.ref 1)) (some (.int res.1)) (hA (up g 34 res.2) a b w (.ref 19) (.ref 1)) := by
  unfold e_hA_X7_answer at h
  refine xMet_of (pl := [some (.ref 0), some (.int x1)]) (by decide) (Nat.le_of_ble_eq_true rfl) rfl (Nat.le_of_ble_eq_true rfl) ?_
  refine x_aload_n dX7_answer_0 rfl ?_
  refine x_iconst (0 : Int32) dX7_answer_1 (by decide) ?_
  refine x_put (h2 := (hA (up g 34 (0 : Int32)) a b w (.ref 19) (.ref 1))) fX7_30 dX7_answer_2 rfl rfl (Nat.le_of_ble_eq_true rfl : 4 + 1 ≤ _) (fun α => ⟨rfl, rfl⟩) rfl ?_
  refine x_iload_n dX7_answer_5 rfl ?_
  cases h
  exact x_iret dX7_answer_6 rfl rfl rfl
def e_hA_X1_areAlike (p0 : (Nat → Int32)) (p1 : (Nat → Int32)) (x1 : Int32) (x2 : Int32) : Option (Int32) :=
  (xix x1 5 (xix x2 5 (if (p0 x1.toNatClampNeg) = (p0 x2.toNatClampNeg) then (xix x1 5 (xix x2 5 (if (p1 x1.toNatClampNeg) = (p1 x2.toNatClampNeg) then some (1 : Int32) else some (0 : Int32)))) else some (0 : Int32))))
set_option maxRecDepth 100000 in
set_option maxHeartbeats 4000000 in
theorem t_hA_X1_areAlike (ks : List xSK) (g : Nat → Int32) (a : Nat → Nat → Int32) (b : Nat → Nat → Int64) (w : Nat → Int64) (x1 : Int32) (x2 : Int32) (res : Int32) (h : e_hA_X1_areAlike (a 1) (a 3) x1 x2 = some res) (d : Nat) : xMet ks YX1_areAlike (d + 1) 0 0 [.ref 1, .int x1, .int x2] (hA g a b w (.ref 19) (.ref 1)) (some (.int res)) (hA g a b w (.ref 19) (.ref 1)) := by
  unfold e_hA_X1_areAlike at h
  refine xMet_of (pl := [some (.ref 1), some (.int x1), some (.int x2)]) (by decide) (Nat.le_of_ble_eq_true rfl) rfl (Nat.le_of_ble_eq_true rfl) ?_
  refine x_aload_n dX1_areAlike_0 rfl ?_
  refine x_get fX1_31 dX1_areAlike_1 rfl rfl rfl ?_
  refine x_iload_n dX1_areAlike_4 rfl ?_
  obtain ⟨q5, h⟩ := xix_of h
  refine x_iald dX1_areAlike_5 rfl q5 ?_
  refine x_aload_n dX1_areAlike_6 rfl ?_
  refine x_get fX1_31 dX1_areAlike_7 rfl rfl rfl ?_
  refine x_iload_n dX1_areAlike_10 rfl ?_
  obtain ⟨q11, h⟩ := xix_of h
  refine x_iald dX1_areAlike_11 rfl q11 ?_
  refine x_icmp_ne 34 dX1_areAlike_12 (by decide) (fun q => ?_) (fun q => ?_)
  · have h := xif_f q h
    refine x_iconst (0 : Int32) dX1_areAlike_34 (by decide) ?_
    cases h
    exact x_zret dX1_areAlike_35 rfl rfl rfl rfl
  · have h := xif_t q h
    refine x_aload_n dX1_areAlike_15 rfl ?_
    refine x_get fX1_37 dX1_areAlike_16 rfl rfl rfl ?_
    refine x_iload_n dX1_areAlike_19 rfl ?_
    obtain ⟨q20, h⟩ := xix_of h
    refine x_iald dX1_areAlike_20 rfl q20 ?_
    refine x_aload_n dX1_areAlike_21 rfl ?_
    refine x_get fX1_37 dX1_areAlike_22 rfl rfl rfl ?_
    refine x_iload_n dX1_areAlike_25 rfl ?_
    obtain ⟨q26, h⟩ := xix_of h
    refine x_iald dX1_areAlike_26 rfl q26 ?_
    refine x_icmp_ne 34 dX1_areAlike_27 (by decide) (fun q => ?_) (fun q => ?_)
    · have h := xif_f q h
      refine x_iconst (0 : Int32) dX1_areAlike_34 (by decide) ?_
      cases h
      exact x_zret dX1_areAlike_35 rfl rfl rfl rfl
    · have h := xif_t q h
      refine x_iconst (1 : Int32) dX1_areAlike_30 (by decide) ?_
      refine x_goto 35 dX1_areAlike_31 (by decide) ?_
      cases h
      exact x_zret dX1_areAlike_35 rfl rfl rfl rfl
def e_hA_X7_refuse (p0 : Int32) (x1 : Int32) : Option (Int32 × Int32) :=
  some ((-1 : Int32), x1)
set_option maxRecDepth 100000 in
set_option maxHeartbeats 4000000 in
theorem t_hA_X7_refuse (ks : List xSK) (g : Nat → Int32) (a : Nat → Nat → Int32) (b : Nat → Nat → Int64) (w : Nat → Int64) (x1 : Int32) (res : Int32 × Int32) (h : e_hA_X7_refuse (g 34) x1 = some res) (d : Nat) : xMet ks YX7_refuse (d + 1) 0 0 [.ref 0, .int x1] (hA g a b w (.ref 19) (.ref 1)) (some (.int res.1)) (hA (up g 34 res.2) a b w (.ref 19) (.ref 1)) := by
  unfold e_hA_X7_refuse at h
  refine xMet_of (pl := [some (.ref 0), some (.int x1)]) (by decide) (Nat.le_of_ble_eq_true rfl) rfl (Nat.le_of_ble_eq_true rfl) ?_
  refine x_aload_n dX7_refuse_0 rfl ?_
  refine x_iload_n dX7_refuse_1 rfl ?_
  refine x_put (h2 := (hA (up g 34 x1) a b w (.ref 19) (.ref 1))) fX7_30 dX7_refuse_2 rfl rfl (Nat.le_of_ble_eq_true rfl : 4 + 1 ≤ _) (fun α => ⟨rfl, rfl⟩) rfl ?_
  refine x_iconst (-1 : Int32) dX7_refuse_5 (by decide) ?_
  cases h
  exact x_iret dX7_refuse_6 rfl rfl rfl
def L_hA_X7_alike_18 (p0 : Int32) (p1 : Int32) (p2 : (Nat → Int32)) (p3 : (Nat → Int32)) (f1 : Int32) (K : Int32 → Int32 → Option (Int32 × Int32)) : Nat → Int32 → Int32 → Option (Int32 × Int32)
  | 0, _, _ => none
  | n18 + 1, l2, l3 => if p0 ≤ l3 then K l2 l3 else if l3 = f1 then L_hA_X7_alike_18 p0 p1 p2 p3 f1 K n18 l2 (l3 + (1 : Int32)) else ((e_hA_X1_areAlike p2 p3 f1 l3).bind fun z40 => if z40 = (0 : Int32) then L_hA_X7_alike_18 p0 p1 p2 p3 f1 K n18 l2 (l3 + (1 : Int32)) else L_hA_X7_alike_18 p0 p1 p2 p3 f1 K n18 (l2 ||| ((1 : Int32) <<< (l3 &&& 31))) (l3 + (1 : Int32)))
def e_hA_X7_alike (p0 : Int32) (p1 : Int32) (p2 : (Nat → Int32)) (p3 : (Nat → Int32)) (x1 : Int32) : Option (Int32 × Int32) :=
  ((e_hA_X7_isUmbrella p0 x1).bind fun z2 => if z2 = (0 : Int32) then ((e_hA_X7_refuse p1 (1 : Int32)).bind fun z10 => some (z10.1, z10.2)) else L_hA_X7_alike_18 p0 p1 p2 p3 x1 (fun l2 l3 => ((e_hA_X7_answer p1 l2).bind fun z60 => some (z60.1, z60.2))) 200000 (0 : Int32) (0 : Int32))
set_option maxRecDepth 100000 in
set_option maxHeartbeats 4000000 in
theorem lp_hA_X7_alike_18 (ks : List xSK) (g : Nat → Int32) (a : Nat → Nat → Int32) (b : Nat → Nat → Int64) (w : Nat → Int64) (d n0 : Nat) (f1 : Int32) (res : Int32 × Int32) (K : Int32 → Int32 → Option (Int32 × Int32)) (hK : ∀ (l2 : Int32) (l3 : Int32), K l2 l3 = some res → xW ks YX7_alike (d + 2) 0 0 n0 (some (.int res.1)) (hA (up g 34 res.2) a b w (.ref 19) (.ref 1)) 0 0 58 [some (.ref 0), none, some (.int l2), none] [] (hA g a b w (.ref 19) (.ref 1))) : ∀ (n : Nat) (l2 : Int32) (l3 : Int32), L_hA_X7_alike_18 (g 4) (g 34) (a 1) (a 3) f1 K n l2 l3 = some res → xW ks YX7_alike (d + 2) 0 0 n0 (some (.int res.1)) (hA (up g 34 res.2) a b w (.ref 19) (.ref 1)) 0 0 18 [some (.ref 0), some (.int f1), some (.int l2), some (.int l3)] [] (hA g a b w (.ref 19) (.ref 1)) := by
  intro n
  induction n with
  | zero =>
    intro l2 l3 h
    cases (show (none : Option (Int32 × Int32)) = some res from h)
  | succ n18 ih18 =>
    intro l2 l3 h
    unfold L_hA_X7_alike_18 at h
    refine x_iload_n dX7_alike_18 rfl ?_
    refine x_aload_n dX7_alike_19 rfl ?_
    refine x_get fX7_10 dX7_alike_20 rfl rfl rfl ?_
    refine x_get fX7_107 dX7_alike_23 rfl rfl rfl ?_
    refine x_icmp_ge 58 dX7_alike_26 (by decide) (fun q => ?_) (fun q => ?_)
    · have h := xif_t q h
      refine x_weak (pl2 := [some (.ref 0), none, some (.int l2), none]) ⟨rfl, rfl, trivial⟩ ?_
      refine x_heap (h2 := (hA g a b w (.ref 19) (.ref 1))) rfl ?_
      exact hK l2 l3 h
    · have h := xif_f q h
      refine x_iload_n dX7_alike_29 rfl ?_
      refine x_iload_n dX7_alike_30 rfl ?_
      refine x_icmp_eq 52 dX7_alike_31 (by decide) (fun q => ?_) (fun q => ?_)
      · have h := xif_t q h
        refine x_iinc (l3 + (1 : Int32)) (pl' := [some (.ref 0), some (.int f1), some (.int l2), some (.int (l3 + (1 : Int32)))]) dX7_alike_52 rfl rfl (by decide) rfl ?_
        refine x_goto 18 dX7_alike_55 (by decide) ?_
        refine x_weak (pl2 := [some (.ref 0), some (.int f1), some (.int l2), some (.int (l3 + (1 : Int32)))]) ⟨rfl, rfl, rfl, rfl, trivial⟩ ?_
        refine x_heap (h2 := (hA g a b w (.ref 19) (.ref 1))) rfl ?_
        exact ih18 l2 (l3 + (1 : Int32)) h
      · have h := xif_f q h
        refine x_aload_n dX7_alike_34 rfl ?_
        refine x_get fX7_10 dX7_alike_35 rfl rfl rfl ?_
        refine x_iload_n dX7_alike_38 rfl ?_
        refine x_iload_n dX7_alike_39 rfl ?_
        obtain ⟨z40, y40, h⟩ := xbind h
        refine x_callV (t_hA_X1_areAlike ks g a b w f1 l3 z40 y40 (d + 0)) kX7_145 dX7_alike_40 rfl rfl rfl rfl rfl (Nat.le_of_ble_eq_true rfl) (Nat.le_of_ble_eq_true rfl) rfl rfl (Or.inl rfl) ?_
        refine x_if_eq 52 dX7_alike_43 (by decide) (fun q => ?_) (fun q => ?_)
        · have h := xif_t q h
          refine x_iinc (l3 + (1 : Int32)) (pl' := [some (.ref 0), some (.int f1), some (.int l2), some (.int (l3 + (1 : Int32)))]) dX7_alike_52 rfl rfl (by decide) rfl ?_
          refine x_goto 18 dX7_alike_55 (by decide) ?_
          refine x_weak (pl2 := [some (.ref 0), some (.int f1), some (.int l2), some (.int (l3 + (1 : Int32)))]) ⟨rfl, rfl, rfl, rfl, trivial⟩ ?_
          refine x_heap (h2 := (hA g a b w (.ref 19) (.ref 1))) rfl ?_
          exact ih18 l2 (l3 + (1 : Int32)) h
        · have h := xif_f q h
          refine x_iload_n dX7_alike_46 rfl ?_
          refine x_iconst (1 : Int32) dX7_alike_47 (by decide) ?_
          refine x_iload_n dX7_alike_48 rfl ?_
          refine x_ishl dX7_alike_49 ?_
          refine x_ior dX7_alike_50 ?_
          refine x_istore_n (pl' := [some (.ref 0), some (.int f1), some (.int (l2 ||| ((1 : Int32) <<< (l3 &&& 31)))), some (.int l3)]) dX7_alike_51 (by decide) rfl ?_
          refine x_iinc (l3 + (1 : Int32)) (pl' := [some (.ref 0), some (.int f1), some (.int (l2 ||| ((1 : Int32) <<< (l3 &&& 31)))), some (.int (l3 + (1 : Int32)))]) dX7_alike_52 rfl rfl (by decide) rfl ?_
          refine x_goto 18 dX7_alike_55 (by decide) ?_
          refine x_weak (pl2 := [some (.ref 0), some (.int f1), some (.int (l2 ||| ((1 : Int32) <<< (l3 &&& 31)))), some (.int (l3 + (1 : Int32)))]) ⟨rfl, rfl, rfl, rfl, trivial⟩ ?_
          refine x_heap (h2 := (hA g a b w (.ref 19) (.ref 1))) rfl ?_
          exact ih18 (l2 ||| ((1 : Int32) <<< (l3 &&& 31))) (l3 + (1 : Int32)) h
set_option maxRecDepth 100000 in
set_option maxHeartbeats 4000000 in
theorem t_hA_X7_alike (ks : List xSK) (g : Nat → Int32) (a : Nat → Nat → Int32) (b : Nat → Nat → Int64) (w : Nat → Int64) (x1 : Int32) (res : Int32 × Int32) (h : e_hA_X7_alike (g 4) (g 34) (a 1) (a 3) x1 = some res) (d : Nat) : xMet ks YX7_alike (d + 2) 0 0 [.ref 0, .int x1] (hA g a b w (.ref 19) (.ref 1)) (some (.int res.1)) (hA (up g 34 res.2) a b w (.ref 19) (.ref 1)) := by
  unfold e_hA_X7_alike at h
  refine xMet_of (pl := [some (.ref 0), some (.int x1), none, none]) (by decide) (Nat.le_of_ble_eq_true rfl) rfl (Nat.le_of_ble_eq_true rfl) ?_
  refine x_aload_n dX7_alike_0 rfl ?_
  refine x_iload_n dX7_alike_1 rfl ?_
  obtain ⟨z2, y2, h⟩ := xbind h
  refine x_callV (t_hA_X7_isUmbrella ks g a b w x1 z2 y2 (d + 0)) kX7_113 dX7_alike_2 rfl rfl rfl rfl rfl (Nat.le_of_ble_eq_true rfl) (Nat.le_of_ble_eq_true rfl) rfl rfl (Or.inl rfl) ?_
  refine x_if_ne 14 dX7_alike_5 (by decide) (fun q => ?_) (fun q => ?_)
  · have h := xif_f q h
    refine x_iconst (0 : Int32) dX7_alike_14 (by decide) ?_
    refine x_istore_n (pl' := [some (.ref 0), some (.int x1), some (.int (0 : Int32)), none]) dX7_alike_15 (by decide) rfl ?_
    refine x_iconst (0 : Int32) dX7_alike_16 (by decide) ?_
    refine x_istore_n (pl' := [some (.ref 0), some (.int x1), some (.int (0 : Int32)), some (.int (0 : Int32))]) dX7_alike_17 (by decide) rfl ?_
    refine x_weak (pl2 := [some (.ref 0), some (.int x1), some (.int (0 : Int32)), some (.int (0 : Int32))]) ⟨rfl, rfl, rfl, rfl, trivial⟩ ?_
    refine x_heap (h2 := (hA g a b w (.ref 19) (.ref 1))) rfl ?_
    refine lp_hA_X7_alike_18 ks g a b w d _ x1 res _ (fun l2 l3 h => ?_) 200000 (0 : Int32) (0 : Int32) h
    refine x_aload_n dX7_alike_58 rfl ?_
    refine x_iload_n dX7_alike_59 rfl ?_
    obtain ⟨z60, y60, h⟩ := xbind h
    refine x_callV (t_hA_X7_answer ks g a b w l2 z60 y60 (d + 0)) kX7_110 dX7_alike_60 rfl rfl rfl rfl rfl (Nat.le_of_ble_eq_true rfl) (Nat.le_of_ble_eq_true rfl) rfl rfl (Or.inl rfl) ?_
    refine x_heap (h2 := (hA (up g 34 z60.2) a b w (.ref 19) (.ref 1))) rfl ?_
    cases h
    exact x_iret dX7_alike_63 rfl rfl rfl
  · have h := xif_t q h
    refine x_aload_n dX7_alike_8 rfl ?_
    refine x_iconst (1 : Int32) dX7_alike_9 (by decide) ?_
    obtain ⟨z10, y10, h⟩ := xbind h
    refine x_callV (t_hA_X7_refuse ks g a b w (1 : Int32) z10 y10 (d + 0)) kX7_84 dX7_alike_10 rfl rfl rfl rfl rfl (Nat.le_of_ble_eq_true rfl) (Nat.le_of_ble_eq_true rfl) rfl rfl (Or.inl rfl) ?_
    refine x_heap (h2 := (hA (up g 34 z10.2) a b w (.ref 19) (.ref 1))) rfl ?_
    cases h
    exact x_iret dX7_alike_13 rfl rfl rfl
def e_hA_X7_umbrella (p0 : Int32) (p1 : Int32) (p2 : (Nat → Int32)) (p3 : (Nat → Int32)) (p4 : (Nat → Int32)) (p5 : (Nat → Int32)) (p6 : (Nat → Int32)) (x1 : Int32) (x2 : Int32) : Option (Int32 × Int32) :=
  ((e_hA_X7_isUmbrella p0 x1).bind fun z2 => if z2 = (0 : Int32) then ((e_hA_X7_refuse p1 (1 : Int32)).bind fun z10 => some (z10.1, z10.2)) else if x2.toInt < 0 ∨ 4 < x2.toInt then ((e_hA_X7_refuse p1 (1 : Int32)).bind fun z120 => some (z120.1, z120.2)) else if x2 = (0 : Int32) then (xix x1 5 ((e_hA_X7_answer p1 (p2 x1.toNatClampNeg)).bind fun z58 => some (z58.1, z58.2))) else if x2 = (1 : Int32) then (xix x1 5 ((e_hA_X7_answer p1 (p3 x1.toNatClampNeg)).bind fun z72 => some (z72.1, z72.2))) else if x2 = (2 : Int32) then (xix x1 5 ((e_hA_X7_answer p1 (p4 x1.toNatClampNeg)).bind fun z86 => some (z86.1, z86.2))) else if x2 = (3 : Int32) then (xix x1 5 ((e_hA_X7_answer p1 (p5 x1.toNatClampNeg)).bind fun z100 => some (z100.1, z100.2))) else if x2 = (4 : Int32) then (xix x1 5 ((e_hA_X7_answer p1 (p6 x1.toNatClampNeg)).bind fun z114 => some (z114.1, z114.2))) else none)
set_option maxRecDepth 100000 in
set_option maxHeartbeats 4000000 in
theorem t_hA_X7_umbrella (ks : List xSK) (g : Nat → Int32) (a : Nat → Nat → Int32) (b : Nat → Nat → Int64) (w : Nat → Int64) (x1 : Int32) (x2 : Int32) (res : Int32 × Int32) (h : e_hA_X7_umbrella (g 4) (g 34) (a 1) (a 2) (a 3) (a 27) (a 28) x1 x2 = some res) (d : Nat) : xMet ks YX7_umbrella (d + 2) 0 0 [.ref 0, .int x1, .int x2] (hA g a b w (.ref 19) (.ref 1)) (some (.int res.1)) (hA (up g 34 res.2) a b w (.ref 19) (.ref 1)) := by
  unfold e_hA_X7_umbrella at h
  refine xMet_of (pl := [some (.ref 0), some (.int x1), some (.int x2)]) (by decide) (Nat.le_of_ble_eq_true rfl) rfl (Nat.le_of_ble_eq_true rfl) ?_
  refine x_aload_n dX7_umbrella_0 rfl ?_
  refine x_iload_n dX7_umbrella_1 rfl ?_
  obtain ⟨z2, y2, h⟩ := xbind h
  refine x_callV (t_hA_X7_isUmbrella ks g a b w x1 z2 y2 (d + 0)) kX7_113 dX7_umbrella_2 rfl rfl rfl rfl rfl (Nat.le_of_ble_eq_true rfl) (Nat.le_of_ble_eq_true rfl) rfl rfl (Or.inl rfl) ?_
  refine x_if_ne 14 dX7_umbrella_5 (by decide) (fun q => ?_) (fun q => ?_)
  · have h := xif_f q h
    refine x_iload_n dX7_umbrella_14 rfl ?_
    by_cases q : x2.toInt < 0 ∨ 4 < x2.toInt
    · have h := xif_t q h
      refine x_tableOut 118 dX7_umbrella_15 q (by decide) ?_
      refine x_aload_n dX7_umbrella_118 rfl ?_
      refine x_iconst (1 : Int32) dX7_umbrella_119 (by decide) ?_
      obtain ⟨z120, y120, h⟩ := xbind h
      refine x_callV (t_hA_X7_refuse ks g a b w (1 : Int32) z120 y120 (d + 0)) kX7_84 dX7_umbrella_120 rfl rfl rfl rfl rfl (Nat.le_of_ble_eq_true rfl) (Nat.le_of_ble_eq_true rfl) rfl rfl (Or.inl rfl) ?_
      refine x_heap (h2 := (hA (up g 34 z120.2) a b w (.ref 19) (.ref 1))) rfl ?_
      cases h
      exact x_iret dX7_umbrella_123 rfl rfl rfl
    · have h := xif_f q h
      by_cases q : x2 = (0 : Int32)
      · have h := xif_t q h
        refine x_tableK 48 q dX7_umbrella_15 (by decide) (by decide) rfl (by decide) ?_
        refine x_aload_n dX7_umbrella_48 rfl ?_
        refine x_aload_n dX7_umbrella_49 rfl ?_
        refine x_get fX7_10 dX7_umbrella_50 rfl rfl rfl ?_
        refine x_get fX7_116 dX7_umbrella_53 rfl rfl rfl ?_
        refine x_iload_n dX7_umbrella_56 rfl ?_
        obtain ⟨q57, h⟩ := xix_of h
        refine x_iald dX7_umbrella_57 rfl q57 ?_
        obtain ⟨z58, y58, h⟩ := xbind h
        refine x_callV (t_hA_X7_answer ks g a b w ((a 1) x1.toNatClampNeg) z58 y58 (d + 0)) kX7_110 dX7_umbrella_58 rfl rfl rfl rfl rfl (Nat.le_of_ble_eq_true rfl) (Nat.le_of_ble_eq_true rfl) rfl rfl (Or.inl rfl) ?_
        refine x_heap (h2 := (hA (up g 34 z58.2) a b w (.ref 19) (.ref 1))) rfl ?_
        cases h
        exact x_iret dX7_umbrella_61 rfl rfl rfl
      · have h := xif_f q h
        by_cases q : x2 = (1 : Int32)
        · have h := xif_t q h
          refine x_tableK 62 q dX7_umbrella_15 (by decide) (by decide) rfl (by decide) ?_
          refine x_aload_n dX7_umbrella_62 rfl ?_
          refine x_aload_n dX7_umbrella_63 rfl ?_
          refine x_get fX7_10 dX7_umbrella_64 rfl rfl rfl ?_
          refine x_get fX7_120 dX7_umbrella_67 rfl rfl rfl ?_
          refine x_iload_n dX7_umbrella_70 rfl ?_
          obtain ⟨q71, h⟩ := xix_of h
          refine x_iald dX7_umbrella_71 rfl q71 ?_
          obtain ⟨z72, y72, h⟩ := xbind h
          refine x_callV (t_hA_X7_answer ks g a b w ((a 2) x1.toNatClampNeg) z72 y72 (d + 0)) kX7_110 dX7_umbrella_72 rfl rfl rfl rfl rfl (Nat.le_of_ble_eq_true rfl) (Nat.le_of_ble_eq_true rfl) rfl rfl (Or.inl rfl) ?_
          refine x_heap (h2 := (hA (up g 34 z72.2) a b w (.ref 19) (.ref 1))) rfl ?_
          cases h
          exact x_iret dX7_umbrella_75 rfl rfl rfl
        · have h := xif_f q h
          by_cases q : x2 = (2 : Int32)
          · have h := xif_t q h
            refine x_tableK 76 q dX7_umbrella_15 (by decide) (by decide) rfl (by decide) ?_
            refine x_aload_n dX7_umbrella_76 rfl ?_
            refine x_aload_n dX7_umbrella_77 rfl ?_
            refine x_get fX7_10 dX7_umbrella_78 rfl rfl rfl ?_
            refine x_get fX7_123 dX7_umbrella_81 rfl rfl rfl ?_
            refine x_iload_n dX7_umbrella_84 rfl ?_
            obtain ⟨q85, h⟩ := xix_of h
            refine x_iald dX7_umbrella_85 rfl q85 ?_
            obtain ⟨z86, y86, h⟩ := xbind h
            refine x_callV (t_hA_X7_answer ks g a b w ((a 3) x1.toNatClampNeg) z86 y86 (d + 0)) kX7_110 dX7_umbrella_86 rfl rfl rfl rfl rfl (Nat.le_of_ble_eq_true rfl) (Nat.le_of_ble_eq_true rfl) rfl rfl (Or.inl rfl) ?_
            refine x_heap (h2 := (hA (up g 34 z86.2) a b w (.ref 19) (.ref 1))) rfl ?_
            cases h
            exact x_iret dX7_umbrella_89 rfl rfl rfl
          · have h := xif_f q h
            by_cases q : x2 = (3 : Int32)
            · have h := xif_t q h
              refine x_tableK 90 q dX7_umbrella_15 (by decide) (by decide) rfl (by decide) ?_
              refine x_aload_n dX7_umbrella_90 rfl ?_
              refine x_aload_n dX7_umbrella_91 rfl ?_
              refine x_get fX7_36 dX7_umbrella_92 rfl rfl rfl ?_
              refine x_get fX7_126 dX7_umbrella_95 rfl rfl rfl ?_
              refine x_iload_n dX7_umbrella_98 rfl ?_
              obtain ⟨q99, h⟩ := xix_of h
              refine x_iald dX7_umbrella_99 rfl q99 ?_
              obtain ⟨z100, y100, h⟩ := xbind h
              refine x_callV (t_hA_X7_answer ks g a b w ((a 27) x1.toNatClampNeg) z100 y100 (d + 0)) kX7_110 dX7_umbrella_100 rfl rfl rfl rfl rfl (Nat.le_of_ble_eq_true rfl) (Nat.le_of_ble_eq_true rfl) rfl rfl (Or.inl rfl) ?_
              refine x_heap (h2 := (hA (up g 34 z100.2) a b w (.ref 19) (.ref 1))) rfl ?_
              cases h
              exact x_iret dX7_umbrella_103 rfl rfl rfl
            · have h := xif_f q h
              by_cases q : x2 = (4 : Int32)
              · have h := xif_t q h
                refine x_tableK 104 q dX7_umbrella_15 (by decide) (by decide) rfl (by decide) ?_
                refine x_aload_n dX7_umbrella_104 rfl ?_
                refine x_aload_n dX7_umbrella_105 rfl ?_
                refine x_get fX7_36 dX7_umbrella_106 rfl rfl rfl ?_
                refine x_get fX7_129 dX7_umbrella_109 rfl rfl rfl ?_
                refine x_iload_n dX7_umbrella_112 rfl ?_
                obtain ⟨q113, h⟩ := xix_of h
                refine x_iald dX7_umbrella_113 rfl q113 ?_
                obtain ⟨z114, y114, h⟩ := xbind h
                refine x_callV (t_hA_X7_answer ks g a b w ((a 28) x1.toNatClampNeg) z114 y114 (d + 0)) kX7_110 dX7_umbrella_114 rfl rfl rfl rfl rfl (Nat.le_of_ble_eq_true rfl) (Nat.le_of_ble_eq_true rfl) rfl rfl (Or.inl rfl) ?_
                refine x_heap (h2 := (hA (up g 34 z114.2) a b w (.ref 19) (.ref 1))) rfl ?_
                cases h
                exact x_iret dX7_umbrella_117 rfl rfl rfl
              · have h := xif_f q h
                cases h
  · have h := xif_t q h
    refine x_aload_n dX7_umbrella_8 rfl ?_
    refine x_iconst (1 : Int32) dX7_umbrella_9 (by decide) ?_
    obtain ⟨z10, y10, h⟩ := xbind h
    refine x_callV (t_hA_X7_refuse ks g a b w (1 : Int32) z10 y10 (d + 0)) kX7_84 dX7_umbrella_10 rfl rfl rfl rfl rfl (Nat.le_of_ble_eq_true rfl) (Nat.le_of_ble_eq_true rfl) rfl rfl (Or.inl rfl) ?_
    refine x_heap (h2 := (hA (up g 34 z10.2) a b w (.ref 19) (.ref 1))) rfl ?_
    cases h
    exact x_iret dX7_umbrella_13 rfl rfl rfl
def e_hA_X7_isTold (p0 : Int32)  : Option (Int32) :=
  if p0 ≤ (0 : Int32) then some (0 : Int32) else some (1 : Int32)
set_option maxRecDepth 100000 in
set_option maxHeartbeats 4000000 in
theorem t_hA_X7_isTold (ks : List xSK) (g : Nat → Int32) (a : Nat → Nat → Int32) (b : Nat → Nat → Int64) (w : Nat → Int64)  (res : Int32) (h : e_hA_X7_isTold (g 4)  = some res) (d : Nat) : xMet ks YX7_isTold (d + 1) 0 0 [.ref 0] (hA g a b w (.ref 19) (.ref 1)) (some (.int res)) (hA g a b w (.ref 19) (.ref 1)) := by
  unfold e_hA_X7_isTold at h
  refine xMet_of (pl := [some (.ref 0)]) (by decide) (Nat.le_of_ble_eq_true rfl) rfl (Nat.le_of_ble_eq_true rfl) ?_
  refine x_aload_n dX7_isTold_0 rfl ?_
  refine x_get fX7_10 dX7_isTold_1 rfl rfl rfl ?_
  refine x_get fX7_107 dX7_isTold_4 rfl rfl rfl ?_
  refine x_if_le 14 dX7_isTold_7 (by decide) (fun q => ?_) (fun q => ?_)
  · have h := xif_t q h
    refine x_iconst (0 : Int32) dX7_isTold_14 (by decide) ?_
    cases h
    exact x_zret dX7_isTold_15 rfl rfl rfl rfl
  · have h := xif_f q h
    refine x_iconst (1 : Int32) dX7_isTold_10 (by decide) ?_
    refine x_goto 15 dX7_isTold_11 (by decide) ?_
    cases h
    exact x_zret dX7_isTold_15 rfl rfl rfl rfl
def L_hA_X3_rightOnes_4 (p0 : Int32) (p1 : (Nat → Int32)) (p2 : (Nat → Int32))  (K : Int32 → Int32 → Option (Int32)) : Nat → Int32 → Int32 → Option (Int32)
  | 0, _, _ => none
  | n4 + 1, l2, l3 => if p0 ≤ l3 then K l2 l3 else (xix l3 5 (if (p1 l3.toNatClampNeg) = (-2 : Int32) then L_hA_X3_rightOnes_4 p0 p1 p2 K n4 (l2 ||| (0 : Int32)) (l3 + (1 : Int32)) else (xix l3 5 (xix l3 5 (if (p1 l3.toNatClampNeg) = (p2 l3.toNatClampNeg) then L_hA_X3_rightOnes_4 p0 p1 p2 K n4 (l2 ||| ((1 : Int32) <<< (l3 &&& 31))) (l3 + (1 : Int32)) else L_hA_X3_rightOnes_4 p0 p1 p2 K n4 (l2 ||| (0 : Int32)) (l3 + (1 : Int32)))))))
def e_hA_X3_rightOnes (p0 : Int32) (p1 : (Nat → Int32)) (p2 : (Nat → Int32))  : Option (Int32) :=
  L_hA_X3_rightOnes_4 p0 p1 p2  (fun l2 l3 => some l2) 200000 (0 : Int32) (0 : Int32)
set_option maxRecDepth 100000 in
set_option maxHeartbeats 4000000 in
theorem lp_hA_X3_rightOnes_4 (ks : List xSK) (g : Nat → Int32) (a : Nat → Nat → Int32) (b : Nat → Nat → Int64) (w : Nat → Int64) (d n0 : Nat)  (res : Int32) (K : Int32 → Int32 → Option (Int32)) (hK : ∀ (l2 : Int32) (l3 : Int32), K l2 l3 = some res → xW ks YX3_rightOnes (d + 1) 0 0 n0 (some (.int res)) (hA g a b w (.ref 19) (.ref 1)) 0 0 54 [none, none, some (.int l2), none] [] (hA g a b w (.ref 19) (.ref 1))) : ∀ (n : Nat) (l2 : Int32) (l3 : Int32), L_hA_X3_rightOnes_4 (g 4) (a 28) (a 27)  K n l2 l3 = some res → xW ks YX3_rightOnes (d + 1) 0 0 n0 (some (.int res)) (hA g a b w (.ref 19) (.ref 1)) 0 0 4 [some (.ref 37), some (.ref 1), some (.int l2), some (.int l3)] [] (hA g a b w (.ref 19) (.ref 1)) := by
  intro n
  induction n with
  | zero =>
    intro l2 l3 h
    cases (show (none : Option (Int32)) = some res from h)
  | succ n4 ih4 =>
    intro l2 l3 h
    unfold L_hA_X3_rightOnes_4 at h
    refine x_iload_n dX3_rightOnes_4 rfl ?_
    refine x_aload_n dX3_rightOnes_5 rfl ?_
    refine x_get fX3_22 dX3_rightOnes_6 rfl rfl rfl ?_
    refine x_icmp_ge 54 dX3_rightOnes_9 (by decide) (fun q => ?_) (fun q => ?_)
    · have h := xif_t q h
      refine x_weak (pl2 := [none, none, some (.int l2), none]) ⟨rfl, trivial⟩ ?_
      refine x_heap (h2 := (hA g a b w (.ref 19) (.ref 1))) rfl ?_
      exact hK l2 l3 h
    · have h := xif_f q h
      refine x_iload_n dX3_rightOnes_12 rfl ?_
      refine x_aload_n dX3_rightOnes_13 rfl ?_
      refine x_get fX3_15 dX3_rightOnes_14 rfl rfl rfl ?_
      refine x_iload_n dX3_rightOnes_17 rfl ?_
      obtain ⟨q18, h⟩ := xix_of h
      refine x_iald dX3_rightOnes_18 rfl q18 ?_
      refine x_bipush (-2 : Int32) dX3_rightOnes_19 (by decide) ?_
      refine x_icmp_eq 45 dX3_rightOnes_21 (by decide) (fun q => ?_) (fun q => ?_)
      · have h := xif_t q h
        refine x_iconst (0 : Int32) dX3_rightOnes_45 (by decide) ?_
        refine x_ior dX3_rightOnes_46 ?_
        refine x_istore_n (pl' := [some (.ref 37), some (.ref 1), some (.int (l2 ||| (0 : Int32))), some (.int l3)]) dX3_rightOnes_47 (by decide) rfl ?_
        refine x_iinc (l3 + (1 : Int32)) (pl' := [some (.ref 37), some (.ref 1), some (.int (l2 ||| (0 : Int32))), some (.int (l3 + (1 : Int32)))]) dX3_rightOnes_48 rfl rfl (by decide) rfl ?_
        refine x_goto 4 dX3_rightOnes_51 (by decide) ?_
        refine x_weak (pl2 := [some (.ref 37), some (.ref 1), some (.int (l2 ||| (0 : Int32))), some (.int (l3 + (1 : Int32)))]) ⟨rfl, rfl, rfl, rfl, trivial⟩ ?_
        refine x_heap (h2 := (hA g a b w (.ref 19) (.ref 1))) rfl ?_
        exact ih4 (l2 ||| (0 : Int32)) (l3 + (1 : Int32)) h
      · have h := xif_f q h
        refine x_aload_n dX3_rightOnes_24 rfl ?_
        refine x_get fX3_15 dX3_rightOnes_25 rfl rfl rfl ?_
        refine x_iload_n dX3_rightOnes_28 rfl ?_
        obtain ⟨q29, h⟩ := xix_of h
        refine x_iald dX3_rightOnes_29 rfl q29 ?_
        refine x_aload_n dX3_rightOnes_30 rfl ?_
        refine x_get fX3_9 dX3_rightOnes_31 rfl rfl rfl ?_
        refine x_iload_n dX3_rightOnes_34 rfl ?_
        obtain ⟨q35, h⟩ := xix_of h
        refine x_iald dX3_rightOnes_35 rfl q35 ?_
        refine x_icmp_ne 45 dX3_rightOnes_36 (by decide) (fun q => ?_) (fun q => ?_)
        · have h := xif_f q h
          refine x_iconst (0 : Int32) dX3_rightOnes_45 (by decide) ?_
          refine x_ior dX3_rightOnes_46 ?_
          refine x_istore_n (pl' := [some (.ref 37), some (.ref 1), some (.int (l2 ||| (0 : Int32))), some (.int l3)]) dX3_rightOnes_47 (by decide) rfl ?_
          refine x_iinc (l3 + (1 : Int32)) (pl' := [some (.ref 37), some (.ref 1), some (.int (l2 ||| (0 : Int32))), some (.int (l3 + (1 : Int32)))]) dX3_rightOnes_48 rfl rfl (by decide) rfl ?_
          refine x_goto 4 dX3_rightOnes_51 (by decide) ?_
          refine x_weak (pl2 := [some (.ref 37), some (.ref 1), some (.int (l2 ||| (0 : Int32))), some (.int (l3 + (1 : Int32)))]) ⟨rfl, rfl, rfl, rfl, trivial⟩ ?_
          refine x_heap (h2 := (hA g a b w (.ref 19) (.ref 1))) rfl ?_
          exact ih4 (l2 ||| (0 : Int32)) (l3 + (1 : Int32)) h
        · have h := xif_t q h
          refine x_iconst (1 : Int32) dX3_rightOnes_39 (by decide) ?_
          refine x_iload_n dX3_rightOnes_40 rfl ?_
          refine x_ishl dX3_rightOnes_41 ?_
          refine x_goto 46 dX3_rightOnes_42 (by decide) ?_
          refine x_ior dX3_rightOnes_46 ?_
          refine x_istore_n (pl' := [some (.ref 37), some (.ref 1), some (.int (l2 ||| ((1 : Int32) <<< (l3 &&& 31)))), some (.int l3)]) dX3_rightOnes_47 (by decide) rfl ?_
          refine x_iinc (l3 + (1 : Int32)) (pl' := [some (.ref 37), some (.ref 1), some (.int (l2 ||| ((1 : Int32) <<< (l3 &&& 31)))), some (.int (l3 + (1 : Int32)))]) dX3_rightOnes_48 rfl rfl (by decide) rfl ?_
          refine x_goto 4 dX3_rightOnes_51 (by decide) ?_
          refine x_weak (pl2 := [some (.ref 37), some (.ref 1), some (.int (l2 ||| ((1 : Int32) <<< (l3 &&& 31)))), some (.int (l3 + (1 : Int32)))]) ⟨rfl, rfl, rfl, rfl, trivial⟩ ?_
          refine x_heap (h2 := (hA g a b w (.ref 19) (.ref 1))) rfl ?_
          exact ih4 (l2 ||| ((1 : Int32) <<< (l3 &&& 31))) (l3 + (1 : Int32)) h
set_option maxRecDepth 100000 in
set_option maxHeartbeats 4000000 in
theorem t_hA_X3_rightOnes (ks : List xSK) (g : Nat → Int32) (a : Nat → Nat → Int32) (b : Nat → Nat → Int64) (w : Nat → Int64)  (res : Int32) (h : e_hA_X3_rightOnes (g 4) (a 28) (a 27)  = some res) (d : Nat) : xMet ks YX3_rightOnes (d + 1) 0 0 [.ref 37, .ref 1] (hA g a b w (.ref 19) (.ref 1)) (some (.int res)) (hA g a b w (.ref 19) (.ref 1)) := by
  unfold e_hA_X3_rightOnes at h
  refine xMet_of (pl := [some (.ref 37), some (.ref 1), none, none]) (by decide) (Nat.le_of_ble_eq_true rfl) rfl (Nat.le_of_ble_eq_true rfl) ?_
  refine x_iconst (0 : Int32) dX3_rightOnes_0 (by decide) ?_
  refine x_istore_n (pl' := [some (.ref 37), some (.ref 1), some (.int (0 : Int32)), none]) dX3_rightOnes_1 (by decide) rfl ?_
  refine x_iconst (0 : Int32) dX3_rightOnes_2 (by decide) ?_
  refine x_istore_n (pl' := [some (.ref 37), some (.ref 1), some (.int (0 : Int32)), some (.int (0 : Int32))]) dX3_rightOnes_3 (by decide) rfl ?_
  refine x_weak (pl2 := [some (.ref 37), some (.ref 1), some (.int (0 : Int32)), some (.int (0 : Int32))]) ⟨rfl, rfl, rfl, rfl, trivial⟩ ?_
  refine x_heap (h2 := (hA g a b w (.ref 19) (.ref 1))) rfl ?_
  refine lp_hA_X3_rightOnes_4 ks g a b w d _  res _ (fun l2 l3 h => ?_) 200000 (0 : Int32) (0 : Int32) h
  refine x_iload_n dX3_rightOnes_54 rfl ?_
  cases h
  exact x_iret dX3_rightOnes_55 rfl rfl rfl
def e_hA_X7_right (p0 : Int32) (p1 : (Nat → Int32)) (p2 : (Nat → Int32)) (p3 : Int32)  : Option (Int32 × Int32) :=
  ((e_hA_X7_isTold p0).bind fun z1 => if z1 = (0 : Int32) then ((e_hA_X7_refuse p3 (1 : Int32)).bind fun z9 => some (z9.1, z9.2)) else ((e_hA_X3_rightOnes p0 p1 p2).bind fun z22 => (e_hA_X7_answer p3 z22).bind fun z25 => some (z25.1, z25.2)))
set_option maxRecDepth 100000 in
set_option maxHeartbeats 4000000 in
theorem t_hA_X7_right (ks : List xSK) (g : Nat → Int32) (a : Nat → Nat → Int32) (b : Nat → Nat → Int64) (w : Nat → Int64)  (res : Int32 × Int32) (h : e_hA_X7_right (g 4) (a 28) (a 27) (g 34)  = some res) (d : Nat) : xMet ks YX7_right (d + 2) 0 0 [.ref 0] (hA g a b w (.ref 19) (.ref 1)) (some (.int res.1)) (hA (up g 34 res.2) a b w (.ref 19) (.ref 1)) := by
  unfold e_hA_X7_right at h
  refine xMet_of (pl := [some (.ref 0)]) (by decide) (Nat.le_of_ble_eq_true rfl) rfl (Nat.le_of_ble_eq_true rfl) ?_
  refine x_aload_n dX7_right_0 rfl ?_
  obtain ⟨z1, y1, h⟩ := xbind h
  refine x_callV (t_hA_X7_isTold ks g a b w  z1 y1 (d + 0)) kX7_149 dX7_right_1 rfl rfl rfl rfl rfl (Nat.le_of_ble_eq_true rfl) (Nat.le_of_ble_eq_true rfl) rfl rfl (Or.inl rfl) ?_
  refine x_if_ne 13 dX7_right_4 (by decide) (fun q => ?_) (fun q => ?_)
  · have h := xif_f q h
    refine x_aload_n dX7_right_13 rfl ?_
    refine x_aload_n dX7_right_14 rfl ?_
    refine x_get fX7_36 dX7_right_15 rfl rfl rfl ?_
    refine x_aload_n dX7_right_18 rfl ?_
    refine x_get fX7_10 dX7_right_19 rfl rfl rfl ?_
    obtain ⟨z22, y22, h⟩ := xbind h
    refine x_callV (t_hA_X3_rightOnes ks g a b w  z22 y22 (d + 0)) kX7_153 dX7_right_22 rfl rfl rfl rfl rfl (Nat.le_of_ble_eq_true rfl) (Nat.le_of_ble_eq_true rfl) rfl rfl (Or.inl rfl) ?_
    obtain ⟨z25, y25, h⟩ := xbind h
    refine x_callV (t_hA_X7_answer ks g a b w z22 z25 y25 (d + 0)) kX7_110 dX7_right_25 rfl rfl rfl rfl rfl (Nat.le_of_ble_eq_true rfl) (Nat.le_of_ble_eq_true rfl) rfl rfl (Or.inl rfl) ?_
    refine x_heap (h2 := (hA (up g 34 z25.2) a b w (.ref 19) (.ref 1))) rfl ?_
    cases h
    exact x_iret dX7_right_28 rfl rfl rfl
  · have h := xif_t q h
    refine x_aload_n dX7_right_7 rfl ?_
    refine x_iconst (1 : Int32) dX7_right_8 (by decide) ?_
    obtain ⟨z9, y9, h⟩ := xbind h
    refine x_callV (t_hA_X7_refuse ks g a b w (1 : Int32) z9 y9 (d + 0)) kX7_84 dX7_right_9 rfl rfl rfl rfl rfl (Nat.le_of_ble_eq_true rfl) (Nat.le_of_ble_eq_true rfl) rfl rfl (Or.inl rfl) ?_
    refine x_heap (h2 := (hA (up g 34 z9.2) a b w (.ref 19) (.ref 1))) rfl ?_
    cases h
    exact x_iret dX7_right_12 rfl rfl rfl
def L_hA_X3_copyFrom_2 (p0 : Int32) (p1 : Int32) (p2 : (Nat → Int32)) (p3 : (Nat → Int32)) (p4 : (Nat → Int32)) (p5 : (Nat → Int32))  (K : Int32 → (Nat → Int32) → (Nat → Int32) → Option (Int32 × (Nat → Int32) × (Nat → Int32))) : Nat → Int32 → (Nat → Int32) → (Nat → Int32) → Option (Int32 × (Nat → Int32) × (Nat → Int32))
  | 0, _, _, _ => none
  | n2 + 1, l2, ma29, ma30 => if (5 : Int32) ≤ l2 then K l2 ma29 ma30 else (xix l2 5 (xix l2 5 (xix l2 5 (xix l2 5 (L_hA_X3_copyFrom_2 p0 p1 p2 p3 p4 p5 K n2 (l2 + (1 : Int32)) (upd ma29 l2.toNatClampNeg (p2 l2.toNatClampNeg)) (upd ma30 l2.toNatClampNeg (p4 l2.toNatClampNeg)))))))
def e_hA_X3_copyFrom (p0 : Int32) (p1 : Int32) (p2 : (Nat → Int32)) (p3 : (Nat → Int32)) (p4 : (Nat → Int32)) (p5 : (Nat → Int32))  : Option (Int32 × (Nat → Int32) × (Nat → Int32)) :=
  L_hA_X3_copyFrom_2 p0 p1 p2 p3 p4 p5  (fun l2 ma29 ma30 => some (p0, ma29, ma30)) 200000 (0 : Int32) p3 p5
set_option maxRecDepth 100000 in
set_option maxHeartbeats 4000000 in
theorem lp_hA_X3_copyFrom_2 (ks : List xSK) (g : Nat → Int32) (a : Nat → Nat → Int32) (b : Nat → Nat → Int64) (w : Nat → Int64) (d n0 : Nat)  (res : Int32 × (Nat → Int32) × (Nat → Int32)) (K : Int32 → (Nat → Int32) → (Nat → Int32) → Option (Int32 × (Nat → Int32) × (Nat → Int32))) (hK : ∀ (l2 : Int32) (ma29 : (Nat → Int32)) (ma30 : (Nat → Int32)), K l2 ma29 ma30 = some res → xW ks YX3_copyFrom (d + 1) 0 0 n0 none (hA (up g 23 res.1) (up (up a 29 res.2.1) 30 res.2.2) b w (.ref 19) (.ref 1)) 0 0 37 [some (.ref 40), some (.ref 37), none] [] (hA g (up (up a 29 ma29) 30 ma30) b w (.ref 19) (.ref 1))) : ∀ (n : Nat) (l2 : Int32) (ma29 : (Nat → Int32)) (ma30 : (Nat → Int32)), L_hA_X3_copyFrom_2 (g 22) (g 23) (a 27) (a 29) (a 28) (a 30)  K n l2 ma29 ma30 = some res → xW ks YX3_copyFrom (d + 1) 0 0 n0 none (hA (up g 23 res.1) (up (up a 29 res.2.1) 30 res.2.2) b w (.ref 19) (.ref 1)) 0 0 2 [some (.ref 40), some (.ref 37), some (.int l2)] [] (hA g (up (up a 29 ma29) 30 ma30) b w (.ref 19) (.ref 1)) := by
  intro n
  induction n with
  | zero =>
    intro l2 ma29 ma30 h
    cases (show (none : Option (Int32 × (Nat → Int32) × (Nat → Int32))) = some res from h)
  | succ n2 ih2 =>
    intro l2 ma29 ma30 h
    unfold L_hA_X3_copyFrom_2 at h
    refine x_iload_n dX3_copyFrom_2 rfl ?_
    refine x_iconst (5 : Int32) dX3_copyFrom_3 (by decide) ?_
    refine x_icmp_ge 37 dX3_copyFrom_4 (by decide) (fun q => ?_) (fun q => ?_)
    · have h := xif_t q h
      refine x_weak (pl2 := [some (.ref 40), some (.ref 37), none]) ⟨rfl, rfl, trivial⟩ ?_
      refine x_heap (h2 := (hA g (up (up a 29 ma29) 30 ma30) b w (.ref 19) (.ref 1))) rfl ?_
      exact hK l2 ma29 ma30 h
    · have h := xif_f q h
      refine x_aload_n dX3_copyFrom_7 rfl ?_
      refine x_get fX3_9 dX3_copyFrom_8 rfl rfl rfl ?_
      refine x_iload_n dX3_copyFrom_11 rfl ?_
      refine x_aload_n dX3_copyFrom_12 rfl ?_
      refine x_get fX3_9 dX3_copyFrom_13 rfl rfl rfl ?_
      refine x_iload_n dX3_copyFrom_16 rfl ?_
      obtain ⟨q17, h⟩ := xix_of h
      refine x_iald dX3_copyFrom_17 rfl q17 ?_
      obtain ⟨q18, h⟩ := xix_of h
      refine x_iast (h2 := (hA g (up (up a 29 (upd ma29 l2.toNatClampNeg ((a 27) l2.toNatClampNeg))) 30 ma30) b w (.ref 19) (.ref 1))) dX3_copyFrom_18 rfl q18 rfl ?_
      refine x_aload_n dX3_copyFrom_19 rfl ?_
      refine x_get fX3_15 dX3_copyFrom_20 rfl rfl rfl ?_
      refine x_iload_n dX3_copyFrom_23 rfl ?_
      refine x_aload_n dX3_copyFrom_24 rfl ?_
      refine x_get fX3_15 dX3_copyFrom_25 rfl rfl rfl ?_
      refine x_iload_n dX3_copyFrom_28 rfl ?_
      obtain ⟨q29, h⟩ := xix_of h
      refine x_iald dX3_copyFrom_29 rfl q29 ?_
      obtain ⟨q30, h⟩ := xix_of h
      refine x_iast (h2 := (hA g (up (up a 29 (upd ma29 l2.toNatClampNeg ((a 27) l2.toNatClampNeg))) 30 (upd ma30 l2.toNatClampNeg ((a 28) l2.toNatClampNeg))) b w (.ref 19) (.ref 1))) dX3_copyFrom_30 rfl q30 rfl ?_
      refine x_iinc (l2 + (1 : Int32)) (pl' := [some (.ref 40), some (.ref 37), some (.int (l2 + (1 : Int32)))]) dX3_copyFrom_31 rfl rfl (by decide) rfl ?_
      refine x_goto 2 dX3_copyFrom_34 (by decide) ?_
      refine x_weak (pl2 := [some (.ref 40), some (.ref 37), some (.int (l2 + (1 : Int32)))]) ⟨rfl, rfl, rfl, trivial⟩ ?_
      refine x_heap (h2 := (hA g (up (up a 29 (upd ma29 l2.toNatClampNeg ((a 27) l2.toNatClampNeg))) 30 (upd ma30 l2.toNatClampNeg ((a 28) l2.toNatClampNeg))) b w (.ref 19) (.ref 1))) rfl ?_
      exact ih2 (l2 + (1 : Int32)) (upd ma29 l2.toNatClampNeg ((a 27) l2.toNatClampNeg)) (upd ma30 l2.toNatClampNeg ((a 28) l2.toNatClampNeg)) h
set_option maxRecDepth 100000 in
set_option maxHeartbeats 4000000 in
theorem t_hA_X3_copyFrom (ks : List xSK) (g : Nat → Int32) (a : Nat → Nat → Int32) (b : Nat → Nat → Int64) (w : Nat → Int64)  (res : Int32 × (Nat → Int32) × (Nat → Int32)) (h : e_hA_X3_copyFrom (g 22) (g 23) (a 27) (a 29) (a 28) (a 30)  = some res) (d : Nat) : xMet ks YX3_copyFrom (d + 1) 0 0 [.ref 40, .ref 37] (hA g a b w (.ref 19) (.ref 1)) none (hA (up g 23 res.1) (up (up a 29 res.2.1) 30 res.2.2) b w (.ref 19) (.ref 1)) := by
  unfold e_hA_X3_copyFrom at h
  refine xMet_of (pl := [some (.ref 40), some (.ref 37), none]) (by decide) (Nat.le_of_ble_eq_true rfl) rfl (Nat.le_of_ble_eq_true rfl) ?_
  refine x_iconst (0 : Int32) dX3_copyFrom_0 (by decide) ?_
  refine x_istore_n (pl' := [some (.ref 40), some (.ref 37), some (.int (0 : Int32))]) dX3_copyFrom_1 (by decide) rfl ?_
  refine x_weak (pl2 := [some (.ref 40), some (.ref 37), some (.int (0 : Int32))]) ⟨rfl, rfl, rfl, trivial⟩ ?_
  refine x_heap (h2 := (hA g a b w (.ref 19) (.ref 1))) rfl ?_
  refine lp_hA_X3_copyFrom_2 ks g a b w d _  res _ (fun l2 ma29 ma30 h => ?_) 200000 (0 : Int32) (a 29) (a 30) h
  refine x_aload_n dX3_copyFrom_37 rfl ?_
  refine x_aload_n dX3_copyFrom_38 rfl ?_
  refine x_get fX3_18 dX3_copyFrom_39 rfl rfl rfl ?_
  refine x_put (h2 := (hA (up g 23 (g 22)) (up (up a 29 ma29) 30 ma30) b w (.ref 19) (.ref 1))) fX3_18 dX3_copyFrom_42 rfl rfl (Nat.le_of_ble_eq_true rfl : 2 + 1 ≤ _) (fun α => ⟨rfl, rfl⟩) rfl ?_
  cases h
  exact x_vret dX3_copyFrom_45 rfl rfl rfl
def L_hA_X3_forgetOne_8 (p0 : Int32) (p1 : (Nat → Int32)) (p2 : (Nat → Int32)) (f2 : Int32) (K : Int32 → Int32 → Int32 → Option ((Nat → Int32))) : Nat → Int32 → Int32 → Int32 → Option ((Nat → Int32))
  | 0, _, _, _ => none
  | n8 + 1, l3, l4, l5 => if p0 ≤ l5 then K l3 l4 l5 else (xix l5 5 (if (p1 l5.toNatClampNeg) = f2 then if l4 = (-1 : Int32) then L_hA_X3_forgetOne_8 p0 p1 p2 f2 K n8 (l3 + (1 : Int32)) l5 (l5 + (1 : Int32)) else (xix l5 5 (xix l4 5 (if (p2 l4.toNatClampNeg) ≤ (p2 l5.toNatClampNeg) then L_hA_X3_forgetOne_8 p0 p1 p2 f2 K n8 (l3 + (1 : Int32)) l4 (l5 + (1 : Int32)) else L_hA_X3_forgetOne_8 p0 p1 p2 f2 K n8 (l3 + (1 : Int32)) l5 (l5 + (1 : Int32))))) else L_hA_X3_forgetOne_8 p0 p1 p2 f2 K n8 l3 l4 (l5 + (1 : Int32))))
def e_hA_X3_forgetOne (p0 : Int32) (p1 : (Nat → Int32)) (p2 : (Nat → Int32)) (x2 : Int32) : Option ((Nat → Int32)) :=
  L_hA_X3_forgetOne_8 p0 p1 p2 x2 (fun l3 l4 l5 => if l3 ≤ (1 : Int32) then some p1 else if l4 < (0 : Int32) then some p1 else (xix l4 5 (some (upd p1 l4.toNatClampNeg (-2 : Int32))))) 200000 (0 : Int32) (-1 : Int32) (0 : Int32)
set_option maxRecDepth 100000 in
set_option maxHeartbeats 4000000 in
theorem lp_hA_X3_forgetOne_8 (ks : List xSK) (g : Nat → Int32) (a : Nat → Nat → Int32) (b : Nat → Nat → Int64) (w : Nat → Int64) (d n0 : Nat) (f2 : Int32) (res : (Nat → Int32)) (K : Int32 → Int32 → Int32 → Option ((Nat → Int32))) (hK : ∀ (l3 : Int32) (l4 : Int32) (l5 : Int32), K l3 l4 l5 = some res → xW ks YX3_forgetOne (d + 1) 0 0 n0 none (hA g (up a 29 res) b w (.ref 19) (.ref 1)) 0 0 69 [some (.ref 40), none, none, some (.int l3), some (.int l4), none] [] (hA g a b w (.ref 19) (.ref 1))) : ∀ (n : Nat) (l3 : Int32) (l4 : Int32) (l5 : Int32), L_hA_X3_forgetOne_8 (g 4) (a 29) (a 2) f2 K n l3 l4 l5 = some res → xW ks YX3_forgetOne (d + 1) 0 0 n0 none (hA g (up a 29 res) b w (.ref 19) (.ref 1)) 0 0 8 [some (.ref 40), some (.ref 1), some (.int f2), some (.int l3), some (.int l4), some (.int l5)] [] (hA g a b w (.ref 19) (.ref 1)) := by
  intro n
  induction n with
  | zero =>
    intro l3 l4 l5 h
    cases (show (none : Option ((Nat → Int32))) = some res from h)
  | succ n8 ih8 =>
    intro l3 l4 l5 h
    unfold L_hA_X3_forgetOne_8 at h
    refine x_iload dX3_forgetOne_8 rfl ?_
    refine x_aload_n dX3_forgetOne_10 rfl ?_
    refine x_get fX3_22 dX3_forgetOne_11 rfl rfl rfl ?_
    refine x_icmp_ge 69 dX3_forgetOne_14 (by decide) (fun q => ?_) (fun q => ?_)
    · have h := xif_t q h
      refine x_weak (pl2 := [some (.ref 40), none, none, some (.int l3), some (.int l4), none]) ⟨rfl, rfl, rfl, trivial⟩ ?_
      refine x_heap (h2 := (hA g a b w (.ref 19) (.ref 1))) rfl ?_
      exact hK l3 l4 l5 h
    · have h := xif_f q h
      refine x_aload_n dX3_forgetOne_17 rfl ?_
      refine x_get fX3_9 dX3_forgetOne_18 rfl rfl rfl ?_
      refine x_iload dX3_forgetOne_21 rfl ?_
      obtain ⟨q23, h⟩ := xix_of h
      refine x_iald dX3_forgetOne_23 rfl q23 ?_
      refine x_iload_n dX3_forgetOne_24 rfl ?_
      refine x_icmp_ne 63 dX3_forgetOne_25 (by decide) (fun q => ?_) (fun q => ?_)
      · have h := xif_f q h
        refine x_iinc (l5 + (1 : Int32)) (pl' := [some (.ref 40), some (.ref 1), some (.int f2), some (.int l3), some (.int l4), some (.int (l5 + (1 : Int32)))]) dX3_forgetOne_63 rfl rfl (by decide) rfl ?_
        refine x_goto 8 dX3_forgetOne_66 (by decide) ?_
        refine x_weak (pl2 := [some (.ref 40), some (.ref 1), some (.int f2), some (.int l3), some (.int l4), some (.int (l5 + (1 : Int32)))]) ⟨rfl, rfl, rfl, rfl, rfl, rfl, trivial⟩ ?_
        refine x_heap (h2 := (hA g a b w (.ref 19) (.ref 1))) rfl ?_
        exact ih8 l3 l4 (l5 + (1 : Int32)) h
      · have h := xif_t q h
        refine x_iinc (l3 + (1 : Int32)) (pl' := [some (.ref 40), some (.ref 1), some (.int f2), some (.int (l3 + (1 : Int32))), some (.int l4), some (.int l5)]) dX3_forgetOne_28 rfl rfl (by decide) rfl ?_
        refine x_iload dX3_forgetOne_31 rfl ?_
        refine x_iconst (-1 : Int32) dX3_forgetOne_33 (by decide) ?_
        refine x_icmp_eq 54 dX3_forgetOne_34 (by decide) (fun q => ?_) (fun q => ?_)
        · have h := xif_t q h
          refine x_iload dX3_forgetOne_54 rfl ?_
          refine x_goto 61 dX3_forgetOne_56 (by decide) ?_
          refine x_istore (pl' := [some (.ref 40), some (.ref 1), some (.int f2), some (.int (l3 + (1 : Int32))), some (.int l5), some (.int l5)]) dX3_forgetOne_61 (by decide) rfl ?_
          refine x_iinc (l5 + (1 : Int32)) (pl' := [some (.ref 40), some (.ref 1), some (.int f2), some (.int (l3 + (1 : Int32))), some (.int l5), some (.int (l5 + (1 : Int32)))]) dX3_forgetOne_63 rfl rfl (by decide) rfl ?_
          refine x_goto 8 dX3_forgetOne_66 (by decide) ?_
          refine x_weak (pl2 := [some (.ref 40), some (.ref 1), some (.int f2), some (.int (l3 + (1 : Int32))), some (.int l5), some (.int (l5 + (1 : Int32)))]) ⟨rfl, rfl, rfl, rfl, rfl, rfl, trivial⟩ ?_
          refine x_heap (h2 := (hA g a b w (.ref 19) (.ref 1))) rfl ?_
          exact ih8 (l3 + (1 : Int32)) l5 (l5 + (1 : Int32)) h
        · have h := xif_f q h
          refine x_aload_n dX3_forgetOne_37 rfl ?_
          refine x_get fX3_64 dX3_forgetOne_38 rfl rfl rfl ?_
          refine x_iload dX3_forgetOne_41 rfl ?_
          obtain ⟨q43, h⟩ := xix_of h
          refine x_iald dX3_forgetOne_43 rfl q43 ?_
          refine x_aload_n dX3_forgetOne_44 rfl ?_
          refine x_get fX3_64 dX3_forgetOne_45 rfl rfl rfl ?_
          refine x_iload dX3_forgetOne_48 rfl ?_
          obtain ⟨q50, h⟩ := xix_of h
          refine x_iald dX3_forgetOne_50 rfl q50 ?_
          refine x_icmp_ge 59 dX3_forgetOne_51 (by decide) (fun q => ?_) (fun q => ?_)
          · have h := xif_t q h
            refine x_iload dX3_forgetOne_59 rfl ?_
            refine x_istore (pl' := [some (.ref 40), some (.ref 1), some (.int f2), some (.int (l3 + (1 : Int32))), some (.int l4), some (.int l5)]) dX3_forgetOne_61 (by decide) rfl ?_
            refine x_iinc (l5 + (1 : Int32)) (pl' := [some (.ref 40), some (.ref 1), some (.int f2), some (.int (l3 + (1 : Int32))), some (.int l4), some (.int (l5 + (1 : Int32)))]) dX3_forgetOne_63 rfl rfl (by decide) rfl ?_
            refine x_goto 8 dX3_forgetOne_66 (by decide) ?_
            refine x_weak (pl2 := [some (.ref 40), some (.ref 1), some (.int f2), some (.int (l3 + (1 : Int32))), some (.int l4), some (.int (l5 + (1 : Int32)))]) ⟨rfl, rfl, rfl, rfl, rfl, rfl, trivial⟩ ?_
            refine x_heap (h2 := (hA g a b w (.ref 19) (.ref 1))) rfl ?_
            exact ih8 (l3 + (1 : Int32)) l4 (l5 + (1 : Int32)) h
          · have h := xif_f q h
            refine x_iload dX3_forgetOne_54 rfl ?_
            refine x_goto 61 dX3_forgetOne_56 (by decide) ?_
            refine x_istore (pl' := [some (.ref 40), some (.ref 1), some (.int f2), some (.int (l3 + (1 : Int32))), some (.int l5), some (.int l5)]) dX3_forgetOne_61 (by decide) rfl ?_
            refine x_iinc (l5 + (1 : Int32)) (pl' := [some (.ref 40), some (.ref 1), some (.int f2), some (.int (l3 + (1 : Int32))), some (.int l5), some (.int (l5 + (1 : Int32)))]) dX3_forgetOne_63 rfl rfl (by decide) rfl ?_
            refine x_goto 8 dX3_forgetOne_66 (by decide) ?_
            refine x_weak (pl2 := [some (.ref 40), some (.ref 1), some (.int f2), some (.int (l3 + (1 : Int32))), some (.int l5), some (.int (l5 + (1 : Int32)))]) ⟨rfl, rfl, rfl, rfl, rfl, rfl, trivial⟩ ?_
            refine x_heap (h2 := (hA g a b w (.ref 19) (.ref 1))) rfl ?_
            exact ih8 (l3 + (1 : Int32)) l5 (l5 + (1 : Int32)) h
set_option maxRecDepth 100000 in
set_option maxHeartbeats 4000000 in
theorem t_hA_X3_forgetOne (ks : List xSK) (g : Nat → Int32) (a : Nat → Nat → Int32) (b : Nat → Nat → Int64) (w : Nat → Int64) (x2 : Int32) (res : (Nat → Int32)) (h : e_hA_X3_forgetOne (g 4) (a 29) (a 2) x2 = some res) (d : Nat) : xMet ks YX3_forgetOne (d + 1) 0 0 [.ref 40, .ref 1, .int x2] (hA g a b w (.ref 19) (.ref 1)) none (hA g (up a 29 res) b w (.ref 19) (.ref 1)) := by
  unfold e_hA_X3_forgetOne at h
  refine xMet_of (pl := [some (.ref 40), some (.ref 1), some (.int x2), none, none, none]) (by decide) (Nat.le_of_ble_eq_true rfl) rfl (Nat.le_of_ble_eq_true rfl) ?_
  refine x_iconst (0 : Int32) dX3_forgetOne_0 (by decide) ?_
  refine x_istore_n (pl' := [some (.ref 40), some (.ref 1), some (.int x2), some (.int (0 : Int32)), none, none]) dX3_forgetOne_1 (by decide) rfl ?_
  refine x_iconst (-1 : Int32) dX3_forgetOne_2 (by decide) ?_
  refine x_istore (pl' := [some (.ref 40), some (.ref 1), some (.int x2), some (.int (0 : Int32)), some (.int (-1 : Int32)), none]) dX3_forgetOne_3 (by decide) rfl ?_
  refine x_iconst (0 : Int32) dX3_forgetOne_5 (by decide) ?_
  refine x_istore (pl' := [some (.ref 40), some (.ref 1), some (.int x2), some (.int (0 : Int32)), some (.int (-1 : Int32)), some (.int (0 : Int32))]) dX3_forgetOne_6 (by decide) rfl ?_
  refine x_weak (pl2 := [some (.ref 40), some (.ref 1), some (.int x2), some (.int (0 : Int32)), some (.int (-1 : Int32)), some (.int (0 : Int32))]) ⟨rfl, rfl, rfl, rfl, rfl, rfl, trivial⟩ ?_
  refine x_heap (h2 := (hA g a b w (.ref 19) (.ref 1))) rfl ?_
  refine lp_hA_X3_forgetOne_8 ks g a b w d _ x2 res _ (fun l3 l4 l5 h => ?_) 200000 (0 : Int32) (-1 : Int32) (0 : Int32) h
  refine x_iload_n dX3_forgetOne_69 rfl ?_
  refine x_iconst (1 : Int32) dX3_forgetOne_70 (by decide) ?_
  refine x_icmp_le 88 dX3_forgetOne_71 (by decide) (fun q => ?_) (fun q => ?_)
  · have h := xif_t q h
    cases h
    exact x_vret dX3_forgetOne_88 rfl rfl rfl
  · have h := xif_f q h
    refine x_iload dX3_forgetOne_74 rfl ?_
    refine x_if_lt 88 dX3_forgetOne_76 (by decide) (fun q => ?_) (fun q => ?_)
    · have h := xif_t q h
      cases h
      exact x_vret dX3_forgetOne_88 rfl rfl rfl
    · have h := xif_f q h
      refine x_aload_n dX3_forgetOne_79 rfl ?_
      refine x_get fX3_9 dX3_forgetOne_80 rfl rfl rfl ?_
      refine x_iload dX3_forgetOne_83 rfl ?_
      refine x_bipush (-2 : Int32) dX3_forgetOne_85 (by decide) ?_
      obtain ⟨q87, h⟩ := xix_of h
      refine x_iast (h2 := (hA g (up a 29 (upd (a 29) l4.toNatClampNeg (-2 : Int32))) b w (.ref 19) (.ref 1))) dX3_forgetOne_87 rfl q87 rfl ?_
      cases h
      exact x_vret dX3_forgetOne_88 rfl rfl rfl
def L_hA_X3_lapse_2 (p0 : Int32) (p1 : (Nat → Int32)) (p2 : (Nat → Int32))  (K : Int32 → (Nat → Int32) → Option ((Nat → Int32))) : Nat → Int32 → (Nat → Int32) → Option ((Nat → Int32))
  | 0, _, _ => none
  | n2 + 1, l2, ma30 => if p0 ≤ l2 then K l2 ma30 else (xix l2 5 (if (p1 l2.toNatClampNeg) = (0 : Int32) then L_hA_X3_lapse_2 p0 p1 p2 K n2 (l2 + (1 : Int32)) ma30 else (xix l2 5 (L_hA_X3_lapse_2 p0 p1 p2 K n2 (l2 + (1 : Int32)) (upd ma30 l2.toNatClampNeg (-2 : Int32))))))
def e_hA_X3_lapse (p0 : Int32) (p1 : (Nat → Int32)) (p2 : (Nat → Int32))  : Option ((Nat → Int32)) :=
  L_hA_X3_lapse_2 p0 p1 p2  (fun l2 ma30 => some ma30) 200000 (0 : Int32) p2
set_option maxRecDepth 100000 in
set_option maxHeartbeats 4000000 in
theorem lp_hA_X3_lapse_2 (ks : List xSK) (g : Nat → Int32) (a : Nat → Nat → Int32) (b : Nat → Nat → Int64) (w : Nat → Int64) (d n0 : Nat)  (res : (Nat → Int32)) (K : Int32 → (Nat → Int32) → Option ((Nat → Int32))) (hK : ∀ (l2 : Int32) (ma30 : (Nat → Int32)), K l2 ma30 = some res → xW ks YX3_lapse (d + 1) 0 0 n0 none (hA g (up a 30 res) b w (.ref 19) (.ref 1)) 0 0 33 [none, none, none] [] (hA g (up a 30 ma30) b w (.ref 19) (.ref 1))) : ∀ (n : Nat) (l2 : Int32) (ma30 : (Nat → Int32)), L_hA_X3_lapse_2 (g 4) (a 1) (a 30)  K n l2 ma30 = some res → xW ks YX3_lapse (d + 1) 0 0 n0 none (hA g (up a 30 res) b w (.ref 19) (.ref 1)) 0 0 2 [some (.ref 40), some (.ref 1), some (.int l2)] [] (hA g (up a 30 ma30) b w (.ref 19) (.ref 1)) := by
  intro n
  induction n with
  | zero =>
    intro l2 ma30 h
    cases (show (none : Option ((Nat → Int32))) = some res from h)
  | succ n2 ih2 =>
    intro l2 ma30 h
    unfold L_hA_X3_lapse_2 at h
    refine x_iload_n dX3_lapse_2 rfl ?_
    refine x_aload_n dX3_lapse_3 rfl ?_
    refine x_get fX3_22 dX3_lapse_4 rfl rfl rfl ?_
    refine x_icmp_ge 33 dX3_lapse_7 (by decide) (fun q => ?_) (fun q => ?_)
    · have h := xif_t q h
      refine x_weak (pl2 := [none, none, none]) trivial ?_
      refine x_heap (h2 := (hA g (up a 30 ma30) b w (.ref 19) (.ref 1))) rfl ?_
      exact hK l2 ma30 h
    · have h := xif_f q h
      refine x_aload_n dX3_lapse_10 rfl ?_
      refine x_get fX3_30 dX3_lapse_11 rfl rfl rfl ?_
      refine x_iload_n dX3_lapse_14 rfl ?_
      obtain ⟨q15, h⟩ := xix_of h
      refine x_iald dX3_lapse_15 rfl q15 ?_
      refine x_if_eq 27 dX3_lapse_16 (by decide) (fun q => ?_) (fun q => ?_)
      · have h := xif_t q h
        refine x_iinc (l2 + (1 : Int32)) (pl' := [some (.ref 40), some (.ref 1), some (.int (l2 + (1 : Int32)))]) dX3_lapse_27 rfl rfl (by decide) rfl ?_
        refine x_goto 2 dX3_lapse_30 (by decide) ?_
        refine x_weak (pl2 := [some (.ref 40), some (.ref 1), some (.int (l2 + (1 : Int32)))]) ⟨rfl, rfl, rfl, trivial⟩ ?_
        refine x_heap (h2 := (hA g (up a 30 ma30) b w (.ref 19) (.ref 1))) rfl ?_
        exact ih2 (l2 + (1 : Int32)) ma30 h
      · have h := xif_f q h
        refine x_aload_n dX3_lapse_19 rfl ?_
        refine x_get fX3_15 dX3_lapse_20 rfl rfl rfl ?_
        refine x_iload_n dX3_lapse_23 rfl ?_
        refine x_bipush (-2 : Int32) dX3_lapse_24 (by decide) ?_
        obtain ⟨q26, h⟩ := xix_of h
        refine x_iast (h2 := (hA g (up a 30 (upd ma30 l2.toNatClampNeg (-2 : Int32))) b w (.ref 19) (.ref 1))) dX3_lapse_26 rfl q26 rfl ?_
        refine x_iinc (l2 + (1 : Int32)) (pl' := [some (.ref 40), some (.ref 1), some (.int (l2 + (1 : Int32)))]) dX3_lapse_27 rfl rfl (by decide) rfl ?_
        refine x_goto 2 dX3_lapse_30 (by decide) ?_
        refine x_weak (pl2 := [some (.ref 40), some (.ref 1), some (.int (l2 + (1 : Int32)))]) ⟨rfl, rfl, rfl, trivial⟩ ?_
        refine x_heap (h2 := (hA g (up a 30 (upd ma30 l2.toNatClampNeg (-2 : Int32))) b w (.ref 19) (.ref 1))) rfl ?_
        exact ih2 (l2 + (1 : Int32)) (upd ma30 l2.toNatClampNeg (-2 : Int32)) h
set_option maxRecDepth 100000 in
set_option maxHeartbeats 4000000 in
theorem t_hA_X3_lapse (ks : List xSK) (g : Nat → Int32) (a : Nat → Nat → Int32) (b : Nat → Nat → Int64) (w : Nat → Int64)  (res : (Nat → Int32)) (h : e_hA_X3_lapse (g 4) (a 1) (a 30)  = some res) (d : Nat) : xMet ks YX3_lapse (d + 1) 0 0 [.ref 40, .ref 1] (hA g a b w (.ref 19) (.ref 1)) none (hA g (up a 30 res) b w (.ref 19) (.ref 1)) := by
  unfold e_hA_X3_lapse at h
  refine xMet_of (pl := [some (.ref 40), some (.ref 1), none]) (by decide) (Nat.le_of_ble_eq_true rfl) rfl (Nat.le_of_ble_eq_true rfl) ?_
  refine x_iconst (0 : Int32) dX3_lapse_0 (by decide) ?_
  refine x_istore_n (pl' := [some (.ref 40), some (.ref 1), some (.int (0 : Int32))]) dX3_lapse_1 (by decide) rfl ?_
  refine x_weak (pl2 := [some (.ref 40), some (.ref 1), some (.int (0 : Int32))]) ⟨rfl, rfl, rfl, trivial⟩ ?_
  refine x_heap (h2 := (hA g a b w (.ref 19) (.ref 1))) rfl ?_
  refine lp_hA_X3_lapse_2 ks g a b w d _  res _ (fun l2 ma30 h => ?_) 200000 (0 : Int32) (a 30) h
  cases h
  exact x_vret dX3_lapse_33 rfl rfl rfl
def e_hA_X3_takeTitle (p0 : (Nat → Int32)) (p1 : (Nat → Int32)) (p2 : (Nat → Int32)) (x2 : Int32) : Option ((Nat → Int32)) :=
  (xix x2 5 (if (p0 x2.toNatClampNeg) < (0 : Int32) then some p2 else (xix (p0 x2.toNatClampNeg) 6 (if (p1 (p0 x2.toNatClampNeg).toNatClampNeg) = (1 : Int32) then some p2 else (xix x2 5 (some (upd p2 x2.toNatClampNeg (p0 x2.toNatClampNeg))))))))
set_option maxRecDepth 100000 in
set_option maxHeartbeats 4000000 in
theorem t_hA_X3_takeTitle (ks : List xSK) (g : Nat → Int32) (a : Nat → Nat → Int32) (b : Nat → Nat → Int64) (w : Nat → Int64) (x2 : Int32) (res : (Nat → Int32)) (h : e_hA_X3_takeTitle (a 29) (a 0) (a 30) x2 = some res) (d : Nat) : xMet ks YX3_takeTitle (d + 1) 0 0 [.ref 40, .ref 1, .int x2] (hA g a b w (.ref 19) (.ref 1)) none (hA g (up a 30 res) b w (.ref 19) (.ref 1)) := by
  unfold e_hA_X3_takeTitle at h
  refine xMet_of (pl := [some (.ref 40), some (.ref 1), some (.int x2), none]) (by decide) (Nat.le_of_ble_eq_true rfl) rfl (Nat.le_of_ble_eq_true rfl) ?_
  refine x_aload_n dX3_takeTitle_0 rfl ?_
  refine x_get fX3_9 dX3_takeTitle_1 rfl rfl rfl ?_
  refine x_iload_n dX3_takeTitle_4 rfl ?_
  obtain ⟨q5, h⟩ := xix_of h
  refine x_iald dX3_takeTitle_5 rfl q5 ?_
  refine x_istore_n (pl' := [some (.ref 40), some (.ref 1), some (.int x2), some (.int ((a 29) x2.toNatClampNeg))]) dX3_takeTitle_6 (by decide) rfl ?_
  refine x_iload_n dX3_takeTitle_7 rfl ?_
  refine x_if_lt 28 dX3_takeTitle_8 (by decide) (fun q => ?_) (fun q => ?_)
  · have h := xif_t q h
    cases h
    exact x_vret dX3_takeTitle_28 rfl rfl rfl
  · have h := xif_f q h
    refine x_aload_n dX3_takeTitle_11 rfl ?_
    refine x_get fX3_58 dX3_takeTitle_12 rfl rfl rfl ?_
    refine x_iload_n dX3_takeTitle_15 rfl ?_
    obtain ⟨q16, h⟩ := xix_of h
    refine x_iald dX3_takeTitle_16 rfl q16 ?_
    refine x_iconst (1 : Int32) dX3_takeTitle_17 (by decide) ?_
    refine x_icmp_eq 28 dX3_takeTitle_18 (by decide) (fun q => ?_) (fun q => ?_)
    · have h := xif_t q h
      cases h
      exact x_vret dX3_takeTitle_28 rfl rfl rfl
    · have h := xif_f q h
      refine x_aload_n dX3_takeTitle_21 rfl ?_
      refine x_get fX3_15 dX3_takeTitle_22 rfl rfl rfl ?_
      refine x_iload_n dX3_takeTitle_25 rfl ?_
      refine x_iload_n dX3_takeTitle_26 rfl ?_
      obtain ⟨q27, h⟩ := xix_of h
      refine x_iast (h2 := (hA g (up a 30 (upd (a 30) x2.toNatClampNeg ((a 29) x2.toNatClampNeg))) b w (.ref 19) (.ref 1))) dX3_takeTitle_27 rfl q27 rfl ?_
      cases h
      exact x_vret dX3_takeTitle_28 rfl rfl rfl
def L_hA_X3_passDay_2 (p0 : Int32) (p1 : Int32) (p2 : Int32) (p3 : (Nat → Int32)) (p4 : (Nat → Int32)) (p5 : (Nat → Int32)) (p6 : Int32) (p7 : (Nat → Int32)) (p8 : (Nat → Int32)) (f2 : Int32) (K : Int32 → (Nat → Int32) → Option (Int32 × (Nat → Int32) × (Nat → Int32))) : Nat → Int32 → (Nat → Int32) → Option (Int32 × (Nat → Int32) × (Nat → Int32))
  | 0, _, _ => none
  | n2 + 1, l3, ma30 => if p0 ≤ l3 then K l3 ma30 else (xix l3 5 (if (p7 l3.toNatClampNeg) = (2 : Int32) then L_hA_X3_passDay_2 p0 p1 p2 p3 p4 p5 p6 p7 p8 f2 K n2 (l3 + (1 : Int32)) ma30 else if (p7 l3.toNatClampNeg) = (3 : Int32) then if (1 : Int32) = f2 then L_hA_X3_passDay_2 p0 p1 p2 p3 p4 p5 p6 p7 p8 f2 K n2 (l3 + (1 : Int32)) ma30 else ((e_hA_X3_takeTitle p4 p3 ma30 l3).bind fun z42 => L_hA_X3_passDay_2 p0 p1 p2 p3 p4 p5 p6 p7 p8 f2 K n2 (l3 + (1 : Int32)) z42) else if (0 : Int32) = f2 then L_hA_X3_passDay_2 p0 p1 p2 p3 p4 p5 p6 p7 p8 f2 K n2 (l3 + (1 : Int32)) ma30 else ((e_hA_X3_takeTitle p4 p3 ma30 l3).bind fun z42 => L_hA_X3_passDay_2 p0 p1 p2 p3 p4 p5 p6 p7 p8 f2 K n2 (l3 + (1 : Int32)) z42)))
def L_hA_X3_passDay_96 (p0 : Int32) (p1 : Int32) (p2 : Int32) (p3 : (Nat → Int32)) (p4 : (Nat → Int32)) (p5 : (Nat → Int32)) (p6 : Int32) (p7 : (Nat → Int32)) (p8 : (Nat → Int32)) (fa30 : (Nat → Int32)) (fg23 : Int32) (K : Int32 → (Nat → Int32) → Option (Int32 × (Nat → Int32) × (Nat → Int32))) : Nat → Int32 → (Nat → Int32) → Option (Int32 × (Nat → Int32) × (Nat → Int32))
  | 0, _, _ => none
  | n96 + 1, l3, ma29 => if p2 ≤ l3 then K l3 ma29 else (xix l3 6 (if (p3 l3.toNatClampNeg) = (2 : Int32) then ((e_hA_X3_forgetOne p0 ma29 p5 l3).bind fun z117 => L_hA_X3_passDay_96 p0 p1 p2 p3 p4 p5 p6 p7 p8 fa30 fg23 K n96 (l3 + (1 : Int32)) z117) else L_hA_X3_passDay_96 p0 p1 p2 p3 p4 p5 p6 p7 p8 fa30 fg23 K n96 (l3 + (1 : Int32)) ma29))
def e_hA_X3_passDay (p0 : Int32) (p1 : Int32) (p2 : Int32) (p3 : (Nat → Int32)) (p4 : (Nat → Int32)) (p5 : (Nat → Int32)) (p6 : Int32) (p7 : (Nat → Int32)) (p8 : (Nat → Int32)) (x2 : Int32) : Option (Int32 × (Nat → Int32) × (Nat → Int32)) :=
  L_hA_X3_passDay_2 p0 p1 p2 p3 p4 p5 p6 p7 p8 x2 (fun l3 ma30 => if x2 = (0 : Int32) then if x2 = (0 : Int32) then if (if (30 : Int32) < (p1 + (1 : Int32)) then (30 : Int32) else (p1 + (1 : Int32))) < p6 then L_hA_X3_passDay_96 p0 p1 p2 p3 p4 p5 p6 p7 p8 ma30 (if (30 : Int32) < (p1 + (1 : Int32)) then (30 : Int32) else (p1 + (1 : Int32))) (fun l3 ma29 => some ((if (30 : Int32) < (p1 + (1 : Int32)) then (30 : Int32) else (p1 + (1 : Int32))), ma29, ma30)) 200000 (0 : Int32) p4 else ((e_hA_X3_lapse p0 p7 ma30).bind fun z91 => L_hA_X3_passDay_96 p0 p1 p2 p3 p4 p5 p6 p7 p8 z91 (if (30 : Int32) < (p1 + (1 : Int32)) then (30 : Int32) else (p1 + (1 : Int32))) (fun l3 ma29 => some ((if (30 : Int32) < (p1 + (1 : Int32)) then (30 : Int32) else (p1 + (1 : Int32))), ma29, z91)) 200000 (0 : Int32) p4) else L_hA_X3_passDay_96 p0 p1 p2 p3 p4 p5 p6 p7 p8 ma30 (if (30 : Int32) < (p1 + (1 : Int32)) then (30 : Int32) else (p1 + (1 : Int32))) (fun l3 ma29 => some ((if (30 : Int32) < (p1 + (1 : Int32)) then (30 : Int32) else (p1 + (1 : Int32))), ma29, ma30)) 200000 (0 : Int32) p4 else if x2 = (0 : Int32) then if (0 : Int32) < p6 then L_hA_X3_passDay_96 p0 p1 p2 p3 p4 p5 p6 p7 p8 ma30 (0 : Int32) (fun l3 ma29 => some ((0 : Int32), ma29, ma30)) 200000 (0 : Int32) p4 else ((e_hA_X3_lapse p0 p7 ma30).bind fun z91 => L_hA_X3_passDay_96 p0 p1 p2 p3 p4 p5 p6 p7 p8 z91 (0 : Int32) (fun l3 ma29 => some ((0 : Int32), ma29, z91)) 200000 (0 : Int32) p4) else L_hA_X3_passDay_96 p0 p1 p2 p3 p4 p5 p6 p7 p8 ma30 (0 : Int32) (fun l3 ma29 => some ((0 : Int32), ma29, ma30)) 200000 (0 : Int32) p4) 200000 (0 : Int32) p8
set_option maxRecDepth 100000 in
set_option maxHeartbeats 4000000 in
theorem lp_hA_X3_passDay_2 (ks : List xSK) (g : Nat → Int32) (a : Nat → Nat → Int32) (b : Nat → Nat → Int64) (w : Nat → Int64) (d n0 : Nat) (f2 : Int32) (res : Int32 × (Nat → Int32) × (Nat → Int32)) (K : Int32 → (Nat → Int32) → Option (Int32 × (Nat → Int32) × (Nat → Int32))) (hK : ∀ (l3 : Int32) (ma30 : (Nat → Int32)), K l3 ma30 = some res → xW ks YX3_passDay (d + 2) 0 0 n0 none (hA (up g 23 res.1) (up (up a 29 res.2.1) 30 res.2.2) b w (.ref 19) (.ref 1)) 0 0 51 [some (.ref 40), some (.ref 1), some (.int f2), none, none] [] (hA g (up a 30 ma30) b w (.ref 19) (.ref 1))) : ∀ (n : Nat) (l3 : Int32) (ma30 : (Nat → Int32)), L_hA_X3_passDay_2 (g 4) (g 23) (g 3) (a 0) (a 29) (a 2) (g 0) (a 1) (a 30) f2 K n l3 ma30 = some res → xW ks YX3_passDay (d + 2) 0 0 n0 none (hA (up g 23 res.1) (up (up a 29 res.2.1) 30 res.2.2) b w (.ref 19) (.ref 1)) 0 0 2 [some (.ref 40), some (.ref 1), some (.int f2), some (.int l3), none] [] (hA g (up a 30 ma30) b w (.ref 19) (.ref 1)) := by
  intro n
  induction n with
  | zero =>
    intro l3 ma30 h
    cases (show (none : Option (Int32 × (Nat → Int32) × (Nat → Int32))) = some res from h)
  | succ n2 ih2 =>
    intro l3 ma30 h
    unfold L_hA_X3_passDay_2 at h
    refine x_iload_n dX3_passDay_2 rfl ?_
    refine x_aload_n dX3_passDay_3 rfl ?_
    refine x_get fX3_22 dX3_passDay_4 rfl rfl rfl ?_
    refine x_icmp_ge 51 dX3_passDay_7 (by decide) (fun q => ?_) (fun q => ?_)
    · have h := xif_t q h
      refine x_weak (pl2 := [some (.ref 40), some (.ref 1), some (.int f2), none, none]) ⟨rfl, rfl, rfl, trivial⟩ ?_
      refine x_heap (h2 := (hA g (up a 30 ma30) b w (.ref 19) (.ref 1))) rfl ?_
      exact hK l3 ma30 h
    · have h := xif_f q h
      refine x_aload_n dX3_passDay_10 rfl ?_
      refine x_get fX3_30 dX3_passDay_11 rfl rfl rfl ?_
      refine x_iload_n dX3_passDay_14 rfl ?_
      obtain ⟨q15, h⟩ := xix_of h
      refine x_iald dX3_passDay_15 rfl q15 ?_
      refine x_istore (pl' := [some (.ref 40), some (.ref 1), some (.int f2), some (.int l3), some (.int ((a 1) l3.toNatClampNeg))]) dX3_passDay_16 (by decide) rfl ?_
      refine x_iload dX3_passDay_18 rfl ?_
      refine x_iconst (2 : Int32) dX3_passDay_20 (by decide) ?_
      refine x_icmp_eq 45 dX3_passDay_21 (by decide) (fun q => ?_) (fun q => ?_)
      · have h := xif_t q h
        refine x_iinc (l3 + (1 : Int32)) (pl' := [some (.ref 40), some (.ref 1), some (.int f2), some (.int (l3 + (1 : Int32))), some (.int ((a 1) l3.toNatClampNeg))]) dX3_passDay_45 rfl rfl (by decide) rfl ?_
        refine x_goto 2 dX3_passDay_48 (by decide) ?_
        refine x_weak (pl2 := [some (.ref 40), some (.ref 1), some (.int f2), some (.int (l3 + (1 : Int32))), none]) ⟨rfl, rfl, rfl, rfl, trivial⟩ ?_
        refine x_heap (h2 := (hA g (up a 30 ma30) b w (.ref 19) (.ref 1))) rfl ?_
        exact ih2 (l3 + (1 : Int32)) ma30 h
      · have h := xif_f q h
        refine x_iload dX3_passDay_24 rfl ?_
        refine x_iconst (3 : Int32) dX3_passDay_26 (by decide) ?_
        refine x_icmp_ne 34 dX3_passDay_27 (by decide) (fun q => ?_) (fun q => ?_)
        · have h := xif_f q h
          refine x_iconst (0 : Int32) dX3_passDay_34 (by decide) ?_
          refine x_iload_n dX3_passDay_35 rfl ?_
          refine x_icmp_eq 45 dX3_passDay_36 (by decide) (fun q => ?_) (fun q => ?_)
          · have h := xif_t q h
            refine x_iinc (l3 + (1 : Int32)) (pl' := [some (.ref 40), some (.ref 1), some (.int f2), some (.int (l3 + (1 : Int32))), some (.int ((a 1) l3.toNatClampNeg))]) dX3_passDay_45 rfl rfl (by decide) rfl ?_
            refine x_goto 2 dX3_passDay_48 (by decide) ?_
            refine x_weak (pl2 := [some (.ref 40), some (.ref 1), some (.int f2), some (.int (l3 + (1 : Int32))), none]) ⟨rfl, rfl, rfl, rfl, trivial⟩ ?_
            refine x_heap (h2 := (hA g (up a 30 ma30) b w (.ref 19) (.ref 1))) rfl ?_
            exact ih2 (l3 + (1 : Int32)) ma30 h
          · have h := xif_f q h
            refine x_aload_n dX3_passDay_39 rfl ?_
            refine x_aload_n dX3_passDay_40 rfl ?_
            refine x_iload_n dX3_passDay_41 rfl ?_
            obtain ⟨z42, y42, h⟩ := xbind h
            refine x_callV (t_hA_X3_takeTitle ks g (up a 30 ma30) b w l3 z42 y42 (d + 0)) kX3_33 dX3_passDay_42 rfl rfl rfl rfl rfl (Nat.le_of_ble_eq_true rfl) (Nat.le_of_ble_eq_true rfl) rfl rfl (Or.inl rfl) ?_
            refine x_heap (h2 := (hA g (up a 30 z42) b w (.ref 19) (.ref 1))) rfl ?_
            refine x_iinc (l3 + (1 : Int32)) (pl' := [some (.ref 40), some (.ref 1), some (.int f2), some (.int (l3 + (1 : Int32))), some (.int ((a 1) l3.toNatClampNeg))]) dX3_passDay_45 rfl rfl (by decide) rfl ?_
            refine x_goto 2 dX3_passDay_48 (by decide) ?_
            refine x_weak (pl2 := [some (.ref 40), some (.ref 1), some (.int f2), some (.int (l3 + (1 : Int32))), none]) ⟨rfl, rfl, rfl, rfl, trivial⟩ ?_
            refine x_heap (h2 := (hA g (up a 30 z42) b w (.ref 19) (.ref 1))) rfl ?_
            exact ih2 (l3 + (1 : Int32)) z42 h
        · have h := xif_t q h
          refine x_iconst (1 : Int32) dX3_passDay_30 (by decide) ?_
          refine x_goto 35 dX3_passDay_31 (by decide) ?_
          refine x_iload_n dX3_passDay_35 rfl ?_
          refine x_icmp_eq 45 dX3_passDay_36 (by decide) (fun q => ?_) (fun q => ?_)
          · have h := xif_t q h
            refine x_iinc (l3 + (1 : Int32)) (pl' := [some (.ref 40), some (.ref 1), some (.int f2), some (.int (l3 + (1 : Int32))), some (.int ((a 1) l3.toNatClampNeg))]) dX3_passDay_45 rfl rfl (by decide) rfl ?_
            refine x_goto 2 dX3_passDay_48 (by decide) ?_
            refine x_weak (pl2 := [some (.ref 40), some (.ref 1), some (.int f2), some (.int (l3 + (1 : Int32))), none]) ⟨rfl, rfl, rfl, rfl, trivial⟩ ?_
            refine x_heap (h2 := (hA g (up a 30 ma30) b w (.ref 19) (.ref 1))) rfl ?_
            exact ih2 (l3 + (1 : Int32)) ma30 h
          · have h := xif_f q h
            refine x_aload_n dX3_passDay_39 rfl ?_
            refine x_aload_n dX3_passDay_40 rfl ?_
            refine x_iload_n dX3_passDay_41 rfl ?_
            obtain ⟨z42, y42, h⟩ := xbind h
            refine x_callV (t_hA_X3_takeTitle ks g (up a 30 ma30) b w l3 z42 y42 (d + 0)) kX3_33 dX3_passDay_42 rfl rfl rfl rfl rfl (Nat.le_of_ble_eq_true rfl) (Nat.le_of_ble_eq_true rfl) rfl rfl (Or.inl rfl) ?_
            refine x_heap (h2 := (hA g (up a 30 z42) b w (.ref 19) (.ref 1))) rfl ?_
            refine x_iinc (l3 + (1 : Int32)) (pl' := [some (.ref 40), some (.ref 1), some (.int f2), some (.int (l3 + (1 : Int32))), some (.int ((a 1) l3.toNatClampNeg))]) dX3_passDay_45 rfl rfl (by decide) rfl ?_
            refine x_goto 2 dX3_passDay_48 (by decide) ?_
            refine x_weak (pl2 := [some (.ref 40), some (.ref 1), some (.int f2), some (.int (l3 + (1 : Int32))), none]) ⟨rfl, rfl, rfl, rfl, trivial⟩ ?_
            refine x_heap (h2 := (hA g (up a 30 z42) b w (.ref 19) (.ref 1))) rfl ?_
            exact ih2 (l3 + (1 : Int32)) z42 h
set_option maxRecDepth 100000 in
set_option maxHeartbeats 4000000 in
theorem lp_hA_X3_passDay_96 (ks : List xSK) (g : Nat → Int32) (a : Nat → Nat → Int32) (b : Nat → Nat → Int64) (w : Nat → Int64) (d n0 : Nat) (fa30 : (Nat → Int32)) (fg23 : Int32) (res : Int32 × (Nat → Int32) × (Nat → Int32)) (K : Int32 → (Nat → Int32) → Option (Int32 × (Nat → Int32) × (Nat → Int32))) (hK : ∀ (l3 : Int32) (ma29 : (Nat → Int32)), K l3 ma29 = some res → xW ks YX3_passDay (d + 2) 0 0 n0 none (hA (up g 23 res.1) (up (up a 29 res.2.1) 30 res.2.2) b w (.ref 19) (.ref 1)) 0 0 126 [none, none, none, none, none] [] (hA (up g 23 fg23) (up (up a 29 ma29) 30 fa30) b w (.ref 19) (.ref 1))) : ∀ (n : Nat) (l3 : Int32) (ma29 : (Nat → Int32)), L_hA_X3_passDay_96 (g 4) (g 23) (g 3) (a 0) (a 29) (a 2) (g 0) (a 1) (a 30) fa30 fg23 K n l3 ma29 = some res → xW ks YX3_passDay (d + 2) 0 0 n0 none (hA (up g 23 res.1) (up (up a 29 res.2.1) 30 res.2.2) b w (.ref 19) (.ref 1)) 0 0 96 [some (.ref 40), some (.ref 1), none, some (.int l3), none] [] (hA (up g 23 fg23) (up (up a 29 ma29) 30 fa30) b w (.ref 19) (.ref 1)) := by
  intro n
  induction n with
  | zero =>
    intro l3 ma29 h
    cases (show (none : Option (Int32 × (Nat → Int32) × (Nat → Int32))) = some res from h)
  | succ n96 ih96 =>
    intro l3 ma29 h
    unfold L_hA_X3_passDay_96 at h
    refine x_iload_n dX3_passDay_96 rfl ?_
    refine x_aload_n dX3_passDay_97 rfl ?_
    refine x_get fX3_55 dX3_passDay_98 rfl rfl rfl ?_
    refine x_icmp_ge 126 dX3_passDay_101 (by decide) (fun q => ?_) (fun q => ?_)
    · have h := xif_t q h
      refine x_weak (pl2 := [none, none, none, none, none]) trivial ?_
      refine x_heap (h2 := (hA (up g 23 fg23) (up (up a 29 ma29) 30 fa30) b w (.ref 19) (.ref 1))) rfl ?_
      exact hK l3 ma29 h
    · have h := xif_f q h
      refine x_aload_n dX3_passDay_104 rfl ?_
      refine x_get fX3_58 dX3_passDay_105 rfl rfl rfl ?_
      refine x_iload_n dX3_passDay_108 rfl ?_
      obtain ⟨q109, h⟩ := xix_of h
      refine x_iald dX3_passDay_109 rfl q109 ?_
      refine x_iconst (2 : Int32) dX3_passDay_110 (by decide) ?_
      refine x_icmp_ne 120 dX3_passDay_111 (by decide) (fun q => ?_) (fun q => ?_)
      · have h := xif_f q h
        refine x_iinc (l3 + (1 : Int32)) (pl' := [some (.ref 40), some (.ref 1), none, some (.int (l3 + (1 : Int32))), none]) dX3_passDay_120 rfl rfl (by decide) rfl ?_
        refine x_goto 96 dX3_passDay_123 (by decide) ?_
        refine x_weak (pl2 := [some (.ref 40), some (.ref 1), none, some (.int (l3 + (1 : Int32))), none]) ⟨rfl, rfl, rfl, trivial⟩ ?_
        refine x_heap (h2 := (hA (up g 23 fg23) (up (up a 29 ma29) 30 fa30) b w (.ref 19) (.ref 1))) rfl ?_
        exact ih96 (l3 + (1 : Int32)) ma29 h
      · have h := xif_t q h
        refine x_aload_n dX3_passDay_114 rfl ?_
        refine x_aload_n dX3_passDay_115 rfl ?_
        refine x_iload_n dX3_passDay_116 rfl ?_
        obtain ⟨z117, y117, h⟩ := xbind h
        refine x_callV (t_hA_X3_forgetOne ks (up g 23 fg23) (up (up a 29 ma29) 30 fa30) b w l3 z117 y117 (d + 0)) kX3_61 dX3_passDay_117 rfl rfl rfl rfl rfl (Nat.le_of_ble_eq_true rfl) (Nat.le_of_ble_eq_true rfl) rfl rfl (Or.inl rfl) ?_
        refine x_heap (h2 := (hA (up g 23 fg23) (up (up a 29 z117) 30 fa30) b w (.ref 19) (.ref 1))) rfl ?_
        refine x_iinc (l3 + (1 : Int32)) (pl' := [some (.ref 40), some (.ref 1), none, some (.int (l3 + (1 : Int32))), none]) dX3_passDay_120 rfl rfl (by decide) rfl ?_
        refine x_goto 96 dX3_passDay_123 (by decide) ?_
        refine x_weak (pl2 := [some (.ref 40), some (.ref 1), none, some (.int (l3 + (1 : Int32))), none]) ⟨rfl, rfl, rfl, trivial⟩ ?_
        refine x_heap (h2 := (hA (up g 23 fg23) (up (up a 29 z117) 30 fa30) b w (.ref 19) (.ref 1))) rfl ?_
        exact ih96 (l3 + (1 : Int32)) z117 h
set_option maxRecDepth 100000 in
set_option maxHeartbeats 4000000 in
theorem t_hA_X3_passDay (ks : List xSK) (g : Nat → Int32) (a : Nat → Nat → Int32) (b : Nat → Nat → Int64) (w : Nat → Int64) (x2 : Int32) (res : Int32 × (Nat → Int32) × (Nat → Int32)) (h : e_hA_X3_passDay (g 4) (g 23) (g 3) (a 0) (a 29) (a 2) (g 0) (a 1) (a 30) x2 = some res) (d : Nat) : xMet ks YX3_passDay (d + 2) 0 0 [.ref 40, .ref 1, .int x2] (hA g a b w (.ref 19) (.ref 1)) none (hA (up g 23 res.1) (up (up a 29 res.2.1) 30 res.2.2) b w (.ref 19) (.ref 1)) := by
  unfold e_hA_X3_passDay at h
  refine xMet_of (pl := [some (.ref 40), some (.ref 1), some (.int x2), none, none]) (by decide) (Nat.le_of_ble_eq_true rfl) rfl (Nat.le_of_ble_eq_true rfl) ?_
  refine x_iconst (0 : Int32) dX3_passDay_0 (by decide) ?_
  refine x_istore_n (pl' := [some (.ref 40), some (.ref 1), some (.int x2), some (.int (0 : Int32)), none]) dX3_passDay_1 (by decide) rfl ?_
  refine x_weak (pl2 := [some (.ref 40), some (.ref 1), some (.int x2), some (.int (0 : Int32)), none]) ⟨rfl, rfl, rfl, rfl, trivial⟩ ?_
  refine x_heap (h2 := (hA g a b w (.ref 19) (.ref 1))) rfl ?_
  refine lp_hA_X3_passDay_2 ks g a b w d _ x2 res _ (fun l3 ma30 h => ?_) 200000 (0 : Int32) (a 30) h
  refine x_aload_n dX3_passDay_51 rfl ?_
  refine x_iload_n dX3_passDay_52 rfl ?_
  refine x_if_eq 60 dX3_passDay_53 (by decide) (fun q => ?_) (fun q => ?_)
  · have h := xif_t q h
    refine x_aload_n dX3_passDay_60 rfl ?_
    refine x_get fX3_18 dX3_passDay_61 rfl rfl rfl ?_
    refine x_iconst (1 : Int32) dX3_passDay_64 (by decide) ?_
    refine x_iadd dX3_passDay_65 ?_
    refine x_bipush (30 : Int32) dX3_passDay_66 (by decide) ?_
    refine x_min dX3_passDay_68 kX3_43 kM_mins kM_i kM_minc (by omega) (Nat.le_of_ble_eq_true rfl) ?_
    refine x_put (h2 := (hA (up g 23 (if (30 : Int32) < ((g 23) + (1 : Int32)) then (30 : Int32) else ((g 23) + (1 : Int32)))) (up a 30 ma30) b w (.ref 19) (.ref 1))) fX3_18 dX3_passDay_71 rfl rfl (Nat.le_of_ble_eq_true rfl : 2 + 1 ≤ _) (fun α => ⟨rfl, rfl⟩) rfl ?_
    refine x_iload_n dX3_passDay_74 rfl ?_
    refine x_if_ne 94 dX3_passDay_75 (by decide) (fun q => ?_) (fun q => ?_)
    · have h := xif_f q h
      refine x_iconst (0 : Int32) dX3_passDay_94 (by decide) ?_
      refine x_istore_n (pl' := [some (.ref 40), some (.ref 1), some (.int x2), some (.int (0 : Int32)), none]) dX3_passDay_95 (by decide) rfl ?_
      refine x_weak (pl2 := [some (.ref 40), some (.ref 1), none, some (.int (0 : Int32)), none]) ⟨rfl, rfl, rfl, trivial⟩ ?_
      refine x_heap (h2 := (hA (up g 23 (if (30 : Int32) < ((g 23) + (1 : Int32)) then (30 : Int32) else ((g 23) + (1 : Int32)))) (up a 30 ma30) b w (.ref 19) (.ref 1))) rfl ?_
      refine lp_hA_X3_passDay_96 ks g a b w d _ ma30 (if (30 : Int32) < ((g 23) + (1 : Int32)) then (30 : Int32) else ((g 23) + (1 : Int32))) res _ (fun l3 ma29 h => ?_) 200000 (0 : Int32) (a 29) h
      cases h
      exact x_vret dX3_passDay_126 rfl rfl rfl
    · have h := xif_t q h
      refine x_aload_n dX3_passDay_78 rfl ?_
      refine x_get fX3_18 dX3_passDay_79 rfl rfl rfl ?_
      refine x_aload_n dX3_passDay_82 rfl ?_
      refine x_get fX3_49 dX3_passDay_83 rfl rfl rfl ?_
      refine x_icmp_lt 94 dX3_passDay_86 (by decide) (fun q => ?_) (fun q => ?_)
      · have h := xif_t q h
        refine x_iconst (0 : Int32) dX3_passDay_94 (by decide) ?_
        refine x_istore_n (pl' := [some (.ref 40), some (.ref 1), some (.int x2), some (.int (0 : Int32)), none]) dX3_passDay_95 (by decide) rfl ?_
        refine x_weak (pl2 := [some (.ref 40), some (.ref 1), none, some (.int (0 : Int32)), none]) ⟨rfl, rfl, rfl, trivial⟩ ?_
        refine x_heap (h2 := (hA (up g 23 (if (30 : Int32) < ((g 23) + (1 : Int32)) then (30 : Int32) else ((g 23) + (1 : Int32)))) (up a 30 ma30) b w (.ref 19) (.ref 1))) rfl ?_
        refine lp_hA_X3_passDay_96 ks g a b w d _ ma30 (if (30 : Int32) < ((g 23) + (1 : Int32)) then (30 : Int32) else ((g 23) + (1 : Int32))) res _ (fun l3 ma29 h => ?_) 200000 (0 : Int32) (a 29) h
        cases h
        exact x_vret dX3_passDay_126 rfl rfl rfl
      · have h := xif_f q h
        refine x_aload_n dX3_passDay_89 rfl ?_
        refine x_aload_n dX3_passDay_90 rfl ?_
        obtain ⟨z91, y91, h⟩ := xbind h
        refine x_callV (t_hA_X3_lapse ks (up g 23 (if (30 : Int32) < ((g 23) + (1 : Int32)) then (30 : Int32) else ((g 23) + (1 : Int32)))) (up a 30 ma30) b w  z91 y91 (d + 0)) kX3_52 dX3_passDay_91 rfl rfl rfl rfl rfl (Nat.le_of_ble_eq_true rfl) (Nat.le_of_ble_eq_true rfl) rfl rfl (Or.inl rfl) ?_
        refine x_heap (h2 := (hA (up g 23 (if (30 : Int32) < ((g 23) + (1 : Int32)) then (30 : Int32) else ((g 23) + (1 : Int32)))) (up a 30 z91) b w (.ref 19) (.ref 1))) rfl ?_
        refine x_iconst (0 : Int32) dX3_passDay_94 (by decide) ?_
        refine x_istore_n (pl' := [some (.ref 40), some (.ref 1), some (.int x2), some (.int (0 : Int32)), none]) dX3_passDay_95 (by decide) rfl ?_
        refine x_weak (pl2 := [some (.ref 40), some (.ref 1), none, some (.int (0 : Int32)), none]) ⟨rfl, rfl, rfl, trivial⟩ ?_
        refine x_heap (h2 := (hA (up g 23 (if (30 : Int32) < ((g 23) + (1 : Int32)) then (30 : Int32) else ((g 23) + (1 : Int32)))) (up a 30 z91) b w (.ref 19) (.ref 1))) rfl ?_
        refine lp_hA_X3_passDay_96 ks g a b w d _ z91 (if (30 : Int32) < ((g 23) + (1 : Int32)) then (30 : Int32) else ((g 23) + (1 : Int32))) res _ (fun l3 ma29 h => ?_) 200000 (0 : Int32) (a 29) h
        cases h
        exact x_vret dX3_passDay_126 rfl rfl rfl
  · have h := xif_f q h
    refine x_iconst (0 : Int32) dX3_passDay_56 (by decide) ?_
    refine x_goto 71 dX3_passDay_57 (by decide) ?_
    refine x_put (h2 := (hA (up g 23 (0 : Int32)) (up a 30 ma30) b w (.ref 19) (.ref 1))) fX3_18 dX3_passDay_71 rfl rfl (Nat.le_of_ble_eq_true rfl : 2 + 1 ≤ _) (fun α => ⟨rfl, rfl⟩) rfl ?_
    refine x_iload_n dX3_passDay_74 rfl ?_
    refine x_if_ne 94 dX3_passDay_75 (by decide) (fun q => ?_) (fun q => ?_)
    · have h := xif_f q h
      refine x_iconst (0 : Int32) dX3_passDay_94 (by decide) ?_
      refine x_istore_n (pl' := [some (.ref 40), some (.ref 1), some (.int x2), some (.int (0 : Int32)), none]) dX3_passDay_95 (by decide) rfl ?_
      refine x_weak (pl2 := [some (.ref 40), some (.ref 1), none, some (.int (0 : Int32)), none]) ⟨rfl, rfl, rfl, trivial⟩ ?_
      refine x_heap (h2 := (hA (up g 23 (0 : Int32)) (up a 30 ma30) b w (.ref 19) (.ref 1))) rfl ?_
      refine lp_hA_X3_passDay_96 ks g a b w d _ ma30 (0 : Int32) res _ (fun l3 ma29 h => ?_) 200000 (0 : Int32) (a 29) h
      cases h
      exact x_vret dX3_passDay_126 rfl rfl rfl
    · have h := xif_t q h
      refine x_aload_n dX3_passDay_78 rfl ?_
      refine x_get fX3_18 dX3_passDay_79 rfl rfl rfl ?_
      refine x_aload_n dX3_passDay_82 rfl ?_
      refine x_get fX3_49 dX3_passDay_83 rfl rfl rfl ?_
      refine x_icmp_lt 94 dX3_passDay_86 (by decide) (fun q => ?_) (fun q => ?_)
      · have h := xif_t q h
        refine x_iconst (0 : Int32) dX3_passDay_94 (by decide) ?_
        refine x_istore_n (pl' := [some (.ref 40), some (.ref 1), some (.int x2), some (.int (0 : Int32)), none]) dX3_passDay_95 (by decide) rfl ?_
        refine x_weak (pl2 := [some (.ref 40), some (.ref 1), none, some (.int (0 : Int32)), none]) ⟨rfl, rfl, rfl, trivial⟩ ?_
        refine x_heap (h2 := (hA (up g 23 (0 : Int32)) (up a 30 ma30) b w (.ref 19) (.ref 1))) rfl ?_
        refine lp_hA_X3_passDay_96 ks g a b w d _ ma30 (0 : Int32) res _ (fun l3 ma29 h => ?_) 200000 (0 : Int32) (a 29) h
        cases h
        exact x_vret dX3_passDay_126 rfl rfl rfl
      · have h := xif_f q h
        refine x_aload_n dX3_passDay_89 rfl ?_
        refine x_aload_n dX3_passDay_90 rfl ?_
        obtain ⟨z91, y91, h⟩ := xbind h
        refine x_callV (t_hA_X3_lapse ks (up g 23 (0 : Int32)) (up a 30 ma30) b w  z91 y91 (d + 0)) kX3_52 dX3_passDay_91 rfl rfl rfl rfl rfl (Nat.le_of_ble_eq_true rfl) (Nat.le_of_ble_eq_true rfl) rfl rfl (Or.inl rfl) ?_
        refine x_heap (h2 := (hA (up g 23 (0 : Int32)) (up a 30 z91) b w (.ref 19) (.ref 1))) rfl ?_
        refine x_iconst (0 : Int32) dX3_passDay_94 (by decide) ?_
        refine x_istore_n (pl' := [some (.ref 40), some (.ref 1), some (.int x2), some (.int (0 : Int32)), none]) dX3_passDay_95 (by decide) rfl ?_
        refine x_weak (pl2 := [some (.ref 40), some (.ref 1), none, some (.int (0 : Int32)), none]) ⟨rfl, rfl, rfl, trivial⟩ ?_
        refine x_heap (h2 := (hA (up g 23 (0 : Int32)) (up a 30 z91) b w (.ref 19) (.ref 1))) rfl ?_
        refine lp_hA_X3_passDay_96 ks g a b w d _ z91 (0 : Int32) res _ (fun l3 ma29 h => ?_) 200000 (0 : Int32) (a 29) h
        cases h
        exact x_vret dX3_passDay_126 rfl rfl rfl
def L_hA_X3_landsFor_5 (p0 : Int32) (p1 : (Nat → Int32)) (p2 : (Nat → Int32)) (f2 : Int32) (K : Int32 → Int32 → Option (Int32)) : Nat → Int32 → Int32 → Option (Int32)
  | 0, _, _ => none
  | n5 + 1, l3, l4 => if p0 ≤ l4 then K l3 l4 else (xix l4 5 (if (p1 l4.toNatClampNeg) = f2 then (xix l4 5 (L_hA_X3_landsFor_5 p0 p1 p2 f2 K n5 (l3 + (p2 l4.toNatClampNeg)) (l4 + (1 : Int32)))) else L_hA_X3_landsFor_5 p0 p1 p2 f2 K n5 (l3 + (0 : Int32)) (l4 + (1 : Int32))))
def e_hA_X3_landsFor (p0 : Int32) (p1 : (Nat → Int32)) (p2 : (Nat → Int32)) (x2 : Int32) : Option (Int32) :=
  L_hA_X3_landsFor_5 p0 p1 p2 x2 (fun l3 l4 => some l3) 200000 (0 : Int32) (0 : Int32)
set_option maxRecDepth 100000 in
set_option maxHeartbeats 4000000 in
theorem lp_hA_X3_landsFor_5 (ks : List xSK) (g : Nat → Int32) (a : Nat → Nat → Int32) (b : Nat → Nat → Int64) (w : Nat → Int64) (d n0 : Nat) (f2 : Int32) (res : Int32) (K : Int32 → Int32 → Option (Int32)) (hK : ∀ (l3 : Int32) (l4 : Int32), K l3 l4 = some res → xW ks YX3_landsFor (d + 1) 0 0 n0 (some (.int res)) (hA g a b w (.ref 19) (.ref 1)) 0 0 45 [none, none, none, some (.int l3), none] [] (hA g a b w (.ref 19) (.ref 1))) : ∀ (n : Nat) (l3 : Int32) (l4 : Int32), L_hA_X3_landsFor_5 (g 4) (a 30) (a 2) f2 K n l3 l4 = some res → xW ks YX3_landsFor (d + 1) 0 0 n0 (some (.int res)) (hA g a b w (.ref 19) (.ref 1)) 0 0 5 [some (.ref 40), some (.ref 1), some (.int f2), some (.int l3), some (.int l4)] [] (hA g a b w (.ref 19) (.ref 1)) := by
  intro n
  induction n with
  | zero =>
    intro l3 l4 h
    cases (show (none : Option (Int32)) = some res from h)
  | succ n5 ih5 =>
    intro l3 l4 h
    unfold L_hA_X3_landsFor_5 at h
    refine x_iload dX3_landsFor_5 rfl ?_
    refine x_aload_n dX3_landsFor_7 rfl ?_
    refine x_get fX3_22 dX3_landsFor_8 rfl rfl rfl ?_
    refine x_icmp_ge 45 dX3_landsFor_11 (by decide) (fun q => ?_) (fun q => ?_)
    · have h := xif_t q h
      refine x_weak (pl2 := [none, none, none, some (.int l3), none]) ⟨rfl, trivial⟩ ?_
      refine x_heap (h2 := (hA g a b w (.ref 19) (.ref 1))) rfl ?_
      exact hK l3 l4 h
    · have h := xif_f q h
      refine x_iload_n dX3_landsFor_14 rfl ?_
      refine x_aload_n dX3_landsFor_15 rfl ?_
      refine x_get fX3_15 dX3_landsFor_16 rfl rfl rfl ?_
      refine x_iload dX3_landsFor_19 rfl ?_
      obtain ⟨q21, h⟩ := xix_of h
      refine x_iald dX3_landsFor_21 rfl q21 ?_
      refine x_iload_n dX3_landsFor_22 rfl ?_
      refine x_icmp_ne 36 dX3_landsFor_23 (by decide) (fun q => ?_) (fun q => ?_)
      · have h := xif_f q h
        refine x_iconst (0 : Int32) dX3_landsFor_36 (by decide) ?_
        refine x_iadd dX3_landsFor_37 ?_
        refine x_istore_n (pl' := [some (.ref 40), some (.ref 1), some (.int f2), some (.int (l3 + (0 : Int32))), some (.int l4)]) dX3_landsFor_38 (by decide) rfl ?_
        refine x_iinc (l4 + (1 : Int32)) (pl' := [some (.ref 40), some (.ref 1), some (.int f2), some (.int (l3 + (0 : Int32))), some (.int (l4 + (1 : Int32)))]) dX3_landsFor_39 rfl rfl (by decide) rfl ?_
        refine x_goto 5 dX3_landsFor_42 (by decide) ?_
        refine x_weak (pl2 := [some (.ref 40), some (.ref 1), some (.int f2), some (.int (l3 + (0 : Int32))), some (.int (l4 + (1 : Int32)))]) ⟨rfl, rfl, rfl, rfl, rfl, trivial⟩ ?_
        refine x_heap (h2 := (hA g a b w (.ref 19) (.ref 1))) rfl ?_
        exact ih5 (l3 + (0 : Int32)) (l4 + (1 : Int32)) h
      · have h := xif_t q h
        refine x_aload_n dX3_landsFor_26 rfl ?_
        refine x_get fX3_64 dX3_landsFor_27 rfl rfl rfl ?_
        refine x_iload dX3_landsFor_30 rfl ?_
        obtain ⟨q32, h⟩ := xix_of h
        refine x_iald dX3_landsFor_32 rfl q32 ?_
        refine x_goto 37 dX3_landsFor_33 (by decide) ?_
        refine x_iadd dX3_landsFor_37 ?_
        refine x_istore_n (pl' := [some (.ref 40), some (.ref 1), some (.int f2), some (.int (l3 + ((a 2) l4.toNatClampNeg))), some (.int l4)]) dX3_landsFor_38 (by decide) rfl ?_
        refine x_iinc (l4 + (1 : Int32)) (pl' := [some (.ref 40), some (.ref 1), some (.int f2), some (.int (l3 + ((a 2) l4.toNatClampNeg))), some (.int (l4 + (1 : Int32)))]) dX3_landsFor_39 rfl rfl (by decide) rfl ?_
        refine x_goto 5 dX3_landsFor_42 (by decide) ?_
        refine x_weak (pl2 := [some (.ref 40), some (.ref 1), some (.int f2), some (.int (l3 + ((a 2) l4.toNatClampNeg))), some (.int (l4 + (1 : Int32)))]) ⟨rfl, rfl, rfl, rfl, rfl, trivial⟩ ?_
        refine x_heap (h2 := (hA g a b w (.ref 19) (.ref 1))) rfl ?_
        exact ih5 (l3 + ((a 2) l4.toNatClampNeg)) (l4 + (1 : Int32)) h
set_option maxRecDepth 100000 in
set_option maxHeartbeats 4000000 in
theorem t_hA_X3_landsFor (ks : List xSK) (g : Nat → Int32) (a : Nat → Nat → Int32) (b : Nat → Nat → Int64) (w : Nat → Int64) (x2 : Int32) (res : Int32) (h : e_hA_X3_landsFor (g 4) (a 30) (a 2) x2 = some res) (d : Nat) : xMet ks YX3_landsFor (d + 1) 0 0 [.ref 40, .ref 1, .int x2] (hA g a b w (.ref 19) (.ref 1)) (some (.int res)) (hA g a b w (.ref 19) (.ref 1)) := by
  unfold e_hA_X3_landsFor at h
  refine xMet_of (pl := [some (.ref 40), some (.ref 1), some (.int x2), none, none]) (by decide) (Nat.le_of_ble_eq_true rfl) rfl (Nat.le_of_ble_eq_true rfl) ?_
  refine x_iconst (0 : Int32) dX3_landsFor_0 (by decide) ?_
  refine x_istore_n (pl' := [some (.ref 40), some (.ref 1), some (.int x2), some (.int (0 : Int32)), none]) dX3_landsFor_1 (by decide) rfl ?_
  refine x_iconst (0 : Int32) dX3_landsFor_2 (by decide) ?_
  refine x_istore (pl' := [some (.ref 40), some (.ref 1), some (.int x2), some (.int (0 : Int32)), some (.int (0 : Int32))]) dX3_landsFor_3 (by decide) rfl ?_
  refine x_weak (pl2 := [some (.ref 40), some (.ref 1), some (.int x2), some (.int (0 : Int32)), some (.int (0 : Int32))]) ⟨rfl, rfl, rfl, rfl, rfl, trivial⟩ ?_
  refine x_heap (h2 := (hA g a b w (.ref 19) (.ref 1))) rfl ?_
  refine lp_hA_X3_landsFor_5 ks g a b w d _ x2 res _ (fun l3 l4 h => ?_) 200000 (0 : Int32) (0 : Int32) h
  refine x_iload_n dX3_landsFor_45 rfl ?_
  cases h
  exact x_iret dX3_landsFor_46 rfl rfl rfl
def e_hA_X7_landsIfLent (p0 : Int32) (p1 : Int32) (p2 : (Nat → Int32)) (p3 : (Nat → Int32)) (p4 : (Nat → Int32)) (p5 : (Nat → Int32)) (p6 : Int32) (p7 : Int32) (p8 : (Nat → Int32)) (p9 : (Nat → Int32)) (p10 : Int32) (p11 : (Nat → Int32)) (x1 : Int32) (x2 : Int32) : Option (Int32 × Int32 × (Nat → Int32) × (Nat → Int32)) :=
  ((e_hA_X3_copyFrom p0 p1 p2 p3 p4 p5).bind fun z8 => xix x1 5 ((e_hA_X3_passDay p6 z8.1 p7 p8 (upd z8.2.1 x1.toNatClampNeg x2) p9 p10 p11 z8.2.2 (1 : Int32)).bind fun z30 => (e_hA_X3_landsFor p6 z30.2.2 p9 x2).bind fun z42 => some (z42, z30.1, z30.2.1, z30.2.2)))
set_option maxRecDepth 100000 in
set_option maxHeartbeats 4000000 in
theorem t_hA_X7_landsIfLent (ks : List xSK) (g : Nat → Int32) (a : Nat → Nat → Int32) (b : Nat → Nat → Int64) (w : Nat → Int64) (x1 : Int32) (x2 : Int32) (res : Int32 × Int32 × (Nat → Int32) × (Nat → Int32)) (h : e_hA_X7_landsIfLent (g 22) (g 23) (a 27) (a 29) (a 28) (a 30) (g 4) (g 3) (a 0) (a 2) (g 0) (a 1) x1 x2 = some res) (d : Nat) : xMet ks YX7_landsIfLent (d + 3) 0 0 [.ref 0, .int x1, .int x2] (hA g a b w (.ref 19) (.ref 1)) (some (.int res.1)) (hA (up g 23 res.2.1) (up (up a 29 res.2.2.1) 30 res.2.2.2) b w (.ref 19) (.ref 1)) := by
  unfold e_hA_X7_landsIfLent at h
  refine xMet_of (pl := [some (.ref 0), some (.int x1), some (.int x2)]) (by decide) (Nat.le_of_ble_eq_true rfl) rfl (Nat.le_of_ble_eq_true rfl) ?_
  refine x_aload_n dX7_landsIfLent_0 rfl ?_
  refine x_get fX7_40 dX7_landsIfLent_1 rfl rfl rfl ?_
  refine x_aload_n dX7_landsIfLent_4 rfl ?_
  refine x_get fX7_36 dX7_landsIfLent_5 rfl rfl rfl ?_
  obtain ⟨z8, y8, h⟩ := xbind h
  refine x_callV (t_hA_X3_copyFrom ks g a b w  z8 y8 (d + 1)) kX7_196 dX7_landsIfLent_8 rfl rfl rfl rfl rfl (Nat.le_of_ble_eq_true rfl) (Nat.le_of_ble_eq_true rfl) rfl rfl (Or.inl rfl) ?_
  refine x_heap (h2 := (hA (up g 23 z8.1) (up (up a 29 z8.2.1) 30 z8.2.2) b w (.ref 19) (.ref 1))) rfl ?_
  refine x_aload_n dX7_landsIfLent_11 rfl ?_
  refine x_get fX7_40 dX7_landsIfLent_12 rfl rfl rfl ?_
  refine x_get fX7_126 dX7_landsIfLent_15 rfl rfl rfl ?_
  refine x_iload_n dX7_landsIfLent_18 rfl ?_
  refine x_iload_n dX7_landsIfLent_19 rfl ?_
  obtain ⟨q20, h⟩ := xix_of h
  refine x_iast (h2 := (hA (up g 23 z8.1) (up (up a 29 (upd z8.2.1 x1.toNatClampNeg x2)) 30 z8.2.2) b w (.ref 19) (.ref 1))) dX7_landsIfLent_20 rfl q20 rfl ?_
  refine x_aload_n dX7_landsIfLent_21 rfl ?_
  refine x_get fX7_40 dX7_landsIfLent_22 rfl rfl rfl ?_
  refine x_aload_n dX7_landsIfLent_25 rfl ?_
  refine x_get fX7_10 dX7_landsIfLent_26 rfl rfl rfl ?_
  refine x_iconst (1 : Int32) dX7_landsIfLent_29 (by decide) ?_
  obtain ⟨z30, y30, h⟩ := xbind h
  refine x_callV (t_hA_X3_passDay ks (up g 23 z8.1) (up (up a 29 (upd z8.2.1 x1.toNatClampNeg x2)) 30 z8.2.2) b w (1 : Int32) z30 y30 (d + 0)) kX7_200 dX7_landsIfLent_30 rfl rfl rfl rfl rfl (Nat.le_of_ble_eq_true rfl) (Nat.le_of_ble_eq_true rfl) rfl rfl (Or.inl rfl) ?_
  refine x_heap (h2 := (hA (up g 23 z30.1) (up (up a 29 z30.2.1) 30 z30.2.2) b w (.ref 19) (.ref 1))) rfl ?_
  refine x_aload_n dX7_landsIfLent_33 rfl ?_
  refine x_get fX7_40 dX7_landsIfLent_34 rfl rfl rfl ?_
  refine x_aload_n dX7_landsIfLent_37 rfl ?_
  refine x_get fX7_10 dX7_landsIfLent_38 rfl rfl rfl ?_
  refine x_iload_n dX7_landsIfLent_41 rfl ?_
  obtain ⟨z42, y42, h⟩ := xbind h
  refine x_callV (t_hA_X3_landsFor ks (up g 23 z30.1) (up (up a 29 z30.2.1) 30 z30.2.2) b w x2 z42 y42 (d + 1)) kX7_142 dX7_landsIfLent_42 rfl rfl rfl rfl rfl (Nat.le_of_ble_eq_true rfl) (Nat.le_of_ble_eq_true rfl) rfl rfl (Or.inl rfl) ?_
  cases h
  exact x_iret dX7_landsIfLent_45 rfl rfl rfl
