/-! THE PURE PART: a party -/
/-- p comes -/
def cm (x : Int32) (p : Nat) : Bool := decide (((x >>> (nn p &&& 31)) &&& (1 : Int32)) = (1 : Int32))
theorem shl_np : ∀ n : Fin 7, (1 : Int32) <<< (nn n.val &&& 31) = nn (2 ^ n.val) := by decide +kernel
theorem cnt_np : ∀ n : Fin 7, ∀ m : Fin 64, m.val < 2 ^ n.val → xbc (nn m.val) = nn (cI (cm (nn m.val)) n.val 0) := by decide +kernel
theorem out_np : ∀ n : Fin 7, ∀ m : Fin 64, m.val < 2 ^ n.val → ∀ j : Fin 6, n.val ≤ j.val → cm (nn m.val) j.val = false := by decide +kernel
theorem or_np : ∀ n : Fin 7, ∀ m : Fin 64, m.val < 2 ^ n.val → ∀ j : Fin 6, j.val < n.val → nn m.val ||| ((1 : Int32) <<< (nn j.val &&& 31)) = nn (m.val ||| 2 ^ j.val) ∧ (m.val ||| 2 ^ j.val) < 2 ^ n.val := by decide +kernel
theorem pow_np {np : Nat} (hp : np ≤ 6) : 2 ^ np ≤ 64 := Nat.pow_le_pow_right (n := 2) (by omega) hp
theorem party_cases {np : Nat} (hp : np ≤ 6) (x : Int32) : (e_hA_X7_arePeople (nn np) x = some 0 ∧ e_hB_X9_isParty (nn np) x = some 0) ∨ ∃ m, m < 2 ^ np ∧ x = nn m ∧ e_hA_X7_arePeople (nn np) x = some 1 ∧ e_hB_X9_isParty (nn np) x = some 1 := by
  have e : (1 : Int32) <<< (nn np &&& 31) = nn (2 ^ np) := shl_np ⟨np, by omega⟩
  have b1 : 2 ^ np ≤ 64 := pow_np hp
  have b2 : 1 ≤ 2 ^ np := Nat.one_le_two_pow
  have c : nn (2 ^ np) - (1 : Int32) = nn (2 ^ np - 1) := nn_sub (b := 1) b2
  unfold e_hA_X7_arePeople e_hB_X9_isParty e_hB_X9_in
  rw [e, c]
  by_cases q1 : x < 1
  · left
    rw [if_pos q1, if_pos q1]
    exact ⟨rfl, rfl⟩
  · rw [if_neg q1, if_neg q1]
    have g0 : 0 ≤ x := Int32.le_trans (by decide) (Int32.not_lt.mp q1)
    by_cases q2 : nn (2 ^ np) ≤ x
    · left
      have q3 : nn (2 ^ np - 1) < x := Int32.lt_of_lt_of_le (by rw [nn_lt (by omega) (by omega)]; omega) q2
      rw [if_pos q2, if_pos q3]
      exact ⟨rfl, rfl⟩
    · right
      obtain ⟨m, hm, rfl⟩ := nn_of g0 (Int32.not_le.mp q2) (by omega)
      have q3 : ¬ nn (2 ^ np - 1) < nn m := by rw [nn_lt (by omega) (by omega)]; omega
      rw [if_neg q2, if_neg q3]
      exact ⟨m, hm, rfl, rfl, rfl⟩
theorem bit_cm (x : Int32) (p : Nat) : e_hB_X9_bit x (nn p) = some (if cm x p = true then 1 else 0) := by
  unfold e_hB_X9_bit cm
  by_cases q : ((x >>> (nn p &&& 31)) &&& (1 : Int32)) = (1 : Int32)
  · rw [if_pos q, if_pos (by rw [decide_eq_true_eq]; exact q)]
  · rw [if_neg q, if_neg (by rw [decide_eq_true_eq]; exact q)]
theorem cm_t {x : Int32} {p : Nat} (h : cm x p = true) : ((x >>> (nn p &&& 31)) &&& (1 : Int32)) = (1 : Int32) := by
  unfold cm at h
  exact of_decide_eq_true h
theorem cm_f {x : Int32} {p : Nat} (h : ¬ cm x p = true) : ¬ ((x >>> (nn p &&& 31)) &&& (1 : Int32)) = (1 : Int32) := by
  unfold cm at h
  exact fun z => h (decide_eq_true z)
/-- room under u -/
def cap0 (x : Int32) (h r : pA) (u : Nat) : Nat := if h u < 0 then 0 else if ((x >>> (h u &&& 31)) &&& (1 : Int32)) = (1 : Int32) then (r u / (4 : Int32)).toNatClampNeg else 0
def dan (t l : pA) (p u : Nat) : Nat := if t u = nn p then 0 else (l u).toNatClampNeg
def rib (nu : Nat) (r : pA) : Prop := ∀ u, u < nu → ∃ k, 4 ≤ k ∧ k ≤ 12 ∧ r u = nn k
def lan (nu : Nat) (l : pA) : Prop := ∀ u, u < nu → ∃ k, k ≤ 99 ∧ l u = nn k
theorem rib4 {k : Nat} (h : k ≤ 12) : nn k / (4 : Int32) = nn (k / 4) := nn_div (b := 4) (by omega) (by omega)
theorem cap_le {nu : Nat} {x : Int32} {h r : pA} (hr : rib nu r) {u : Nat} (hu : u < nu) : cap0 x h r u ≤ 3 := by
  unfold cap0
  obtain ⟨k, k4, k12, e⟩ := hr u hu
  rw [e, rib4 k12, nn_nat (by omega)]
  split
  · omega
  · split <;> omega
theorem dan_le {nu : Nat} {t l : pA} (hl : lan nu l) {p u : Nat} (hu : u < nu) : dan t l p u ≤ 99 := by
  unfold dan
  obtain ⟨k, k9, e⟩ := hl u hu
  rw [e, nn_nat (by omega)]
  split <;> omega
theorem qc_dan {nu : Nat} (hn : nu ≤ 5) {t l : pA} (hl : lan nu l) {p u : Nat} (hu : u < nu) : e_hA_X6_dangerOf t l (nn p) (nn u) = some (nn (dan t l p u)) := by
  unfold e_hA_X6_dangerOf dan
  obtain ⟨k, k9, e⟩ := hl u hu
  rw [xix_nn (by omega) (by omega), xix_nn (by omega) (by omega), nn_nat (by omega), e, nn_nat (by omega)]
  by_cases q : t u = nn p
  · rw [if_pos q, if_pos q]; rfl
  · rw [if_neg q, if_neg q]
/-- all room -/
def sm (cap : Nat → Nat) : Nat → Nat → Nat
  | 0, _ => 0
  | m + 1, k => cap k + sm cap m (k + 1)
theorem ou_step {nu : Nat} (hn : nu ≤ 5) {x : Int32} {h r : pA} (hr : rib nu r) {K : Int32 → Int32 → pA → Option (Int32 × pA)} {F k s : Nat} {A : pA} (hk : k < nu) : L_hA_X6_openUmbrellas_6 (nn nu) h r x K (F + 1) (nn s) (nn k) A = L_hA_X6_openUmbrellas_6 (nn nu) h r x K F (nn (s + cap0 x h r k)) (nn (k + 1)) (upd A k (nn (cap0 x h r k))) := by
  have i1 : ¬ nn nu ≤ nn k := by rw [nn_le (by omega) (by omega)]; omega
  obtain ⟨w, k4, k12, e⟩ := hr k hk
  rw [L_hA_X6_openUmbrellas_6, if_neg i1, xix_nn (by omega) (by omega), nn_nat (by omega)]
  unfold cap0
  rw [e, rib4 k12, nn_nat (show w / 4 < 2147483648 by omega)]
  by_cases q1 : h k < 0
  · rw [if_pos q1, if_pos q1, xix_nn (by omega) (by omega), xix_nn (by omega) (by omega), upd_at, nn_succ, show nn s + (0 : Int32) = nn (s + 0) from nn_add s 0]
    rfl
  · rw [if_neg q1, if_neg q1]
    by_cases q2 : ((x >>> (h k &&& 31)) &&& (1 : Int32)) = (1 : Int32)
    · rw [if_pos q2, if_pos q2, xix_nn (by omega) (by omega), xix_nn (by omega) (by omega), xix_nn (by omega) (by omega), upd_at, nn_succ, nn_add]
    · rw [if_neg q2, if_neg q2, xix_nn (by omega) (by omega), xix_nn (by omega) (by omega), upd_at, nn_succ, show nn s + (0 : Int32) = nn (s + 0) from nn_add s 0]
      rfl
theorem pc_open {nu : Nat} (hn : nu ≤ 5) {x : Int32} {h r : pA} (hr : rib nu r) {K : Int32 → Int32 → pA → Option (Int32 × pA)} : ∀ (m k F s : Nat) (A : pA), k + m = nu → m < F → (∀ u, u < k → A u = nn (cap0 x h r u)) → ∃ A', L_hA_X6_openUmbrellas_6 (nn nu) h r x K F (nn s) (nn k) A = K (nn (s + sm (cap0 x h r) m k)) (nn nu) A' ∧ ∀ u, u < nu → A' u = nn (cap0 x h r u) := by
  intro m
  induction m with
  | zero =>
    intro k F s A e hF hA
    obtain ⟨F, rfl⟩ : ∃ f, F = f + 1 := ⟨F - 1, by omega⟩
    obtain rfl : k = nu := by omega
    refine ⟨A, ?_, hA⟩
    rw [L_hA_X6_openUmbrellas_6, if_pos (by rw [nn_le (by omega) (by omega)]; omega)]
    rfl
  | succ m ih =>
    intro k F s A e hF hA
    obtain ⟨F, rfl⟩ : ∃ f, F = f + 1 := ⟨F - 1, by omega⟩
    obtain ⟨A', e1, e2⟩ := ih (k + 1) F (s + cap0 x h r k) (upd A k (nn (cap0 x h r k))) (by omega) (by omega) (fun u hu => by
      by_cases z : u = k
      · subst z; rw [upd_at]
      · rw [upd_ne _ _ z]; exact hA u (by omega))
    refine ⟨A', ?_, e2⟩
    rw [ou_step hn hr (by omega), e1, sm, Nat.add_assoc]
theorem qc_open {nu : Nat} (hn : nu ≤ 5) {x : Int32} {h r : pA} (hr : rib nu r) (A : pA) : ∃ A', e_hA_X6_openUmbrellas (nn nu) h A r x = some (nn (sm (cap0 x h r) nu 0), A') ∧ ∀ u, u < nu → A' u = nn (cap0 x h r u) := by
  unfold e_hA_X6_openUmbrellas
  obtain ⟨A', e1, e2⟩ := pc_open hn (x := x) (h := h) hr (K := fun l4_6 l5_6 ma34_6 => some (l4_6, ma34_6)) nu 0 200000 0 A (by omega) (by omega) (fun u hu => absurd hu (by omega))
  rw [Nat.zero_add] at e1
  exact ⟨A', e1, e2⟩
/-- the same rooms -/
def same (np nu : Nat) (h t r l v R L : pA) : Prop := (∀ u, u < nu → wv np (h u)) ∧ (∀ u, u < nu → v u = h u) ∧ (∀ u, u < nu → v (5 + u) = t u) ∧ (∀ u, u < nu → r u = R u) ∧ ∀ u, u < nu → l u = L u
theorem qr_room {np nu : Nat} (hn : nu ≤ 5) (hp : np ≤ 6) {x : Int32} {h t r l v R L : pA} (S : same np nu h t r l v R L) (hr : rib nu r) {u : Nat} (hu : u < nu) : e_hB_X9_roomOf v R (nn u) x = some (nn (cap0 x h r u)) := by
  obtain ⟨s1, s2, s3, s4, s5⟩ := S
  obtain ⟨w, k4, k12, e⟩ := hr u hu
  unfold e_hB_X9_roomOf cap0
  rw [nn_0add, xix_nn (by omega) (by omega), nn_nat (by omega), s2 u hu, ← s4 u hu, e, rib4 k12, nn_nat (show w / 4 < 2147483648 by omega)]
  rcases s1 u hu with z | ⟨p, h1, z⟩
  · rw [z, if_pos rfl, if_pos (by decide)]; rfl
  · rw [z, if_neg (by rw [nn_ne2 (by omega)]; exact fun z => z), if_neg (by rw [nn_pos (by omega)]; exact fun z => z), xix_nn (by omega) (by omega), bit_cm, Option.bind_some]
    by_cases q : cm x p = true
    · rw [if_pos q, if_neg (by decide), if_pos (cm_t q), xix_nn (by omega) (by omega)]
    · rw [if_neg q, if_pos rfl, if_neg (cm_f q)]; rfl
theorem pr_room {np nu : Nat} (hn : nu ≤ 5) (hp : np ≤ 6) {x : Int32} {h t r l v R L : pA} (S : same np nu h t r l v R L) (hr : rib nu r) {p0 p1 p3 p4 : Int32} {K : Int32 → Int32 → Option (Int32 × Int32 × Int32 × Int32)} : ∀ (m k F s : Nat), k + m = nu → m < F → L_hB_X9_room_23 p0 p1 (nn nu) p3 p4 v R x K F (nn s) (nn k) = K (nn (s + sm (cap0 x h r) m k)) (nn nu) := by
  intro m
  induction m with
  | zero =>
    intro k F s e hF
    obtain ⟨F, rfl⟩ : ∃ f, F = f + 1 := ⟨F - 1, by omega⟩
    obtain rfl : k = nu := by omega
    rw [L_hB_X9_room_23, if_pos (by rw [nn_le (by omega) (by omega)]; omega)]
    rfl
  | succ m ih =>
    intro k F s e hF
    obtain ⟨F, rfl⟩ : ∃ f, F = f + 1 := ⟨F - 1, by omega⟩
    rw [L_hB_X9_room_23, if_neg (by rw [nn_le (by omega) (by omega)]; omega), qr_room hn hp S hr (by omega), Option.bind_some, nn_add, nn_succ, ih (k + 1) F _ (by omega) (by omega), sm, Nat.add_assoc]
section PARTY1
variable {np nu nl nc tp na nm : Nat} {la gu ra : Int32} {g7 g8 g9 g10 g11 g12 g13 g14 g15 g17 g18 g19 g20 g21 g22 g23 g24 g25 g26 g27 g28 g29 g30 g31 g32 g33 g34 : Int32} {a0 a1 a2 a3 a4 a5 a6 a7 a8 a9 a10 a11 a12 a13 a14 a15 a16 a17 a18 a19 a20 a21 a22 a23 a24 a25 a26 a27 a28 a29 a30 a31 a32 a33 a34 a35 a36 a37 a38 a39 : pA} {b0 b1 b2 b3 b4 : Nat → Int64} {w0 : Int64}
variable {G0 G2 G4 G5 G6 G7 G8 G10 G13 G14 G15 G16 G17 G18 G26 : Int32} {A0 A2 A3 A4 A5 A6 A7 A8 A9 A10 A11 A12 A13 A14 A15 A16 A17 A18 A19 A20 A21 A22 A23 : pA} {B0 : Nat → Int64} {W0 : Int64} {rb : Nat}
theorem IC.same_ (I : IC np nu nl nc tp na nm la gu ra g22 g25 g26 g33 g34 G2 a0 a1 a2 a3 a4 a5 a6 a7 a8 a10 a11 a12 a13 a27 a28 a31 b2 b3 b4 A0 A2 A3 A4 A10 A11 A12 A13 A14 A15 A16 A17 A18 A19 A20 A21) : same np nu a27 a28 a3 a2 (mkr a27 a28 g22) A13 A12 := by
  obtain ⟨⟨hp1, hp, hn1, hn, hl, hc⟩, ⟨hla, hgu, hra⟩, eS, eK, eL, eR, eW, bL, bR, wW, eG, oG, eC⟩ := I.1
  refine ⟨fun u hu => ?_, fun u hu => mkr_h (by omega), fun u hu => mkr_t (by omega), eR, eL⟩
  have := I.2.2.1.1 u (by omega)
  rwa [mkr_h (by omega)] at this
theorem C_room (I : IC np nu nl nc tp na nm la gu ra g22 g25 g26 g33 g34 G2 a0 a1 a2 a3 a4 a5 a6 a7 a8 a10 a11 a12 a13 a27 a28 a31 b2 b3 b4 A0 A2 A3 A4 A10 A11 A12 A13 A14 A15 A16 A17 A18 A19 A20 A21) (x1 : Int32) : ∃ (v : Int32) (a34' : (Nat → Int32)) (c : Int32), e_hA_X7_room (nn np) (nn nu) a27 a34 a3 g34 x1 = some (v, a34', c) ∧ e_hB_X9_room G0 (nn np) (nn nu) g34 G2 (mkr a27 a28 g22) A13 x1 = some (v, 0, c, (-1)) ∧ c ≠ 4 := by
  have S := I.same_
  obtain ⟨⟨hp1, hp, hn1, hn, hl, hc⟩, ⟨hla, hgu, hra⟩, eS, eK, eL, eR, eW, bL, bR, wW, eG, oG, eC⟩ := I.1
  rcases party_cases hp x1 with ⟨z1, z2⟩ | ⟨m, hm, rfl, z1, z2⟩
  · refine ⟨-1, a34, 1, ?_, ?_, by decide⟩
    · unfold e_hA_X7_room
      rw [z1, Option.bind_some, if_pos rfl]; rfl
    · unfold e_hB_X9_room
      rw [z2, Option.bind_some, if_pos rfl]; rfl
  · obtain ⟨A', e1, e2⟩ := qc_open hn (x := nn m) (h := a27) bR a34
    refine ⟨nn (sm (cap0 (nn m) a27 a3) nu 0), A', 0, ?_, ?_, by decide⟩
    · unfold e_hA_X7_room
      rw [z1, Option.bind_some, if_neg (by decide), e1]; rfl
    · unfold e_hB_X9_room
      rw [z2, Option.bind_some, if_neg (by decide)]
      refine (pr_room hn hp S bR nu 0 200000 0 (by omega) (by omega)).trans ?_
      rw [Nat.zero_add]; rfl
end PARTY1
