/-! THE PURE PART: the tokens of both readers -/
/-- a word, its last letter first, by a base -/
def enr (B : Nat) : List Nat → Nat
  | [] => 0
  | a :: r => enr B r * B + a
def okw (r : List Nat) : Prop := r.length ≤ 8 ∧ ∀ a, a ∈ r → 1 ≤ a ∧ a ≤ 26
theorem okw_tl {a : Nat} {r : List Nat} (h : okw (a :: r)) : okw r := ⟨by have := h.1; rw [List.length_cons] at this; omega, fun b hb => h.2 b (List.mem_cons_of_mem _ hb)⟩
theorem enr_inj {B : Nat} (hB : 27 ≤ B) : ∀ (r s : List Nat), (∀ a, a ∈ r → 1 ≤ a ∧ a ≤ 26) → (∀ a, a ∈ s → 1 ≤ a ∧ a ≤ 26) → enr B r = enr B s → r = s := by
  intro r
  induction r with
  | nil =>
    intro s _ hs e
    cases s with
    | nil => rfl
    | cons b s =>
      simp only [enr] at e
      have := hs b (List.mem_cons_self ..)
      have : 0 ≤ enr B s * B := Nat.zero_le _
      omega
  | cons a r ih =>
    intro s hr hs e
    cases s with
    | nil =>
      simp only [enr] at e
      have := hr a (List.mem_cons_self ..)
      have : 0 ≤ enr B r * B := Nat.zero_le _
      omega
    | cons b s =>
      simp only [enr] at e
      have ha := hr a (List.mem_cons_self ..)
      have hb := hs b (List.mem_cons_self ..)
      have e1 : (enr B r * B + a) % B = (enr B s * B + b) % B := by rw [e]
      rw [Nat.mul_comm (enr B r), Nat.mul_comm (enr B s), Nat.mul_add_mod, Nat.mul_add_mod, Nat.mod_eq_of_lt (by omega), Nat.mod_eq_of_lt (by omega)] at e1
      subst e1
      have e2 : enr B r * B = enr B s * B := by omega
      have e3 : enr B r = enr B s := Nat.eq_of_mul_eq_mul_right (by omega) e2
      rw [ih s (fun c hc => hr c (List.mem_cons_of_mem _ hc)) (fun c hc => hs c (List.mem_cons_of_mem _ hc)) e3]
theorem enr_lt {B : Nat} (hB : 27 ≤ B) : ∀ (r : List Nat), (∀ a, a ∈ r → 1 ≤ a ∧ a ≤ 26) → enr B r < B ^ r.length := by
  intro r
  induction r with
  | nil => intro _; exact Nat.one_pos
  | cons a r ih =>
    intro h
    have := ih (fun c hc => h c (List.mem_cons_of_mem _ hc))
    have ha := h a (List.mem_cons_self ..)
    simp only [enr, List.length_cons]
    rw [Nat.pow_succ]
    have h1 : (enr B r + 1) * B ≤ B ^ r.length * B := Nat.mul_le_mul_right _ this
    rw [Nat.succ_mul] at h1
    omega
theorem enr_small {B : Nat} (hB : 27 ≤ B) (hB2 : B ≤ 32) {r : List Nat} (h : okw r) : enr B r < 2 ^ 41 := by
  have h1 := enr_lt hB r h.2
  have h2 : B ^ r.length ≤ 32 ^ r.length := Nat.pow_le_pow_left hB2 _
  have h3 : 32 ^ r.length ≤ 32 ^ 8 := Nat.pow_le_pow_right (by omega) h.1
  have h4 : (32 : Nat) ^ 8 = 2 ^ 40 := by decide
  have h5 : (2 : Nat) ^ 40 < 2 ^ 41 := by decide
  omega
/-- other bytes -/
def oth (b : Int32) : Prop := e_hA_X5_tokenBegunBy b = some 4 ∧ ¬ b = 32 ∧ ¬ (b &&& 255) = 32 ∧ ¬ (b &&& 255) = -1 ∧ e_hP_X9_isLetter (b &&& 255) = some 0 ∧ e_hP_X9_isDigit (b &&& 255) = some 0 ∧ ¬ (b &&& 255) = 59
theorem byte_all : ∀ k : Fin 256, (∃ a : Fin 27, 1 ≤ a.val ∧ nn k.val - 128 = nn (96 + a.val)) ∨ (∃ d : Fin 10, nn k.val - 128 = nn (48 + d.val)) ∨ nn k.val - 128 = 59 ∨ nn k.val - 128 = 32 ∨ (e_hA_X5_tokenBegunBy (nn k.val - 128) = some 4 ∧ ¬ (nn k.val - 128) = 32 ∧ ¬ ((nn k.val - 128) &&& 255) = 32 ∧ ¬ ((nn k.val - 128) &&& 255) = -1 ∧ e_hP_X9_isLetter ((nn k.val - 128) &&& 255) = some 0 ∧ e_hP_X9_isDigit ((nn k.val - 128) &&& 255) = some 0 ∧ ¬ ((nn k.val - 128) &&& 255) = 59) := by decide +kernel
theorem byte_cases {b : Int32} (h : bt b) : (∃ a, 1 ≤ a ∧ a ≤ 26 ∧ b = nn (96 + a)) ∨ (∃ d, d ≤ 9 ∧ b = nn (48 + d)) ∨ b = 59 ∨ b = 32 ∨ oth b := by
  obtain ⟨h1, h2⟩ := h
  rw [Int32.le_iff_toInt_le] at h1 h2
  have c1 : (-128 : Int32).toInt = -128 := rfl
  have c2 : (127 : Int32).toInt = 127 := rfl
  have e : b = nn (b.toInt + 128).toNat - 128 := by
    apply Int32.toInt.inj
    rw [Int32.toInt_sub, nn_int (by omega), show (128 : Int32).toInt = 128 from rfl]
    rw [show (((b.toInt + 128).toNat : Nat) : Int) - 128 = b.toInt by omega]
    exact (Int.bmod_eq_of_le (by omega) (by omega)).symm
  have := byte_all ⟨(b.toInt + 128).toNat, by omega⟩
  rw [← show b = nn (⟨(b.toInt + 128).toNat, by omega⟩ : Fin 256).val - 128 from e] at this
  rcases this with ⟨a, ha, e⟩ | ⟨d, e⟩ | e | e | e
  · exact Or.inl ⟨a.val, ha, by omega, e⟩
  · exact Or.inr (Or.inl ⟨d.val, by omega, e⟩)
  · exact Or.inr (Or.inr (Or.inl e))
  · exact Or.inr (Or.inr (Or.inr (Or.inl e)))
  · exact Or.inr (Or.inr (Or.inr (Or.inr e)))
theorem let_all : ∀ a : Fin 27, 1 ≤ a.val → e_hA_X5_tokenBegunBy (nn (96 + a.val)) = some 1 ∧ ¬ nn (96 + a.val) = 32 ∧ nn (96 + a.val) &&& 255 = nn (96 + a.val) ∧ ¬ nn (96 + a.val) = -1 ∧ e_hP_X9_isLetter (nn (96 + a.val)) = some 1 ∧ (nn (96 + a.val) - 96).toInt64 = ll a.val ∧ ((nn (96 + a.val) - 97) + 1).toInt64 = ll a.val ∧ e_hP_X9_isDigit (nn (96 + a.val)) = some 0 := by decide +kernel
theorem dig_all : ∀ a : Fin 10, e_hA_X5_tokenBegunBy (nn (48 + a.val)) = some 2 ∧ ¬ nn (48 + a.val) = 32 ∧ nn (48 + a.val) &&& 255 = nn (48 + a.val) ∧ ¬ nn (48 + a.val) = -1 ∧ e_hP_X9_isLetter (nn (48 + a.val)) = some 0 ∧ e_hP_X9_isDigit (nn (48 + a.val)) = some 1 ∧ (nn (48 + a.val) - 48).toInt64 = ll a.val := by decide +kernel
/-- one tape under both -/
def tpe (n : Nat) (A B : pA) : Prop := n ≤ 1000 ∧ ∀ k, k < n → A k = B k ∧ bt (A k)
theorem by_at {n k : Nat} {A : pA} (hn : n ≤ 1000) (hk : k < n) : e_hP_X9_byteAt (nn n) A (nn k) = some (A k &&& 255) := by
  unfold e_hP_X9_byteAt
  rw [if_neg (by rw [nn_le (by omega) (by omega)]; omega), xix_nn (by omega) (by omega), nn_nat (by omega)]
theorem by_end {n : Nat} {A : pA} (hn : n ≤ 1000) : e_hP_X9_byteAt (nn n) A (nn n) = some (-1) := by
  unfold e_hP_X9_byteAt
  rw [if_pos (by rw [nn_le (by omega) (by omega)]; omega)]
/-- blanks -/
theorem q_blanks {n : Nat} {A B : pA} (T : tpe n A B) {p2 p4 : Int32} {p3 : Int64} {q0 q4 q5 : Int32} {q6 : Int64} {K : Int32 → Option (Int32 × Int64 × Int32 × Int32)} {K2 : Int32 → Option (Int32 × Int32 × Int32 × Int32 × Int64)} : ∀ (m k F : Nat), k + m = n → m < F → ∃ k', k ≤ k' ∧ k' ≤ n ∧ (k' < n → ¬ A k' = 32) ∧ L_hA_X5_readToken_0 (nn n) p2 p3 p4 A K F (nn k) = K (nn k') ∧ L_hP_X9_goesOn_9 q0 (nn n) B q4 q5 q6 K2 F (nn k) = K2 (nn k') := by
  obtain ⟨hn, hT⟩ := T
  intro m
  induction m with
  | zero =>
    intro k F e hF
    obtain ⟨F, rfl⟩ : ∃ f, F = f + 1 := ⟨F - 1, by omega⟩
    obtain rfl : k = n := by omega
    refine ⟨k, Nat.le_refl _, Nat.le_refl _, fun z => absurd z (by omega), ?_, ?_⟩
    · rw [L_hA_X5_readToken_0, if_pos (by rw [nn_le (by omega) (by omega)]; omega)]
    · rw [L_hP_X9_goesOn_9, by_end hn, Option.bind_some, if_neg (by decide)]
  | succ m ih =>
    intro k F e hF
    obtain ⟨F, rfl⟩ : ∃ f, F = f + 1 := ⟨F - 1, by omega⟩
    obtain ⟨ab, hb⟩ := hT k (by omega)
    have c1 : L_hA_X5_readToken_0 (nn n) p2 p3 p4 A K (F + 1) (nn k) = if A k = (32 : Int32) then L_hA_X5_readToken_0 (nn n) p2 p3 p4 A K F (nn (k + 1)) else K (nn k) := by
      rw [L_hA_X5_readToken_0, if_neg (by rw [nn_le (by omega) (by omega)]; omega), xix_nn (by omega) (by omega), nn_nat (by omega), nn_succ]
    have c2 : L_hP_X9_goesOn_9 q0 (nn n) B q4 q5 q6 K2 (F + 1) (nn k) = if (A k &&& 255) = (32 : Int32) then L_hP_X9_goesOn_9 q0 (nn n) B q4 q5 q6 K2 F (nn (k + 1)) else K2 (nn k) := by
      rw [L_hP_X9_goesOn_9, by_at hn (by omega), Option.bind_some, nn_succ, ← ab]
    rw [c1, c2]
    have st : ¬ A k = 32 → ¬ (A k &&& 255) = (32 : Int32) → ∃ k', k ≤ k' ∧ k' ≤ n ∧ (k' < n → ¬ A k' = 32) ∧ (if A k = (32 : Int32) then L_hA_X5_readToken_0 (nn n) p2 p3 p4 A K F (nn (k + 1)) else K (nn k)) = K (nn k') ∧ (if (A k &&& 255) = (32 : Int32) then L_hP_X9_goesOn_9 q0 (nn n) B q4 q5 q6 K2 F (nn (k + 1)) else K2 (nn k)) = K2 (nn k') := fun z1 z2 => ⟨k, Nat.le_refl _, by omega, fun _ => z1, if_neg z1, if_neg z2⟩
    rcases byte_cases hb with ⟨a, a1, a2, e1⟩ | ⟨d, d9, e1⟩ | e1 | e1 | e1
    · obtain ⟨l1, l2, l3, l4, l5, l6, l7, l8⟩ := let_all ⟨a, by omega⟩ a1
      exact st (by rw [e1]; exact l2) (by rw [e1]; exact fun z => l2 (l3 ▸ z))
    · obtain ⟨l1, l2, l3, l4, l5, l6, l7⟩ := dig_all ⟨d, by omega⟩
      exact st (by rw [e1]; exact l2) (by rw [e1]; exact fun z => l2 (l3 ▸ z))
    · exact st (by rw [e1]; decide) (by rw [e1]; decide)
    · rw [e1, if_pos rfl, if_pos (by decide)]
      obtain ⟨k', o1, o2, o3, o4, o5⟩ := ih (k + 1) F (by omega) (by omega)
      exact ⟨k', by omega, o2, o3, o4, o5⟩
    · exact st e1.2.1 e1.2.2.1
/-- letters that stand together -/
def wst (c : Nat) (v w : Int64) : Prop := c ≤ 8 → ∃ r, r.length = c ∧ (∀ a, a ∈ r → 1 ≤ a ∧ a ≤ 26) ∧ v = ll (enr 27 r) ∧ w = ll (enr 32 r)
theorem q_word {n : Nat} {A B : pA} (T : tpe n A B) {p2 : Int32} {q0 q4 q5 : Int32} {K : Int64 → Int32 → Option (Int32 × Int64 × Int32)} {K2 : Int32 → Int64 → Int32 → Option (Int32 × Int32 × Int32 × Int32 × Int64)} : ∀ (m k F c : Nat) (v w : Int64), k + m = n → m < F → c ≤ k → wst c v w → ∃ j v' w', k + j ≤ n ∧ wst (c + j) v' w' ∧ (0 < m → e_hA_X5_tokenBegunBy (A k) = some 1 → 0 < j) ∧ L_hA_X5_readRun_0 (nn n) p2 1 A 27 96 8 K F v (nn k) = K v' (nn (k + j)) ∧ L_hP_X9_goesOn_84 q0 (nn n) B q4 q5 K2 F (nn c) w (nn k) = K2 (nn (c + j)) w' (nn (k + j)) := by
  obtain ⟨hn, hT⟩ := T
  intro m
  induction m with
  | zero =>
    intro k F c v w e hF hc hw
    obtain ⟨F, rfl⟩ : ∃ f, F = f + 1 := ⟨F - 1, by omega⟩
    obtain rfl : k = n := by omega
    refine ⟨0, v, w, by omega, hw, fun z => absurd z (by omega), ?_, ?_⟩
    · rw [L_hA_X5_readRun_0, if_pos (by rw [nn_le (by omega) (by omega)]; omega)]
      rfl
    · rw [L_hP_X9_goesOn_84, by_end hn, Option.bind_some, show e_hP_X9_isLetter (-1) = some 0 from rfl, Option.bind_some, if_pos rfl]
      rfl
  | succ m ih =>
    intro k F c v w e hF hc hw
    obtain ⟨F, rfl⟩ : ∃ f, F = f + 1 := ⟨F - 1, by omega⟩
    obtain ⟨ab, hb⟩ := hT k (by omega)
    have c1 : ∀ t, e_hA_X5_tokenBegunBy (A k) = some t → L_hA_X5_readRun_0 (nn n) p2 1 A 27 96 8 K (F + 1) v (nn k) = if t = 1 then L_hA_X5_readRun_0 (nn n) p2 1 A 27 96 8 K F (v * (27 : Int32).toInt64 + (A k - 96).toInt64) (nn (k + 1)) else K v (nn k) := by
      intro t ht
      rw [L_hA_X5_readRun_0, if_neg (by rw [nn_le (by omega) (by omega)]; omega), xix_nn (by omega) (by omega), nn_nat (by omega), ht, Option.bind_some, xix_nn (by omega) (by omega), nn_succ]
    have c2 : ∀ t, e_hP_X9_isLetter (A k &&& 255) = some t → L_hP_X9_goesOn_84 q0 (nn n) B q4 q5 K2 (F + 1) (nn c) w (nn k) = if t = 0 then K2 (nn c) w (nn k) else if (8 : Int32) ≤ nn c then L_hP_X9_goesOn_84 q0 (nn n) B q4 q5 K2 F (nn (c + 1)) w (nn (k + 1)) else L_hP_X9_goesOn_84 q0 (nn n) B q4 q5 K2 F (nn (c + 1)) ((32 : Int64) * w + (((A k &&& 255) - 97) + 1).toInt64) (nn (k + 1)) := by
      intro t ht
      rw [L_hP_X9_goesOn_84, by_at hn (by omega), Option.bind_some, ← ab, ht, Option.bind_some, nn_succ c, nn_succ k, Option.bind_some]
    have st : ∀ t, e_hA_X5_tokenBegunBy (A k) = some t → ¬ t = 1 → e_hP_X9_isLetter (A k &&& 255) = some 0 → ∃ j v' w', k + j ≤ n ∧ wst (c + j) v' w' ∧ (0 < m + 1 → e_hA_X5_tokenBegunBy (A k) = some 1 → 0 < j) ∧ L_hA_X5_readRun_0 (nn n) p2 1 A 27 96 8 K (F + 1) v (nn k) = K v' (nn (k + j)) ∧ L_hP_X9_goesOn_84 q0 (nn n) B q4 q5 K2 (F + 1) (nn c) w (nn k) = K2 (nn (c + j)) w' (nn (k + j)) := fun t h1 h2 h3 => ⟨0, v, w, by omega, hw, fun _ z => absurd (Option.some.inj (h1.symm.trans z)) h2, by rw [c1 t h1, if_neg h2]; rfl, by rw [c2 0 h3, if_pos rfl]; rfl⟩
    rcases byte_cases hb with ⟨a, a1, a2, e1⟩ | ⟨d, d9, e1⟩ | e1 | e1 | e1
    · obtain ⟨l1, l2, l3, l4, l5, l6, l7, l8⟩ := let_all ⟨a, by omega⟩ a1
      have g1 : e_hA_X5_tokenBegunBy (A k) = some 1 := by rw [e1]; exact l1
      have g2 : A k &&& 255 = nn (96 + a) := by rw [e1]; exact l3
      have g3 : e_hP_X9_isLetter (A k &&& 255) = some 1 := by rw [g2]; exact l5
      rw [c1 1 g1, c2 1 g3, if_pos rfl, if_neg (show ¬ (1 : Int32) = 0 from by decide), g2, e1]
      have g4 : (nn (96 + a) - 96).toInt64 = ll a := l6
      have g5 : ((nn (96 + a) - 97) + 1).toInt64 = ll a := l7
      rw [g4, g5]
      have fin : ∀ w2, wst (c + 1) (v * (27 : Int32).toInt64 + ll a) w2 → ∃ j v' w', k + j ≤ n ∧ wst (c + j) v' w' ∧ (0 < m + 1 → e_hA_X5_tokenBegunBy (nn (96 + a)) = some 1 → 0 < j) ∧ L_hA_X5_readRun_0 (nn n) p2 1 A 27 96 8 K F (v * (27 : Int32).toInt64 + ll a) (nn (k + 1)) = K v' (nn (k + j)) ∧ L_hP_X9_goesOn_84 q0 (nn n) B q4 q5 K2 F (nn (c + 1)) w2 (nn (k + 1)) = K2 (nn (c + j)) w' (nn (k + j)) := by
        intro w2 hw2
        obtain ⟨j, v', w', o1, o2, _, o4, o5⟩ := ih (k + 1) F (c + 1) _ w2 (by omega) (by omega) (by omega) hw2
        refine ⟨j + 1, v', w', by omega, ?_, fun _ _ => by omega, ?_, ?_⟩
        · rw [show c + (j + 1) = c + 1 + j by omega]; exact o2
        · rw [o4, show k + 1 + j = k + (j + 1) by omega]
        · rw [o5, show k + 1 + j = k + (j + 1) by omega, show c + 1 + j = c + (j + 1) by omega]
      by_cases y : 8 ≤ c
      · rw [if_pos (show (8 : Int32) ≤ nn c from by rw [show (8 : Int32) = nn 8 from rfl, nn_le (by omega) (by omega)]; exact y)]
        exact fin _ (fun z => absurd z (by omega))
      · rw [if_neg (show ¬ (8 : Int32) ≤ nn c from by rw [show (8 : Int32) = nn 8 from rfl, nn_le (by omega) (by omega)]; exact y)]
        refine fin _ (fun _ => ?_)
        obtain ⟨r, r1, r2, r3, r4⟩ := hw (by omega)
        refine ⟨a :: r, by rw [List.length_cons, r1], fun b hb => ?_, ?_, ?_⟩
        · rcases List.mem_cons.mp hb with rfl | hb
          · exact ⟨a1, a2⟩
          · exact r2 b hb
        · rw [r3, show (27 : Int32).toInt64 = ll 27 from rfl, ll_mul, ll_add]; rfl
        · rw [r4, show (32 : Int64) = ll 32 from rfl, ll_mul, ll_add, Nat.mul_comm]; rfl
    · obtain ⟨l1, l2, l3, l4, l5, l6, l7⟩ := dig_all ⟨d, by omega⟩
      exact st 2 (by rw [e1]; exact l1) (by decide) (by rw [e1]; exact (congrArg _ l3).trans l5)
    · exact st 3 (by rw [e1]; rfl) (by decide) (by rw [e1]; rfl)
    · exact st 4 (by rw [e1]; rfl) (by decide) (by rw [e1]; rfl)
    · exact st 4 e1.1 (by decide) e1.2.2.2.2.1
/-- digits that stand together -/
def dst (c : Nat) (v : Int64) (x : Int32) : Prop := c ≤ 2 → ∃ d, d < 10 ^ c ∧ v = ll d ∧ x = nn d
theorem q_whole {n : Nat} {A B : pA} (T : tpe n A B) {p2 : Int32} {q0 q4 : Int32} {q6 : Int64} {K : Int64 → Int32 → Option (Int32 × Int64 × Int32)} {K2 : Int32 → Int32 → Int32 → Option (Int32 × Int32 × Int32 × Int32 × Int64)} : ∀ (m k F c : Nat) (v : Int64) (w : Int32), k + m = n → m < F → c ≤ k → dst c v w → ∃ j v' w', k + j ≤ n ∧ dst (c + j) v' w' ∧ (0 < m → e_hA_X5_tokenBegunBy (A k) = some 2 → 0 < j) ∧ L_hA_X5_readRun_0 (nn n) p2 2 A 10 48 2 K F v (nn k) = K v' (nn (k + j)) ∧ L_hP_X9_goesOn_173 q0 (nn n) B q4 q6 K2 F (nn c) w (nn k) = K2 (nn (c + j)) w' (nn (k + j)) := by
  obtain ⟨hn, hT⟩ := T
  intro m
  induction m with
  | zero =>
    intro k F c v w e hF hc hw
    obtain ⟨F, rfl⟩ : ∃ f, F = f + 1 := ⟨F - 1, by omega⟩
    obtain rfl : k = n := by omega
    refine ⟨0, v, w, by omega, hw, fun z => absurd z (by omega), ?_, ?_⟩
    · rw [L_hA_X5_readRun_0, if_pos (by rw [nn_le (by omega) (by omega)]; omega)]
      rfl
    · rw [L_hP_X9_goesOn_173, by_end hn, Option.bind_some, show e_hP_X9_isDigit (-1) = some 0 from rfl, Option.bind_some, if_pos rfl]
      rfl
  | succ m ih =>
    intro k F c v w e hF hc hw
    obtain ⟨F, rfl⟩ : ∃ f, F = f + 1 := ⟨F - 1, by omega⟩
    obtain ⟨ab, hb⟩ := hT k (by omega)
    have c1 : ∀ t, e_hA_X5_tokenBegunBy (A k) = some t → L_hA_X5_readRun_0 (nn n) p2 2 A 10 48 2 K (F + 1) v (nn k) = if t = 2 then L_hA_X5_readRun_0 (nn n) p2 2 A 10 48 2 K F (v * (10 : Int32).toInt64 + (A k - 48).toInt64) (nn (k + 1)) else K v (nn k) := by
      intro t ht
      rw [L_hA_X5_readRun_0, if_neg (by rw [nn_le (by omega) (by omega)]; omega), xix_nn (by omega) (by omega), nn_nat (by omega), ht, Option.bind_some, xix_nn (by omega) (by omega), nn_succ]
    have c2 : ∀ t, e_hP_X9_isDigit (A k &&& 255) = some t → L_hP_X9_goesOn_173 q0 (nn n) B q4 q6 K2 (F + 1) (nn c) w (nn k) = if t = 0 then K2 (nn c) w (nn k) else if (2 : Int32) ≤ nn c then L_hP_X9_goesOn_173 q0 (nn n) B q4 q6 K2 F (nn (c + 1)) w (nn (k + 1)) else L_hP_X9_goesOn_173 q0 (nn n) B q4 q6 K2 F (nn (c + 1)) (((10 : Int32) * w + (A k &&& 255)) - 48) (nn (k + 1)) := by
      intro t ht
      rw [L_hP_X9_goesOn_173, by_at hn (by omega), Option.bind_some, ← ab, ht, Option.bind_some, nn_succ c, nn_succ k, Option.bind_some]
    have st : ∀ t, e_hA_X5_tokenBegunBy (A k) = some t → ¬ t = 2 → e_hP_X9_isDigit (A k &&& 255) = some 0 → ∃ j v' w', k + j ≤ n ∧ dst (c + j) v' w' ∧ (0 < m + 1 → e_hA_X5_tokenBegunBy (A k) = some 2 → 0 < j) ∧ L_hA_X5_readRun_0 (nn n) p2 2 A 10 48 2 K (F + 1) v (nn k) = K v' (nn (k + j)) ∧ L_hP_X9_goesOn_173 q0 (nn n) B q4 q6 K2 (F + 1) (nn c) w (nn k) = K2 (nn (c + j)) w' (nn (k + j)) := fun t h1 h2 h3 => ⟨0, v, w, by omega, hw, fun _ z => absurd (Option.some.inj (h1.symm.trans z)) h2, by rw [c1 t h1, if_neg h2]; rfl, by rw [c2 0 h3, if_pos rfl]; rfl⟩
    rcases byte_cases hb with ⟨a, a1, a2, e1⟩ | ⟨d, d9, e1⟩ | e1 | e1 | e1
    · obtain ⟨l1, l2, l3, l4, l5, l6, l7, l8⟩ := let_all ⟨a, by omega⟩ a1
      exact st 1 (by rw [e1]; exact l1) (by decide) (by rw [e1]; exact (congrArg _ l3).trans l8)
    · obtain ⟨l1, l2, l3, l4, l5, l6, l7⟩ := dig_all ⟨d, by omega⟩
      have g1 : e_hA_X5_tokenBegunBy (A k) = some 2 := by rw [e1]; exact l1
      have g2 : A k &&& 255 = nn (48 + d) := by rw [e1]; exact l3
      have g3 : e_hP_X9_isDigit (A k &&& 255) = some 1 := by rw [g2]; exact l6
      rw [c1 2 g1, c2 1 g3, if_pos rfl, if_neg (show ¬ (1 : Int32) = 0 from by decide), g2, e1]
      have g4 : (nn (48 + d) - 48).toInt64 = ll d := l7
      rw [g4]
      have fin : ∀ w2, dst (c + 1) (v * (10 : Int32).toInt64 + ll d) w2 → ∃ j v' w', k + j ≤ n ∧ dst (c + j) v' w' ∧ (0 < m + 1 → e_hA_X5_tokenBegunBy (nn (48 + d)) = some 2 → 0 < j) ∧ L_hA_X5_readRun_0 (nn n) p2 2 A 10 48 2 K F (v * (10 : Int32).toInt64 + ll d) (nn (k + 1)) = K v' (nn (k + j)) ∧ L_hP_X9_goesOn_173 q0 (nn n) B q4 q6 K2 F (nn (c + 1)) w2 (nn (k + 1)) = K2 (nn (c + j)) w' (nn (k + j)) := by
        intro w2 hw2
        obtain ⟨j, v', w', o1, o2, _, o4, o5⟩ := ih (k + 1) F (c + 1) _ w2 (by omega) (by omega) (by omega) hw2
        refine ⟨j + 1, v', w', by omega, ?_, fun _ _ => by omega, ?_, ?_⟩
        · rw [show c + (j + 1) = c + 1 + j by omega]; exact o2
        · rw [o4, show k + 1 + j = k + (j + 1) by omega]
        · rw [o5, show k + 1 + j = k + (j + 1) by omega, show c + 1 + j = c + (j + 1) by omega]
      by_cases y : 2 ≤ c
      · rw [if_pos (show (2 : Int32) ≤ nn c from by rw [show (2 : Int32) = nn 2 from rfl, nn_le (by omega) (by omega)]; exact y)]
        exact fin _ (fun z => absurd z (by omega))
      · rw [if_neg (show ¬ (2 : Int32) ≤ nn c from by rw [show (2 : Int32) = nn 2 from rfl, nn_le (by omega) (by omega)]; exact y)]
        refine fin _ (fun _ => ?_)
        obtain ⟨x, r1, r3, r4⟩ := hw (by omega)
        refine ⟨x * 10 + d, by rw [Nat.pow_succ]; omega, ?_, ?_⟩
        · rw [r3, show (10 : Int32).toInt64 = ll 10 from rfl, ll_mul, ll_add]
        · rw [r4, show (10 : Int32) = nn 10 from rfl, nn_mul, nn_add, show (48 : Int32) = nn 48 from rfl, nn_sub (by omega)]
          congr 1
          omega
    · exact st 3 (by rw [e1]; rfl) (by decide) (by rw [e1]; rfl)
    · exact st 4 (by rw [e1]; rfl) (by decide) (by rw [e1]; rfl)
    · exact st 4 e1.1 (by decide) e1.2.2.2.2.2.1
/-- the token that both look at -/
def TokR (token : Int32) (value : Int64) (sort : Int32) (word : Int64) (number : Int32) : Prop :=
  (token = 0 ∧ sort = 1) ∨ (token = 1 ∧ sort = 2 ∧ ∃ r, okw r ∧ value = ll (enr 27 r) ∧ word = ll (enr 32 r)) ∨ (token = 2 ∧ sort = 3 ∧ ∃ d, d ≤ 99 ∧ value = ll d ∧ number = nn d) ∨ (token = 3 ∧ sort = 4) ∨ (token = 4 ∧ sort = 0)
theorem q_token {n k : Nat} {A B : pA} (T : tpe n A B) (hk : k ≤ n) {p2 p4 : Int32} {p3 : Int64} {q0 q4 q5 : Int32} {q6 : Int64} (h5 : ¬ q0 = 5) : ∃ (s k' : Nat) (tok srt num : Int32) (val wrd : Int64), k ≤ s ∧ s ≤ k' ∧ k' ≤ n ∧ (tok = 3 → s < k') ∧ TokR tok val srt wrd num ∧ e_hA_X5_readToken (nn k) (nn n) p2 p3 p4 A = some (nn s, val, tok, nn k') ∧ e_hP_X9_goesOn q0 (nn k) (nn n) B q4 q5 q6 = some (nn s, srt, nn k', num, wrd) := by
  have hn := T.1
  unfold e_hA_X5_readToken e_hP_X9_goesOn
  rw [if_neg h5]
  obtain ⟨s, s1, s2, s3, e1, e2⟩ := q_blanks T (p2 := p2) (p4 := p4) (p3 := p3) (q0 := q0) (q4 := q4) (q5 := q5) (q6 := q6) (K := fun mg18_0 => J_hA_X5_readToken_38 mg18_0 (nn n) p2 p3 p4 A) (K2 := (fun mg5_9 => ((e_hP_X9_byteAt (nn n) B mg5_9).bind fun z53 => if z53 = (-1 : Int32) then some (mg5_9, (1 : Int32), mg5_9, q5, q6) else ((e_hP_X9_isLetter z53).bind fun z73 => if z73 = (0 : Int32) then ((e_hP_X9_isDigit z53).bind fun z162 => if z162 = (0 : Int32) then if z53 = (59 : Int32) then some (mg5_9, (4 : Int32), (mg5_9 + (1 : Int32)), q5, q6) else some (mg5_9, (0 : Int32), mg5_9, q5, q6) else L_hP_X9_goesOn_173 (0 : Int32) (nn n) B mg5_9 q6 (fun l2_173 mg8_173 mg5_173 => if (2 : Int32) < l2_173 then some (mg5_9, (0 : Int32), mg5_173, mg8_173, q6) else some (mg5_9, (3 : Int32), mg5_173, mg8_173, q6)) 200000 (0 : Int32) (0 : Int32) mg5_9) else L_hP_X9_goesOn_84 (0 : Int32) (nn n) B mg5_9 q5 (fun l2_84 mw0_84 mg5_84 => if (8 : Int32) < l2_84 then some (mg5_9, (0 : Int32), mg5_84, q5, mw0_84) else some (mg5_9, (2 : Int32), mg5_84, q5, mw0_84)) 200000 (0 : Int32) (0 : Int64) mg5_9)))) (n - k) k 200000 (by omega) (by omega)
  rw [e1, e2]
  unfold J_hA_X5_readToken_38
  by_cases z : s = n
  · subst z
    refine ⟨s, s, 0, 1, q5, 0, q6, s1, Nat.le_refl _, s2, fun y => absurd y (by decide), Or.inl ⟨rfl, rfl⟩, ?_, ?_⟩
    · rw [if_pos (by rw [nn_le (by omega) (by omega)]; omega)]
      rfl
    · rw [by_end hn, Option.bind_some, if_pos rfl]
  · have hs : s < n := by omega
    obtain ⟨ab, hb⟩ := T.2 s hs
    rw [if_neg (show ¬ nn n ≤ nn s from by rw [nn_le (by omega) (by omega)]; omega), xix_nn (by omega) (by omega), nn_nat (by omega), by_at hn hs, Option.bind_some, ← ab]
    rcases byte_cases hb with ⟨a, a1, a2, g⟩ | ⟨d, d9, g⟩ | g | g | g
    · obtain ⟨l1, l2, l3, l4, l5, l6, l7, l8⟩ := let_all ⟨a, by omega⟩ a1
      have g1 : e_hA_X5_tokenBegunBy (A s) = some 1 := by rw [g]; exact l1
      have g2 : A s &&& 255 = nn (96 + a) := by rw [g]; exact l3
      have g3 : e_hP_X9_isLetter (nn (96 + a)) = some 1 := l5
      rw [g1, Option.bind_some, g2, if_neg (show ¬ nn (96 + a) = -1 from l4), g3, Option.bind_some, if_neg (show ¬ (1 : Int32) = 0 from by decide)]
      unfold J_hA_X5_readToken_79 e_hA_X5_readRun
      rw [if_neg (show ¬ (1 : Int32) = 3 from by decide), if_pos (show (1 : Int32) = 1 from rfl)]
      obtain ⟨j, v', w', o1, o2, o3, o4, o5⟩ := q_word T (p2 := nn s) (q0 := 0) (q4 := nn s) (q5 := q5) (K := fun mw0_0 mg18_0 => if (8 : Int32) < (mg18_0 - nn s) then some ((4 : Int32), mw0_0, mg18_0) else some ((1 : Int32), mw0_0, mg18_0)) (K2 := fun l2_84 mw0_84 mg5_84 => if (8 : Int32) < l2_84 then some (nn s, (0 : Int32), mg5_84, q5, mw0_84) else some (nn s, (2 : Int32), mg5_84, q5, mw0_84)) (n - s) s 200000 0 0 0 (by omega) (by omega) (by omega) (fun _ => ⟨[], rfl, fun b hb => absurd hb (List.not_mem_nil), rfl, rfl⟩)
      have o5' := o5
      rw [o4]
      rw [show L_hP_X9_goesOn_84 (0 : Int32) (nn n) B (nn s) q5 (fun l2_84 mw0_84 mg5_84 => if (8 : Int32) < l2_84 then some (nn s, (0 : Int32), mg5_84, q5, mw0_84) else some (nn s, (2 : Int32), mg5_84, q5, mw0_84)) 200000 (0 : Int32) (0 : Int64) (nn s) = _ from o5]
      simp only [Nat.zero_add]
      rw [nn_sub (show s ≤ s + j by omega), show s + j - s = j by omega]
      rw [Nat.zero_add] at o2
      by_cases y : 8 < j
      · have y1 : (8 : Int32) < nn j := by rw [show (8 : Int32) = nn 8 from rfl, nn_lt (by omega) (by omega)]; exact y
        rw [if_pos y1, if_pos y1]
        exact ⟨s, s + j, 4, 0, q5, v', w', s1, by omega, o1, fun y => absurd y (by decide), Or.inr (Or.inr (Or.inr (Or.inr ⟨rfl, rfl⟩))), rfl, rfl⟩
      · have y1 : ¬ (8 : Int32) < nn j := by rw [show (8 : Int32) = nn 8 from rfl, nn_lt (by omega) (by omega)]; exact y
        rw [if_neg y1, if_neg y1]
        obtain ⟨r, r1, r2, r3, r4⟩ := o2 (by omega)
        exact ⟨s, s + j, 1, 2, q5, v', w', s1, by omega, o1, fun y => absurd y (by decide), Or.inr (Or.inl ⟨rfl, rfl, r, ⟨by omega, r2⟩, r3, r4⟩), rfl, rfl⟩
    · obtain ⟨l1, l2, l3, l4, l5, l6, l7⟩ := dig_all ⟨d, by omega⟩
      have g1 : e_hA_X5_tokenBegunBy (A s) = some 2 := by rw [g]; exact l1
      have g2 : A s &&& 255 = nn (48 + d) := by rw [g]; exact l3
      have g3 : e_hP_X9_isLetter (nn (48 + d)) = some 0 := l5
      have g4 : e_hP_X9_isDigit (nn (48 + d)) = some 1 := l6
      rw [g1, Option.bind_some, g2, if_neg (show ¬ nn (48 + d) = -1 from l4), g3, Option.bind_some, if_pos (show (0 : Int32) = 0 from rfl), g4, Option.bind_some, if_neg (show ¬ (1 : Int32) = 0 from by decide)]
      unfold J_hA_X5_readToken_79 e_hA_X5_readRun
      rw [if_neg (show ¬ (2 : Int32) = 3 from by decide), if_neg (show ¬ (2 : Int32) = 1 from by decide), if_pos (show (2 : Int32) = 2 from rfl)]
      obtain ⟨j, v', w', o1, o2, o3, o4, o5⟩ := q_whole T (p2 := nn s) (q0 := 0) (q4 := nn s) (q6 := q6) (K := fun mw0_0 mg18_0 => if (2 : Int32) < (mg18_0 - nn s) then some ((4 : Int32), mw0_0, mg18_0) else some ((2 : Int32), mw0_0, mg18_0)) (K2 := fun l2_173 mg8_173 mg5_173 => if (2 : Int32) < l2_173 then some (nn s, (0 : Int32), mg5_173, mg8_173, q6) else some (nn s, (3 : Int32), mg5_173, mg8_173, q6)) (n - s) s 200000 0 0 0 (by omega) (by omega) (by omega) (fun _ => ⟨0, by decide, rfl, rfl⟩)
      rw [o4]
      rw [show L_hP_X9_goesOn_173 (0 : Int32) (nn n) B (nn s) q6 (fun l2_173 mg8_173 mg5_173 => if (2 : Int32) < l2_173 then some (nn s, (0 : Int32), mg5_173, mg8_173, q6) else some (nn s, (3 : Int32), mg5_173, mg8_173, q6)) 200000 (0 : Int32) (0 : Int32) (nn s) = _ from o5]
      simp only [Nat.zero_add]
      rw [nn_sub (show s ≤ s + j by omega), show s + j - s = j by omega]
      rw [Nat.zero_add] at o2
      by_cases y : 2 < j
      · have y1 : (2 : Int32) < nn j := by rw [show (2 : Int32) = nn 2 from rfl, nn_lt (by omega) (by omega)]; exact y
        rw [if_pos y1, if_pos y1]
        exact ⟨s, s + j, 4, 0, w', v', q6, s1, by omega, o1, fun y => absurd y (by decide), Or.inr (Or.inr (Or.inr (Or.inr ⟨rfl, rfl⟩))), rfl, rfl⟩
      · have y1 : ¬ (2 : Int32) < nn j := by rw [show (2 : Int32) = nn 2 from rfl, nn_lt (by omega) (by omega)]; exact y
        rw [if_neg y1, if_neg y1]
        obtain ⟨x, r1, r3, r4⟩ := o2 (by omega)
        have r5 : 10 ^ j ≤ 10 ^ 2 := Nat.pow_le_pow_right (by omega) (by omega)
        exact ⟨s, s + j, 2, 3, w', v', q6, s1, by omega, o1, fun y => absurd y (by decide), Or.inr (Or.inr (Or.inl ⟨rfl, rfl, x, by omega, r3, r4⟩)), rfl, rfl⟩
    · rw [g, show e_hA_X5_tokenBegunBy 59 = some 3 from rfl, Option.bind_some]
      refine ⟨s, s + 1, 3, 4, q5, 0, q6, s1, by omega, by omega, fun _ => by omega, Or.inr (Or.inr (Or.inr (Or.inl ⟨rfl, rfl⟩))), ?_, ?_⟩
      · unfold J_hA_X5_readToken_79
        rw [if_pos rfl, nn_succ]
      · rw [show (59 : Int32) &&& 255 = 59 from by decide, if_neg (by decide), show e_hP_X9_isLetter 59 = some 0 from rfl, Option.bind_some, if_pos rfl, show e_hP_X9_isDigit 59 = some 0 from rfl, Option.bind_some, if_pos rfl, if_pos rfl, nn_succ]
    · exact absurd g (s3 hs)
    · obtain ⟨t1, t2, t3, t4, t5, t6, t7⟩ := g
      rw [t1, Option.bind_some, if_neg t4, t5, Option.bind_some, if_pos rfl, t6, Option.bind_some, if_pos rfl, if_neg t7]
      refine ⟨s, s, 4, 0, q5, 0, q6, s1, by omega, by omega, fun y => absurd y (by decide), Or.inr (Or.inr (Or.inr (Or.inr ⟨rfl, rfl⟩))), ?_, rfl⟩
      unfold J_hA_X5_readToken_79
      rw [if_neg (by decide), if_neg (by decide), if_neg (by decide)]
