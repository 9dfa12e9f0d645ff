/-! THE PURE PART: words -/
theorem lgc {a b : Int64} : (lg_cmp a b = (0 : Int32)) = (a = b) := by
  refine propext ⟨fun e => ?_, fun e => ?_⟩
  · unfold lg_cmp at e
    split at e
    · exact absurd e (by decide)
    · split at e
      · rename_i h1 h2; exact h2
      · exact absurd e (by decide)
  · subst e
    unfold lg_cmp
    rw [if_neg (Int64.lt_irrefl), if_pos rfl]
/-- the words of a text, by base 27 -/
def wrds : List Int32 → Int64 → List Int64
  | [], lt => [lt]
  | c :: cs, lt => if c = 32 then lt :: wrds cs 0 else wrds cs (lt * (27 : Int64) + ((c - (97 : Int32)) + (1 : Int32)).toInt64)
def look (v : Int64) : List Int64 → Int32 → Int32
  | [], _ => -1
  | w :: ws, i => if w = v then i else look v ws (i + 1)
/-- bytes below 128 -/
def asc (s : List Int32) : Prop := s.length < 1000 ∧ ∀ k, k < s.length → xch s (nn k) = s.getD k 0
theorem getD_app {p : List Int32} {c : Int32} {cs : List Int32} : (p ++ c :: cs).getD p.length 0 = c := by simp
theorem q_among {v : Int64} {s : List Int32} (hs : asc s) {p0 : Int32} : ∀ (cs p : List Int32) (F : Nat) (i : Int32) (lt : Int64), s = p ++ cs → cs.length + 1 < F → L_hA_X5_indexAmong_17 p0 v s (fun l2_17 l3_17 l5_17 => some (-1 : Int32)) F i lt (nn p.length) = some (look v (wrds cs lt) i) := by
  intro cs
  induction cs with
  | nil =>
    intro p F i lt e hF
    obtain ⟨F, rfl⟩ : ∃ f, F = f + 1 := ⟨F - 1, by omega⟩
    obtain ⟨F, rfl⟩ : ∃ f, F = f + 1 := ⟨F - 1, by rw [List.length_nil] at hF; omega⟩
    have el : s.length = p.length := by rw [e, List.append_nil]
    have hl := hs.1
    rw [L_hA_X5_indexAmong_17, if_neg (show ¬ Int32.ofNat s.length < nn p.length from by rw [show Int32.ofNat s.length = nn s.length from rfl, nn_lt (by omega) (by omega)]; omega), if_pos (show Int32.ofNat s.length ≤ nn p.length from by rw [show Int32.ofNat s.length = nn s.length from rfl, nn_le (by omega) (by omega)]; omega), if_pos (show (32 : Int32) = 32 from rfl)]
    simp only [wrds, look]
    by_cases q : lt = v
    · rw [if_pos (show lg_cmp lt v = 0 from by rw [lgc]; exact q), if_pos q]
    · rw [if_neg (show ¬ lg_cmp lt v = 0 from by rw [lgc]; exact q), if_neg q, nn_succ, L_hA_X5_indexAmong_17, if_pos (show Int32.ofNat s.length < nn (p.length + 1) from by rw [show Int32.ofNat s.length = nn s.length from rfl, nn_lt (by omega) (by omega)]; omega)]
  | cons c cs ih =>
    intro p F i lt e hF
    obtain ⟨F, rfl⟩ : ∃ f, F = f + 1 := ⟨F - 1, by omega⟩
    rw [List.length_cons] at hF
    have el : s.length = p.length + (cs.length + 1) := by rw [e, List.length_append, List.length_cons]
    have hl := hs.1
    have ec : xch s (nn p.length) = c := by
      rw [hs.2 p.length (by omega), e]
      exact getD_app
    have e2 : s = (p ++ [c]) ++ cs := by rw [e, List.append_assoc]; rfl
    have el2 : (p ++ [c]).length = p.length + 1 := by rw [List.length_append]; rfl
    rw [L_hA_X5_indexAmong_17, if_neg (show ¬ Int32.ofNat s.length < nn p.length from by rw [show Int32.ofNat s.length = nn s.length from rfl, nn_lt (by omega) (by omega)]; omega), if_neg (show ¬ Int32.ofNat s.length ≤ nn p.length from by rw [show Int32.ofNat s.length = nn s.length from rfl, nn_le (by omega) (by omega)]; omega), xix_nn (by omega) (by omega), ec, nn_succ]
    simp only [wrds]
    have stp := fun i lt => ih (p ++ [c]) F i lt e2 (by omega)
    rw [el2] at stp
    by_cases q : c = 32
    · rw [if_pos q, if_pos q]
      simp only [look]
      by_cases q2 : lt = v
      · rw [if_pos (show lg_cmp lt v = 0 from by rw [lgc]; exact q2), if_pos q2]
      · rw [if_neg (show ¬ lg_cmp lt v = 0 from by rw [lgc]; exact q2), if_neg q2]
        exact stp _ _
    · rw [if_neg q, if_neg q]
      exact stp _ _
theorem qc_among {v : Int64} {s : List Int32} (hs : asc s) : e_hA_X5_indexAmong 1 v s = some (look v (wrds s 0) 0) := by
  unfold e_hA_X5_indexAmong
  rw [if_pos rfl]
  have := q_among (v := v) hs (p0 := 1) s [] 200000 0 0 rfl (by have := hs.1; omega)
  exact this
theorem qc_amongN {t : Int32} {v : Int64} {s : List Int32} (ht : ¬ t = 1) : e_hA_X5_indexAmong t v s = some (-1) := by
  unfold e_hA_X5_indexAmong
  rw [if_neg ht]
/-- a text packed -/
def pck : List Int32 → Int64 → Int64
  | [], a => a
  | c :: cs, a => pck cs ((32 : Int64) * a + ((c - (97 : Int32)) + (1 : Int32)).toInt64)
theorem q_packed {s : List Int32} (hs : asc s) : ∀ (cs p : List Int32) (F : Nat) (a : Int64), s = p ++ cs → cs.length < F → L_hP_X9_packed_4 s (fun l1_4 l3_4 => some l1_4) F a (nn p.length) = some (pck cs a) := by
  intro cs
  induction cs with
  | nil =>
    intro p F a e hF
    obtain ⟨F, rfl⟩ : ∃ f, F = f + 1 := ⟨F - 1, by omega⟩
    have el : s.length = p.length := by rw [e, List.append_nil]
    have hl := hs.1
    rw [L_hP_X9_packed_4, if_pos (show Int32.ofNat s.length ≤ nn p.length from by rw [show Int32.ofNat s.length = nn s.length from rfl, nn_le (by omega) (by omega)]; omega)]
    rfl
  | cons c cs ih =>
    intro p F a e hF
    obtain ⟨F, rfl⟩ : ∃ f, F = f + 1 := ⟨F - 1, by omega⟩
    rw [List.length_cons] at hF
    have el : s.length = p.length + (cs.length + 1) := by rw [e, List.length_append, List.length_cons]
    have hl := hs.1
    have ec : xch s (nn p.length) = c := by
      rw [hs.2 p.length (by omega), e]
      exact getD_app
    have e2 : s = (p ++ [c]) ++ cs := by rw [e, List.append_assoc]; rfl
    have el2 : (p ++ [c]).length = p.length + 1 := by rw [List.length_append]; rfl
    rw [L_hP_X9_packed_4, if_neg (show ¬ Int32.ofNat s.length ≤ nn p.length from by rw [show Int32.ofNat s.length = nn s.length from rfl, nn_le (by omega) (by omega)]; omega), xix_nn (by omega) (by omega), ec, nn_succ, ← el2]
    exact ih (p ++ [c]) F _ e2 (by omega)
theorem qr_isWord {w : Int64} {s : List Int32} (hs : asc s) : e_hP_X9_isWord 2 w s = some (if w = pck s 0 then 1 else 0) := by
  unfold e_hP_X9_isWord e_hP_X9_packed
  rw [if_pos rfl]
  have := q_packed hs s [] 200000 0 rfl (by have := hs.1; omega)
  rw [show L_hP_X9_packed_4 s (fun l1_4 l3_4 => some l1_4) 200000 (0 : Int64) (0 : Int32) = some (pck s 0) from this, Option.bind_some]
  by_cases q : w = pck s 0
  · rw [if_pos (show lg_cmp w (pck s 0) = 0 from by rw [lgc]; exact q), if_pos q]
  · rw [if_neg (show ¬ lg_cmp w (pck s 0) = 0 from by rw [lgc]; exact q), if_neg q]
theorem qr_isWordN {t : Int32} {w : Int64} {s : List Int32} (ht : ¬ t = 2) : e_hP_X9_isWord t w s = some 0 := by
  unfold e_hP_X9_isWord
  rw [if_neg ht]
/-- the letters of a text, last first -/
def rvl (s : List Int32) : List Nat := (s.map (fun c => (c - 96).toNatClampNeg)).reverse
theorem asc_dec {s : List Int32} (h : s.length < 1000 ∧ (List.range s.length).all (fun k => xch s (nn k) == s.getD k 0) = true) : asc s := by
  refine ⟨h.1, fun k hk => ?_⟩
  have := List.all_eq_true.mp h.2 k (List.mem_range.mpr hk)
  exact eq_of_beq this
theorem asc_1 : asc (xsy 1) := asc_dec (by decide +kernel)
theorem asc_2 : asc (xsy 2) := asc_dec (by decide +kernel)
theorem asc_3 : asc (xsy 3) := asc_dec (by decide +kernel)
theorem asc_4 : asc (xsy 4) := asc_dec (by decide +kernel)
theorem asc_5 : asc (xsy 5) := asc_dec (by decide +kernel)
theorem asc_6 : asc (xsy 6) := asc_dec (by decide +kernel)
theorem asc_7 : asc (xsy 7) := asc_dec (by decide +kernel)
theorem asc_8 : asc (xsy 8) := asc_dec (by decide +kernel)
theorem asc_9 : asc (xsy 9) := asc_dec (by decide +kernel)
theorem asc_10 : asc (xsy 10) := asc_dec (by decide +kernel)
theorem asc_11 : asc (xsy 11) := asc_dec (by decide +kernel)
theorem asc_12 : asc (xsy 12) := asc_dec (by decide +kernel)
theorem asc_13 : asc (xsy 13) := asc_dec (by decide +kernel)
theorem asc_14 : asc (xsy 14) := asc_dec (by decide +kernel)
theorem asc_15 : asc (xsy 15) := asc_dec (by decide +kernel)
theorem asc_16 : asc (xsy 16) := asc_dec (by decide +kernel)
theorem asc_17 : asc (xsy 17) := asc_dec (by decide +kernel)
theorem asc_18 : asc (xsy 18) := asc_dec (by decide +kernel)
theorem asc_19 : asc (xsy 19) := asc_dec (by decide +kernel)
theorem asc_20 : asc (xsy 20) := asc_dec (by decide +kernel)
theorem asc_21 : asc (xsy 21) := asc_dec (by decide +kernel)
theorem asc_22 : asc (xsy 22) := asc_dec (by decide +kernel)
theorem asc_23 : asc (xsy 23) := asc_dec (by decide +kernel)
theorem asc_24 : asc (xsy 24) := asc_dec (by decide +kernel)
theorem asc_25 : asc (xsy 25) := asc_dec (by decide +kernel)
theorem asc_26 : asc (xsy 26) := asc_dec (by decide +kernel)
theorem asc_27 : asc (xsy 27) := asc_dec (by decide +kernel)
theorem asc_28 : asc (xsy 28) := asc_dec (by decide +kernel)
theorem asc_29 : asc (xsy 29) := asc_dec (by decide +kernel)
theorem asc_30 : asc (xsy 30) := asc_dec (by decide +kernel)
theorem asc_31 : asc (xsy 31) := asc_dec (by decide +kernel)
theorem asc_32 : asc (xsy 32) := asc_dec (by decide +kernel)
theorem pck_11 : pck (xsy 11) 0 = ll (enr 32 [25, 20, 14, 21, 15, 3]) := by decide +kernel
theorem pck_12 : pck (xsy 12) 0 = ll (enr 32 [14, 15, 19, 18, 5, 16]) := by decide +kernel
theorem pck_13 : pck (xsy 13) 0 = ll (enr 32 [1, 12, 12, 5, 18, 2, 13, 21]) := by decide +kernel
theorem pck_14 : pck (xsy 14) 0 = ll (enr 32 [20, 14, 5, 12]) := by decide +kernel
theorem pck_15 : pck (xsy 15) 0 = ll (enr 32 [20, 6, 5, 12]) := by decide +kernel
theorem pck_16 : pck (xsy 16) 0 = ll (enr 32 [4, 5, 7, 14, 1, 8, 3]) := by decide +kernel
theorem pck_17 : pck (xsy 17) 0 = ll (enr 32 [14, 9, 1, 18]) := by decide +kernel
theorem pck_18 : pck (xsy 18) 0 = ll (enr 32 [19, 13, 9, 1, 12, 3]) := by decide +kernel
theorem pck_19 : pck (xsy 19) 0 = ll (enr 32 [5, 19, 16, 1, 12]) := by decide +kernel
theorem pck_20 : pck (xsy 20) 0 = ll (enr 32 [20, 19, 21, 7]) := by decide +kernel
theorem pck_21 : pck (xsy 21) 0 = ll (enr 32 [19, 14, 9, 1, 18]) := by decide +kernel
theorem pck_22 : pck (xsy 22) 0 = ll (enr 32 [14, 9, 1, 12, 16]) := by decide +kernel
theorem pck_23 : pck (xsy 23) 0 = ll (enr 32 [4, 12, 9, 8, 3]) := by decide +kernel
theorem pck_24 : pck (xsy 24) 0 = ll (enr 32 [19, 19, 5, 12, 5, 18, 1, 3]) := by decide +kernel
theorem pck_25 : pck (xsy 25) 0 = ll (enr 32 [11, 12, 9, 19]) := by decide +kernel
theorem pck_26 : pck (xsy 26) 0 = ll (enr 32 [14, 15, 20, 20, 15, 3]) := by decide +kernel
theorem pck_27 : pck (xsy 27) 0 = ll (enr 32 [11, 3, 9, 20, 19]) := by decide +kernel
theorem pck_28 : pck (xsy 28) 0 = ll (enr 32 [12, 15, 19, 1, 18, 1, 16]) := by decide +kernel
theorem pck_29 : pck (xsy 29) 0 = ll (enr 32 [19, 4, 14, 1, 12]) := by decide +kernel
theorem pck_30 : pck (xsy 30) 0 = ll (enr 32 [19, 2, 9, 18]) := by decide +kernel
theorem pck_31 : pck (xsy 31) 0 = ll (enr 32 [8, 20, 9, 23]) := by decide +kernel
theorem pck_32 : pck (xsy 32) 0 = ll (enr 32 [25, 1, 4]) := by decide +kernel
theorem wrd_1 : wrds (xsy 1) 0 = [ll (enr 27 [25, 20, 14, 21, 15, 3]), ll (enr 27 [14, 15, 19, 18, 5, 16]), ll (enr 27 [1, 12, 12, 5, 18, 2, 13, 21]), ll (enr 27 [20, 14, 5, 12]), ll (enr 27 [20, 6, 5, 12]), ll (enr 27 [4, 5, 7, 14, 1, 8, 3]), ll (enr 27 [14, 9, 1, 18]), ll (enr 27 [19, 13, 9, 1, 12, 3])] := by decide +kernel
theorem wrd_2 : wrds (xsy 2) 0 = [ll (enr 27 [5, 19, 16, 1, 12])] := by decide +kernel
theorem wrd_3 : wrds (xsy 3) 0 = [ll (enr 27 [20, 19, 21, 7])] := by decide +kernel
theorem wrd_4 : wrds (xsy 4) 0 = [ll (enr 27 [19, 14, 9, 1, 18])] := by decide +kernel
theorem wrd_5 : wrds (xsy 5) 0 = [ll (enr 27 [14, 9, 1, 12, 16]), ll (enr 27 [4, 12, 9, 8, 3]), ll (enr 27 [19, 19, 5, 12, 5, 18, 1, 3])] := by decide +kernel
theorem wrd_6 : wrds (xsy 6) 0 = [ll (enr 27 [11, 12, 9, 19]), ll (enr 27 [14, 15, 20, 20, 15, 3]), ll (enr 27 [11, 3, 9, 20, 19]), ll (enr 27 [12, 15, 19, 1, 18, 1, 16])] := by decide +kernel
theorem wrd_7 : wrds (xsy 7) 0 = [ll (enr 27 [19, 4, 14, 1, 12])] := by decide +kernel
theorem wrd_8 : wrds (xsy 8) 0 = [ll (enr 27 [19, 2, 9, 18])] := by decide +kernel
theorem wrd_9 : wrds (xsy 9) 0 = [ll (enr 27 [8, 20, 9, 23])] := by decide +kernel
theorem wrd_10 : wrds (xsy 10) 0 = [ll (enr 27 [25, 1, 4])] := by decide +kernel
/-- the same word under both bases -/
theorem wd_iff {r s : List Nat} (hr : okw r) (hs : okw s) : (ll (enr 27 s) = ll (enr 27 r)) = (r = s) ∧ (ll (enr 32 r) = ll (enr 32 s)) = (r = s) := by
  have b : (2 : Nat) ^ 41 < 2 ^ 63 := by decide
  have a1 := enr_small (B := 27) (by omega) (by omega) hr
  have a2 := enr_small (B := 27) (by omega) (by omega) hs
  have a3 := enr_small (B := 32) (by omega) (by omega) hr
  have a4 := enr_small (B := 32) (by omega) (by omega) hs
  refine ⟨propext ⟨fun h => ?_, fun h => by rw [h]⟩, propext ⟨fun h => ?_, fun h => by rw [h]⟩⟩
  · exact (enr_inj (by omega) s r hs.2 hr.2 (ll_inj (by omega) (by omega) h)).symm
  · exact enr_inj (by omega) r s hr.2 hs.2 (ll_inj (by omega) (by omega) h)
def okb (r : List Nat) : Bool := decide (r.length ≤ 8) && r.all (fun a => decide (1 ≤ a) && decide (a ≤ 26))
theorem okw_of {r : List Nat} (h : okb r = true) : okw r := by
  unfold okb at h
  rw [Bool.and_eq_true, decide_eq_true_eq, List.all_eq_true] at h
  exact ⟨h.1, fun a ha => by have := h.2 a ha; rw [Bool.and_eq_true, decide_eq_true_eq, decide_eq_true_eq] at this; exact this⟩
def lookr (r : List Nat) : List (List Nat) → Int32 → Int32
  | [], _ => -1
  | w :: ws, i => if r = w then i else lookr r ws (i + 1)
theorem look_r {r : List Nat} (hr : okw r) : ∀ (ws : List (List Nat)) (i : Int32), (∀ w, w ∈ ws → okw w) → look (ll (enr 27 r)) (ws.map (fun w => ll (enr 27 w))) i = lookr r ws i := by
  intro ws
  induction ws with
  | nil => intro i _; rfl
  | cons w ws ih =>
    intro i h
    simp only [List.map_cons, look, lookr]
    rw [ih (i + 1) (fun z hz => h z (List.mem_cons_of_mem _ hz))]
    simp only [(wd_iff hr (h w (List.mem_cons_self ..))).1]
theorem am_1 {r : List Nat} (hr : okw r) : e_hA_X5_indexAmong 1 (ll (enr 27 r)) (xsy 1) = some (lookr r [[25, 20, 14, 21, 15, 3], [14, 15, 19, 18, 5, 16], [1, 12, 12, 5, 18, 2, 13, 21], [20, 14, 5, 12], [20, 6, 5, 12], [4, 5, 7, 14, 1, 8, 3], [14, 9, 1, 18], [19, 13, 9, 1, 12, 3]] 0) := by
  rw [qc_among asc_1, wrd_1]
  exact congrArg some (look_r hr [[25, 20, 14, 21, 15, 3], [14, 15, 19, 18, 5, 16], [1, 12, 12, 5, 18, 2, 13, 21], [20, 14, 5, 12], [20, 6, 5, 12], [4, 5, 7, 14, 1, 8, 3], [14, 9, 1, 18], [19, 13, 9, 1, 12, 3]] 0 (fun w hw => okw_of (List.all_eq_true.mp (show [[25, 20, 14, 21, 15, 3], [14, 15, 19, 18, 5, 16], [1, 12, 12, 5, 18, 2, 13, 21], [20, 14, 5, 12], [20, 6, 5, 12], [4, 5, 7, 14, 1, 8, 3], [14, 9, 1, 18], [19, 13, 9, 1, 12, 3]].all okb = true from by decide) w hw)))
theorem am_2 {r : List Nat} (hr : okw r) : e_hA_X5_indexAmong 1 (ll (enr 27 r)) (xsy 2) = some (lookr r [[5, 19, 16, 1, 12]] 0) := by
  rw [qc_among asc_2, wrd_2]
  exact congrArg some (look_r hr [[5, 19, 16, 1, 12]] 0 (fun w hw => okw_of (List.all_eq_true.mp (show [[5, 19, 16, 1, 12]].all okb = true from by decide) w hw)))
theorem am_3 {r : List Nat} (hr : okw r) : e_hA_X5_indexAmong 1 (ll (enr 27 r)) (xsy 3) = some (lookr r [[20, 19, 21, 7]] 0) := by
  rw [qc_among asc_3, wrd_3]
  exact congrArg some (look_r hr [[20, 19, 21, 7]] 0 (fun w hw => okw_of (List.all_eq_true.mp (show [[20, 19, 21, 7]].all okb = true from by decide) w hw)))
theorem am_4 {r : List Nat} (hr : okw r) : e_hA_X5_indexAmong 1 (ll (enr 27 r)) (xsy 4) = some (lookr r [[19, 14, 9, 1, 18]] 0) := by
  rw [qc_among asc_4, wrd_4]
  exact congrArg some (look_r hr [[19, 14, 9, 1, 18]] 0 (fun w hw => okw_of (List.all_eq_true.mp (show [[19, 14, 9, 1, 18]].all okb = true from by decide) w hw)))
theorem am_5 {r : List Nat} (hr : okw r) : e_hA_X5_indexAmong 1 (ll (enr 27 r)) (xsy 5) = some (lookr r [[14, 9, 1, 12, 16], [4, 12, 9, 8, 3], [19, 19, 5, 12, 5, 18, 1, 3]] 0) := by
  rw [qc_among asc_5, wrd_5]
  exact congrArg some (look_r hr [[14, 9, 1, 12, 16], [4, 12, 9, 8, 3], [19, 19, 5, 12, 5, 18, 1, 3]] 0 (fun w hw => okw_of (List.all_eq_true.mp (show [[14, 9, 1, 12, 16], [4, 12, 9, 8, 3], [19, 19, 5, 12, 5, 18, 1, 3]].all okb = true from by decide) w hw)))
theorem am_6 {r : List Nat} (hr : okw r) : e_hA_X5_indexAmong 1 (ll (enr 27 r)) (xsy 6) = some (lookr r [[11, 12, 9, 19], [14, 15, 20, 20, 15, 3], [11, 3, 9, 20, 19], [12, 15, 19, 1, 18, 1, 16]] 0) := by
  rw [qc_among asc_6, wrd_6]
  exact congrArg some (look_r hr [[11, 12, 9, 19], [14, 15, 20, 20, 15, 3], [11, 3, 9, 20, 19], [12, 15, 19, 1, 18, 1, 16]] 0 (fun w hw => okw_of (List.all_eq_true.mp (show [[11, 12, 9, 19], [14, 15, 20, 20, 15, 3], [11, 3, 9, 20, 19], [12, 15, 19, 1, 18, 1, 16]].all okb = true from by decide) w hw)))
theorem am_7 {r : List Nat} (hr : okw r) : e_hA_X5_indexAmong 1 (ll (enr 27 r)) (xsy 7) = some (lookr r [[19, 4, 14, 1, 12]] 0) := by
  rw [qc_among asc_7, wrd_7]
  exact congrArg some (look_r hr [[19, 4, 14, 1, 12]] 0 (fun w hw => okw_of (List.all_eq_true.mp (show [[19, 4, 14, 1, 12]].all okb = true from by decide) w hw)))
theorem am_8 {r : List Nat} (hr : okw r) : e_hA_X5_indexAmong 1 (ll (enr 27 r)) (xsy 8) = some (lookr r [[19, 2, 9, 18]] 0) := by
  rw [qc_among asc_8, wrd_8]
  exact congrArg some (look_r hr [[19, 2, 9, 18]] 0 (fun w hw => okw_of (List.all_eq_true.mp (show [[19, 2, 9, 18]].all okb = true from by decide) w hw)))
theorem am_9 {r : List Nat} (hr : okw r) : e_hA_X5_indexAmong 1 (ll (enr 27 r)) (xsy 9) = some (lookr r [[8, 20, 9, 23]] 0) := by
  rw [qc_among asc_9, wrd_9]
  exact congrArg some (look_r hr [[8, 20, 9, 23]] 0 (fun w hw => okw_of (List.all_eq_true.mp (show [[8, 20, 9, 23]].all okb = true from by decide) w hw)))
theorem am_10 {r : List Nat} (hr : okw r) : e_hA_X5_indexAmong 1 (ll (enr 27 r)) (xsy 10) = some (lookr r [[25, 1, 4]] 0) := by
  rw [qc_among asc_10, wrd_10]
  exact congrArg some (look_r hr [[25, 1, 4]] 0 (fun w hw => okw_of (List.all_eq_true.mp (show [[25, 1, 4]].all okb = true from by decide) w hw)))
theorem iw_11 {r : List Nat} (hr : okw r) : e_hP_X9_isWord 2 (ll (enr 32 r)) (xsy 11) = some (if r = [25, 20, 14, 21, 15, 3] then 1 else 0) := by
  rw [qr_isWord asc_11, pck_11]
  simp only [(wd_iff hr (okw_of (show okb [25, 20, 14, 21, 15, 3] = true from by decide))).2]
theorem iw_12 {r : List Nat} (hr : okw r) : e_hP_X9_isWord 2 (ll (enr 32 r)) (xsy 12) = some (if r = [14, 15, 19, 18, 5, 16] then 1 else 0) := by
  rw [qr_isWord asc_12, pck_12]
  simp only [(wd_iff hr (okw_of (show okb [14, 15, 19, 18, 5, 16] = true from by decide))).2]
theorem iw_13 {r : List Nat} (hr : okw r) : e_hP_X9_isWord 2 (ll (enr 32 r)) (xsy 13) = some (if r = [1, 12, 12, 5, 18, 2, 13, 21] then 1 else 0) := by
  rw [qr_isWord asc_13, pck_13]
  simp only [(wd_iff hr (okw_of (show okb [1, 12, 12, 5, 18, 2, 13, 21] = true from by decide))).2]
theorem iw_14 {r : List Nat} (hr : okw r) : e_hP_X9_isWord 2 (ll (enr 32 r)) (xsy 14) = some (if r = [20, 14, 5, 12] then 1 else 0) := by
  rw [qr_isWord asc_14, pck_14]
  simp only [(wd_iff hr (okw_of (show okb [20, 14, 5, 12] = true from by decide))).2]
theorem iw_15 {r : List Nat} (hr : okw r) : e_hP_X9_isWord 2 (ll (enr 32 r)) (xsy 15) = some (if r = [20, 6, 5, 12] then 1 else 0) := by
  rw [qr_isWord asc_15, pck_15]
  simp only [(wd_iff hr (okw_of (show okb [20, 6, 5, 12] = true from by decide))).2]
theorem iw_16 {r : List Nat} (hr : okw r) : e_hP_X9_isWord 2 (ll (enr 32 r)) (xsy 16) = some (if r = [4, 5, 7, 14, 1, 8, 3] then 1 else 0) := by
  rw [qr_isWord asc_16, pck_16]
  simp only [(wd_iff hr (okw_of (show okb [4, 5, 7, 14, 1, 8, 3] = true from by decide))).2]
theorem iw_17 {r : List Nat} (hr : okw r) : e_hP_X9_isWord 2 (ll (enr 32 r)) (xsy 17) = some (if r = [14, 9, 1, 18] then 1 else 0) := by
  rw [qr_isWord asc_17, pck_17]
  simp only [(wd_iff hr (okw_of (show okb [14, 9, 1, 18] = true from by decide))).2]
theorem iw_18 {r : List Nat} (hr : okw r) : e_hP_X9_isWord 2 (ll (enr 32 r)) (xsy 18) = some (if r = [19, 13, 9, 1, 12, 3] then 1 else 0) := by
  rw [qr_isWord asc_18, pck_18]
  simp only [(wd_iff hr (okw_of (show okb [19, 13, 9, 1, 12, 3] = true from by decide))).2]
theorem iw_19 {r : List Nat} (hr : okw r) : e_hP_X9_isWord 2 (ll (enr 32 r)) (xsy 19) = some (if r = [5, 19, 16, 1, 12] then 1 else 0) := by
  rw [qr_isWord asc_19, pck_19]
  simp only [(wd_iff hr (okw_of (show okb [5, 19, 16, 1, 12] = true from by decide))).2]
theorem iw_20 {r : List Nat} (hr : okw r) : e_hP_X9_isWord 2 (ll (enr 32 r)) (xsy 20) = some (if r = [20, 19, 21, 7] then 1 else 0) := by
  rw [qr_isWord asc_20, pck_20]
  simp only [(wd_iff hr (okw_of (show okb [20, 19, 21, 7] = true from by decide))).2]
theorem iw_21 {r : List Nat} (hr : okw r) : e_hP_X9_isWord 2 (ll (enr 32 r)) (xsy 21) = some (if r = [19, 14, 9, 1, 18] then 1 else 0) := by
  rw [qr_isWord asc_21, pck_21]
  simp only [(wd_iff hr (okw_of (show okb [19, 14, 9, 1, 18] = true from by decide))).2]
theorem iw_22 {r : List Nat} (hr : okw r) : e_hP_X9_isWord 2 (ll (enr 32 r)) (xsy 22) = some (if r = [14, 9, 1, 12, 16] then 1 else 0) := by
  rw [qr_isWord asc_22, pck_22]
  simp only [(wd_iff hr (okw_of (show okb [14, 9, 1, 12, 16] = true from by decide))).2]
theorem iw_23 {r : List Nat} (hr : okw r) : e_hP_X9_isWord 2 (ll (enr 32 r)) (xsy 23) = some (if r = [4, 12, 9, 8, 3] then 1 else 0) := by
  rw [qr_isWord asc_23, pck_23]
  simp only [(wd_iff hr (okw_of (show okb [4, 12, 9, 8, 3] = true from by decide))).2]
theorem iw_24 {r : List Nat} (hr : okw r) : e_hP_X9_isWord 2 (ll (enr 32 r)) (xsy 24) = some (if r = [19, 19, 5, 12, 5, 18, 1, 3] then 1 else 0) := by
  rw [qr_isWord asc_24, pck_24]
  simp only [(wd_iff hr (okw_of (show okb [19, 19, 5, 12, 5, 18, 1, 3] = true from by decide))).2]
theorem iw_25 {r : List Nat} (hr : okw r) : e_hP_X9_isWord 2 (ll (enr 32 r)) (xsy 25) = some (if r = [11, 12, 9, 19] then 1 else 0) := by
  rw [qr_isWord asc_25, pck_25]
  simp only [(wd_iff hr (okw_of (show okb [11, 12, 9, 19] = true from by decide))).2]
theorem iw_26 {r : List Nat} (hr : okw r) : e_hP_X9_isWord 2 (ll (enr 32 r)) (xsy 26) = some (if r = [14, 15, 20, 20, 15, 3] then 1 else 0) := by
  rw [qr_isWord asc_26, pck_26]
  simp only [(wd_iff hr (okw_of (show okb [14, 15, 20, 20, 15, 3] = true from by decide))).2]
theorem iw_27 {r : List Nat} (hr : okw r) : e_hP_X9_isWord 2 (ll (enr 32 r)) (xsy 27) = some (if r = [11, 3, 9, 20, 19] then 1 else 0) := by
  rw [qr_isWord asc_27, pck_27]
  simp only [(wd_iff hr (okw_of (show okb [11, 3, 9, 20, 19] = true from by decide))).2]
theorem iw_28 {r : List Nat} (hr : okw r) : e_hP_X9_isWord 2 (ll (enr 32 r)) (xsy 28) = some (if r = [12, 15, 19, 1, 18, 1, 16] then 1 else 0) := by
  rw [qr_isWord asc_28, pck_28]
  simp only [(wd_iff hr (okw_of (show okb [12, 15, 19, 1, 18, 1, 16] = true from by decide))).2]
theorem iw_29 {r : List Nat} (hr : okw r) : e_hP_X9_isWord 2 (ll (enr 32 r)) (xsy 29) = some (if r = [19, 4, 14, 1, 12] then 1 else 0) := by
  rw [qr_isWord asc_29, pck_29]
  simp only [(wd_iff hr (okw_of (show okb [19, 4, 14, 1, 12] = true from by decide))).2]
theorem iw_30 {r : List Nat} (hr : okw r) : e_hP_X9_isWord 2 (ll (enr 32 r)) (xsy 30) = some (if r = [19, 2, 9, 18] then 1 else 0) := by
  rw [qr_isWord asc_30, pck_30]
  simp only [(wd_iff hr (okw_of (show okb [19, 2, 9, 18] = true from by decide))).2]
theorem iw_31 {r : List Nat} (hr : okw r) : e_hP_X9_isWord 2 (ll (enr 32 r)) (xsy 31) = some (if r = [8, 20, 9, 23] then 1 else 0) := by
  rw [qr_isWord asc_31, pck_31]
  simp only [(wd_iff hr (okw_of (show okb [8, 20, 9, 23] = true from by decide))).2]
theorem iw_32 {r : List Nat} (hr : okw r) : e_hP_X9_isWord 2 (ll (enr 32 r)) (xsy 32) = some (if r = [25, 1, 4] then 1 else 0) := by
  rw [qr_isWord asc_32, pck_32]
  simp only [(wd_iff hr (okw_of (show okb [25, 1, 4] = true from by decide))).2]
