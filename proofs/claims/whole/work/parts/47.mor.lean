/-! THE PURE PART: mornings -/
/-- the rows ahead of each day, where D is a day and C what comes first on it -/
def sRun (D C : Nat → pA → pA) (S : pA) : Nat → pA
  | 0 => S
  | d + 1 => D d (C d (sRun D C S d))
def cNo : Nat → pA → pA := fun _ r => r
def swp (u v : Nat) (r : pA) : pA := upd (upd r u (r v)) v (r u)
def cAt (day u v : Nat) : Nat → pA → pA := fun d r => if d = day then swp u v r else r
theorem swp_wr {np u v : Nat} {r : pA} (hu : u < 5) (hv : v < 5) (h : wr np r) : wr np (swp u v r) := (h.uh hu (h.1 v hv)).uh hv (h.1 u hu)
theorem swp_cn {u v : Nat} {r : pA} (hu : u < 5) (hv : v < 5) (h : cn r) : cn (swp u v r) := cn_upd (cn_upd h (by omega)) (by omega)
theorem sRun_ok {np : Nat} {D C : Nat → pA → pA} {S : pA} (hD : ∀ d r, wr np r → cn r → wr np (D d r) ∧ cn (D d r)) (hC : ∀ d r, wr np r → cn r → wr np (C d r) ∧ cn (C d r)) (h1 : wr np S) (h2 : cn S) : ∀ d, wr np (sRun D C S d) ∧ cn (sRun D C S d) := by
  intro d
  induction d with
  | zero => exact ⟨h1, h2⟩
  | succ d ih =>
    have := hC d _ ih.1 ih.2
    exact hD d _ this.1 this.2
theorem cNo_ok {np : Nat} : ∀ d r, wr np r → cn r → wr np (cNo d r) ∧ cn (cNo d r) := fun _ _ h1 h2 => ⟨h1, h2⟩
theorem cAt_ok {np day u v : Nat} (hu : u < 5) (hv : v < 5) : ∀ d r, wr np r → cn r → wr np (cAt day u v d r) ∧ cn (cAt day u v d r) := fun d r h1 h2 => by
  unfold cAt
  split
  · exact ⟨swp_wr hu hv h1, swp_cn hu hv h2⟩
  · exact ⟨h1, h2⟩
theorem sRun_congr {np : Nat} {D D' C : Nat → pA → pA} {S : pA} (hD : ∀ d r, wr np r → cn r → wr np (D d r) ∧ cn (D d r)) (hC : ∀ d r, wr np r → cn r → wr np (C d r) ∧ cn (C d r)) (h1 : wr np S) (h2 : cn S) (hE : ∀ d r, wr np r → cn r → D d r = D' d r) : ∀ d, sRun D C S d = sRun D' C S d := by
  intro d
  induction d with
  | zero => rfl
  | succ d ih =>
    have h0 := sRun_ok hD hC h1 h2 d
    have := hC d _ h0.1 h0.2
    simp only [sRun]
    rw [← ih, hE d _ this.1 this.2]
section MOR
variable {nu np nl : Nat} {lapse : Int32} {kind sort lands w wh on ot dy : pA}
/-- a day, by its number -/
def dayF (nu np : Nat) (lapse : Int32) (kind sort lands : pA) (nl : Nat) (wh on ot dy : pA) : Nat → pA → pA := fun d r => sDay nu np lapse kind sort lands nl wh on ot dy (nn d) r
def morF (nu np : Nat) (lapse : Int32) (kind sort lands w : pA) (nl : Nat) (wh on ot dy : pA) (C : Nat → pA → pA) : Nat → pA := sRun (dayF nu np lapse kind sort lands nl wh on ot dy) C (sStart nu kind sort w)
theorem dayF_ok (hn : nu ≤ 5) (hp : np ≤ 6) (hla : (0 : Int32) < lapse) (hk : ∀ k, k < nl → lgOk nu np wh on ot k) : ∀ d r, wr np r → cn r → wr np (dayF nu np lapse kind sort lands nl wh on ot dy d r) ∧ cn (dayF nu np lapse kind sort lands nl wh on ot dy d r) := fun _ _ h1 h2 => sDay_ok hn hp hla hk h1 h2
theorem morF_ok (hn : nu ≤ 5) (hp : np ≤ 6) (hla : (0 : Int32) < lapse) (hk : ∀ k, k < nl → lgOk nu np wh on ot k) (hw : ∀ u, u < nu → wv np (w u)) {C : Nat → pA → pA} (hC : ∀ d r, wr np r → cn r → wr np (C d r) ∧ cn (C d r)) : ∀ d, wr np (morF nu np lapse kind sort lands w nl wh on ot dy C d) ∧ cn (morF nu np lapse kind sort lands w nl wh on ot dy C d) := sRun_ok (dayF_ok hn hp hla hk) hC (sStart_wr hw) (sStart_cn _ _ _ _)
theorem pc_begin0 (hn : nu ≤ 5) (hp : np ≤ 6) (hl : nl ≤ 16) (hla : (0 : Int32) < lapse) (hk : ∀ k, k < nl → lgOk nu np wh on ot k) (hw : ∀ u, u < nu → wv np (w u)) {K : Int32 → (Nat → Int64) → Int32 → pA → pA → Option (Int32 × Int32 × pA × pA × (Nat → Int64))} : ∀ (m k F : Nat) (b : Nat → Int64) (d : Int32) (h t : pA), k + m = 41 → m < F → mkr h t d = morF nu np lapse kind sort lands w nl wh on ot dy cNo k → (∀ j, j < k → b j = ll (pkR (morF nu np lapse kind sort lands w nl wh on ot dy cNo j))) →
    ∃ b' d' h' t', L_hA_X0_begin_15 0 (nn nu) kind sort w (nn nl) (nn np) lands lapse dy wh on ot K F (nn k) b d h t = K (nn 41) b' d' h' t' ∧ mkr h' t' d' = morF nu np lapse kind sort lands w nl wh on ot dy cNo 41 ∧ (∀ j, j < 41 → b' j = ll (pkR (morF nu np lapse kind sort lands w nl wh on ot dy cNo j))) := by
  intro m
  induction m with
  | zero =>
    intro k F b d h t e hF hr hb
    obtain ⟨F, rfl⟩ : ∃ f, F = f + 1 := ⟨F - 1, by omega⟩
    obtain rfl : k = 41 := by omega
    refine ⟨b, d, h, t, ?_, hr, hb⟩
    simp (disch := omega) only [L_hA_X0_begin_15, n41_, nn_le, Nat.le_refl, ↓reduceIte]
  | succ m ih =>
    intro k F b d h t e hF hr hb
    obtain ⟨F, rfl⟩ : ∃ f, F = f + 1 := ⟨F - 1, by omega⟩
    have hkk : ¬ 41 ≤ k := by omega
    have hok := morF_ok (kind := kind) (sort := sort) (lands := lands) (dy := dy) hn hp hla hk hw cNo_ok k
    have hwr : wr np (mkr h t d) := by rw [hr]; exact hok.1
    obtain ⟨d2, h2, t2, e1, e2⟩ := qc_runDay (kind := kind) (sort := sort) (lands := lands) (dy := dy) (day := nn k) hn hp hl hla hk hwr
    have e3 := qc_packed hp hwr
    obtain ⟨b', d', h', t', g1, g2, g3⟩ := ih (k + 1) F (vp_updL b k (ll (pkR (mkr h t d)))) d2 h2 t2 (by omega) (by omega) (by rw [e2, hr]; rfl) (fun j hj => by
      by_cases q : j = k
      · subst q; rw [← hr]; simp [vp_updL]
      · simp only [vp_updL, if_neg q]; exact hb j (by omega))
    refine ⟨b', d', h', t', ?_, g2, g3⟩
    rw [← g1]
    simp (disch := omega) only [L_hA_X0_begin_15, n41_, nn_le, hkk, ↓reduceIte, xix_nn, nn_nat, nn_succ, e1, e3, Option.bind_some]
theorem qc_cbegin (hn : nu ≤ 5) (hp : np ≤ 6) (hl : nl ≤ 16) (hla : (0 : Int32) < lapse) (hk : ∀ k, k < nl → lgOk nu np wh on ot k) (hw : ∀ u, u < nu → wv np (w u)) (sr d : Int32) (h t : pA) (b : Nat → Int64) : ∃ d' h' t' b', e_hA_X0_begin sr d (nn nu) h t kind sort w b (nn nl) (nn np) lands lapse dy wh on ot = some (0, d', h', t', b') ∧ (∀ j, j ≤ 41 → b' j = ll (pkR (morF nu np lapse kind sort lands w nl wh on ot dy cNo j))) := by
  obtain ⟨h2, t2, e1, e2⟩ := qc_begin_2 (kind := kind) (sort := sort) hn hp hw d h t
  unfold e_hA_X0_begin
  rw [e1, Option.bind_some]
  obtain ⟨b', d', h', t', g1, g2, g3⟩ := pc_begin0 (kind := kind) (sort := sort) (lands := lands) (dy := dy) hn hp hl hla hk hw (K := (fun l2_15 mb2_15 mg24_15 ma32_15 ma33_15 => ((e_hA_X3_packed mg24_15 ma32_15 ma33_15).bind fun z56 => some ((0 : Int32), mg24_15, ma32_15, ma33_15, (vp_updL mb2_15 (41 : Int32).toNatClampNeg z56))))) 41 0 200000 b 0 h2 t2 (by omega) (by omega) e2 (fun j hj => absurd hj (by omega))
  have hok := morF_ok (kind := kind) (sort := sort) (lands := lands) (dy := dy) hn hp hla hk hw cNo_ok 41
  have e3 := qc_packed hp (h := h') (t := t') (d := d') (np := np) (by rw [g2]; exact hok.1)
  rw [e3, Option.bind_some] at g1
  refine ⟨d', h', t', _, g1, fun j hj => ?_⟩
  rw [g2]
  by_cases q : j = 41
  · subst q; simp [vp_updL]
  · simp only [vp_updL]
    rw [if_neg (by intro z; exact q z)]
    exact g3 j (by omega)
/-- behind a day, by the class -/
theorem qc_behind {np : Nat} (hp : np ≤ 6) {X : Nat → pA} {b : Nat → Int64} (hX : ∀ d, wr np (X d) ∧ cn (X d)) (hb : ∀ j, j ≤ 41 → b j = ll (pkR (X j))) (p1 : Int32) (t h : pA) {day : Nat} (hd : day < 41) : ∃ d' t' h', e_hA_X0_behind b p1 t h (nn day) = some (d', t', h') ∧ mkr h' t' d' = X (day + 1) := by
  unfold e_hA_X0_behind
  rw [nn_succ, xix_nn (by omega) (by omega), nn_nat (by omega), hb (day + 1) (by omega)]
  obtain ⟨d', t', h', e1, e2⟩ := qc_unpack hp (p0 := p1) (t0 := t) (h0 := h) (hX (day + 1)).1 (hX (day + 1)).2
  exact ⟨d', t', h', by rw [e1, Option.bind_some], e2⟩
theorem qc_atFirst {np : Nat} (hp : np ≤ 6) {X : Nat → pA} {b : Nat → Int64} (hX : ∀ d, wr np (X d) ∧ cn (X d)) (hb : ∀ j, j ≤ 41 → b j = ll (pkR (X j))) (p1 : Int32) (t h : pA) : ∃ d' t' h', e_hA_X0_atFirst b p1 t h = some (d', t', h') ∧ mkr h' t' d' = X 0 := by
  unfold e_hA_X0_atFirst
  obtain ⟨d', t', h', e1, e2⟩ := qc_unpack hp (p0 := p1) (t0 := t) (h0 := h) (hX 0).1 (hX 0).2
  refine ⟨d', t', h', ?_, e2⟩
  rw [show (0 : Int32).toNatClampNeg = 0 from rfl, hb 0 (by omega), e1, Option.bind_some]
theorem pr_behind (hn : nu ≤ 5) (hp : np ≤ 6) (hl : nl ≤ 16) (hla : (0 : Int32) < lapse) (hk : ∀ k, k < nl → lgOk nu np wh on ot k) (hw : ∀ u, u < nu → wv np (w u)) {day : Nat} (hd : day < 41) {K : Int32 → pA → Option pA} : ∀ (m k F : Nat), k + m = day + 1 → m < F → L_hB_X9_behind_10 (nn nu) kind sort w (nn nl) dy on wh ot lapse (nn np) lands (nn day) K F (nn k) (morF nu np lapse kind sort lands w nl wh on ot dy cNo k) = K (nn (day + 1)) (morF nu np lapse kind sort lands w nl wh on ot dy cNo (day + 1)) := by
  intro m
  induction m with
  | zero =>
    intro k F e hF
    obtain ⟨F, rfl⟩ : ∃ f, F = f + 1 := ⟨F - 1, by omega⟩
    obtain rfl : k = day + 1 := by omega
    simp (disch := omega) only [L_hB_X9_behind_10, nn_lt, Nat.lt_succ_self, ↓reduceIte]
  | succ m ih =>
    intro k F e hF
    obtain ⟨F, rfl⟩ : ∃ f, F = f + 1 := ⟨F - 1, by omega⟩
    have hkk : ¬ day < k := by omega
    have hok := morF_ok (kind := kind) (sort := sort) (lands := lands) (dy := dy) hn hp hla hk hw cNo_ok k
    rw [← ih (k + 1) F (by omega) (by omega)]
    simp (disch := omega) only [L_hB_X9_behind_10, nn_lt, hkk, ↓reduceIte, nn_succ, qr_goesBy hn hp hl hla hk hok.1 hok.2, Option.bind_some]
    rfl
theorem qr_behind (hn : nu ≤ 5) (hp : np ≤ 6) (hl : nl ≤ 16) (hla : (0 : Int32) < lapse) (hk : ∀ k, k < nl → lgOk nu np wh on ot k) (hw : ∀ u, u < nu → wv np (w u)) {day : Nat} (hd : day < 41) {x : pA} (hx : cn x) : e_hB_X9_behind x (nn nu) kind sort w (nn nl) dy on wh ot lapse (nn np) lands (nn day) = some (morF nu np lapse kind sort lands w nl wh on ot dy cNo (day + 1)) := by
  unfold e_hB_X9_behind
  rw [qr_starts hn hp hw hx, Option.bind_some]
  exact pr_behind hn hp hl hla hk hw hd (day + 1) 0 200000 (by omega) (by omega)
end MOR
