/-! led: class and reference -/
theorem pr_led {nu : Nat} (hu : nu ≤ 5) {h t : pA} {dd v : Int32} : ∀ (m k F F' : Nat) (a : Int32), k + m = nu → m < F → m < F' →
    (∃ u, ledF (nn nu) h v F a (nn k) = some (some u) ∧ L_hB_X9_led_9 0 (nn nu) (mkr h t dd) v (fun l2_9 l3_9 => some ((0 : Int32), (1 : Int32))) F' a (nn k) = some (u, 0)) ∨
    (ledF (nn nu) h v F a (nn k) = some none ∧ L_hB_X9_led_9 0 (nn nu) (mkr h t dd) v (fun l2_9 l3_9 => some ((0 : Int32), (1 : Int32))) F' a (nn k) = some (0, 1)) := by
  intro m
  induction m with
  | zero =>
    intro k F F' a e h1 h2
    obtain ⟨F, rfl⟩ : ∃ f, F = f + 1 := ⟨F - 1, by omega⟩
    obtain ⟨F', rfl⟩ : ∃ f, F' = f + 1 := ⟨F' - 1, by omega⟩
    have hle : nn nu ≤ nn k := by rw [nn_le (by omega) (by omega)]; omega
    right
    rw [ledF, L_hB_X9_led_9, if_pos hle, if_pos hle]
    exact ⟨rfl, rfl⟩
  | succ m ih =>
    intro k F F' a e h1 h2
    obtain ⟨F, rfl⟩ : ∃ f, F = f + 1 := ⟨F - 1, by omega⟩
    obtain ⟨F', rfl⟩ : ∃ f, F' = f + 1 := ⟨F' - 1, by omega⟩
    have hle : ¬ nn nu ≤ nn k := by rw [nn_le (by omega) (by omega)]; omega
    have hz : (0 : Int32) + nn k = nn k := Int32.zero_add _
    have hm : mkr h t dd k = h k := if_pos (by omega)
    rw [ledF, L_hB_X9_led_9, if_neg hle, if_neg hle, hz, xix_nn (by omega) (by omega), xix_nn (by omega) (by omega), nn_nat (by omega), hm, nn_succ]
    by_cases q : h k = -2
    · rw [if_pos q, if_pos q]
      by_cases q2 : a = v
      · rw [if_pos q2, if_pos q2]
        exact Or.inl ⟨_, rfl, rfl⟩
      · rw [if_neg q2, if_neg q2]
        exact ih (k + 1) F F' (a + 1) (by omega) (by omega) (by omega)
    · rw [if_neg q, if_neg q]
      exact ih (k + 1) F F' a (by omega) (by omega) (by omega)
/-- what class and reference do at led: both answer, or the class throws and the reference tells so -/
def yS_led (Inv : xH → xH → Prop) : Prop := ∀ (v : Int32) (hA hB : xH), Inv hA hB → ∃ (k w : Int32) (hB1 : xH),
  ((k = 0 ∧ xMet xks YX7_led 38 0 0 [.ref 0, .int v] hA (some (.int w)) hA) ∨ (k = 1 ∧ ∀ l : Launch, l.stackTraces = false → ∀ (D : va_G) (α : Nat → Nat) (sz : Nat), vx_Met l yX7_led (xws YX7_led) (xrm 38 1 6) (va_Pc [.ref (α 0), .int v] (fun U => xPre xks D α sz hA U ∧ nseN U)) (fun _ _ _ _ => False) (XL D α (xA α hA sz) hA) 1 6 (xA α hA sz))) ∧
  xMet xks YX9_led 40 0 0 [.ref 0, .int v] hB (some (.int w)) hB1 ∧ hB1.length ≤ 1000 ∧ xMet xks YX9_thrown 40 0 0 [.ref 0] hB1 (some (.int k)) hB1 ∧ Inv hA hB1
theorem pn_led {p0 v : Int32} : e_hN_X9_led p0 v = some (0, 1) := by
  unfold e_hN_X9_led
  have h : ∀ F : Nat, L_hN_X9_led_9 (0 : Int32) v (fun l2_9 l3_9 => some ((0 : Int32), (1 : Int32))) (F + 1) 0 0 = some (0, 1) := fun F => rfl
  exact h 199999
theorem sim_led : yS_led Inv := by
  intro v HA HB hI
  rcases hI with hI | hI
  · refine hI (fun HA HB => ∃ (k w : Int32) (hB1 : xH),
      ((k = 0 ∧ xMet xks YX7_led 38 0 0 [.ref 0, .int v] HA (some (.int w)) HA) ∨ (k = 1 ∧ ∀ l : Launch, l.stackTraces = false → ∀ (D : va_G) (α : Nat → Nat) (sz : Nat), vx_Met l yX7_led (xws YX7_led) (xrm 38 1 6) (va_Pc [.ref (α 0), .int v] (fun U => xPre xks D α sz HA U ∧ nseN U)) (fun _ _ _ _ => False) (XL D α (xA α HA sz) HA) 1 6 (xA α HA sz))) ∧
      xMet xks YX9_led 40 0 0 [.ref 0, .int v] HB (some (.int w)) hB1 ∧ hB1.length ≤ 1000 ∧ xMet xks YX9_thrown 40 0 0 [.ref 0] hB1 (some (.int k)) hB1 ∧ Inv HA hB1) ?_
    intro tp g7 g8 g9 g10 g11 g12 g13 g14 g15 g17 g18 g19 g20 g21 g23 g24 g25 g26 g27 g28 g29 g30 g31 g32 g33 g34 a0 a1 a2 a3 a4 a5 a6 a7 a8 a9 a10 a11 a12 a13 a14 a15 a16 a17 a18 a19 a20 a21 a22 a23 a24 a25 a26 a27 a28 a29 a30 a31 a32 a33 a34 a35 a36 a37 a38 a39 b0 b1 b2 b3 b4 w0 G0 G2 G4 G5 G6 G7 G8 G10 G11 G12 G13 G14 G15 G16 G17 G18 A0 A1 A2 A3 A4 A5 A6 A7 A8 A9 W0 rb I
    have hl : ledF 0 a27 v 200000 0 0 = some none := by
      have h : ∀ F : Nat, ledF 0 a27 v (F + 1) 0 0 = some none := fun F => by
        rw [ledF]
        exact if_pos (by decide)
      exact h 199999
    refine ⟨1, 0, _, Or.inr ⟨rfl, fun l hlt D α sz => t_led_thr v hl 32 hlt D α sz⟩, (t_hN_X9_led v _ pn_led 39), hN_len, (t_hN_X9_thrown _ rfl 39), Or.inl (InvN.mk (rb := rb) I)⟩
  · refine hI (fun HA HB => ∃ (k w : Int32) (hB1 : xH),
      ((k = 0 ∧ xMet xks YX7_led 38 0 0 [.ref 0, .int v] HA (some (.int w)) HA) ∨ (k = 1 ∧ ∀ l : Launch, l.stackTraces = false → ∀ (D : va_G) (α : Nat → Nat) (sz : Nat), vx_Met l yX7_led (xws YX7_led) (xrm 38 1 6) (va_Pc [.ref (α 0), .int v] (fun U => xPre xks D α sz HA U ∧ nseN U)) (fun _ _ _ _ => False) (XL D α (xA α HA sz) HA) 1 6 (xA α HA sz))) ∧
      xMet xks YX9_led 40 0 0 [.ref 0, .int v] HB (some (.int w)) hB1 ∧ hB1.length ≤ 1000 ∧ xMet xks YX9_thrown 40 0 0 [.ref 0] hB1 (some (.int k)) hB1 ∧ Inv HA hB1) ?_
    intro np nu nl nc tp na nm la gu ra g7 g8 g9 g10 g11 g12 g13 g14 g15 g17 g18 g19 g20 g21 g22 g23 g24 g25 g26 g27 g28 g29 g30 g31 g32 g33 g34 a0 a1 a2 a3 a4 a5 a6 a7 a8 a9 a10 a11 a12 a13 a14 a15 a16 a17 a18 a19 a20 a21 a22 a23 a24 a25 a26 a27 a28 a29 a30 a31 a32 a33 a34 a35 a36 a37 a38 a39 b0 b1 b2 b3 b4 w0 G0 G2 G4 G5 G6 G7 G8 G10 G13 G14 G15 G16 G17 G18 G26 A0 A2 A3 A4 A5 A6 A7 A8 A9 A10 A11 A12 A13 A14 A15 A16 A17 A18 A19 A20 A21 A22 A23 B0 W0 rb I
    have hu : nu ≤ 5 := I.1.1.2.2.2.1
    rcases pr_led hu (h := a27) (t := a28) (dd := g22) (v := v) nu 0 200000 200000 0 (by omega) (by omega) (by omega) with ⟨u, e1, e2⟩ | ⟨e1, e2⟩
    · have e3 : e_hB_X9_led G0 (nn nu) (mkr a27 a28 g22) v = some (u, 0) := e2
      exact ⟨0, u, _, Or.inl ⟨rfl, t_led_ret v u e1 37⟩, (t_hB_X9_led v _ e3 39), hB_len, (t_hB_X9_thrown _ rfl 39), Or.inr (InvC.mk (rb := rb) I)⟩
    · have e3 : e_hB_X9_led G0 (nn nu) (mkr a27 a28 g22) v = some (0, 1) := e2
      exact ⟨1, 0, _, Or.inr ⟨rfl, fun l hlt D α sz => t_led_thr v e1 32 hlt D α sz⟩, (t_hB_X9_led v _ e3 39), hB_len, (t_hB_X9_thrown _ rfl 39), Or.inr (InvC.mk (rb := rb) I)⟩
