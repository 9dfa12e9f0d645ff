/-! the same worlds under other names of their places -/
def xrn (q : Nat → Nat) (c : xC) : xC := match c with
  | .inl x => .inl x
  | .inr o => .inr (o.1, o.2.map (xv q))
theorem xv_comp (α q : Nat → Nat) (v : Value) : xv α (xv q v) = xv (fun j => α (q j)) v := by
  cases v <;> rfl
theorem yNorm.of {h h' : xH} {n : Nat} (q : Nat → Nat) (hl : h'.length = n) (q0 : q 0 = 0) (qk : ∀ k, 1000 ≤ k → q k = k) (hq : ∀ i j, i < n → j < n → q i = q j → i = j) (hc : ∀ j, j < n → h[q j]? = (h'[j]?).map (xrn q)) : yNorm h h' := by
  intro D s α A H hR
  have lt : ∀ (j : Nat) (c' : xC), h'[j]? = some c' → j < n := fun j c' e => hl ▸ (List.getElem?_eq_some_iff.mp e).1
  have at' : ∀ (j : Nat) (c' : xC), h'[j]? = some c' → h[q j]? = some (xrn q c') := fun j c' e => by rw [hc j (lt j c' e), e]; rfl
  have lv : ∀ c' : xC, xlive (xrn q c') = xlive c' := fun c' => by cases c' <;> rfl
  refine ⟨fun j => α (q j), fun k hk => congrArg α (qk k hk), congrArg α q0, ⟨?_, ?_⟩, ?_⟩
  · intro i c hi hlv
    obtain ⟨h1, h2⟩ := hR.1 (q i) (xrn q c) (at' i c hi) (by rw [lv]; exact hlv)
    refine ⟨?_, h2⟩
    cases c with
    | inl x => exact h1
    | inr o =>
      obtain ⟨r, r1, r2⟩ := h1
      refine ⟨r, r1, ?_⟩
      have e : (o.2.map (xv q)).map (xv α) = o.2.map (xv (fun j => α (q j))) := by
        rw [List.map_map]
        exact List.map_congr_left (fun v _ => xv_comp α q v)
      rw [← e]
      exact r2
  · intro i j c c' hi hj h1 h2 e
    exact hq i j (lt i c hi) (lt j c' hj) (hR.2 (q i) (q j) _ _ (at' i c hi) (at' j c' hj) (by rw [lv]; exact h1) (by rw [lv]; exact h2) e)
  · intro j c' hj hlv
    exact ⟨q j, xrn q c', at' j c' hj, by rw [lv]; exact hlv, rfl⟩
theorem all_zero {P : Nat → Prop} : ∀ j, j < 0 → P j := fun _ h => absurd h (by omega)
theorem all_succ {P : Nat → Prop} {N : Nat} (h1 : ∀ j, j < N → P j) (h2 : P N) : ∀ j, j < N + 1 → P j := by
  intro j hj
  by_cases q : j = N
  · rw [q]; exact h2
  · exact h1 j (by omega)
/-- the class's counties change their places -/
def qA (j : Nat) : Nat := if 1 ≤ j ∧ j ≤ 16 then j + 18 else if 19 ≤ j ∧ j ≤ 34 then j - 18 else j
/-- the reference's new county -/
def qG (j : Nat) : Nat := if 11 ≤ j ∧ j ≤ 26 then j + 16 else j
/-- the reference's county that was not read to its end -/
def qF (j : Nat) : Nat := if j = 43 then 27 else j
theorem nA_good {g0 g1 g2 g3 g4 g5 g6 g7 g8 g9 g10 g11 g12 g13 g14 g15 g16 g17 g18 g19 g20 g21 g22 g23 g24 g25 g26 g27 g28 g29 g30 g31 g32 g33 g34 g35 g36 : Int32} {a0 a1 a2 a3 a4 a5 a6 a7 a8 a9 a10 a11 a12 a13 a14 a15 a16 a17 a18 a19 a20 a21 a22 a23 a24 a25 a26 a27 a28 a29 a30 a31 a32 a33 a34 a35 a36 a37 a38 a39 : pA} {b0 b1 b2 b3 b4 : Nat → Int64} {w0 : Int64} : yNorm (hA g0 g1 g2 g3 g4 g5 g6 g7 g8 g9 g10 g11 g12 g13 g14 g15 g16 g17 g18 g19 g20 g21 g22 g23 g24 g25 g26 g27 g28 g29 g30 g31 g32 g33 g34 g35 g36 a0 a1 a2 a3 a4 a5 a6 a7 a8 a9 a10 a11 a12 a13 a14 a15 a16 a17 a18 a19 a20 a21 a22 a23 a24 a25 a26 a27 a28 a29 a30 a31 a32 a33 a34 a35 a36 a37 a38 a39 b0 b1 b2 b3 b4 w0 (.ref 1) (.ref 19)) (hA g7 g8 g9 g10 g11 g12 g13 g0 g1 g2 g3 g4 g5 g6 g14 g15 g16 g17 g18 g19 g20 g21 g22 g23 g24 g25 g26 g27 g28 g29 g30 g31 g32 g33 g34 g35 g36 a14 a15 a16 a17 a18 a19 a20 a21 a22 a23 a24 a25 a26 a13 a0 a1 a2 a3 a4 a5 a6 a7 a8 a9 a10 a11 a12 a27 a28 a29 a30 a31 a32 a33 a34 a35 a36 a37 a38 a39 b0 b1 b2 b3 b4 w0 (.ref 19) (.ref 1)) := by
  refine yNorm.of (n := 59) qA rfl rfl (fun k hk => ?_) (fun i j hi hj e => ?_) (all_succ (all_succ (all_succ (all_succ (all_succ (all_succ (all_succ (all_succ (all_succ (all_succ (all_succ (all_succ (all_succ (all_succ (all_succ (all_succ (all_succ (all_succ (all_succ (all_succ (all_succ (all_succ (all_succ (all_succ (all_succ (all_succ (all_succ (all_succ (all_succ (all_succ (all_succ (all_succ (all_succ (all_succ (all_succ (all_succ (all_succ (all_succ (all_succ (all_succ (all_succ (all_succ (all_succ (all_succ (all_succ (all_succ (all_succ (all_succ (all_succ (all_succ (all_succ (all_succ (all_succ (all_succ (all_succ (all_succ (all_succ (all_succ (all_succ (all_zero) rfl) rfl) rfl) rfl) rfl) rfl) rfl) rfl) rfl) rfl) rfl) rfl) rfl) rfl) rfl) rfl) rfl) rfl) rfl) rfl) rfl) rfl) rfl) rfl) rfl) rfl) rfl) rfl) rfl) rfl) rfl) rfl) rfl) rfl) rfl) rfl) rfl) rfl) rfl) rfl) rfl) rfl) rfl) rfl) rfl) rfl) rfl) rfl) rfl) rfl) rfl) rfl) rfl) rfl) rfl) rfl) rfl) rfl) rfl)
  · unfold qA
    rw [if_neg (by omega), if_neg (by omega)]
  · unfold qA at e
    repeat' split at e
    all_goals omega
theorem nB_good {g0 g1 g2 g3 g4 g5 g6 g7 g8 g9 g10 g11 g12 g13 g14 g15 g16 g17 g18 g19 g20 g21 g22 g23 g24 g25 g26 : Int32} {a0 a1 a2 a3 a4 a5 a6 a7 a8 a9 a10 a11 a12 a13 a14 a15 a16 a17 a18 a19 a20 a21 a22 a23 : pA} {b0 : Nat → Int64} {w0 : Int64} {k0 k1 k2 k3 k4 k5 k6 k7 k8 k9 k10 k11 k12 k13 k14 k15 : xC} : yNorm (hP g0 g1 g2 g3 g4 g5 g6 g7 g8 g9 g10 g11 g12 g13 g14 g15 g16 g17 g18 g19 g20 g21 g22 g23 g24 g25 g26 a0 a1 a2 a3 a4 a5 a6 a7 a8 a9 a10 a11 a12 a13 a14 a15 a16 a17 a18 a19 a20 a21 a22 a23 b0 w0 k0 k1 k2 k3 k4 k5 k6 k7 k8 k9 k10 k11 k12 k13 k14 k15 (.ref 27) (.ref 27)) (hB g0 g1 g2 g3 g4 g5 g6 g7 g8 g9 g10 g11 g12 g13 g14 g15 g16 g17 g18 g19 g20 g21 g22 g23 g24 g25 g26 a0 a1 a2 a3 a4 a5 a6 a7 a8 a9 a10 a11 a12 a13 a14 a15 a16 a17 a18 a19 a20 a21 a22 a23 b0 w0 (.ref 11) (.ref 11)) := by
  refine yNorm.of (n := 27) qG rfl rfl (fun k hk => ?_) (fun i j hi hj e => ?_) (all_succ (all_succ (all_succ (all_succ (all_succ (all_succ (all_succ (all_succ (all_succ (all_succ (all_succ (all_succ (all_succ (all_succ (all_succ (all_succ (all_succ (all_succ (all_succ (all_succ (all_succ (all_succ (all_succ (all_succ (all_succ (all_succ (all_succ (all_zero) rfl) rfl) rfl) rfl) rfl) rfl) rfl) rfl) rfl) rfl) rfl) rfl) rfl) rfl) rfl) rfl) rfl) rfl) rfl) rfl) rfl) rfl) rfl) rfl) rfl) rfl) rfl)
  · unfold qG
    rw [if_neg (by omega)]
  · unfold qG at e
    repeat' split at e
    all_goals omega
theorem nB_bad {g0 g1 g2 g3 g4 g5 g6 g7 g8 g9 g10 g11 g12 g13 g14 g15 g16 g17 g18 g19 g20 g21 g22 g23 g24 g25 g26 g19' g20' g21' g22' g23' g24' g25' g26' : Int32} {a0 a1 a2 a3 a4 a5 a6 a7 a8 a9 a10 a11 a12 a13 a14 a15 a16 a17 a18 a19 a20 a21 a22 a23 a10' a11' a12' a13' a14' a15' a16' a17' a18' a19' a20' a21' a22' a23' : pA} {b0 b0' : Nat → Int64} {w0 : Int64} : yNorm (hP g0 g1 g2 g3 g4 g5 g6 g7 g8 g9 g10 g11 g12 g13 g14 g15 g16 g17 g18 g19' g20' g21' g22' g23' g24' g25' g26' a0 a1 a2 a3 a4 a5 a6 a7 a8 a9 a10' a11' a12' a13' a14' a15' a16' a17' a18' a19' a20' a21' a22' a23' b0' w0 (.inr (8, [.int g19, .int g20, .int g21, .int g22, .int g23, .int g24, .int g25, .int g26, .ref 12, .ref 13, .ref 14, .ref 15, .ref 16, .ref 17, .ref 18, .ref 19, .ref 20, .ref 21, .ref 22, .ref 23, .ref 24, .ref 25, .ref 26])) (.inl (0, 6, .inl a10)) (.inl (0, 5, .inl a11)) (.inl (0, 5, .inl a12)) (.inl (0, 5, .inl a13)) (.inl (0, 5, .inl a14)) (.inl (0, 16, .inl a15)) (.inl (0, 16, .inl a16)) (.inl (0, 16, .inl a17)) (.inl (0, 16, .inl a18)) (.inl (0, 6, .inl a19)) (.inl (0, 6, .inl a20)) (.inl (0, 6, .inl a21)) (.inl (1, 11, .inr (.inl b0))) (.inl (0, 11, .inl a22)) (.inl (0, 11, .inl a23)) (.ref 11) (.ref 27)) (hB g0 g1 g2 g3 g4 g5 g6 g7 g8 g9 g10 g11 g12 g13 g14 g15 g16 g17 g18 g19 g20 g21 g22 g23 g24 g25 g26 a0 a1 a2 a3 a4 a5 a6 a7 a8 a9 a10 a11 a12 a13 a14 a15 a16 a17 a18 a19 a20 a21 a22 a23 b0 w0 (.ref 11) (.ref 43)) := by
  refine yNorm.of (n := 27) qF rfl rfl (fun k hk => ?_) (fun i j hi hj e => ?_) (all_succ (all_succ (all_succ (all_succ (all_succ (all_succ (all_succ (all_succ (all_succ (all_succ (all_succ (all_succ (all_succ (all_succ (all_succ (all_succ (all_succ (all_succ (all_succ (all_succ (all_succ (all_succ (all_succ (all_succ (all_succ (all_succ (all_succ (all_zero) rfl) rfl) rfl) rfl) rfl) rfl) rfl) rfl) rfl) rfl) rfl) rfl) rfl) rfl) rfl) rfl) rfl) rfl) rfl) rfl) rfl) rfl) rfl) rfl) rfl) rfl) rfl)
  · unfold qF
    rw [if_neg (by omega)]
  · unfold qF at e
    repeat' split at e
    all_goals omega
theorem nN_bad {g0 g1 g2 g3 g4 g5 g6 g7 g8 g9 g10 g11 g12 g13 g14 g15 g16 g17 g18 g19' g20' g21' g22' g23' g24' g25' g26' : Int32} {a0 a1 a2 a3 a4 a5 a6 a7 a8 a9 a10' a11' a12' a13' a14' a15' a16' a17' a18' a19' a20' a21' a22' a23' : pA} {b0' : Nat → Int64} {w0 : Int64} : yNorm (hP g0 g1 g2 g3 g4 g5 g6 g7 g8 g9 g10 g11 g12 g13 g14 g15 g16 g17 g18 g19' g20' g21' g22' g23' g24' g25' g26' a0 a1 a2 a3 a4 a5 a6 a7 a8 a9 a10' a11' a12' a13' a14' a15' a16' a17' a18' a19' a20' a21' a22' a23' b0' w0 (.inr (99, [])) (.inr (99, [])) (.inr (99, [])) (.inr (99, [])) (.inr (99, [])) (.inr (99, [])) (.inr (99, [])) (.inr (99, [])) (.inr (99, [])) (.inr (99, [])) (.inr (99, [])) (.inr (99, [])) (.inr (99, [])) (.inr (99, [])) (.inr (99, [])) (.inr (99, [])) .null (.ref 27)) (hN g0 g1 g2 g3 g4 g5 g6 g7 g8 g9 g10 g11 g12 g13 g14 g15 g16 g17 g18 a0 a1 a2 a3 a4 a5 a6 a7 a8 a9 w0 .null (.ref 43)) := by
  refine yNorm.of (n := 27) qF rfl rfl (fun k hk => ?_) (fun i j hi hj e => ?_) (all_succ (all_succ (all_succ (all_succ (all_succ (all_succ (all_succ (all_succ (all_succ (all_succ (all_succ (all_succ (all_succ (all_succ (all_succ (all_succ (all_succ (all_succ (all_succ (all_succ (all_succ (all_succ (all_succ (all_succ (all_succ (all_succ (all_succ (all_zero) rfl) rfl) rfl) rfl) rfl) rfl) rfl) rfl) rfl) rfl) rfl) rfl) rfl) rfl) rfl) rfl) rfl) rfl) rfl) rfl) rfl) rfl) rfl) rfl) rfl) rfl) rfl)
  · unfold qF
    rw [if_neg (by omega)]
  · unfold qF at e
    repeat' split at e
    all_goals omega
