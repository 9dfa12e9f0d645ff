/-! led of the class: it answers, or it throws -/
noncomputable def ledF (p1 : Int32) (p2 : Nat → Int32) (f1 : Int32) : Nat → Int32 → Int32 → Option (Option Int32)
  | 0, _, _ => none
  | n + 1, l2, l3 => if p1 ≤ l3 then some none else (xix l3 5 (if p2 l3.toNatClampNeg = (-2 : Int32) then if l2 = f1 then some (some l3) else ledF p1 p2 f1 n (l2 + (1 : Int32)) (l3 + (1 : Int32)) else ledF p1 p2 f1 n l2 (l3 + (1 : Int32))))
set_option maxRecDepth 100000 in
set_option maxHeartbeats 4000000 in
theorem lp_led {g0 g1 g2 g3 g4 g5 g6 g7 g8 g9 g10 g11 g12 g13 g14 g15 g16 g17 g18 g19 g20 g21 g22 g23 g24 g25 g26 g27 g28 g29 g30 g31 g32 g33 g34 g35 g36 : Int32} {a0 a1 a2 a3 a4 a5 a6 a7 a8 a9 a10 a11 a12 a13 a14 a15 a16 a17 a18 a19 a20 a21 a22 a23 a24 a25 a26 a27 a28 a29 a30 a31 a32 a33 a34 a35 a36 a37 a38 a39 : (Nat → Int32)} {b0 b1 b2 b3 b4 : (Nat → Int64)} {w0 : Int64} {d mc ms n0 kc kz : Nat} {Z : xEnd} {f1 : Int32} {r : Option Int32}
    (kr : ∀ u l2 : Int32, r = some u → xW xks YX7_led d mc ms n0 Z kc kz 35 [some (.ref 0), some (.int f1), some (.int l2), some (.int u)] [.int u] (hA g0 g1 g2 g3 g4 g5 g6 g7 g8 g9 g10 g11 g12 g13 g14 g15 g16 g17 g18 g19 g20 g21 g22 g23 g24 g25 g26 g27 g28 g29 g30 g31 g32 g33 g34 g35 g36 a0 a1 a2 a3 a4 a5 a6 a7 a8 a9 a10 a11 a12 a13 a14 a15 a16 a17 a18 a19 a20 a21 a22 a23 a24 a25 a26 a27 a28 a29 a30 a31 a32 a33 a34 a35 a36 a37 a38 a39 b0 b1 b2 b3 b4 w0 (.ref 19) (.ref 1)))
    (kt : r = none → ∀ l2 l3 : Int32, xW xks YX7_led d mc ms n0 Z kc kz 45 [some (.ref 0), some (.int f1), some (.int l2), some (.int l3)] [] (hA g0 g1 g2 g3 g4 g5 g6 g7 g8 g9 g10 g11 g12 g13 g14 g15 g16 g17 g18 g19 g20 g21 g22 g23 g24 g25 g26 g27 g28 g29 g30 g31 g32 g33 g34 g35 g36 a0 a1 a2 a3 a4 a5 a6 a7 a8 a9 a10 a11 a12 a13 a14 a15 a16 a17 a18 a19 a20 a21 a22 a23 a24 a25 a26 a27 a28 a29 a30 a31 a32 a33 a34 a35 a36 a37 a38 a39 b0 b1 b2 b3 b4 w0 (.ref 19) (.ref 1))) :
    ∀ (n : Nat) (l2 l3 : Int32), ledF g4 a27 f1 n l2 l3 = some r → xW xks YX7_led d mc ms n0 Z kc kz 4 [some (.ref 0), some (.int f1), some (.int l2), some (.int l3)] [] (hA g0 g1 g2 g3 g4 g5 g6 g7 g8 g9 g10 g11 g12 g13 g14 g15 g16 g17 g18 g19 g20 g21 g22 g23 g24 g25 g26 g27 g28 g29 g30 g31 g32 g33 g34 g35 g36 a0 a1 a2 a3 a4 a5 a6 a7 a8 a9 a10 a11 a12 a13 a14 a15 a16 a17 a18 a19 a20 a21 a22 a23 a24 a25 a26 a27 a28 a29 a30 a31 a32 a33 a34 a35 a36 a37 a38 a39 b0 b1 b2 b3 b4 w0 (.ref 19) (.ref 1)) := by
  intro n
  induction n with
  | zero =>
    intro l2 l3 h
    cases (show (none : Option (Option Int32)) = some r from h)
  | succ n ih =>
    intro l2 l3 h
    unfold ledF at h
    refine x_iload_n dX7_led_4 rfl ?_
    refine x_aload_n dX7_led_5 rfl ?_
    refine x_get fX7_10 dX7_led_6 rfl rfl rfl ?_
    refine x_get fX7_107 dX7_led_9 rfl rfl rfl ?_
    refine x_icmp_ge 45 dX7_led_12 (by decide) (fun q => ?_) (fun q => ?_)
    · have h := xif_t q h
      exact kt (Option.some.inj h).symm l2 l3
    · have h := xif_f q h
      refine x_aload_n dX7_led_15 rfl ?_
      refine x_get fX7_36 dX7_led_16 rfl rfl rfl ?_
      refine x_get fX7_126 dX7_led_19 rfl rfl rfl ?_
      refine x_iload_n dX7_led_22 rfl ?_
      obtain ⟨q23, h⟩ := xix_of h
      refine x_iald dX7_led_23 rfl q23 ?_
      refine x_bipush (-2 : Int32) dX7_led_24 (by decide) ?_
      refine x_icmp_ne 39 dX7_led_26 (by decide) (fun q => ?_) (fun q => ?_)
      · have h := xif_f q h
        refine x_iincK (1 : Int32) (pl' := [some (.ref 0), some (.int f1), some (.int l2), some (.int (l3 + (1 : Int32)))]) dX7_led_39 rfl (by decide) (by decide) rfl ?_
        refine x_goto 4 dX7_led_42 (by decide) ?_
        exact ih l2 (l3 + (1 : Int32)) h
      · have h := xif_t q h
        refine x_iload_n dX7_led_29 rfl ?_
        refine x_iload_n dX7_led_30 rfl ?_
        refine x_icmp_ne 36 dX7_led_31 (by decide) (fun q => ?_) (fun q => ?_)
        · have h := xif_f q h
          refine x_iincK (1 : Int32) (pl' := [some (.ref 0), some (.int f1), some (.int (l2 + (1 : Int32))), some (.int l3)]) dX7_led_36 rfl (by decide) (by decide) rfl ?_
          refine x_iincK (1 : Int32) (pl' := [some (.ref 0), some (.int f1), some (.int (l2 + (1 : Int32))), some (.int (l3 + (1 : Int32)))]) dX7_led_39 rfl (by decide) (by decide) rfl ?_
          refine x_goto 4 dX7_led_42 (by decide) ?_
          exact ih (l2 + (1 : Int32)) (l3 + (1 : Int32)) h
        · have h := xif_t q h
          refine x_iload_n dX7_led_34 rfl ?_
          exact kr l3 l2 (Option.some.inj h).symm
set_option maxRecDepth 100000 in
set_option maxHeartbeats 4000000 in
theorem pre_led {g0 g1 g2 g3 g4 g5 g6 g7 g8 g9 g10 g11 g12 g13 g14 g15 g16 g17 g18 g19 g20 g21 g22 g23 g24 g25 g26 g27 g28 g29 g30 g31 g32 g33 g34 g35 g36 : Int32} {a0 a1 a2 a3 a4 a5 a6 a7 a8 a9 a10 a11 a12 a13 a14 a15 a16 a17 a18 a19 a20 a21 a22 a23 a24 a25 a26 a27 a28 a29 a30 a31 a32 a33 a34 a35 a36 a37 a38 a39 : (Nat → Int32)} {b0 b1 b2 b3 b4 : (Nat → Int64)} {w0 : Int64} {d mc ms n0 kc kz : Nat} {Z : xEnd} {f1 : Int32}
    (k : xW xks YX7_led d mc ms n0 Z kc kz 4 [some (.ref 0), some (.int f1), some (.int (0 : Int32)), some (.int (0 : Int32))] [] (hA g0 g1 g2 g3 g4 g5 g6 g7 g8 g9 g10 g11 g12 g13 g14 g15 g16 g17 g18 g19 g20 g21 g22 g23 g24 g25 g26 g27 g28 g29 g30 g31 g32 g33 g34 g35 g36 a0 a1 a2 a3 a4 a5 a6 a7 a8 a9 a10 a11 a12 a13 a14 a15 a16 a17 a18 a19 a20 a21 a22 a23 a24 a25 a26 a27 a28 a29 a30 a31 a32 a33 a34 a35 a36 a37 a38 a39 b0 b1 b2 b3 b4 w0 (.ref 19) (.ref 1))) : xW xks YX7_led d mc ms n0 Z kc kz 0 [some (.ref 0), some (.int f1), none, none] [] (hA g0 g1 g2 g3 g4 g5 g6 g7 g8 g9 g10 g11 g12 g13 g14 g15 g16 g17 g18 g19 g20 g21 g22 g23 g24 g25 g26 g27 g28 g29 g30 g31 g32 g33 g34 g35 g36 a0 a1 a2 a3 a4 a5 a6 a7 a8 a9 a10 a11 a12 a13 a14 a15 a16 a17 a18 a19 a20 a21 a22 a23 a24 a25 a26 a27 a28 a29 a30 a31 a32 a33 a34 a35 a36 a37 a38 a39 b0 b1 b2 b3 b4 w0 (.ref 19) (.ref 1)) := by
  refine x_iconst (0 : Int32) dX7_led_0 (by decide) ?_
  refine x_istore_n (pl' := [some (.ref 0), some (.int f1), some (.int (0 : Int32)), none]) dX7_led_1 (by decide) rfl ?_
  refine x_iconst (0 : Int32) dX7_led_2 (by decide) ?_
  refine x_istore_n (pl' := [some (.ref 0), some (.int f1), some (.int (0 : Int32)), some (.int (0 : Int32))]) dX7_led_3 (by decide) rfl ?_
  exact k
set_option maxRecDepth 100000 in
theorem t_led_ret {g0 g1 g2 g3 g4 g5 g6 g7 g8 g9 g10 g11 g12 g13 g14 g15 g16 g17 g18 g19 g20 g21 g22 g23 g24 g25 g26 g27 g28 g29 g30 g31 g32 g33 g34 g35 g36 : Int32} {a0 a1 a2 a3 a4 a5 a6 a7 a8 a9 a10 a11 a12 a13 a14 a15 a16 a17 a18 a19 a20 a21 a22 a23 a24 a25 a26 a27 a28 a29 a30 a31 a32 a33 a34 a35 a36 a37 a38 a39 : (Nat → Int32)} {b0 b1 b2 b3 b4 : (Nat → Int64)} {w0 : Int64} (x1 u : Int32) (h : ledF g4 a27 x1 200000 0 0 = some (some u)) (d : Nat) : xMet xks YX7_led (d + 1) 0 0 [.ref 0, .int x1] (hA g0 g1 g2 g3 g4 g5 g6 g7 g8 g9 g10 g11 g12 g13 g14 g15 g16 g17 g18 g19 g20 g21 g22 g23 g24 g25 g26 g27 g28 g29 g30 g31 g32 g33 g34 g35 g36 a0 a1 a2 a3 a4 a5 a6 a7 a8 a9 a10 a11 a12 a13 a14 a15 a16 a17 a18 a19 a20 a21 a22 a23 a24 a25 a26 a27 a28 a29 a30 a31 a32 a33 a34 a35 a36 a37 a38 a39 b0 b1 b2 b3 b4 w0 (.ref 19) (.ref 1)) (some (.int u)) (hA g0 g1 g2 g3 g4 g5 g6 g7 g8 g9 g10 g11 g12 g13 g14 g15 g16 g17 g18 g19 g20 g21 g22 g23 g24 g25 g26 g27 g28 g29 g30 g31 g32 g33 g34 g35 g36 a0 a1 a2 a3 a4 a5 a6 a7 a8 a9 a10 a11 a12 a13 a14 a15 a16 a17 a18 a19 a20 a21 a22 a23 a24 a25 a26 a27 a28 a29 a30 a31 a32 a33 a34 a35 a36 a37 a38 a39 b0 b1 b2 b3 b4 w0 (.ref 19) (.ref 1)) := by
  refine xMet_of (pl := [some (.ref 0), some (.int x1), none, none]) (by decide) (Nat.le_of_ble_eq_true rfl) rfl (Nat.le_of_ble_eq_true rfl) ?_
  refine pre_led (lp_led (r := some u) (fun v l2 e => ?_) (fun e => nomatch e) 200000 0 0 h)
  cases e
  exact x_iret2 dX7_led_35 rfl rfl
/-- words on NoSuchElementException that a warm-up doesn't keep by itself -/
def nseN (U : State) : Prop := va_Nw (.declares (Bundle.initS rte)) U ∧ va_Nw (.declares (Bundle.initS exc)) U ∧ va_Nw (.declares (Bundle.initS Bundle.tN)) U ∧ va_Nw (.castable nse nse) U
theorem nseN.to {s U : State} (h : nseN s) (hW : s.WarmedH U.vm) : nseN U := ⟨va_Nw.warmD hW h.1, va_Nw.warmD hW h.2.1, va_Nw.warmD hW h.2.2.1, va_Nw.warmC hW h.2.2.2⟩
theorem nseN.same {s U : State} (h : nseN s) (e : s.vm = U.vm) : nseN U := ⟨va_Nw.same rfl e h.1, va_Nw.same rfl e h.2.1, va_Nw.same rfl e h.2.2.1, va_Nw.same rfl e h.2.2.2⟩
def noTab (s : State) : Prop := ∀ (m : MethodId) (a : Array Value) (b : List Frame) (meth : Method) (c : Code), s.frames = .invoking m a :: b → s.vm.method? m = some meth → meth.code = some c → ∀ x ∈ c.exceptionTable.toList, False
/-- where led has thrown: the world stands as it was -/
def XL (D : va_G) (α : Nat → Nat) (A : Nat → Prop) (h : xH) : String → State → State → Prop := fun E st t => E = nse ∧ va_F A st t ∧ xR D t α A h t.heap
def Zt (h : xH) : xEnd := fun s args below D A α0 t => nseN s → noTab s → vx_MQ below (fun _ _ _ _ => False) (XL D α0 A h) args s 1 6 A t
def nseB : List Cond := [.declares (Bundle.initS rte), .declares (Bundle.initS exc), .declares (Bundle.initS Bundle.tN), .castable nse nse]
theorem nse_good : ∀ w ∈ ((nseW RX7 291).filter vx_no).filter goodWord, w ∈ xT := by decide +kernel
theorem nse_bad : ∀ w ∈ ((nseW RX7 291).filter vx_no).filter (fun w => !goodWord w), w ∈ nseB := by decide +kernel
theorem nse_k : Cond.classLink RX7 287 nse ∈ xT := by decide +kernel
theorem nse_i : Cond.initialized nse ∈ xT := by decide +kernel
theorem nse_ot : ∀ w ∈ Cond.classLink RX7 287 nse :: Cond.initialized nse :: (nseW RX7 291).filter vx_no, vx_ot w = true := by decide +kernel
theorem thr_led {d n0 kc kz : Nat} {pl : List (Option Value)} {h : xH} (hd : 6 ≤ d) (hn : n0 = h.length) (hk : 1 ≤ kc) (hz : 6 ≤ kz) : xW xks YX7_led d 1 6 n0 (Zt h) kc kz 45 pl [] h := by
  subst hn
  intro p l e s m args below meth c D A α0 α H locs cells slots ls C E R S L hr T hT X
  by_cases hN : nseN s ∧ noTab s
  · have ea : α = α0 := funext fun i => E.1.2 i (by omega)
    subst ea
    have hts := x_hts C
    have hSt : xSt xks α A s := C.2.2.2.2.2.2.2.2.2.2.1
    obtain ⟨h0, g1, g2, g3, g4⟩ := hSt
    obtain ⟨v1, _⟩ := h0 0 _ rfl
    obtain ⟨t, a1, b1⟩ := nse_throwW (p := p) (l := l) (e := e) (R := xrm d 1 6) (s := s) (m := m) (args := args) (below := below) (meth := meth) (c := c) (H := H) (locs := locs) (cells := cells) (slots := slots) (ls := ls) (rest := []) (free := A) (XC := XL D α A h) (Qc := fun _ _ _ _ => False) (mc := 1) (ms := 6) (A := A) (cc := cX7_led) (pc := 45) (own := RX7) (ik := 287) (is := 289) (ic := 291) C.1 C.2.1 C.2.2.2.2.2.2.2.2.2.2.2.2 C.2.2.2.2.1 (hts _ nse_k) (hts _ nse_i) v1
      (vx_hat (B := nseB) (fun w hw => hts w (nse_good w hw)) nse_bad (vx_c (va_Nw.use rfl hN.1.1) (vx_c (va_Nw.use rfl hN.1.2.1) (vx_c (va_Nw.use rfl hN.1.2.2.1) (vx_c (va_Nw.use rfl hN.1.2.2.2) vx_n)))))
      nse_ot g3 g4 S (by rw [C.2.2.2.1]; exact L.1) dX7_led_45 dX7_led_48 dX7_led_49 dX7_led_52 dX7_led_55
      (fun x hx => (hN.2 m args below meth c X.frames X.method X.code x hx).elim) (by show 5 < d; omega) (by show 0 + 82 ≤ 64 * d; omega) (by show cells + 1 ≤ 1; omega) (by show slots + 6 ≤ 6; omega) C.2.2.2.2.2.2.1
      (fun t hv h1 h2 => ⟨rfl, ⟨Nat.le_trans S.1 h1, fun q q1 q2 => (h2 q (Nat.lt_of_lt_of_le q1 S.1)).trans (S.2.1 q q1 q2)⟩, ⟨fun i c hi hl => ⟨((R.1 i c hi hl).1.kept (h2 _ (R.1 i c hi hl).1.lt)).moved hv, (R.1 i c hi hl).2⟩, R.2⟩⟩)
      S.2.2 (by omega) (by omega) T hT X
    exact ⟨t, a1, fun _ _ => b1⟩
  · exact ⟨_, Steps.refl _, fun h1 h2 => absurd ⟨h1, h2⟩ hN⟩
set_option maxRecDepth 100000 in
theorem t_led_thr {g0 g1 g2 g3 g4 g5 g6 g7 g8 g9 g10 g11 g12 g13 g14 g15 g16 g17 g18 g19 g20 g21 g22 g23 g24 g25 g26 g27 g28 g29 g30 g31 g32 g33 g34 g35 g36 : Int32} {a0 a1 a2 a3 a4 a5 a6 a7 a8 a9 a10 a11 a12 a13 a14 a15 a16 a17 a18 a19 a20 a21 a22 a23 a24 a25 a26 a27 a28 a29 a30 a31 a32 a33 a34 a35 a36 a37 a38 a39 : (Nat → Int32)} {b0 b1 b2 b3 b4 : (Nat → Int64)} {w0 : Int64} (x1 : Int32) (h : ledF g4 a27 x1 200000 0 0 = some none) (d : Nat) {l : Launch} (hlt : l.stackTraces = false) (D : va_G) (α : Nat → Nat) (sz : Nat) :
    vx_Met l yX7_led (xws YX7_led) (xrm (d + 6) 1 6) (va_Pc [.ref (α 0), .int x1] (fun U => xPre xks D α sz (hA g0 g1 g2 g3 g4 g5 g6 g7 g8 g9 g10 g11 g12 g13 g14 g15 g16 g17 g18 g19 g20 g21 g22 g23 g24 g25 g26 g27 g28 g29 g30 g31 g32 g33 g34 g35 g36 a0 a1 a2 a3 a4 a5 a6 a7 a8 a9 a10 a11 a12 a13 a14 a15 a16 a17 a18 a19 a20 a21 a22 a23 a24 a25 a26 a27 a28 a29 a30 a31 a32 a33 a34 a35 a36 a37 a38 a39 b0 b1 b2 b3 b4 w0 (.ref 19) (.ref 1)) U ∧ nseN U)) (fun _ _ _ _ => False) (XL D α (xA α (hA g0 g1 g2 g3 g4 g5 g6 g7 g8 g9 g10 g11 g12 g13 g14 g15 g16 g17 g18 g19 g20 g21 g22 g23 g24 g25 g26 g27 g28 g29 g30 g31 g32 g33 g34 g35 g36 a0 a1 a2 a3 a4 a5 a6 a7 a8 a9 a10 a11 a12 a13 a14 a15 a16 a17 a18 a19 a20 a21 a22 a23 a24 a25 a26 a27 a28 a29 a30 a31 a32 a33 a34 a35 a36 a37 a38 a39 b0 b1 b2 b3 b4 w0 (.ref 19) (.ref 1)) sz) (hA g0 g1 g2 g3 g4 g5 g6 g7 g8 g9 g10 g11 g12 g13 g14 g15 g16 g17 g18 g19 g20 g21 g22 g23 g24 g25 g26 g27 g28 g29 g30 g31 g32 g33 g34 g35 g36 a0 a1 a2 a3 a4 a5 a6 a7 a8 a9 a10 a11 a12 a13 a14 a15 a16 a17 a18 a19 a20 a21 a22 a23 a24 a25 a26 a27 a28 a29 a30 a31 a32 a33 a34 a35 a36 a37 a38 a39 b0 b1 b2 b3 b4 w0 (.ref 19) (.ref 1))) 1 6 (xA α (hA g0 g1 g2 g3 g4 g5 g6 g7 g8 g9 g10 g11 g12 g13 g14 g15 g16 g17 g18 g19 g20 g21 g22 g23 g24 g25 g26 g27 g28 g29 g30 g31 g32 g33 g34 g35 g36 a0 a1 a2 a3 a4 a5 a6 a7 a8 a9 a10 a11 a12 a13 a14 a15 a16 a17 a18 a19 a20 a21 a22 a23 a24 a25 a26 a27 a28 a29 a30 a31 a32 a33 a34 a35 a36 a37 a38 a39 b0 b1 b2 b3 b4 w0 (.ref 19) (.ref 1)) sz) := by
  refine vx_ofW (cc := cX7_led) (maxL := 4) (ret := some .int) (ws' := xT) (by decide) rfl ?_
  intro p e s m args below meth c s₁ B hml hx hv
  obtain ⟨rfl, ⟨hsz, hR, hK, hSt, hN⟩, hNN⟩ := hv
  subst hsz
  have hin := (name_of_methodNamed B.named B.method).1
  have C : xCx xks YX7_led p l s m ([.ref (α 0), .int x1] : List Value).toArray meth c D (xA α (hA g0 g1 g2 g3 g4 g5 g6 g7 g8 g9 g10 g11 g12 g13 g14 g15 g16 g17 g18 g19 g20 g21 g22 g23 g24 g25 g26 g27 g28 g29 g30 g31 g32 g33 g34 g35 g36 a0 a1 a2 a3 a4 a5 a6 a7 a8 a9 a10 a11 a12 a13 a14 a15 a16 a17 a18 a19 a20 a21 a22 a23 a24 a25 a26 a27 a28 a29 a30 a31 a32 a33 a34 a35 a36 a37 a38 a39 b0 b1 b2 b3 b4 w0 (.ref 19) (.ref 1)) s.heap.size) α := ⟨B.exec, B.bytes, B.returns, hml, findClass_of_methodNamed B.named, atoms_spec (ws := xws YX7_led) B.pre, B.notSynchronized, hin, hK, fun q hq => Or.inr hq, hSt, hN, hlt⟩
  have hlv := lv_entry [.ref (α 0), .int x1] (n := 4) (Nat.le_of_ble_eq_true rfl)
  rw [lg_entry_eq]
  generalize (lg_sl [.ref (α 0), .int x1] ++ List.replicate (4 - (lg_sl [.ref (α 0), .int x1]).length) Slot.unset).toArray = ls at hlv ⊢
  have hL : lv_has ls 4 (xas α 0 [some (.ref 0), some (.int x1), none, none]) := ⟨hlv.1, hlv.2.1, fun q hq => hlv.2.2 q (by simpa [xas, xv, lv_args, Value.category] using hq)⟩
  have k : xW xks YX7_led (d + 6) 1 6 (List.length (hA g0 g1 g2 g3 g4 g5 g6 g7 g8 g9 g10 g11 g12 g13 g14 g15 g16 g17 g18 g19 g20 g21 g22 g23 g24 g25 g26 g27 g28 g29 g30 g31 g32 g33 g34 g35 g36 a0 a1 a2 a3 a4 a5 a6 a7 a8 a9 a10 a11 a12 a13 a14 a15 a16 a17 a18 a19 a20 a21 a22 a23 a24 a25 a26 a27 a28 a29 a30 a31 a32 a33 a34 a35 a36 a37 a38 a39 b0 b1 b2 b3 b4 w0 (.ref 19) (.ref 1))) (Zt (hA g0 g1 g2 g3 g4 g5 g6 g7 g8 g9 g10 g11 g12 g13 g14 g15 g16 g17 g18 g19 g20 g21 g22 g23 g24 g25 g26 g27 g28 g29 g30 g31 g32 g33 g34 g35 g36 a0 a1 a2 a3 a4 a5 a6 a7 a8 a9 a10 a11 a12 a13 a14 a15 a16 a17 a18 a19 a20 a21 a22 a23 a24 a25 a26 a27 a28 a29 a30 a31 a32 a33 a34 a35 a36 a37 a38 a39 b0 b1 b2 b3 b4 w0 (.ref 19) (.ref 1))) 1 6 0 [some (.ref 0), some (.int x1), none, none] [] (hA g0 g1 g2 g3 g4 g5 g6 g7 g8 g9 g10 g11 g12 g13 g14 g15 g16 g17 g18 g19 g20 g21 g22 g23 g24 g25 g26 g27 g28 g29 g30 g31 g32 g33 g34 g35 g36 a0 a1 a2 a3 a4 a5 a6 a7 a8 a9 a10 a11 a12 a13 a14 a15 a16 a17 a18 a19 a20 a21 a22 a23 a24 a25 a26 a27 a28 a29 a30 a31 a32 a33 a34 a35 a36 a37 a38 a39 b0 b1 b2 b3 b4 w0 (.ref 19) (.ref 1)) :=
    pre_led (lp_led (r := none) (fun u l2 e => nomatch e) (fun _ l2 l3 => thr_led (by omega) rfl (Nat.le_refl _) (Nat.le_refl _)) 200000 0 0 h)
  have nt : noTab s := by
    intro m2 a2 b2 meth2 c2 h1 h2 h3 x hx2
    have hf := (Stand.of_body B).frames
    rw [hf] at h1
    cases h1
    cases Option.some.inj (h2.symm.trans (Stand.of_body B).method)
    cases Option.some.inj (h3.symm.trans (Stand.of_body B).code)
    exact hx x hx2
  intro T hT X
  obtain ⟨t, a1, b1⟩ := k p l e s m _ below meth c D (xA α (hA g0 g1 g2 g3 g4 g5 g6 g7 g8 g9 g10 g11 g12 g13 g14 g15 g16 g17 g18 g19 g20 g21 g22 g23 g24 g25 g26 g27 g28 g29 g30 g31 g32 g33 g34 g35 g36 a0 a1 a2 a3 a4 a5 a6 a7 a8 a9 a10 a11 a12 a13 a14 a15 a16 a17 a18 a19 a20 a21 a22 a23 a24 a25 a26 a27 a28 a29 a30 a31 a32 a33 a34 a35 a36 a37 a38 a39 b0 b1 b2 b3 b4 w0 (.ref 19) (.ref 1)) s.heap.size) α α s.heap [] 0 0 ls C ⟨⟨Nat.le_refl _, fun _ _ => rfl⟩, Nat.le_of_ble_eq_true rfl⟩ hR va_S.rf hL (by omega) T hT X
  exact ⟨t, a1, b1 hNN nt⟩
