/-! the law: its end, its loop -/
/-! THE CLAIM OUT OF ONE WALK OF THE LAW'S BODY. Your part is whole_start (and what it stands on); all else here is the same for every law, but numbers. -/
def R_law : String := "UmbrellaHeirLaw"
def lw_P (b : Addr) (xs : List Int32) (args : Array Value) (s : State) : Prop := args = #[.ref b] ∧ s.IntsAt b xs ∧ xs.length ≤ 3072 ∧ (Jvm.Cond.and given_1 narrow_1).before args s = true
def lw_Q (_ : Array Value) (s : State) (o : Outcome) (t : State) : Prop := o = .returned (some (.int 1)) ∧ Framed s o t [] 601024 7293034
def lw_Z (below : List Frame) (a : Array Value) (s : State) : State → Prop := fun t => ∃ o, t.status = .running ∧ Ended t below o ∧ lw_Q a s o t
/-- the law's own end, with 1 on the stack, nothing written that was there before, its room as the claim has it -/
theorem lw_ret {p : Program} {l : Launch} {e : Env} {s : State} {m : MethodId} {below : List Frame} {meth : Method} {c : Code} {b : Nat} (hx : p.tables.exec = Jvm.exec) (hb : c.code = code) (hr : meth.sig.returnType = ret) (hlocks : meth.locks = false) {pc : Nat} {H : Heap} {ls : Array Slot} (hdg : decode code pc = .ok (.ireturn, 1)) : W p l e room_1 s m #[Value.ref b] below meth c H [] 601024 7293034 (lw_Z below #[Value.ref b] s) (F0 m pc ls [.int 1]) := by
  intro T hT X
  obtain ⟨fs, hret, hrun, hended, hW, hframe⟩ := X.leave (v := some (.int 1)) (hlocks := hlocks) (fun h => by rw [hr] at h; cases h)
  have hmeth' : T.vm.method? m = some meth := X.method'
  refine ⟨T.setFrames fs, ?_, .returned (some (.int 1)), hrun, hended, rfl, ⟨_, rfl⟩, hW, hframe⟩
  jvm_step X.here [X.here.top, hx, hb, hdg, hmeth', hr, ret, narrow_b1]
  (try refine ⟨rfl, ?_⟩); (try refine ⟨rfl, ?_⟩)
  first | (intro acts; rw [hret _ acts rfl rfl rfl]) | rw [hret _ _ rfl rfl rfl]
  exact Steps.refl _
/-- what holds at the law's entry: the machine, the code, the tables' words (any of lw_tbl by 'hts w (by decide +kernel)'), the script of L ints xs at the cell b, what the Statement gives of the start (any of its parts by flat_of_before) -/
def lw_At (p : Program) (s : State) (m : MethodId) (meth : Method) (c : Code) (b L : Nat) (xs : Nat → Int32) : Prop :=
  p.tables.exec = Jvm.exec ∧ c.code = code ∧ meth.sig.returnType = ret ∧ c.maxLocals = 7 ∧ s.vm.findClass R_law = some m.cls ∧ (∀ w ∈ lw_tbl, w.before #[Value.ref b] s = true) ∧ va_X b L xs s s.heap ∧ b < s.heap.size ∧ meth.locks = false ∧ (Jvm.Cond.and given_1 narrow_1).before #[Value.ref b] s = true
theorem and63 (x : Int32) : ∃ n, n < 64 ∧ x &&& 63 = nn n := by
  refine ⟨(x.toBitVec &&& 63#32).toNat, ?_, ?_⟩
  · rw [BitVec.toNat_and]
    exact Nat.and_lt_two_pow _ (show (63#32).toNat < 2 ^ 6 by decide)
  · apply Int32.toBitVec_inj.1
    rw [Int32.toBitVec_and, show (63 : Int32).toBitVec = 63#32 from rfl]
    apply BitVec.eq_of_toNat_eq
    show _ = (BitVec.ofNat 32 _).toNat
    rw [BitVec.toNat_ofNat, Nat.mod_eq_of_lt (BitVec.isLt _)]
theorem below6 : ∀ a : Fin 6, nn a.val - 6 < 0 := by decide
theorem lcmp6 {L j : Nat} (hL : L ≤ 3072) (hj : j ≤ 3072) : (nn L - 6 < nn j) ↔ L < j + 6 := by
  by_cases h6 : 6 ≤ L
  · rw [show (6 : Int32) = nn 6 from rfl, nn_sub h6, nn_lt (by omega) (by omega)]
    omega
  · exact ⟨fun _ => by omega, fun _ => Int32.lt_of_lt_of_le (below6 ⟨L, by omega⟩) (nn_ge0 (by omega))⟩
theorem hin6 {L k : Nat} (hL : L ≤ 3072) (h : 6 * k + 6 ≤ L) : ∀ j : Int32, 0 ≤ j.toInt → j.toInt < 6 → vp_in (nn (6 * k) + j) L := by
  intro j h1 h2
  obtain ⟨i, hi, rfl⟩ := nn_of (x := j) (n := 6) (Int32.le_iff_toInt_le.mpr h1) (Int32.lt_iff_toInt_lt.mpr h2) (by omega)
  rw [nn_add]
  exact vp_in_nI (n := 6 * k + i) (by omega) (by omega)
section LLOOP
variable {p : Program} {l : Launch} {e : Env} {s : State} {m : MethodId} {below : List Frame} {meth : Method} {c : Code} {D : va_G} {A : Nat → Prop} {x y o b L : Nat} {xs : Nat → Int32}
theorem law_out (C : yCx p l s m #[Value.ref b] meth c D A) (hr : meth.sig.returnType = ret) (hlocks : meth.locks = false) (hA2 : ∀ q, A q → s.heap.size ≤ q) {H : Heap} {locs : List Loc} {cells slots : Nat} {ls : Array Slot} (hS : va_S A s.heap H locs) (hc : cells ≤ 601024) (hz : slots ≤ 7293034) :
    W p l e room_1 s m #[Value.ref b] below meth c H locs cells slots (lw_Z below #[Value.ref b] s) (F0 m 1764 ls []) := by
  refine lv_iconst (v := 1) C.1 C.2.1 dL_law_1764 (by decide) ?_
  refine va_forget (fun q hq => hA2 _ (hS.2.2 q hq)) ?_
  refine W.widen (k := 601024) (n := 7293034) hc hz ?_
  exact lw_ret C.1 C.2.1 hr hlocks dL_law_1765
set_option maxHeartbeats 4000000 in
set_option maxRecDepth 100000 in
theorem law_case (C : yCx p l s m #[Value.ref b] meth c D A) (hX : va_X b L xs s s.heap) (hbl : b < s.heap.size) (hbA : ¬ A b) {Q : State → Prop} {H : Heap} {locs : List Loc} {cells slots : Nat} {ls : Array Slot} {xi : Int32} {w : Nat} (hw : w < 64) (hin : ∀ j : Int32, 0 ≤ j.toInt → j.toInt < 6 → vp_in (xi + j) L) (hY : yI Inv D s A x y o H) (hS : va_S A s.heap H locs) (hl : lv_has ls 7 [(0, .ref b), (1, .ref x), (2, .ref y), (3, .ref o), (4, .int xi)]) (hrm : cells + 16 ≤ 601024 ∧ slots + 164 ≤ 7293034)
    (nx : ∀ (ls1 : Array Slot) (H1 : Heap) (locs1 : List Loc), lv_has ls1 7 [(0, .ref b), (1, .ref x), (2, .ref y), (3, .ref o), (4, .int xi)] → yI Inv D s A x y o H1 → va_S A s.heap H1 locs1 → W p l e room_1 s m #[Value.ref b] below meth c H1 locs1 (cells + 16) (slots + 164) Q (F0 m 1758 ls1 [])) :
    W p l e room_1 s m #[Value.ref b] below meth c H locs cells slots Q (F0 m 40 ls [.int (nn w)]) := by
  have hx := C.1
  have hb := C.2.1
  by_cases h48 : 48 < w
  · refine lv_tableOut (tgt := 1758) hx hb dL_law_40 (Or.inr (by rw [nn_int (by omega)]; omega)) (by decide) ?_
    refine W.widen (k := cells + 16) (n := slots + 164) (by omega) (by omega) ?_
    exact nx ls H locs hl hY hS
  · rcases (show w = 0 ∨ w = 1 ∨ w = 2 ∨ w = 3 ∨ w = 4 ∨ w = 5 ∨ w = 6 ∨ w = 7 ∨ w = 8 ∨ w = 9 ∨ w = 10 ∨ w = 11 ∨ w = 12 ∨ w = 13 ∨ w = 14 ∨ w = 15 ∨ w = 16 ∨ w = 17 ∨ w = 18 ∨ w = 19 ∨ w = 20 ∨ w = 21 ∨ w = 22 ∨ w = 23 ∨ w = 24 ∨ w = 25 ∨ w = 26 ∨ w = 27 ∨ w = 28 ∨ w = 29 ∨ w = 30 ∨ w = 31 ∨ w = 32 ∨ w = 33 ∨ w = 34 ∨ w = 35 ∨ w = 36 ∨ w = 37 ∨ w = 38 ∨ w = 39 ∨ w = 40 ∨ w = 41 ∨ w = 42 ∨ w = 43 ∨ w = 44 ∨ w = 45 ∨ w = 46 ∨ w = 47 ∨ w = 48 by omega) with rfl | rfl | rfl | rfl | rfl | rfl | rfl | rfl | rfl | rfl | rfl | rfl | rfl | rfl | rfl | rfl | rfl | rfl | rfl | rfl | rfl | rfl | rfl | rfl | rfl | rfl | rfl | rfl | rfl | rfl | rfl | rfl | rfl | rfl | rfl | rfl | rfl | rfl | rfl | rfl | rfl | rfl | rfl | rfl | rfl | rfl | rfl | rfl | rfl
    · refine lv_tableIn (off := 212) (tgt := 252) hx hb dL_law_40 (by decide) (by decide) (by decide) (by decide) ?_
      exact lawc_feed C yTop_Inv sim_feed hX hbl hbA hin hY hS hl hrm (fun H1 locs1 g1 g2 => nx ls H1 locs1 hl g1 g2)
    · refine lv_tableIn (off := 285) (tgt := 325) hx hb dL_law_40 (by decide) (by decide) (by decide) (by decide) ?_
      exact lawc_county C yTop_Inv sim_county hX hbl hbA hin hY hS hl hrm (fun H1 locs1 g1 g2 => nx ls H1 locs1 hl g1 g2)
    · refine lv_tableIn (off := 310) (tgt := 350) hx hb dL_law_40 (by decide) (by decide) (by decide) (by decide) ?_
      exact lawc_fault C yTop_Inv sim_fault hX hbl hbA hin hY hS hl hrm (fun H1 locs1 g1 g2 => nx ls H1 locs1 hl g1 g2)
    · refine lv_tableIn (off := 323) (tgt := 363) hx hb dL_law_40 (by decide) (by decide) (by decide) (by decide) ?_
      exact lawc_where C yTop_Inv sim_where hX hbl hbA hin hY hS hl hrm (fun H1 locs1 g1 g2 => nx ls H1 locs1 hl g1 g2)
    · refine lv_tableIn (off := 336) (tgt := 376) hx hb dL_law_40 (by decide) (by decide) (by decide) (by decide) ?_
      exact lawc_umbrella C yTop_Inv sim_umbrella hX hbl hbA hin hY hS hl hrm (fun H1 locs1 g1 g2 => nx ls H1 locs1 hl g1 g2)
    · refine lv_tableIn (off := 373) (tgt := 413) hx hb dL_law_40 (by decide) (by decide) (by decide) (by decide) ?_
      exact lawc_person C yTop_Inv sim_person hX hbl hbA hin hY hS hl hrm (fun H1 locs1 g1 g2 => nx ls H1 locs1 hl g1 g2)
    · refine lv_tableIn (off := 410) (tgt := 450) hx hb dL_law_40 (by decide) (by decide) (by decide) (by decide) ?_
      exact lawc_alike C yTop_Inv sim_alike hX hbl hbA hin hY hS hl hrm (fun H1 locs1 g1 g2 => nx ls H1 locs1 hl g1 g2)
    · refine lv_tableIn (off := 435) (tgt := 475) hx hb dL_law_40 (by decide) (by decide) (by decide) (by decide) ?_
      exact lawc_right C yTop_Inv sim_right hX hbl hbA hin hY hS hl hrm (fun H1 locs1 g1 g2 => nx ls H1 locs1 hl g1 g2)
    · refine lv_tableIn (off := 448) (tgt := 488) hx hb dL_law_40 (by decide) (by decide) (by decide) (by decide) ?_
      exact lawc_richest C yTop_Inv sim_richest hX hbl hbA hin hY hS hl hrm (fun H1 locs1 g1 g2 => nx ls H1 locs1 hl g1 g2)
    · refine lv_tableIn (off := 461) (tgt := 501) hx hb dL_law_40 (by decide) (by decide) (by decide) (by decide) ?_
      exact lawc_hasIt C yTop_Inv sim_hasIt hX hbl hbA hin hY hS hl hrm (fun H1 locs1 g1 g2 => nx ls H1 locs1 hl g1 g2)
    · refine lv_tableIn (off := 498) (tgt := 538) hx hb dL_law_40 (by decide) (by decide) (by decide) (by decide) ?_
      exact lawc_titleOf C yTop_Inv sim_titleOf hX hbl hbA hin hY hS hl hrm (fun H1 locs1 g1 g2 => nx ls H1 locs1 hl g1 g2)
    · refine lv_tableIn (off := 535) (tgt := 575) hx hb dL_law_40 (by decide) (by decide) (by decide) (by decide) ?_
      exact lawc_landsOf C yTop_Inv sim_landsOf hX hbl hbA hin hY hS hl hrm (fun H1 locs1 g1 g2 => nx ls H1 locs1 hl g1 g2)
    · refine lv_tableIn (off := 572) (tgt := 612) hx hb dL_law_40 (by decide) (by decide) (by decide) (by decide) ?_
      exact lawc_lapsed C yTop_Inv sim_lapsed hX hbl hbA hin hY hS hl hrm (fun H1 locs1 g1 g2 => nx ls H1 locs1 hl g1 g2)
    · refine lv_tableIn (off := 597) (tgt := 637) hx hb dL_law_40 (by decide) (by decide) (by decide) (by decide) ?_
      exact lawc_passed C yTop_Inv sim_passed hX hbl hbA hin hY hS hl hrm (fun H1 locs1 g1 g2 => nx ls H1 locs1 hl g1 g2)
    · refine lv_tableIn (off := 622) (tgt := 662) hx hb dL_law_40 (by decide) (by decide) (by decide) (by decide) ?_
      exact lawc_judge C yTop_Inv sim_judge hX hbl hbA hin hY hS hl hrm (fun H1 locs1 g1 g2 => nx ls H1 locs1 hl g1 g2)
    · refine lv_tableIn (off := 635) (tgt := 675) hx hb dL_law_40 (by decide) (by decide) (by decide) (by decide) ?_
      exact lawc_ways C yTop_Inv sim_ways hX hbl hbA hin hY hS hl hrm (fun H1 locs1 g1 g2 => nx ls H1 locs1 hl g1 g2)
    · refine lv_tableIn (off := 648) (tgt := 688) hx hb dL_law_40 (by decide) (by decide) (by decide) (by decide) ?_
      exact lawc_wayAt C yTop_Inv sim_wayAt hX hbl hbA hin hY hS hl hrm (fun H1 locs1 g1 g2 => nx ls H1 locs1 hl g1 g2)
    · refine lv_tableIn (off := 673) (tgt := 713) hx hb dL_law_40 (by decide) (by decide) (by decide) (by decide) ?_
      exact lawc_longest C yTop_Inv sim_longest hX hbl hbA hin hY hS hl hrm (fun H1 locs1 g1 g2 => nx ls H1 locs1 hl g1 g2)
    · refine lv_tableIn (off := 698) (tgt := 738) hx hb dL_law_40 (by decide) (by decide) (by decide) (by decide) ?_
      exact lawc_worstDay C yTop_Inv sim_worstDay hX hbl hbA hin hY hS hl hrm (fun H1 locs1 g1 g2 => nx ls H1 locs1 hl g1 g2)
    · refine lv_tableIn (off := 711) (tgt := 751) hx hb dL_law_40 (by decide) (by decide) (by decide) (by decide) ?_
      exact lawc_owing C yTop_Inv sim_owing hX hbl hbA hin hY hS hl hrm (fun H1 locs1 g1 g2 => nx ls H1 locs1 hl g1 g2)
    · refine lv_tableIn (off := 748) (tgt := 788) hx hb dL_law_40 (by decide) (by decide) (by decide) (by decide) ?_
      exact lawc_change C yTop_Inv sim_change hX hbl hbA hin hY hS hl hrm (fun H1 locs1 g1 g2 => nx ls H1 locs1 hl g1 g2)
    · refine lv_tableIn (off := 801) (tgt := 841) hx hb dL_law_40 (by decide) (by decide) (by decide) (by decide) ?_
      exact lawc_lapsesIn C yTop_Inv sim_lapsesIn hX hbl hbA hin hY hS hl hrm (fun H1 locs1 g1 g2 => nx ls H1 locs1 hl g1 g2)
    · refine lv_tableIn (off := 826) (tgt := 866) hx hb dL_law_40 (by decide) (by decide) (by decide) (by decide) ?_
      exact lawc_guest C yTop_Inv sim_guest hX hbl hbA hin hY hS hl hrm (fun H1 locs1 g1 g2 => nx ls H1 locs1 hl g1 g2)
    · refine lv_tableIn (off := 851) (tgt := 891) hx hb dL_law_40 (by decide) (by decide) (by decide) (by decide) ?_
      exact lawc_putRight C yTop_Inv sim_putRight hX hbl hbA hin hY hS hl hrm (fun H1 locs1 g1 g2 => nx ls H1 locs1 hl g1 g2)
    · refine lv_tableIn (off := 864) (tgt := 904) hx hb dL_law_40 (by decide) (by decide) (by decide) (by decide) ?_
      exact lawc_exchanges C yTop_Inv sim_exchanges hX hbl hbA hin hY hS hl hrm (fun H1 locs1 g1 g2 => nx ls H1 locs1 hl g1 g2)
    · refine lv_tableIn (off := 877) (tgt := 917) hx hb dL_law_40 (by decide) (by decide) (by decide) (by decide) ?_
      exact lawc_exchangeAt C yTop_Inv sim_exchangeAt hX hbl hbA hin hY hS hl hrm (fun H1 locs1 g1 g2 => nx ls H1 locs1 hl g1 g2)
    · refine lv_tableIn (off := 902) (tgt := 942) hx hb dL_law_40 (by decide) (by decide) (by decide) (by decide) ?_
      exact lawc_party C yTop_Inv sim_party hX hbl hbA hin hY hS hl hrm (fun H1 locs1 g1 g2 => nx ls H1 locs1 hl g1 g2)
    · refine lv_tableIn (off := 927) (tgt := 967) hx hb dL_law_40 (by decide) (by decide) (by decide) (by decide) ?_
      exact lawc_partyOf C yTop_Inv sim_partyOf hX hbl hbA hin hY hS hl hrm (fun H1 locs1 g1 g2 => nx ls H1 locs1 hl g1 g2)
    · refine lv_tableIn (off := 964) (tgt := 1004) hx hb dL_law_40 (by decide) (by decide) (by decide) (by decide) ?_
      exact lawc_room C yTop_Inv sim_room hX hbl hbA hin hY hS hl hrm (fun H1 locs1 g1 g2 => nx ls H1 locs1 hl g1 g2)
    · refine lv_tableIn (off := 989) (tgt := 1029) hx hb dL_law_40 (by decide) (by decide) (by decide) (by decide) ?_
      exact lawc_whole C yTop_Inv sim_whole hX hbl hbA hin hY hS hl hrm (fun H1 locs1 g1 g2 => nx ls H1 locs1 hl g1 g2)
    · refine lv_tableIn (off := 1055) (tgt := 1095) hx hb dL_law_40 (by decide) (by decide) (by decide) (by decide) ?_
      exact lawc_allWhole C yTop_Inv sim_allWhole hX hbl hbA hin hY hS hl hrm (fun H1 locs1 g1 g2 => nx ls H1 locs1 hl g1 g2)
    · refine lv_tableIn (off := 1121) (tgt := 1161) hx hb dL_law_40 (by decide) (by decide) (by decide) (by decide) ?_
      exact lawc_divided C yTop_Inv sim_divided hX hbl hbA hin hY hS hl hrm (fun H1 locs1 g1 g2 => nx ls H1 locs1 hl g1 g2)
    · refine lv_tableIn (off := 1170) (tgt := 1210) hx hb dL_law_40 (by decide) (by decide) (by decide) (by decide) ?_
      exact lawc_heirs C yTop_Inv sim_heirs hX hbl hbA hin hY hS hl hrm (fun H1 locs1 g1 g2 => nx ls H1 locs1 hl g1 g2)
    · refine lv_tableIn (off := 1247) (tgt := 1287) hx hb dL_law_40 (by decide) (by decide) (by decide) (by decide) ?_
      exact lawc_rests C yTop_Inv sim_rests hX hbl hbA hin hY hS hl hrm (fun H1 locs1 g1 g2 => nx ls H1 locs1 hl g1 g2)
    · refine lv_tableIn (off := 1272) (tgt := 1312) hx hb dL_law_40 (by decide) (by decide) (by decide) (by decide) ?_
      exact lawc_rest C yTop_Inv sim_rest hX hbl hbA hin hY hS hl hrm (fun H1 locs1 g1 g2 => nx ls H1 locs1 hl g1 g2)
    · refine lv_tableIn (off := 1297) (tgt := 1337) hx hb dL_law_40 (by decide) (by decide) (by decide) (by decide) ?_
      exact lawc_most C yTop_Inv sim_most hX hbl hbA hin hY hS hl hrm (fun H1 locs1 g1 g2 => nx ls H1 locs1 hl g1 g2)
    · refine lv_tableIn (off := 1322) (tgt := 1362) hx hb dL_law_40 (by decide) (by decide) (by decide) (by decide) ?_
      exact lawc_mostLands C yTop_Inv sim_mostLands hX hbl hbA hin hY hS hl hrm (fun H1 locs1 g1 g2 => nx ls H1 locs1 hl g1 g2)
    · refine lv_tableIn (off := 1347) (tgt := 1387) hx hb dL_law_40 (by decide) (by decide) (by decide) (by decide) ?_
      exact lawc_century C yTop_Inv sim_century hX hbl hbA hin hY hS hl hrm (fun H1 locs1 g1 g2 => nx ls H1 locs1 hl g1 g2)
    · refine lv_tableIn (off := 1396) (tgt := 1436) hx hb dL_law_40 (by decide) (by decide) (by decide) (by decide) ?_
      exact lawc_untitled C yTop_Inv sim_untitled hX hbl hbA hin hY hS hl hrm (fun H1 locs1 g1 g2 => nx ls H1 locs1 hl g1 g2)
    · refine lv_tableIn (off := 1433) (tgt := 1473) hx hb dL_law_40 (by decide) (by decide) (by decide) (by decide) ?_
      exact lawc_lend C yTop_Inv sim_lend hX hbl hbA hin hY hS hl hrm (fun H1 locs1 g1 g2 => nx ls H1 locs1 hl g1 g2)
    · refine lv_tableIn (off := 1470) (tgt := 1510) hx hb dL_law_40 (by decide) (by decide) (by decide) (by decide) ?_
      exact lawc_leave C yTop_Inv sim_leave hX hbl hbA hin hY hS hl hrm (fun H1 locs1 g1 g2 => nx ls H1 locs1 hl g1 g2)
    · refine lv_tableIn (off := 1495) (tgt := 1535) hx hb dL_law_40 (by decide) (by decide) (by decide) (by decide) ?_
      exact lawc_exchange C yTop_Inv sim_exchange hX hbl hbA hin hY hS hl hrm (fun H1 locs1 g1 g2 => nx ls H1 locs1 hl g1 g2)
    · refine lv_tableIn (off := 1532) (tgt := 1572) hx hb dL_law_40 (by decide) (by decide) (by decide) (by decide) ?_
      exact lawc_day C yTop_Inv sim_day hX hbl hbA hin hY hS hl hrm (fun H1 locs1 g1 g2 => nx ls H1 locs1 hl g1 g2)
    · refine lv_tableIn (off := 1573) (tgt := 1613) hx hb dL_law_40 (by decide) (by decide) (by decide) (by decide) ?_
      exact lawc_undo C yTop_Inv sim_undo hX hbl hbA hin hY hS hl hrm (fun H1 locs1 g1 g2 => nx ls H1 locs1 hl g1 g2)
    · refine lv_tableIn (off := 1586) (tgt := 1626) hx hb dL_law_40 (by decide) (by decide) (by decide) (by decide) ?_
      exact lawc_mark C yTop_Inv sim_mark hX hbl hbA hin hY hS hl hrm (fun H1 locs1 g1 g2 => nx ls H1 locs1 hl g1 g2)
    · refine lv_tableIn (off := 1599) (tgt := 1639) hx hb dL_law_40 (by decide) (by decide) (by decide) (by decide) ?_
      exact lawc_back C yTop_Inv sim_back hX hbl hbA hin hY hS hl hrm (fun H1 locs1 g1 g2 => nx ls H1 locs1 hl g1 g2)
    · refine lv_tableIn (off := 1624) (tgt := 1664) hx hb dL_law_40 (by decide) (by decide) (by decide) (by decide) ?_
      exact lawc_led C yTop_Inv sim_led hX hbl hbA hin hY hS hl hrm nx
    · refine lv_tableIn (off := 1680) (tgt := 1720) hx hb dL_law_40 (by decide) (by decide) (by decide) (by decide) ?_
      exact lawc_size C yTop_Inv sim_size hX hbl hbA hin hY hS hl hrm (fun H1 locs1 g1 g2 => nx ls H1 locs1 hl g1 g2)
    · refine lv_tableIn (off := 1705) (tgt := 1745) hx hb dL_law_40 (by decide) (by decide) (by decide) (by decide) ?_
      exact lawc_trouble C yTop_Inv sim_trouble hX hbl hbA hin hY hS hl hrm (fun H1 locs1 g1 g2 => nx ls H1 locs1 hl g1 g2)
set_option maxHeartbeats 4000000 in
theorem law_loop (C : yCx p l s m #[Value.ref b] meth c D A) (hr : meth.sig.returnType = ret) (hlocks : meth.locks = false) (hA2 : ∀ q, A q → s.heap.size ≤ q) (hX : va_X b L xs s s.heap) (hbl : b < s.heap.size) (hL : L ≤ 3072) :
    ∀ (n k cells slots : Nat) (H : Heap) (locs : List Loc) (ls : Array Slot), L < 6 * (k + n) → 6 * k ≤ 3072 → cells + 16 * n ≤ 601024 → slots + 164 * n ≤ 7293034 → yI Inv D s A x y o H → va_S A s.heap H locs → lv_has ls 7 [(0, .ref b), (1, .ref x), (2, .ref y), (3, .ref o), (4, .int (nn (6 * k)))] →
      W p l e room_1 s m #[Value.ref b] below meth c H locs cells slots (lw_Z below #[Value.ref b] s) (F0 m 23 ls []) := by
  have hx := C.1
  have hb := C.2.1
  have hbA : ¬ A b := fun z => Nat.not_le.mpr hbl (hA2 b z)
  intro n
  induction n with
  | zero =>
    intro k cells slots H locs ls h1 h2 hc hz hY hS hl
    refine lv_iload hx hb dL_law_23 (lv_at hl 4 rfl) ?_
    refine lv_aload_n hx hb dL_law_25 rfl (lv_at hl 0 rfl) ?_
    refine va_slen hx hb hX hbl hbA hS dL_law_26 ?_
    refine lv_bipush (v := 6) hx hb dL_law_27 (by decide) ?_
    refine lv_isub hx hb dL_law_29 ?_
    refine lv_icmp_gt (tgt := 1764) hx hb dL_law_30 (by decide) (fun _ => ?_) (fun q => ?_)
    · exact law_out C hr hlocks hA2 hS (by omega) (by omega)
    · exact absurd ((lcmp6 hL h2).mpr (by omega)) q
  | succ n ih =>
    intro k cells slots H locs ls h1 h2 hc hz hY hS hl
    refine lv_iload hx hb dL_law_23 (lv_at hl 4 rfl) ?_
    refine lv_aload_n hx hb dL_law_25 rfl (lv_at hl 0 rfl) ?_
    refine va_slen hx hb hX hbl hbA hS dL_law_26 ?_
    refine lv_bipush (v := 6) hx hb dL_law_27 (by decide) ?_
    refine lv_isub hx hb dL_law_29 ?_
    refine lv_icmp_gt (tgt := 1764) hx hb dL_law_30 (by decide) (fun _ => ?_) (fun q => ?_)
    · exact law_out C hr hlocks hA2 hS (by omega) (by omega)
    · have hk : 6 * k + 6 ≤ L := by
        by_cases z : 6 * k + 6 ≤ L
        · exact z
        · exact absurd ((lcmp6 hL h2).mpr (by omega)) q
      have hin := hin6 hL hk
      refine lv_aload_n hx hb dL_law_33 rfl (lv_at hl 0 rfl) ?_
      refine lv_iload hx hb dL_law_34 (lv_at hl 4 rfl) ?_
      refine va_sld hx hb hX hbl hbA hS (vp_in_nI (n := 6 * k) (by omega) (by omega)) dL_law_36 ?_
      refine lv_bipush (v := 63) hx hb dL_law_37 (by decide) ?_
      refine lv_iand hx hb dL_law_39 ?_
      obtain ⟨w, hw, ew⟩ := and63 (xs (nn (6 * k)).toNatClampNeg)
      rw [ew]
      refine law_case C hX hbl hbA hw hin hY hS hl (by omega) (fun ls1 H1 locs1 hl1 hY1 hS1 => ?_)
      refine lv_iinc (k := 4) (v := nn (6 * (k + 1))) (lv' := [(4, .int (nn (6 * (k + 1)))), (0, .ref b), (1, .ref x), (2, .ref y), (3, .ref o)]) hx hb dL_law_1758 hl1 rfl (by rw [show Int32.ofInt 6 = nn 6 from rfl, nn_add]; rfl) (by decide) rfl (fun ls2 hl2 => ?_)
      refine lv_goto (tgt := 23) hx hb dL_law_1761 (by decide) ?_
      exact ih (k + 1) (cells + 16) (slots + 164) H1 locs1 ls2 (by omega) (by omega) (by omega) (by omega) hY1 hS1 (lv_sub hl2 [1, 2, 3, 4, 0] rfl)
end LLOOP
