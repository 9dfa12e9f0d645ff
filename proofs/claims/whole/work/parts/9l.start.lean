/-! what the law's entry gives: the texts, the statics, the kinds of objects -/
def strW (q : xSK) : List Cond :=
  [.exactly (.string q.1 q.2.1) "java/lang/String", .eq (.field (.string q.1 q.2.1) "java/lang/String" "coder" "B") (.int 0), .arrayOf (.field (.string q.1 q.2.1) "java/lang/String" "value" "[B") .byte, .eq (.length (.field (.string q.1 q.2.1) "java/lang/String" "value" "[B")) (.int (Int32.ofNat q.2.2.2.length))] ++
  (List.range q.2.2.2.length).map (fun j => .eq (.elem (.field (.string q.1 q.2.1) "java/lang/String" "value" "[B") (.int (Int32.ofNat j))) (.int (q.2.2.2.getD j 0)))
theorem sw_in {q : xSK} {i n : Nat} (h : ((flatC (Jvm.Cond.and given_1 narrow_1)).drop i).take n = strW q) : ∀ w ∈ strW q, w ∈ flatC (Jvm.Cond.and given_1 narrow_1) := fun w hw => List.mem_of_mem_drop (List.mem_of_mem_take (h ▸ hw))
theorem sw_0 : ((flatC (Jvm.Cond.and given_1 narrow_1)).drop 188).take 36 = strW ("UmbrellaHeir", 289, "no such umbrella that nobody has", [110, 111, 32, 115, 117, 99, 104, 32, 117, 109, 98, 114, 101, 108, 108, 97, 32, 116, 104, 97, 116, 32, 110, 111, 98, 111, 100, 121, 32, 104, 97, 115]) := by decide +kernel
theorem sw_1 : ((flatC (Jvm.Cond.and given_1 narrow_1)).drop 21).take 56 = strW ("UmbrellaHeir$Reader", 108, "county person umbrella lent left changed rain claims", [99, 111, 117, 110, 116, 121, 32, 112, 101, 114, 115, 111, 110, 32, 117, 109, 98, 114, 101, 108, 108, 97, 32, 108, 101, 110, 116, 32, 108, 101, 102, 116, 32, 99, 104, 97, 110, 103, 101, 100, 32, 114, 97, 105, 110, 32, 99, 108, 97, 105, 109, 115]) := by decide +kernel
theorem sw_2 : ((flatC (Jvm.Cond.and given_1 narrow_1)).drop 77).take 9 = strW ("UmbrellaHeir$Reader", 134, "lapse", [108, 97, 112, 115, 101]) := by decide +kernel
theorem sw_3 : ((flatC (Jvm.Cond.and given_1 narrow_1)).drop 86).take 8 = strW ("UmbrellaHeir$Reader", 142, "gust", [103, 117, 115, 116]) := by decide +kernel
theorem sw_4 : ((flatC (Jvm.Cond.and given_1 narrow_1)).drop 94).take 9 = strW ("UmbrellaHeir$Reader", 146, "rains", [114, 97, 105, 110, 115]) := by decide +kernel
theorem sw_5 : ((flatC (Jvm.Cond.and given_1 narrow_1)).drop 103).take 24 = strW ("UmbrellaHeir$Reader", 153, "plain child careless", [112, 108, 97, 105, 110, 32, 99, 104, 105, 108, 100, 32, 99, 97, 114, 101, 108, 101, 115, 115]) := by decide +kernel
theorem sw_6 : ((flatC (Jvm.Cond.and given_1 narrow_1)).drop 127).take 29 = strW ("UmbrellaHeir$Reader", 163, "silk cotton stick parasol", [115, 105, 108, 107, 32, 99, 111, 116, 116, 111, 110, 32, 115, 116, 105, 99, 107, 32, 112, 97, 114, 97, 115, 111, 108]) := by decide +kernel
theorem sw_7 : ((flatC (Jvm.Cond.and given_1 narrow_1)).drop 156).take 9 = strW ("UmbrellaHeir$Reader", 168, "lands", [108, 97, 110, 100, 115]) := by decide +kernel
theorem sw_8 : ((flatC (Jvm.Cond.and given_1 narrow_1)).drop 165).take 8 = strW ("UmbrellaHeir$Reader", 172, "ribs", [114, 105, 98, 115]) := by decide +kernel
theorem sw_9 : ((flatC (Jvm.Cond.and given_1 narrow_1)).drop 173).take 8 = strW ("UmbrellaHeir$Reader", 179, "with", [119, 105, 116, 104]) := by decide +kernel
theorem sw_10 : ((flatC (Jvm.Cond.and given_1 narrow_1)).drop 181).take 7 = strW ("UmbrellaHeir$Reader", 199, "day", [100, 97, 121]) := by decide +kernel
theorem sw_11 : ((flatC (Jvm.Cond.and given_1 narrow_1)).drop 224).take 10 = strW ("UmbrellaHeirModel", 136, "county", [99, 111, 117, 110, 116, 121]) := by decide +kernel
theorem sw_12 : ((flatC (Jvm.Cond.and given_1 narrow_1)).drop 263).take 10 = strW ("UmbrellaHeirModel", 138, "person", [112, 101, 114, 115, 111, 110]) := by decide +kernel
theorem sw_13 : ((flatC (Jvm.Cond.and given_1 narrow_1)).drop 273).take 12 = strW ("UmbrellaHeirModel", 140, "umbrella", [117, 109, 98, 114, 101, 108, 108, 97]) := by decide +kernel
theorem sw_14 : ((flatC (Jvm.Cond.and given_1 narrow_1)).drop 285).take 8 = strW ("UmbrellaHeirModel", 142, "lent", [108, 101, 110, 116]) := by decide +kernel
theorem sw_15 : ((flatC (Jvm.Cond.and given_1 narrow_1)).drop 293).take 8 = strW ("UmbrellaHeirModel", 144, "left", [108, 101, 102, 116]) := by decide +kernel
theorem sw_16 : ((flatC (Jvm.Cond.and given_1 narrow_1)).drop 301).take 11 = strW ("UmbrellaHeirModel", 146, "changed", [99, 104, 97, 110, 103, 101, 100]) := by decide +kernel
theorem sw_17 : ((flatC (Jvm.Cond.and given_1 narrow_1)).drop 312).take 8 = strW ("UmbrellaHeirModel", 148, "rain", [114, 97, 105, 110]) := by decide +kernel
theorem sw_18 : ((flatC (Jvm.Cond.and given_1 narrow_1)).drop 320).take 10 = strW ("UmbrellaHeirModel", 150, "claims", [99, 108, 97, 105, 109, 115]) := by decide +kernel
theorem sw_19 : ((flatC (Jvm.Cond.and given_1 narrow_1)).drop 234).take 9 = strW ("UmbrellaHeirModel", 221, "lapse", [108, 97, 112, 115, 101]) := by decide +kernel
theorem sw_20 : ((flatC (Jvm.Cond.and given_1 narrow_1)).drop 244).take 8 = strW ("UmbrellaHeirModel", 226, "gust", [103, 117, 115, 116]) := by decide +kernel
theorem sw_21 : ((flatC (Jvm.Cond.and given_1 narrow_1)).drop 253).take 9 = strW ("UmbrellaHeirModel", 228, "rains", [114, 97, 105, 110, 115]) := by decide +kernel
theorem sw_22 : ((flatC (Jvm.Cond.and given_1 narrow_1)).drop 330).take 9 = strW ("UmbrellaHeirModel", 242, "plain", [112, 108, 97, 105, 110]) := by decide +kernel
theorem sw_23 : ((flatC (Jvm.Cond.and given_1 narrow_1)).drop 339).take 9 = strW ("UmbrellaHeirModel", 244, "child", [99, 104, 105, 108, 100]) := by decide +kernel
theorem sw_24 : ((flatC (Jvm.Cond.and given_1 narrow_1)).drop 348).take 12 = strW ("UmbrellaHeirModel", 246, "careless", [99, 97, 114, 101, 108, 101, 115, 115]) := by decide +kernel
theorem sw_25 : ((flatC (Jvm.Cond.and given_1 narrow_1)).drop 360).take 8 = strW ("UmbrellaHeirModel", 253, "silk", [115, 105, 108, 107]) := by decide +kernel
theorem sw_26 : ((flatC (Jvm.Cond.and given_1 narrow_1)).drop 368).take 10 = strW ("UmbrellaHeirModel", 255, "cotton", [99, 111, 116, 116, 111, 110]) := by decide +kernel
theorem sw_27 : ((flatC (Jvm.Cond.and given_1 narrow_1)).drop 378).take 9 = strW ("UmbrellaHeirModel", 257, "stick", [115, 116, 105, 99, 107]) := by decide +kernel
theorem sw_28 : ((flatC (Jvm.Cond.and given_1 narrow_1)).drop 387).take 11 = strW ("UmbrellaHeirModel", 259, "parasol", [112, 97, 114, 97, 115, 111, 108]) := by decide +kernel
theorem sw_29 : ((flatC (Jvm.Cond.and given_1 narrow_1)).drop 398).take 9 = strW ("UmbrellaHeirModel", 261, "lands", [108, 97, 110, 100, 115]) := by decide +kernel
theorem sw_30 : ((flatC (Jvm.Cond.and given_1 narrow_1)).drop 408).take 8 = strW ("UmbrellaHeirModel", 263, "ribs", [114, 105, 98, 115]) := by decide +kernel
theorem sw_31 : ((flatC (Jvm.Cond.and given_1 narrow_1)).drop 417).take 8 = strW ("UmbrellaHeirModel", 265, "with", [119, 105, 116, 104]) := by decide +kernel
theorem sw_32 : ((flatC (Jvm.Cond.and given_1 narrow_1)).drop 426).take 7 = strW ("UmbrellaHeirModel", 285, "day", [100, 97, 121]) := by decide +kernel
theorem str_in : ∀ q ∈ xks, ∀ w ∈ strW q, w ∈ flatC (Jvm.Cond.and given_1 narrow_1) := List.forall_mem_cons.mpr ⟨sw_in sw_0, List.forall_mem_cons.mpr ⟨sw_in sw_1, List.forall_mem_cons.mpr ⟨sw_in sw_2, List.forall_mem_cons.mpr ⟨sw_in sw_3, List.forall_mem_cons.mpr ⟨sw_in sw_4, List.forall_mem_cons.mpr ⟨sw_in sw_5, List.forall_mem_cons.mpr ⟨sw_in sw_6, List.forall_mem_cons.mpr ⟨sw_in sw_7, List.forall_mem_cons.mpr ⟨sw_in sw_8, List.forall_mem_cons.mpr ⟨sw_in sw_9, List.forall_mem_cons.mpr ⟨sw_in sw_10, List.forall_mem_cons.mpr ⟨sw_in sw_11, List.forall_mem_cons.mpr ⟨sw_in sw_12, List.forall_mem_cons.mpr ⟨sw_in sw_13, List.forall_mem_cons.mpr ⟨sw_in sw_14, List.forall_mem_cons.mpr ⟨sw_in sw_15, List.forall_mem_cons.mpr ⟨sw_in sw_16, List.forall_mem_cons.mpr ⟨sw_in sw_17, List.forall_mem_cons.mpr ⟨sw_in sw_18, List.forall_mem_cons.mpr ⟨sw_in sw_19, List.forall_mem_cons.mpr ⟨sw_in sw_20, List.forall_mem_cons.mpr ⟨sw_in sw_21, List.forall_mem_cons.mpr ⟨sw_in sw_22, List.forall_mem_cons.mpr ⟨sw_in sw_23, List.forall_mem_cons.mpr ⟨sw_in sw_24, List.forall_mem_cons.mpr ⟨sw_in sw_25, List.forall_mem_cons.mpr ⟨sw_in sw_26, List.forall_mem_cons.mpr ⟨sw_in sw_27, List.forall_mem_cons.mpr ⟨sw_in sw_28, List.forall_mem_cons.mpr ⟨sw_in sw_29, List.forall_mem_cons.mpr ⟨sw_in sw_30, List.forall_mem_cons.mpr ⟨sw_in sw_31, List.forall_mem_cons.mpr ⟨sw_in sw_32, (fun _ h => nomatch h)⟩⟩⟩⟩⟩⟩⟩⟩⟩⟩⟩⟩⟩⟩⟩⟩⟩⟩⟩⟩⟩⟩⟩⟩⟩⟩⟩⟩⟩⟩⟩⟩⟩
theorem str_ref : ∀ q ∈ xks, Cond.stringRef q.1 q.2.1 q.2.2.1 ∈ lw_tbl := by decide +kernel
theorem str_len : ∀ q ∈ xks, q.2.2.2.length < 1000 := by decide +kernel
theorem y_str {args : Array Value} {s : State} {A : Nat → Prop} (hts : ∀ w ∈ lw_tbl, w.before args s = true) (hs : ∀ w ∈ flatC (Jvm.Cond.and given_1 narrow_1), w.before args s = true) (hA : ∀ a : Nat, a < s.heap.size → ¬ A a) (q : xSK) (hq : q ∈ xks) :
    ∃ r : Nat × Nat, vk_R q.1 q.2.1 q.2.2.1 r.1 s ∧ va_O "java/lang/String" r.1 A s s.heap ∧ va_OF "java/lang/String" "coder" "B" (.int 0) r.1 A s s.heap ∧ va_OF "java/lang/String" "value" "[B" (.ref r.2) r.1 A s s.heap ∧ va_T .byte r.2 q.2.2.2.length (fun j => .int (q.2.2.2.getD j 0)) A s s.heap := by
  have hw : ∀ w ∈ strW q, w.before args s = true := fun w h => hs w (str_in q hq w h)
  have hex : (Cond.exactly (.string q.1 q.2.1) "java/lang/String").before args s = true := hw _ (by simp [strW])
  have hco : (Cond.eq (.field (.string q.1 q.2.1) "java/lang/String" "coder" "B") (.int 0)).before args s = true := hw _ (by simp [strW])
  have har : (Cond.arrayOf (.field (.string q.1 q.2.1) "java/lang/String" "value" "[B") .byte).before args s = true := hw _ (by simp [strW])
  have hle : (Cond.eq (.length (.field (.string q.1 q.2.1) "java/lang/String" "value" "[B")) (.int (Int32.ofNat q.2.2.2.length))).before args s = true := hw _ (by simp [strW])
  have hel : ∀ j : Nat, j < q.2.2.2.length → (Cond.eq (.elem (.field (.string q.1 q.2.1) "java/lang/String" "value" "[B") (.int (Int32.ofNat j))) (.int (q.2.2.2.getD j 0))).before args s = true := fun j hj => hw _ (by
    unfold strW
    exact List.mem_append_right _ (List.mem_map.mpr ⟨j, List.mem_range.mpr hj, rfl⟩))
  obtain ⟨a, c1, cA, kA, q1, q2, q3, q4, q5, q6, -⟩ := Cond.exactly_spec (args := args) (first := s) (o := none) (s := s) (idx := []) (t := .string q.1 q.2.1) (cls := "java/lang/String") hex
  obtain ⟨t, ht, hT⟩ := va_Tof (f := fun j => .int (q.2.2.2.getD j 0)) (A := A) (Nat.lt_trans (str_len q hq) (by decide)) har (va_eqt hle) (fun j hj => va_eqt (hel j hj)) hA
  exact ⟨(a, t), vk_R.of (hts _ (str_ref q hq)) q1, ⟨cA, q3, q5, by rw [q6]; exact q2, hA a (Array.getElem?_eq_some_iff.mp q3).1⟩, vk_OFof q1 (va_eqt hco) hA, vk_OFof q1 ht hA, hT⟩
theorem st_w : ∀ w ∈ ([.laysStatic "java/lang/String" "COMPACT_STRINGS" "Z", .initialized "java/lang/String", .laysStatic "jdk/internal/util/Preconditions" "SIOOBE_FORMATTER" "Ljava/util/function/BiFunction;", .initialized "jdk/internal/util/Preconditions", .laysStatic Bundle.tN "UNASSIGNED_STACK" Bundle.steD, .laysStatic Bundle.tN "SUPPRESSED_SENTINEL" Bundle.listD, .initialized Bundle.tN] : List Cond), w ∈ lw_tbl := by decide +kernel
theorem st_n : ∀ w ∈ ([.eq (.static "java/lang/String" "COMPACT_STRINGS" "Z") (.int 1), .isRef (.static "jdk/internal/util/Preconditions" "SIOOBE_FORMATTER" "Ljava/util/function/BiFunction;"), .isRef (.static Bundle.tN "UNASSIGNED_STACK" Bundle.steD), .isRef (.static Bundle.tN "SUPPRESSED_SENTINEL" Bundle.listD)] : List Cond), w ∈ flatC (Jvm.Cond.and given_1 narrow_1) := by decide +kernel
theorem y_St {args : Array Value} {s : State} {A : Nat → Prop} (hts : ∀ w ∈ lw_tbl, w.before args s = true) (hs : ∀ w ∈ flatC (Jvm.Cond.and given_1 narrow_1), w.before args s = true) (hA : ∀ a : Nat, a < s.heap.size → ¬ A a) : ∃ α : Nat → Nat, xSt xks α A s := by
  have h0 : ∀ k : Nat, ∃ r : Nat × Nat, ∀ q : xSK, xks[k]? = some q → vk_R q.1 q.2.1 q.2.2.1 r.1 s ∧ va_O "java/lang/String" r.1 A s s.heap ∧ va_OF "java/lang/String" "coder" "B" (.int 0) r.1 A s s.heap ∧ va_OF "java/lang/String" "value" "[B" (.ref r.2) r.1 A s s.heap ∧ va_T .byte r.2 q.2.2.2.length (fun j => .int (q.2.2.2.getD j 0)) A s s.heap := by
    intro k
    cases hk : xks[k]? with
    | none => exact ⟨(0, 0), fun q h => nomatch h⟩
    | some q =>
      obtain ⟨r, hr⟩ := y_str (A := A) hts hs hA q (List.mem_of_getElem? hk)
      exact ⟨r, fun q' h => by cases h; exact hr⟩
  obtain ⟨ad, had⟩ := Classical.axiomOfChoice h0
  have hz := va_Zqof (A := A) (hts _ (st_w _ (by simp))) (hts _ (st_w (.initialized "jdk/internal/util/Preconditions") (by simp))) (hs (.isRef (.static "jdk/internal/util/Preconditions" "SIOOBE_FORMATTER" "Ljava/util/function/BiFunction;")) (st_n _ (by simp))) hA
  obtain ⟨fm, hfm⟩ : ∃ fm : Nat, va_Z "jdk/internal/util/Preconditions" "SIOOBE_FORMATTER" "Ljava/util/function/BiFunction;" .null A s s.heap ∨ va_Z "jdk/internal/util/Preconditions" "SIOOBE_FORMATTER" "Ljava/util/function/BiFunction;" (.ref fm) A s s.heap := by
    rcases hz with h | ⟨fm, h⟩
    · exact ⟨0, Or.inl h⟩
    · exact ⟨fm, Or.inr h⟩
  refine ⟨fun n => if n < 2000 then (ad (n - 1000)).1 else if n < 3000 then (ad (n - 2000)).2 else fm, ?_, ?_, ?_, ?_, ?_⟩
  · intro k q hk
    have hk33 : k < 33 := (List.getElem?_eq_some_iff.mp hk).1
    have e1 : (if 1000 + k < 2000 then (ad (1000 + k - 1000)).1 else if 1000 + k < 3000 then (ad (1000 + k - 2000)).2 else fm) = (ad k).1 := by
      rw [if_pos (by omega), show 1000 + k - 1000 = k from by omega]
    have e2 : (if 2000 + k < 2000 then (ad (2000 + k - 1000)).1 else if 2000 + k < 3000 then (ad (2000 + k - 2000)).2 else fm) = (ad k).2 := by
      rw [if_neg (by omega), if_pos (by omega), show 2000 + k - 2000 = k from by omega]
    have h := had k q hk
    dsimp only
    rw [e1, e2]
    exact h
  · exact va_Zof (hts _ (st_w _ (by simp))) (hts _ (st_w (.initialized "java/lang/String") (by simp))) (va_eqt (hs (.eq (.static "java/lang/String" "COMPACT_STRINGS" "Z") (.int 1)) (st_n _ (by simp)))) hA
  · exact hfm
  · exact vx_Zqof (hts _ (st_w _ (by simp))) (hts _ (st_w (.initialized Bundle.tN) (by simp))) (hs (.isRef (.static Bundle.tN "UNASSIGNED_STACK" Bundle.steD)) (st_n _ (by simp))) hA
  · exact vx_Zqof (hts _ (st_w _ (by simp))) (hts _ (st_w (.initialized Bundle.tN) (by simp))) (hs (.isRef (.static Bundle.tN "SUPPRESSED_SENTINEL" Bundle.listD)) (st_n _ (by simp))) hA
theorem y_Nw {args : Array Value} {s : State} (hts : ∀ w ∈ lw_tbl, w.before args s = true) : xNw s := by
  intro w hw
  have h1 := hts w (List.mem_filter.mp hw).1
  have h2 := (List.mem_filter.mp hw).2
  cases w <;> simp [xisN] at h2
  all_goals exact va_Nw.of rfl h1
theorem k_w : ∀ w ∈ ([.instantiable RX0 6, .instantiable RX1 12, .instantiable RX2 5, .instantiable RX3 3, .instantiable RX4 4, .instantiable RX5 13, .instantiable RX6 6, .instantiable RX7 14, .instantiable RX8 23, .instantiable RX9 32] : List Cond), w ∈ lw_tbl := by decide +kernel
theorem y_K {args : Array Value} {s : State} (hts : ∀ w ∈ lw_tbl, w.before args s = true) : ∃ D : va_G, va_K D vwCl [] s := by
  have hx : ∀ w ∈ xT, w.before args s = true := fun w hw => hts w (xT_in hw)
  obtain ⟨c0, i0, k0⟩ := u_known (C := RX0) (T := TX0) (N := 6) (n := 6) hx inX0 (hts (.instantiable RX0 6) (k_w _ (by simp)))
  obtain ⟨c1, i1, k1⟩ := u_known (C := RX1) (T := TX1) (N := 12) (n := 12) hx inX1 (hts (.instantiable RX1 12) (k_w _ (by simp)))
  obtain ⟨c2, i2, k2⟩ := u_known (C := RX2) (T := TX2) (N := 5) (n := 5) hx inX2 (hts (.instantiable RX2 5) (k_w _ (by simp)))
  obtain ⟨c3, i3, k3⟩ := u_known (C := RX3) (T := TX3) (N := 3) (n := 3) hx inX3 (hts (.instantiable RX3 3) (k_w _ (by simp)))
  obtain ⟨c4, i4, k4⟩ := u_known (C := RX4) (T := TX4) (N := 4) (n := 4) hx inX4 (hts (.instantiable RX4 4) (k_w _ (by simp)))
  obtain ⟨c5, i5, k5⟩ := u_known (C := RX5) (T := TX5) (N := 13) (n := 13) hx inX5 (hts (.instantiable RX5 13) (k_w _ (by simp)))
  obtain ⟨c6, i6, k6⟩ := u_known (C := RX6) (T := TX6) (N := 6) (n := 6) hx inX6 (hts (.instantiable RX6 6) (k_w _ (by simp)))
  obtain ⟨c7, i7, k7⟩ := u_known (C := RX7) (T := TX7) (N := 14) (n := 14) hx inX7 (hts (.instantiable RX7 14) (k_w _ (by simp)))
  obtain ⟨c8, i8, k8⟩ := u_known (C := RX8) (T := TX8) (N := 23) (n := 23) hx inX8 (hts (.instantiable RX8 23) (k_w _ (by simp)))
  obtain ⟨c9, i9, k9⟩ := u_known (C := RX9) (T := TX9) (N := 32) (n := 32) hx inX9 (hts (.instantiable RX9 32) (k_w _ (by simp)))
  refine ⟨(fun k => [c0, c1, c2, c3, c4, c5, c6, c7, c8, c9].getD k c0, fun k => [i0, i1, i2, i3, i4, i5, i6, i7, i8, i9].getD k i0), fun k q hq => ?_, fun k q h => nomatch h⟩
  match k, hq with
  | 0, hq => cases hq; exact k0
  | 1, hq => cases hq; exact k1
  | 2, hq => cases hq; exact k2
  | 3, hq => cases hq; exact k3
  | 4, hq => cases hq; exact k4
  | 5, hq => cases hq; exact k5
  | 6, hq => cases hq; exact k6
  | 7, hq => cases hq; exact k7
  | 8, hq => cases hq; exact k8
  | 9, hq => cases hq; exact k9
  | k + 10, hq => cases hq
