/-! the JDK's methods that the class and the reference call, by contract over the layer -/
theorem wJ0_9 : Cond.fieldLink RJ0 9 "java/lang/String" "value" "[B" ∈ xT := (xt_8 56 rfl rfl)
theorem kJ0_335 : xCv RJ0 335 0 YJ0_coder_7d493 := ⟨⟨(xt_2 156 rfl rfl), (xt_1 11 rfl rfl), by decide, by decide +kernel⟩, (xt_2 153 rfl rfl), (xt_2 154 rfl rfl), (xt_2 155 rfl rfl)⟩
theorem kJ0_492 : xCv RJ0 492 0 YJ0_isLatin1_aae02 := ⟨⟨(xt_2 166 rfl rfl), (xt_1 11 rfl rfl), by decide, by decide +kernel⟩, (xt_2 163 rfl rfl), (xt_2 164 rfl rfl), (xt_2 165 rfl rfl)⟩
theorem kJ0_495 : xCs RJ0 495 2 YJ1_charAt_3b067 := ⟨⟨(xt_2 169 rfl rfl), (xt_1 12 rfl rfl), by decide, by decide +kernel⟩, (xt_2 167 rfl rfl), (xt_2 168 rfl rfl)⟩
theorem kJ0_498 : xCs RJ0 498 2 YJ2_charAt_3b067 := ⟨⟨(xt_2 180 rfl rfl), (xt_1 14 rfl rfl), by decide, by decide +kernel⟩, (xt_2 178 rfl rfl), (xt_2 179 rfl rfl)⟩
theorem wJ0_38 : Cond.fieldLink RJ0 38 "java/lang/String" "COMPACT_STRINGS" "Z" ∈ xT := (xt_2 157 rfl rfl)
theorem wJ0_15 : Cond.fieldLink RJ0 15 "java/lang/String" "coder" "B" ∈ xT := (xt_8 57 rfl rfl)
theorem wJ0_1053 : Cond.fieldLink RJ0 1053 "jdk/internal/util/Preconditions" "SIOOBE_FORMATTER" "Ljava/util/function/BiFunction;" ∈ xT := (xt_2 173 rfl rfl)
theorem kJ0_1059 : xCs RJ0 1059 3 YJ3_checkIndex_8e157 := ⟨⟨(xt_2 177 rfl rfl), (xt_1 13 rfl rfl), by decide, by decide +kernel⟩, (xt_2 175 rfl rfl), (xt_2 176 rfl rfl)⟩
theorem kJ1_9 : xCs RJ1 9 2 YJ0_checkIndex_df160 := ⟨⟨(xt_2 172 rfl rfl), (xt_1 11 rfl rfl), by decide, by decide +kernel⟩, (xt_2 170 rfl rfl), (xt_2 171 rfl rfl)⟩
theorem iJ6_265 : Cond.constant RJ6 265 (1431655765) ∈ xT := (xt_3 207 rfl rfl)
theorem iJ6_266 : Cond.constant RJ6 266 (858993459) ∈ xT := (xt_3 208 rfl rfl)
theorem iJ6_267 : Cond.constant RJ6 267 (252645135) ∈ xT := (xt_3 209 rfl rfl)
set_option maxRecDepth 100000 in
theorem t_bitCount (h : xH) (hle : h.length ≤ 1000) (v : Int32) (d : Nat) : xMet xks YJ6_bitCount_0f7a4 (d + 1) 0 0 [.int v] h (some (.int (xbc v))) h := by
  refine xMet_of (pl := [some (.int v)]) (by decide) hle rfl (Nat.le_of_ble_eq_true rfl) ?_
  refine x_iload_n dJ6_bitCount_0f7a4_0 rfl ?_
  refine x_iload_n dJ6_bitCount_0f7a4_1 rfl ?_
  refine x_iconst (1 : Int32) dJ6_bitCount_0f7a4_2 (by decide) ?_
  refine x_iushr dJ6_bitCount_0f7a4_3 ?_
  refine x_ldcw iJ6_265 dJ6_bitCount_0f7a4_4 ?_
  refine x_iand dJ6_bitCount_0f7a4_7 ?_
  refine x_isub dJ6_bitCount_0f7a4_8 ?_
  refine x_istore_n (x := (xbc1 v)) (pl' := [some (.int (xbc1 v))]) dJ6_bitCount_0f7a4_9 (by decide) rfl ?_
  refine x_iload_n dJ6_bitCount_0f7a4_10 rfl ?_
  refine x_ldcw iJ6_266 dJ6_bitCount_0f7a4_11 ?_
  refine x_iand dJ6_bitCount_0f7a4_14 ?_
  refine x_iload_n dJ6_bitCount_0f7a4_15 rfl ?_
  refine x_iconst (2 : Int32) dJ6_bitCount_0f7a4_16 (by decide) ?_
  refine x_iushr dJ6_bitCount_0f7a4_17 ?_
  refine x_ldcw iJ6_266 dJ6_bitCount_0f7a4_18 ?_
  refine x_iand dJ6_bitCount_0f7a4_21 ?_
  refine x_iadd dJ6_bitCount_0f7a4_22 ?_
  refine x_istore_n (x := (xbc2 (xbc1 v))) (pl' := [some (.int (xbc2 (xbc1 v)))]) dJ6_bitCount_0f7a4_23 (by decide) rfl ?_
  refine x_iload_n dJ6_bitCount_0f7a4_24 rfl ?_
  refine x_iload_n dJ6_bitCount_0f7a4_25 rfl ?_
  refine x_iconst (4 : Int32) dJ6_bitCount_0f7a4_26 (by decide) ?_
  refine x_iushr dJ6_bitCount_0f7a4_27 ?_
  refine x_iadd dJ6_bitCount_0f7a4_28 ?_
  refine x_ldcw iJ6_267 dJ6_bitCount_0f7a4_29 ?_
  refine x_iand dJ6_bitCount_0f7a4_32 ?_
  refine x_istore_n (x := (xbc3 (xbc2 (xbc1 v)))) (pl' := [some (.int (xbc3 (xbc2 (xbc1 v))))]) dJ6_bitCount_0f7a4_33 (by decide) rfl ?_
  refine x_iload_n dJ6_bitCount_0f7a4_34 rfl ?_
  refine x_iload_n dJ6_bitCount_0f7a4_35 rfl ?_
  refine x_bipush (8 : Int32) dJ6_bitCount_0f7a4_36 (by decide) ?_
  refine x_iushr dJ6_bitCount_0f7a4_38 ?_
  refine x_iadd dJ6_bitCount_0f7a4_39 ?_
  refine x_istore_n (x := (xbc4 (xbc3 (xbc2 (xbc1 v))))) (pl' := [some (.int (xbc4 (xbc3 (xbc2 (xbc1 v)))))]) dJ6_bitCount_0f7a4_40 (by decide) rfl ?_
  refine x_iload_n dJ6_bitCount_0f7a4_41 rfl ?_
  refine x_iload_n dJ6_bitCount_0f7a4_42 rfl ?_
  refine x_bipush (16 : Int32) dJ6_bitCount_0f7a4_43 (by decide) ?_
  refine x_iushr dJ6_bitCount_0f7a4_45 ?_
  refine x_iadd dJ6_bitCount_0f7a4_46 ?_
  refine x_istore_n (x := (xbc5 (xbc4 (xbc3 (xbc2 (xbc1 v)))))) (pl' := [some (.int (xbc5 (xbc4 (xbc3 (xbc2 (xbc1 v))))))]) dJ6_bitCount_0f7a4_47 (by decide) rfl ?_
  refine x_iload_n dJ6_bitCount_0f7a4_48 rfl ?_
  refine x_bipush (63 : Int32) dJ6_bitCount_0f7a4_49 (by decide) ?_
  refine x_iand dJ6_bitCount_0f7a4_51 ?_
  exact x_iret2 dJ6_bitCount_0f7a4_52 rfl rfl
theorem t_coder (h : xH) (hle : h.length ≤ 1000) {k : Nat} {q : xSK} (hk : xks[k]? = some q) (d : Nat) : xMet xks YJ0_coder_7d493 (d + 1) 0 0 [.ref (1000 + k)] h (some (.int 0)) h := by
  refine xMet_of (pl := [some (.ref (1000 + k))]) (by decide) hle rfl (Nat.le_of_ble_eq_true rfl) ?_
  refine x_gcomp wJ0_38 dJ0_coder_7d493_0 ?_
  refine x_if_eq 13 dJ0_coder_7d493_3 (by decide) (fun q => absurd q (by decide)) (fun _ => ?_)
  refine x_aload_n dJ0_coder_7d493_6 rfl ?_
  refine x_scod hk wJ0_15 dJ0_coder_7d493_7 ?_
  refine x_goto 14 dJ0_coder_7d493_10 (by decide) ?_
  exact x_zret2 dJ0_coder_7d493_14 rfl rfl rfl
theorem t_isLatin1 (h : xH) (hle : h.length ≤ 1000) {k : Nat} {q : xSK} (hk : xks[k]? = some q) (d : Nat) : xMet xks YJ0_isLatin1_aae02 (d + 1) 0 0 [.ref (1000 + k)] h (some (.int 1)) h := by
  refine xMet_of (pl := [some (.ref (1000 + k))]) (by decide) hle rfl (Nat.le_of_ble_eq_true rfl) ?_
  refine x_gcomp wJ0_38 dJ0_isLatin1_aae02_0 ?_
  refine x_if_eq 17 dJ0_isLatin1_aae02_3 (by decide) (fun q => absurd q (by decide)) (fun _ => ?_)
  refine x_aload_n dJ0_isLatin1_aae02_6 rfl ?_
  refine x_scod hk wJ0_15 dJ0_isLatin1_aae02_7 ?_
  refine x_if_ne 17 dJ0_isLatin1_aae02_10 (by decide) (fun q => absurd rfl q) (fun _ => ?_)
  refine x_iconst (1 : Int32) dJ0_isLatin1_aae02_13 (by decide) ?_
  refine x_goto 18 dJ0_isLatin1_aae02_14 (by decide) ?_
  exact x_zret2 dJ0_isLatin1_aae02_18 rfl rfl rfl
theorem xks_small : ∀ q ∈ xks, q.2.2.2.length < 2 ^ 31 := by decide +kernel
theorem t_slen (h : xH) (hle : h.length ≤ 1000) {k : Nat} {q : xSK} (hk : xks[k]? = some q) (d : Nat) : xMet xks YJ0_length_8abf5 (d + 2) 0 0 [.ref (1000 + k)] h (some (.int (Int32.ofNat q.2.2.2.length))) h := by
  refine xMet_of (pl := [some (.ref (1000 + k))]) (by decide) hle rfl (Nat.le_of_ble_eq_true rfl) ?_
  refine x_aload_n dJ0_length_8abf5_0 rfl ?_
  refine x_sval hk wJ0_9 dJ0_length_8abf5_1 ?_
  refine x_sale hk dJ0_length_8abf5_4 ?_
  refine x_aload_n dJ0_length_8abf5_5 rfl ?_
  refine x_callVS hk (t_coder h hle hk d) kJ0_335 rfl dJ0_length_8abf5_6 rfl rfl (Nat.le_of_ble_eq_true rfl) hle rfl rfl (Or.inl rfl) ?_
  refine x_ishr dJ0_length_8abf5_9 ?_
  have e : Int32.ofNat q.2.2.2.length >>> ((0 : Int32) &&& 31) = Int32.ofNat q.2.2.2.length := sb_shr0 _
  rw [e]
  exact x_iret2 dJ0_length_8abf5_10 rfl rfl
theorem t_preCheck (h : xH) (hle : h.length ≤ 1000) (i n : Int32) (v : Value) (hv : v = .null ∨ v = .ref 3000) (h0 : ¬ i < 0) (h1 : i < n) (d : Nat) : xMet xks YJ3_checkIndex_8e157 (d + 1) 0 0 [.int i, .int n, v] h (some (.int i)) h := by
  rcases hv with rfl | rfl
  · refine xMet_of (pl := [some (.int i), some (.int n), some .null]) (by decide) hle rfl (Nat.le_of_ble_eq_true rfl) ?_
    refine x_iload_n dJ3_checkIndex_8e157_0 rfl ?_
    refine x_if_lt 9 dJ3_checkIndex_8e157_1 (by decide) (fun q => absurd q h0) (fun _ => ?_)
    refine x_iload_n dJ3_checkIndex_8e157_4 rfl ?_
    refine x_iload_n dJ3_checkIndex_8e157_5 rfl ?_
    refine x_icmp_lt 16 dJ3_checkIndex_8e157_6 (by decide) (fun _ => ?_) (fun q => absurd h1 q)
    refine x_iload_n dJ3_checkIndex_8e157_16 rfl ?_
    exact x_iret2 dJ3_checkIndex_8e157_17 rfl rfl
  · refine xMet_of (pl := [some (.int i), some (.int n), some (.ref 3000)]) (by decide) hle rfl (Nat.le_of_ble_eq_true rfl) ?_
    refine x_iload_n dJ3_checkIndex_8e157_0 rfl ?_
    refine x_if_lt 9 dJ3_checkIndex_8e157_1 (by decide) (fun q => absurd q h0) (fun _ => ?_)
    refine x_iload_n dJ3_checkIndex_8e157_4 rfl ?_
    refine x_iload_n dJ3_checkIndex_8e157_5 rfl ?_
    refine x_icmp_lt 16 dJ3_checkIndex_8e157_6 (by decide) (fun _ => ?_) (fun q => absurd h1 q)
    refine x_iload_n dJ3_checkIndex_8e157_16 rfl ?_
    exact x_iret2 dJ3_checkIndex_8e157_17 rfl rfl
theorem t_strCheck (h : xH) (hle : h.length ≤ 1000) (i n : Int32) (h0 : ¬ i < 0) (h1 : i < n) (d : Nat) : xMet xks YJ0_checkIndex_df160 (d + 2) 0 0 [.int i, .int n] h none h := by
  refine xMet_of (pl := [some (.int i), some (.int n)]) (by decide) hle rfl (Nat.le_of_ble_eq_true rfl) ?_
  refine x_iload_n dJ0_checkIndex_df160_0 rfl ?_
  refine x_iload_n dJ0_checkIndex_df160_1 rfl ?_
  refine x_gsio wJ0_1053 dJ0_checkIndex_df160_2 ?_ ?_
  · refine x_callS (t_preCheck h hle i n .null (Or.inl rfl) h0 h1 d) kJ0_1059 dJ0_checkIndex_df160_5 rfl rfl (Nat.le_of_ble_eq_true rfl) hle rfl rfl (Or.inl rfl) ?_
    refine x_pop dJ0_checkIndex_df160_8 rfl ?_
    exact x_vret2 dJ0_checkIndex_df160_9 rfl rfl
  · refine x_callS (t_preCheck h hle i n (.ref 3000) (Or.inr rfl) h0 h1 d) kJ0_1059 dJ0_checkIndex_df160_5 rfl rfl (Nat.le_of_ble_eq_true rfl) hle rfl rfl (Or.inl rfl) ?_
    refine x_pop dJ0_checkIndex_df160_8 rfl ?_
    exact x_vret2 dJ0_checkIndex_df160_9 rfl rfl
theorem t_latChar (h : xH) (hle : h.length ≤ 1000) {k : Nat} {q : xSK} (hk : xks[k]? = some q) (j : Int32) (hj : vp_in j q.2.2.2.length) (d : Nat) : xMet xks YJ1_charAt_3b067 (d + 3) 0 0 [.ref (2000 + k), .int j] h (some (.int (xch q.2.2.2 j))) h := by
  have hL := xks_small q (List.mem_of_getElem? hk)
  have h0 : ¬ j < 0 := fun z => hj (Or.inl z)
  have h1 : j < Int32.ofNat q.2.2.2.length := by
    obtain ⟨i, hi, rfl⟩ := vp_in_of hj hL
    exact nI_lt hi hL
  refine xMet_of (pl := [some (.ref (2000 + k)), some (.int j)]) (by decide) hle rfl (Nat.le_of_ble_eq_true rfl) ?_
  refine x_iload_n dJ1_charAt_3b067_0 rfl ?_
  refine x_aload_n dJ1_charAt_3b067_1 rfl ?_
  refine x_sale hk dJ1_charAt_3b067_2 ?_
  refine x_callS (t_strCheck h hle j _ h0 h1 d) kJ1_9 dJ1_charAt_3b067_3 rfl rfl (Nat.le_of_ble_eq_true rfl) hle rfl rfl (Or.inl rfl) ?_
  refine x_aload_n dJ1_charAt_3b067_6 rfl ?_
  refine x_iload_n dJ1_charAt_3b067_7 rfl ?_
  refine x_sbald hk hj dJ1_charAt_3b067_8 ?_
  refine x_sipush (255 : Int32) dJ1_charAt_3b067_9 (by decide) ?_
  refine x_iand dJ1_charAt_3b067_12 ?_
  refine x_i2c dJ1_charAt_3b067_13 ?_
  exact x_zret2 dJ1_charAt_3b067_14 rfl (pk_nc _) rfl
theorem t_schar (h : xH) (hle : h.length ≤ 1000) {k : Nat} {q : xSK} (hk : xks[k]? = some q) (j : Int32) (hj : vp_in j q.2.2.2.length) (d : Nat) : xMet xks YJ0_charAt_5068e (d + 4) 0 0 [.ref (1000 + k), .int j] h (some (.int (xch q.2.2.2 j))) h := by
  refine xMet_of (pl := [some (.ref (1000 + k)), some (.int j)]) (by decide) hle rfl (Nat.le_of_ble_eq_true rfl) ?_
  refine x_aload_n dJ0_charAt_5068e_0 rfl ?_
  refine x_callVS hk (t_isLatin1 h hle hk (d + 2)) kJ0_492 rfl dJ0_charAt_5068e_1 rfl rfl (Nat.le_of_ble_eq_true rfl) hle rfl rfl (Or.inl rfl) ?_
  refine x_if_eq 16 dJ0_charAt_5068e_4 (by decide) (fun q => absurd q (by decide)) (fun _ => ?_)
  refine x_aload_n dJ0_charAt_5068e_7 rfl ?_
  refine x_sval hk wJ0_9 dJ0_charAt_5068e_8 ?_
  refine x_iload_n dJ0_charAt_5068e_11 rfl ?_
  refine x_callS (t_latChar h hle hk j hj d) kJ0_495 dJ0_charAt_5068e_12 rfl rfl (Nat.le_of_ble_eq_true rfl) hle rfl rfl (Or.inl rfl) ?_
  exact x_zret2 dJ0_charAt_5068e_15 rfl (pk_nc _) rfl
section XSTR
variable {Y : xY} {d mc ms n0 : Nat} {Z : xEnd} {kc kz pc : Nat} {pl : List (Option Value)} {st : List Value} {h : xH}
theorem x_slen {k idx : Nat} {q : xSK} {s : List Int32} (hk : xks[k]? = some q) (hq : s = q.2.2.2) (hle : h.length ≤ 1000) (hc : xCv Y.1.cls idx 0 YJ0_length_8abf5) (hd : decode Y.2.1 pc = .ok (.invokevirtual idx, 3)) (hr : (st.map fun v => v.category).sum ≤ 8) (k9 : xW xks Y (d + 3) mc ms n0 Z kc kz (pc + 3) pl (.int (Int32.ofNat s.length) :: st) h) : xW xks Y (d + 3) mc ms n0 Z kc kz pc pl (.ref (1000 + k) :: st) h := by
  subst hq
  exact x_callVS hk (t_slen h hle hk d) hc rfl hd rfl rfl hr hle rfl rfl (Or.inl rfl) k9
theorem x_schar {k idx : Nat} {q : xSK} {s : List Int32} {j : Int32} (hk : xks[k]? = some q) (hq : s = q.2.2.2) (hj : vp_in j s.length) (hle : h.length ≤ 1000) (hc : xCv Y.1.cls idx 1 YJ0_charAt_5068e) (hd : decode Y.2.1 pc = .ok (.invokevirtual idx, 3)) (hr : (st.map fun v => v.category).sum ≤ 8) (k9 : xW xks Y (d + 5) mc ms n0 Z kc kz (pc + 3) pl (.int (xch s j) :: st) h) : xW xks Y (d + 5) mc ms n0 Z kc kz pc pl (.int j :: .ref (1000 + k) :: st) h := by
  subst hq
  exact x_callVS hk (t_schar h hle hk j hj d) hc rfl hd rfl rfl hr hle rfl rfl (Or.inl rfl) k9
end XSTR
theorem x_iincK {ks : List xSK} {Y : xY} {d mc ms n0 : Nat} {Z : xEnd} {kc kz pc : Nat} {pl : List (Option Value)} {st : List Value} {h : xH} {i : Nat} {n : Int} {x : Int32} (k9 : Int32) {pl' : List (Option Value)} (hd : decode Y.2.1 pc = .ok (.iinc i n, 3)) (hl : pl[i]? = some (some (.int x))) (hv : Int32.ofInt n = k9) (hn : i < Y.2.2.1) (hs : xst1 pl i (.int (x + k9)) = pl') (k : xW ks Y d mc ms n0 Z kc kz (pc + 3) pl' st h) : xW ks Y d mc ms n0 Z kc kz pc pl st h := x_iinc (x + k9) hd hl (by rw [hv]) hn hs k
