theorem sw_value : Cond.fieldLink RJ0 9 "java/lang/String" "value" "[B" ∈ z_W := in_tb 2101 (by decide +kernel) (by decide +kernel)
theorem sw_coder : Cond.fieldLink RJ0 15 "java/lang/String" "coder" "B" ∈ z_W := in_tb 2102 (by decide +kernel) (by decide +kernel)
theorem sw_compact : Cond.fieldLink RJ0 38 "java/lang/String" "COMPACT_STRINGS" "Z" ∈ z_W := in_tb 328 (by decide +kernel) (by decide +kernel)
theorem sw_form : Cond.fieldLink RJ0 1053 "jdk/internal/util/Preconditions" "SIOOBE_FORMATTER" "Ljava/util/function/BiFunction;" ∈ z_W := in_tb 344 (by decide +kernel) (by decide +kernel)
theorem x_ldcS {lay : List z_Sh} {cc : ByteArray} {nL : Nat} {ret : Option FieldType} {R : Room} {pc : Nat} {lv : List (Nat × Value)} {st : List Value} {I : z_I} {L : z_L} {res : z_R}  (hd : decode cc pc = .ok (.ldc 192, 2)) (kk : z_X lay RX11 cc nL ret R (pc + 2) lv (.ref 9001 :: st) I L res) : z_X lay RX11 cc nL ret R pc lv st I L res := by
  intro p l e s m args below meth c0 D cA ad adK adV xs A H locs ls nc ns hnc hns F hA hZ hP hD hS hl
  have h9 := kk p l e s m args below meth c0 D cA ad adK adV xs A H locs ls nc ns hnc hns F hA hZ hP hD hS hl
  have e9 : (Value.ref (adK 1)) = z_cv ad (.ref 9001) := by show Value.ref (adK 1) = Value.ref (ad (9000 + 1)); rw [(hZ.2.2.2.2.2.2 1 (by decide)).1]
  refine va_ldcS F.1 F.2.1 F.2.2.2.2.1 hZ.2.2.1 hd ?_
  rw [e9]
  exact h9
theorem x_sgV {lay : List z_Sh} {cc : ByteArray} {nL : Nat} {ret : Option FieldType} {R : Room} {pc : Nat} {lv : List (Nat × Value)} {st : List Value} {I : z_I} {L : z_L} {res : z_R} {i : Nat} (hi : i < 2) (hd : decode cc pc = .ok (.getfield 9, 3)) (kk : z_X lay RJ0 cc nL ret R (pc + 3) lv (.ref (9002 + i) :: st) I L res) : z_X lay RJ0 cc nL ret R pc lv (.ref (9000 + i) :: st) I L res := by
  intro p l e s m args below meth c0 D cA ad adK adV xs A H locs ls nc ns hnc hns F hA hZ hP hD hS hl
  have h9 := kk p l e s m args below meth c0 D cA ad adK adV xs A H locs ls nc ns hnc hns F hA hZ hP hD hS hl
  have e1 := (hZ.2.2.2.2.2.2 i hi).1
  have e2 := (hZ.2.2.2.2.2.2 i hi).2
  show W _ _ _ _ _ _ _ _ _ _ _ _ _ _ _ (F0 m pc ls (Value.ref (ad (9000 + i)) :: st.map (z_cv ad)))
  rw [e1]
  refine vk_getf F.1 F.2.1 (hZ.1.1 i hi).2.2.1 hS F.2.2.2.2.1 (F.2.2.2.2.2.1 _ sw_value) (fun _ h => h) hd ?_
  rw [← e2]
  exact h9
theorem x_sgC {lay : List z_Sh} {cc : ByteArray} {nL : Nat} {ret : Option FieldType} {R : Room} {pc : Nat} {lv : List (Nat × Value)} {st : List Value} {I : z_I} {L : z_L} {res : z_R} {i : Nat} (hi : i < 2) (hd : decode cc pc = .ok (.getfield 15, 3)) (kk : z_X lay RJ0 cc nL ret R (pc + 3) lv (.int 0 :: st) I L res) : z_X lay RJ0 cc nL ret R pc lv (.ref (9000 + i) :: st) I L res := by
  intro p l e s m args below meth c0 D cA ad adK adV xs A H locs ls nc ns hnc hns F hA hZ hP hD hS hl
  have h9 := kk p l e s m args below meth c0 D cA ad adK adV xs A H locs ls nc ns hnc hns F hA hZ hP hD hS hl
  have e1 := (hZ.2.2.2.2.2.2 i hi).1
  show W _ _ _ _ _ _ _ _ _ _ _ _ _ _ _ (F0 m pc ls (Value.ref (ad (9000 + i)) :: st.map (z_cv ad)))
  rw [e1]
  exact vk_getf F.1 F.2.1 (hZ.1.1 i hi).2.1 hS F.2.2.2.2.1 (F.2.2.2.2.2.1 _ sw_coder) (fun _ h => h) hd h9
theorem x_gsC {lay : List z_Sh} {cc : ByteArray} {nL : Nat} {ret : Option FieldType} {R : Room} {pc : Nat} {lv : List (Nat × Value)} {st : List Value} {I : z_I} {L : z_L} {res : z_R}  (hd : decode cc pc = .ok (.getstatic 38, 3)) (kk : z_X lay RJ0 cc nL ret R (pc + 3) lv (.int 1 :: st) I L res) : z_X lay RJ0 cc nL ret R pc lv st I L res := by
  intro p l e s m args below meth c0 D cA ad adK adV xs A H locs ls nc ns hnc hns F hA hZ hP hD hS hl
  exact va_gets F.1 F.2.1 hZ.2.2.2.1 hS F.2.2.2.2.1 (F.2.2.2.2.2.1 _ sw_compact) (fun _ h => h) hd (kk p l e s m args below meth c0 D cA ad adK adV xs A H locs ls nc ns hnc hns F hA hZ hP hD hS hl)
theorem x_tlen {lay : List z_Sh} {own : String} {cc : ByteArray} {nL : Nat} {ret : Option FieldType} {R : Room} {pc : Nat} {lv : List (Nat × Value)} {st : List Value} {I : z_I} {L : z_L} {res : z_R} {i : Nat} (hi : i < 2) (hd : decode cc pc = .ok (.arraylength, 1)) (kk : z_X lay own cc nL ret R (pc + 1) lv (.int (Int32.ofNat (z_len.getD i 0)) :: st) I L res) : z_X lay own cc nL ret R pc lv (.ref (9002 + i) :: st) I L res := by
  intro p l e s m args below meth c0 D cA ad adK adV xs A H locs ls nc ns hnc hns F hA hZ hP hD hS hl
  have h9 := kk p l e s m args below meth c0 D cA ad adK adV xs A H locs ls nc ns hnc hns F hA hZ hP hD hS hl
  have e2 := (hZ.2.2.2.2.2.2 i hi).2
  show W _ _ _ _ _ _ _ _ _ _ _ _ _ _ _ (F0 m pc ls (Value.ref (ad (9002 + i)) :: st.map (z_cv ad)))
  rw [e2]
  exact va_tlen F.1 F.2.1 (hZ.1.1 i hi).2.2.2 hS rfl hd h9
theorem x_tb {lay : List z_Sh} {own : String} {cc : ByteArray} {nL : Nat} {ret : Option FieldType} {R : Room} {pc : Nat} {lv : List (Nat × Value)} {st : List Value} {I : z_I} {L : z_L} {res : z_R} {i : Nat} {k : Int32} (hi : i < 2) (hd : decode cc pc = .ok (.baload, 1)) (hin : zin k (z_len.getD i 0) = true) (kk : z_X lay own cc nL ret R (pc + 1) lv (.int ((z_byt.getD i []).getD k.toNatClampNeg 0) :: st) I L res) : z_X lay own cc nL ret R pc lv (.int k :: .ref (9002 + i) :: st) I L res := by
  intro p l e s m args below meth c0 D cA ad adK adV xs A H locs ls nc ns hnc hns F hA hZ hP hD hS hl
  have h9 := kk p l e s m args below meth c0 D cA ad adK adV xs A H locs ls nc ns hnc hns F hA hZ hP hD hS hl
  have e2 := (hZ.2.2.2.2.2.2 i hi).2
  show W _ _ _ _ _ _ _ _ _ _ _ _ _ _ _ (F0 m pc ls (Value.int k :: Value.ref (ad (9002 + i)) :: st.map (z_cv ad)))
  rw [e2]
  exact va_tb F.1 F.2.1 (hZ.1.1 i hi).2.2.2 hS (zin_vp hin) rfl hd h9
theorem x_nret {lay : List z_Sh} {own : String} {cc : ByteArray} {nL : Nat} {ret : Option FieldType} {R : Room} {pc : Nat} {lv : List (Nat × Value)} {I : z_I} {L : z_L} {res : z_R} {v : Int32} (ty : FieldType) (hd : decode cc pc = .ok (.ireturn, 1)) (hr : ret = some ty) (hn : narrow ty (.int v) = .int v) (hres : res = (some (.int v), I, L)) : z_X lay own cc nL ret R pc lv [.int v] I L res := by
  intro p l e s m args below meth c0 D cA ad adK adV xs A H locs ls nc ns hnc hns F hA hZ hP hD hS hl
  subst hres
  exact W.zret F.1 F.2.1 (F.2.2.1.trans hr) hn (fun t ht hW => ⟨rfl, by rw [ht]; exact hP, va_K.moved hW.alike F.2.2.2.2.2.2.2, hD, hS.F ht⟩) hS.2.2 hd F.2.2.2.2.2.2.1
set_option maxHeartbeats 1000000 in
theorem pc_met (l : Launch) (k n : Int32) (v : Value) (hv : v.category = 1) (h0 : ¬ k < 0) (h1 : k < n) : Met l yJ3_checkIndex_8e157 (.code yJ3_checkIndex_8e157 cJ3_checkIndex_8e157 3 (some .int) :: z_W) ({ frames := 0, cells := 0, slots := 0, locals := 0 } : Room) (fun a _ => a = #[.int k, .int n, v]) (vp_Si (fun r => r = k)) 0 0 (fun _ => False) := by
  refine Met.ofW (cc := cJ3_checkIndex_8e157) (maxL := 3) (ret := some .int) (by decide) rfl ?_
  intro p e s m args below meth c s₁ B hml hv9
  subst hv9
  have hx := B.exec
  have hb := B.bytes
  have hr := B.returns
  have hlocks := B.notSynchronized
  have hl := lv_entry [.int k, .int n, v] (n := 3) (by simp [lg_sl, Value.category] at hv ⊢; cases v <;> simp_all [Value.category])
  have e0 : entryFrame m #[Value.int k, Value.int n, v] 3 = F0 m 0 ((lg_sl [.int k, .int n, v] ++ List.replicate (3 - (lg_sl [.int k, .int n, v]).length) Slot.unset).toArray) [] := lg_entry_eq m [.int k, .int n, v] 3
  rw [e0]
  generalize (lg_sl [.int k, .int n, v] ++ List.replicate (3 - (lg_sl [.int k, .int n, v]).length) Slot.unset).toArray = ls at hl ⊢
  have hl : lv_has ls 3 [(0, .int k), (1, .int n), (2, v)] := hl
  refine lv_iload_n hx hb dJ3_checkIndex_8e157_0 rfl (lv_at hl 0 rfl) ?_
  refine lv_if_lt (tgt := 9) hx hb dJ3_checkIndex_8e157_1 (by decide) (fun h => absurd h h0) (fun _ => ?_)
  refine lv_iload_n hx hb dJ3_checkIndex_8e157_4 rfl (lv_at hl 0 rfl) ?_
  refine lv_iload_n hx hb dJ3_checkIndex_8e157_5 rfl (lv_at hl 1 rfl) ?_
  refine lv_icmp_lt (tgt := 16) hx hb dJ3_checkIndex_8e157_6 (by decide) (fun _ => ?_) (fun h => absurd h1 h)
  refine lv_iload_n hx hb dJ3_checkIndex_8e157_16 rfl (lv_at hl 0 rfl) ?_
  exact W.iret hx hb hr (fun t ht _ => ⟨k, rfl, rfl, ht⟩) (fun _ h => by cases h) dJ3_checkIndex_8e157_17
theorem x_pchk {lay : List z_Sh} {cc : ByteArray} {nL : Nat} {ret : Option FieldType} {R : Room} {pc : Nat} {lv : List (Nat × Value)} {st : List Value} {I : z_I} {L : z_L} {res : z_R} {k n : Int32} (h0 : ¬ k < 0) (h1 : k < n) (hd : decode cc pc = .ok (.getstatic 1053, 3)) (hd2 : decode cc (pc + 3) = .ok (.invokestatic 1059, 3)) (hW : (st.map fun v => v.category).sum ≤ 8) (hR : 1 ≤ R.frames ∧ 22 ≤ R.locals) (kk : z_X lay RJ0 cc nL ret R (pc + 3 + 3) lv (.int k :: st) I L res) : z_X lay RJ0 cc nL ret R pc lv (.int n :: .int k :: st) I L res := by
  intro p l e s m args below meth c0 D cA ad adK adV xs A H locs ls nc ns hnc hns F hA hZ hP hD hS hl
  have h9 := kk p l e s m args below meth c0 D cA ad adK adV xs A H locs ls nc ns hnc hns F hA hZ hP hD hS hl
  have hts := F.2.2.2.2.2.1
  obtain ⟨w1, w2, w4, w5⟩ := lk_J0_1059
  have cb : CallB R s args RJ0 1059 yJ3_checkIndex_8e157 cJ3_checkIndex_8e157 3 (some .int) (.code yJ3_checkIndex_8e157 cJ3_checkIndex_8e157 3 (some .int) :: z_W) ({ frames := 0, cells := 0, slots := 0, locals := 0 } : Room) 0 0 3 := callB_of 3 hts (gi_all (fun w h => (List.mem_cons.mp h).elim (fun h => by rw [h]; exact cd_J3_checkIndex_8e157) id)) rfl rfl rfl (hts _ w4) (hts _ w1) w5 ⟨hR.1, hR.2⟩
  have go : ∀ v : Value, v.category = 1 → W p l e R s m args below meth c0 H locs nc ns (MQ below (z_Q lay D cA ad xs A res) args s nc ns A) (F0 m (pc + 3) ls (v :: (Value.int n :: .int k :: st).map (z_cv ad))) := by
    intro v hv
    refine vp_callSi (rest := st.map (z_cv ad)) (W.runS (As := [.int k, .int n, v]) ⟨F.1, F.2.1, F.2.2.2.1, F.2.2.2.2.1, hts⟩ (pc_met l k n v hv h0 h1) ⟨cb, hts _ w2⟩ ⟨fun a U g mk q => q, fun U hU hW => rfl⟩ rfl rfl hl.1 rfl (z_rest hW) hd2 ⟨hnc, hns⟩) (fun r hr => ?_)
    subst hr
    exact h9
  rcases hZ.2.2.2.2.1 with h | ⟨t, h⟩
  · exact va_gets F.1 F.2.1 h hS F.2.2.2.2.1 (hts _ sw_form) (fun _ h => h) hd (go _ rfl)
  · exact va_gets F.1 F.2.1 h hS F.2.2.2.2.1 (hts _ sw_form) (fun _ h => h) hd (go _ rfl)
set_option maxHeartbeats 1000000 in
theorem c_J0_coder_7d493 {lay : List z_Sh} {I : z_I} {L : z_L} {i : Nat} (hi : i < 2) : z_C lay yJ0_coder_7d493 cJ0_coder_7d493 1 (some .byte) ({ frames := 0, cells := 0, slots := 0, locals := 0 } : Room) [.ref (9000 + i)] I L (some (.int 0), I, L) := by
  refine z_C.of (by decide) (Nat.le_of_ble_eq_true rfl) ?_
  show z_X lay RJ0 cJ0_coder_7d493 1 (some .byte) ({ frames := 0, cells := 0, slots := 0, locals := 0 } : Room) 0 [(0, .ref (9000 + i))] [] I L (some (.int 0), I, L)
  refine x_gsC dJ0_coder_7d493_0 ?_
  refine x_if_eq 13 dJ0_coder_7d493_3 (by decide) (fun h => absurd h (by decide)) (fun _ => ?_)
  refine x_aload_n 0 dJ0_coder_7d493_6 rfl rfl ?_
  refine x_sgC hi dJ0_coder_7d493_7 ?_
  refine x_goto 14 dJ0_coder_7d493_10 (by decide) ?_
  exact x_nret .byte dJ0_coder_7d493_14 rfl rfl rfl
set_option maxHeartbeats 1000000 in
theorem c_J0_isLatin1_aae02 {lay : List z_Sh} {I : z_I} {L : z_L} {i : Nat} (hi : i < 2) : z_C lay yJ0_isLatin1_aae02 cJ0_isLatin1_aae02 1 (some .boolean) ({ frames := 0, cells := 0, slots := 0, locals := 0 } : Room) [.ref (9000 + i)] I L (some (.int 1), I, L) := by
  refine z_C.of (by decide) (Nat.le_of_ble_eq_true rfl) ?_
  show z_X lay RJ0 cJ0_isLatin1_aae02 1 (some .boolean) ({ frames := 0, cells := 0, slots := 0, locals := 0 } : Room) 0 [(0, .ref (9000 + i))] [] I L (some (.int 1), I, L)
  refine x_gsC dJ0_isLatin1_aae02_0 ?_
  refine x_if_eq 17 dJ0_isLatin1_aae02_3 (by decide) (fun h => absurd h (by decide)) (fun _ => ?_)
  refine x_aload_n 0 dJ0_isLatin1_aae02_6 rfl rfl ?_
  refine x_sgC hi dJ0_isLatin1_aae02_7 ?_
  refine x_if_ne 17 dJ0_isLatin1_aae02_10 (by decide) (fun h => absurd rfl h) (fun _ => ?_)
  refine x_iconst (v := 1) dJ0_isLatin1_aae02_13 (by decide) ?_
  refine x_goto 18 dJ0_isLatin1_aae02_14 (by decide) ?_
  exact x_nret .boolean dJ0_isLatin1_aae02_18 rfl rfl rfl
theorem x_strV {lay : List z_Sh} {cc : ByteArray} {nL : Nat} {ret : Option FieldType} {R : Room} {pc : Nat} {lv : List (Nat × Value)} {st : List Value} {I : z_I} {L : z_L} {res : z_R} {y : MethodName} {cc2 : ByteArray} {nL2 idx n i : Nat} {ret2 : Option FieldType} {rm2 : Room} {w : Int32} {own : String} (As : List Value) {st0 : List Value} (hi : i < 2) (hC : z_C lay y cc2 nL2 ret2 rm2 (.ref (9000 + i) :: As) I L (some (.int w), I, L)) (hd : decode cc pc = .ok (.invokevirtual idx, 3)) (hL : z_LV own idx y n) (hy : y.cls = "java/lang/String") (hcode : Cond.code y cc2 nL2 ret2 ∈ z_W) (hn : As.length = n) (hst : st0 = As.reverse ++ .ref (9000 + i) :: st) (hW : (st.map fun v => v.category).sum ≤ 8) (hR : rm2.cells = 0 ∧ rm2.slots = 0 ∧ rm2.frames + 1 ≤ R.frames ∧ 8 + (nL2 + 11) + rm2.locals ≤ R.locals) (kk : z_X lay own cc nL ret R (pc + 3) lv (.int w :: st) I L res) : z_X lay own cc nL ret R pc lv st0 I L res := by
  intro p l e s m args below meth c0 D cA ad adK adV xs A H locs ls nc ns hnc hns F hA hZ hP hD hS hl
  subst hst
  have hpre := z_pre (as := .ref (9000 + i) :: As) F.2.2.2.2.2.2.2 hA hZ hP hD hS
  have hF := z_sub hA hD hS
  obtain ⟨w1, w2, w3, w4, w5⟩ := hL
  have hts := F.2.2.2.2.2.1
  have cb : CallB R s args own idx y cc2 nL2 ret2 (.code y cc2 nL2 ret2 :: z_W) rm2 0 0 n := callB_of n hts (gi_all (fun w h => (List.mem_cons.mp h).elim (fun h => by rw [h]; exact hcode) id)) rfl hR.1 hR.2.1 (hts _ w4) (hts _ w1) w5 hR.2.2
  have hcr := vk_recv hZ.1 hi hS
  rw [← (hZ.2.2.2.2.2.2 i hi).1, ← hy] at hcr
  exact z_back (rest := st.map (z_cv ad)) (va_runV (As := As.map (z_cv ad)) ⟨F.1, F.2.1, F.2.2.2.1, F.2.2.2.2.1, hts⟩ (hC l D cA ad adK adV xs H.size) ⟨cb, hts _ w2, hts _ w3⟩ ⟨hpre.1, hcr, hpre.2⟩ rfl (by rw [List.length_map]; exact hn) hl.1 (by
    show (As.reverse ++ .ref (9000 + i) :: st).map (z_cv ad) = (As.map (z_cv ad)).reverse ++ .ref (ad (9000 + i)) :: st.map (z_cv ad)
    rw [List.map_append, List.map_reverse]
    rfl) (z_rest hW) hd ⟨hnc, hns⟩) hS hF hF (fun H1 locs1 hP1 hD1 hS1 => kk p l e s m args below meth c0 D cA ad adK adV xs A H1 locs1 ls nc ns hnc hns F hA hZ hP1 hD1 hS1 hl)
set_option maxHeartbeats 1000000 in
theorem c_J0_length_8abf5 {lay : List z_Sh} {I : z_I} {L : z_L} {i : Nat} (hi : i < 2) : z_C lay yJ0_length_8abf5 cJ0_length_8abf5 1 (some .int) ({ frames := 1, cells := 0, slots := 0, locals := 20 } : Room) [.ref (9000 + i)] I L (some (.int ((Int32.ofNat (z_len.getD i 0)) >>> ((0 : Int32) &&& 31))), I, L) := by
  refine z_C.of (by decide) (Nat.le_of_ble_eq_true rfl) ?_
  show z_X lay RJ0 cJ0_length_8abf5 1 (some .int) ({ frames := 1, cells := 0, slots := 0, locals := 20 } : Room) 0 [(0, .ref (9000 + i))] [] I L (some (.int ((Int32.ofNat (z_len.getD i 0)) >>> ((0 : Int32) &&& 31))), I, L)
  refine x_aload_n 0 dJ0_length_8abf5_0 rfl rfl ?_
  refine x_sgV hi dJ0_length_8abf5_1 ?_
  refine x_tlen hi dJ0_length_8abf5_4 ?_
  refine x_aload_n 0 dJ0_length_8abf5_5 rfl rfl ?_
  refine x_strV [] hi (c_J0_coder_7d493 hi) dJ0_length_8abf5_6 lk_J0_335 rfl cd_J0_coder_7d493 rfl rfl (Nat.le_of_ble_eq_true rfl) ⟨rfl, rfl, Nat.le_of_ble_eq_true rfl, Nat.le_of_ble_eq_true rfl⟩ ?_
  refine x_ishr dJ0_length_8abf5_9 ?_
  exact x_iret dJ0_length_8abf5_10 rfl rfl
set_option maxHeartbeats 1000000 in
theorem c_J0_checkIndex_df160 {lay : List z_Sh} {I : z_I} {L : z_L} {k n : Int32} (h0 : ¬ k < 0) (h1 : k < n) : z_C lay yJ0_checkIndex_df160 cJ0_checkIndex_df160 2 (none) ({ frames := 1, cells := 0, slots := 0, locals := 22 } : Room) [.int k, .int n] I L (none, I, L) := by
  refine z_C.of (by decide) (Nat.le_of_ble_eq_true rfl) ?_
  show z_X lay RJ0 cJ0_checkIndex_df160 2 (none) ({ frames := 1, cells := 0, slots := 0, locals := 22 } : Room) 0 [(0, .int k), (1, .int n)] [] I L (none, I, L)
  refine x_iload_n 0 dJ0_checkIndex_df160_0 rfl rfl ?_
  refine x_iload_n 1 dJ0_checkIndex_df160_1 rfl rfl ?_
  refine x_pchk h0 h1 dJ0_checkIndex_df160_2 dJ0_checkIndex_df160_5 (Nat.le_of_ble_eq_true rfl) ⟨Nat.le_of_ble_eq_true rfl, Nat.le_of_ble_eq_true rfl⟩ ?_
  refine x_pop dJ0_checkIndex_df160_8 rfl ?_
  exact x_vret dJ0_checkIndex_df160_9 rfl rfl
theorem st_pos {k : Int32} {n : Nat} (h : zin k n = true) : ¬ k < 0 := fun q => (zin_vp h) (Or.inl q)
theorem st_lt {k : Int32} {i : Nat} (hi : i < 2) (h : zin k (z_len.getD i 0) = true) : k < Int32.ofNat (z_len.getD i 0) := by
  have hl : z_len.getD i 0 < 2 ^ 31 := by
    match i, hi with
    | 0, _ => decide
    | 1, _ => decide
  obtain ⟨j, hj, e⟩ := vp_in_of (zin_vp h) hl
  rw [e]
  exact nI_lt hj hl
set_option maxHeartbeats 1000000 in
theorem c_J1_charAt_3b067 {lay : List z_Sh} {I : z_I} {L : z_L} {i : Nat} {k : Int32} (hi : i < 2) (hin : zin k (z_len.getD i 0) = true) : z_C lay yJ1_charAt_3b067 cJ1_charAt_3b067 2 (some .char) ({ frames := 2, cells := 0, slots := 0, locals := 43 } : Room) [.ref (9002 + i), .int k] I L (some (.int ((((z_byt.getD i []).getD k.toNatClampNeg 0) &&& (255 : Int32)).toUInt32 % 65536).toInt32), I, L) := by
  refine z_C.of (by decide) (Nat.le_of_ble_eq_true rfl) ?_
  show z_X lay RJ1 cJ1_charAt_3b067 2 (some .char) ({ frames := 2, cells := 0, slots := 0, locals := 43 } : Room) 0 [(0, .ref (9002 + i)), (1, .int k)] [] I L (some (.int ((((z_byt.getD i []).getD k.toNatClampNeg 0) &&& (255 : Int32)).toUInt32 % 65536).toInt32), I, L)
  refine x_iload_n 1 dJ1_charAt_3b067_0 rfl rfl ?_
  refine x_aload_n 0 dJ1_charAt_3b067_1 rfl rfl ?_
  refine x_tlen hi dJ1_charAt_3b067_2 ?_
  refine x_callSv [.int k, .int (Int32.ofNat (z_len.getD i 0))] (c_J0_checkIndex_df160 (st_pos hin) (st_lt hi hin)) dJ1_charAt_3b067_3 lk_J1_9 cd_J0_checkIndex_df160 rfl rfl (Nat.le_of_ble_eq_true rfl) ⟨rfl, rfl, Nat.le_of_ble_eq_true rfl, Nat.le_of_ble_eq_true rfl⟩ ?_
  refine x_aload_n 0 dJ1_charAt_3b067_6 rfl rfl ?_
  refine x_iload_n 1 dJ1_charAt_3b067_7 rfl rfl ?_
  refine x_tb hi dJ1_charAt_3b067_8 hin ?_
  refine x_sipush (v := 255) dJ1_charAt_3b067_9 (by decide) ?_
  refine x_iand dJ1_charAt_3b067_12 ?_
  refine x_i2c dJ1_charAt_3b067_13 ?_
  exact x_nret .char dJ1_charAt_3b067_14 rfl (pk_nc _) rfl
set_option maxHeartbeats 1000000 in
theorem c_J0_charAt_5068e {lay : List z_Sh} {I : z_I} {L : z_L} {i : Nat} {k : Int32} (hi : i < 2) (hin : zin k (z_len.getD i 0) = true) : z_C lay yJ0_charAt_5068e cJ0_charAt_5068e 2 (some .char) ({ frames := 3, cells := 0, slots := 0, locals := 64 } : Room) [.ref (9000 + i), .int k] I L (some (.int ((((z_byt.getD i []).getD k.toNatClampNeg 0) &&& (255 : Int32)).toUInt32 % 65536).toInt32), I, L) := by
  refine z_C.of (by decide) (Nat.le_of_ble_eq_true rfl) ?_
  show z_X lay RJ0 cJ0_charAt_5068e 2 (some .char) ({ frames := 3, cells := 0, slots := 0, locals := 64 } : Room) 0 [(0, .ref (9000 + i)), (1, .int k)] [] I L (some (.int ((((z_byt.getD i []).getD k.toNatClampNeg 0) &&& (255 : Int32)).toUInt32 % 65536).toInt32), I, L)
  refine x_aload_n 0 dJ0_charAt_5068e_0 rfl rfl ?_
  refine x_strV [] hi (c_J0_isLatin1_aae02 hi) dJ0_charAt_5068e_1 lk_J0_492 rfl cd_J0_isLatin1_aae02 rfl rfl (Nat.le_of_ble_eq_true rfl) ⟨rfl, rfl, Nat.le_of_ble_eq_true rfl, Nat.le_of_ble_eq_true rfl⟩ ?_
  refine x_if_eq 16 dJ0_charAt_5068e_4 (by decide) (fun h => absurd h (by decide)) (fun _ => ?_)
  refine x_aload_n 0 dJ0_charAt_5068e_7 rfl rfl ?_
  refine x_sgV hi dJ0_charAt_5068e_8 ?_
  refine x_iload_n 1 dJ0_charAt_5068e_11 rfl rfl ?_
  refine x_callSi [.ref (9002 + i), .int k] (c_J1_charAt_3b067 hi hin) dJ0_charAt_5068e_12 lk_J0_495 cd_J1_charAt_3b067 rfl rfl (Nat.le_of_ble_eq_true rfl) ⟨rfl, rfl, Nat.le_of_ble_eq_true rfl, Nat.le_of_ble_eq_true rfl⟩ ?_
  exact x_nret .char dJ0_charAt_5068e_15 rfl (pk_nc _) rfl
/-- the reference's words: the byte at a place -/
def z_ch (j : Nat) : Int32 := ((((z_byt.getD 1 []).getD j 0) &&& (255 : Int32)).toUInt32 % 65536).toInt32
theorem x_slen {lay : List z_Sh} {own : String} {cc : ByteArray} {nL : Nat} {ret : Option FieldType} {R : Room} {pc : Nat} {lv : List (Nat × Value)} {st : List Value} {I : z_I} {L : z_L} {res : z_R} {idx : Nat} (hd : decode cc pc = .ok (.invokevirtual idx, 3)) (hL : z_LV own idx yJ0_length_8abf5 0) (hR : 2 ≤ R.frames ∧ 40 ≤ R.locals) (hW : (st.map fun v => v.category).sum ≤ 8) (kk : z_X lay own cc nL ret R (pc + 3) lv (.int 120 :: st) I L res) : z_X lay own cc nL ret R pc lv (.ref 9001 :: st) I L res :=
  x_strV (i := 1) [] (by decide) (c_J0_length_8abf5 (by decide)) hd hL rfl cd_J0_length_8abf5 rfl rfl hW ⟨rfl, rfl, hR.1, hR.2⟩ kk
theorem x_schar {lay : List z_Sh} {own : String} {cc : ByteArray} {nL : Nat} {ret : Option FieldType} {R : Room} {pc : Nat} {lv : List (Nat × Value)} {st : List Value} {I : z_I} {L : z_L} {res : z_R} {idx : Nat} {k : Int32} (hd : decode cc pc = .ok (.invokevirtual idx, 3)) (hL : z_LV own idx yJ0_charAt_5068e 1) (hin : zin k 120 = true) (hR : 4 ≤ R.frames ∧ 85 ≤ R.locals) (hW : (st.map fun v => v.category).sum ≤ 8) (kk : z_X lay own cc nL ret R (pc + 3) lv (.int (z_ch k.toNatClampNeg) :: st) I L res) : z_X lay own cc nL ret R pc lv (.int k :: .ref 9001 :: st) I L res :=
  x_strV (i := 1) [.int k] (by decide) (c_J0_charAt_5068e (by decide) hin) hd hL rfl cd_J0_charAt_5068e rfl rfl hW ⟨rfl, rfl, hR.1, hR.2⟩ kk
theorem x_ldcT {lay : List z_Sh} {cc : ByteArray} {nL : Nat} {ret : Option FieldType} {R : Room} {pc : Nat} {lv : List (Nat × Value)} {st : List Value} {I : z_I} {L : z_L} {res : z_R}  (hd : decode cc pc = .ok (.ldc 19, 2)) (kk : z_X lay RX7 cc nL ret R (pc + 2) lv (.ref 9000 :: st) I L res) : z_X lay RX7 cc nL ret R pc lv st I L res := by
  intro p l e s m args below meth c0 D cA ad adK adV xs A H locs ls nc ns hnc hns F hA hZ hP hD hS hl
  have h9 := kk p l e s m args below meth c0 D cA ad adK adV xs A H locs ls nc ns hnc hns F hA hZ hP hD hS hl
  have e9 : (Value.ref (adK 0)) = z_cv ad (.ref 9000) := by show Value.ref (adK 0) = Value.ref (ad (9000 + 0)); rw [(hZ.2.2.2.2.2.2 0 (by decide)).1]
  refine va_ldcS F.1 F.2.1 F.2.2.2.2.1 hZ.2.1 hd ?_
  rw [e9]
  exact h9
def z_chT (j : Nat) : Int32 := ((((z_byt.getD 0 []).getD j 0) &&& (255 : Int32)).toUInt32 % 65536).toInt32
theorem x_slenT {lay : List z_Sh} {own : String} {cc : ByteArray} {nL : Nat} {ret : Option FieldType} {R : Room} {pc : Nat} {lv : List (Nat × Value)} {st : List Value} {I : z_I} {L : z_L} {res : z_R} {idx : Nat} (hd : decode cc pc = .ok (.invokevirtual idx, 3)) (hL : z_LV own idx yJ0_length_8abf5 0) (hR : 2 ≤ R.frames ∧ 40 ≤ R.locals) (hW : (st.map fun v => v.category).sum ≤ 8) (kk : z_X lay own cc nL ret R (pc + 3) lv (.int 119 :: st) I L res) : z_X lay own cc nL ret R pc lv (.ref 9000 :: st) I L res :=
  x_strV (i := 0) [] (by decide) (c_J0_length_8abf5 (by decide)) hd hL rfl cd_J0_length_8abf5 rfl rfl hW ⟨rfl, rfl, hR.1, hR.2⟩ kk
theorem x_scharT {lay : List z_Sh} {own : String} {cc : ByteArray} {nL : Nat} {ret : Option FieldType} {R : Room} {pc : Nat} {lv : List (Nat × Value)} {st : List Value} {I : z_I} {L : z_L} {res : z_R} {idx : Nat} {k : Int32} (hd : decode cc pc = .ok (.invokevirtual idx, 3)) (hL : z_LV own idx yJ0_charAt_5068e 1) (hin : zin k 119 = true) (hR : 4 ≤ R.frames ∧ 85 ≤ R.locals) (hW : (st.map fun v => v.category).sum ≤ 8) (kk : z_X lay own cc nL ret R (pc + 3) lv (.int (z_chT k.toNatClampNeg) :: st) I L res) : z_X lay own cc nL ret R pc lv (.int k :: .ref 9000 :: st) I L res :=
  x_strV (i := 0) [.int k] (by decide) (c_J0_charAt_5068e (by decide) hin) hd hL rfl cd_J0_charAt_5068e rfl rfl hW ⟨rfl, rfl, hR.1, hR.2⟩ kk
