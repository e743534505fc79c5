set_option maxRecDepth 100000 in
set_option maxHeartbeats 4000000 in
theorem c_X2_claimsMore {I : z_I} {L : z_L} (p0 : Int32)  : z_C layX yX2_claimsMore cX2_claimsMore 3 (some .int) ({ frames := 1, cells := 0, slots := 0, locals := 20 } : Room) [.ref 51, .int p0] I L (some (.int (f_X2_claimsMore I p0)), I, L) := by
  obtain ⟨r, hf⟩ : ∃ r, f_X2_claimsMore I p0 = r := ⟨_, rfl⟩
  rw [hf]
  refine z_C.of (by decide) (Nat.le_of_ble_eq_true rfl) ?_
  show z_X layX RX2 cX2_claimsMore 3 (some .int) ({ frames := 1, cells := 0, slots := 0, locals := 20 } : Room) 0 [(0, .ref 51), (1, .int p0)] [] I L (some (.int r), I, L)
  unfold f_X2_claimsMore at hf
  refine x_iload_n 1 dX2_claimsMore_0 rfl rfl ?_
  refine x_aload_n 0 dX2_claimsMore_1 rfl rfl ?_
  refine x_getR dX2_claimsMore_2 lx_51 fl_X2_18 rfl ?_
  refine x_getI (v := (I 3 16)) dX2_claimsMore_5 lx_3 fl_X2_26 rfl rfl ?_
  refine x_iand dX2_claimsMore_8 ?_
  refine x_aload_n 0 dX2_claimsMore_9 rfl rfl ?_
  refine x_getR dX2_claimsMore_10 lx_51 fl_X2_18 rfl ?_
  refine x_getI (v := (I 3 16)) dX2_claimsMore_13 lx_3 fl_X2_26 rfl rfl ?_
  refine x_icmp_ne 23 dX2_claimsMore_16 (by decide) (fun hB => ?_) (fun hB => ?_)
  · replace hf := t_el hB hf
    refine x_iconst (v := (0)) dX2_claimsMore_23 (by decide) ?_
    refine x_istore_n [(2, .int (0 : Int32)), (0, .ref 51), (1, .int p0)] dX2_claimsMore_24 rfl (by decide) rfl ?_
    refine x_iload_n 0 dX2_claimsMore_25 rfl rfl ?_
    refine x_if_eq 46 dX2_claimsMore_26 (by decide) (fun _ => ?_) (fun h => absurd h (by decide))
    refine x_iconst (v := (-1)) dX2_claimsMore_46 (by decide) ?_
    subst hf
    exact x_iret dX2_claimsMore_47 rfl rfl
  · replace hf := t_if hB hf
    refine x_iconst (v := (1)) dX2_claimsMore_19 (by decide) ?_
    refine x_goto 24 dX2_claimsMore_20 (by decide) ?_
    refine x_istore_n [(2, .int (1 : Int32)), (0, .ref 51), (1, .int p0)] dX2_claimsMore_24 rfl (by decide) rfl ?_
    refine x_iload_n 0 dX2_claimsMore_25 rfl rfl ?_
    refine x_if_eq 46 dX2_claimsMore_26 (by decide) (fun h => absurd h (by decide)) (fun _ => ?_)
    refine x_iload_n 2 dX2_claimsMore_29 rfl rfl ?_
    refine x_aload_n 1 dX2_claimsMore_30 rfl rfl ?_
    refine x_getR dX2_claimsMore_31 lx_51 fl_X2_18 rfl ?_
    refine x_getI (v := (I 3 16)) dX2_claimsMore_34 lx_3 fl_X2_26 rfl rfl ?_
    refine x_iconst (v := (-1)) dX2_claimsMore_37 (by decide) ?_
    refine x_ixor dX2_claimsMore_38 ?_
    refine x_iand dX2_claimsMore_39 ?_
    refine x_callSi [.int (p0 &&& ((I 3 16) ^^^ (-1 : Int32)))] (c_J6_bitCount_0f7a4 (lay := layX) (I := I) (L := L) (p0 &&& ((I 3 16) ^^^ (-1 : Int32)))) dX2_claimsMore_40 lk_X2_60 cd_J6_bitCount_0f7a4 rfl rfl (Nat.le_of_ble_eq_true rfl) ⟨rfl, rfl, Nat.le_of_ble_eq_true rfl, Nat.le_of_ble_eq_true rfl⟩ ?_
    refine x_goto 47 dX2_claimsMore_43 (by decide) ?_
    subst hf
    exact x_iret dX2_claimsMore_47 rfl rfl
set_option maxRecDepth 100000 in
set_option maxHeartbeats 4000000 in
theorem c_X2_indexOf {I : z_I} {L : z_L} (p0 : Int32) (p1 : Int32)  : z_C layX yX2_indexOf cX2_indexOf 2 (some .int) ({ frames := 0, cells := 0, slots := 0, locals := 0 } : Room) [.int p0, .int p1] I L (some (.int (f_X2_indexOf p0 p1)), I, L) := by
  obtain ⟨r, hf⟩ : ∃ r, f_X2_indexOf p0 p1 = r := ⟨_, rfl⟩
  rw [hf]
  refine z_C.of (by decide) (Nat.le_of_ble_eq_true rfl) ?_
  show z_X layX RX2 cX2_indexOf 2 (some .int) ({ frames := 0, cells := 0, slots := 0, locals := 0 } : Room) 0 [(0, .int p0), (1, .int p1)] [] I L (some (.int r), I, L)
  unfold f_X2_indexOf at hf
  refine x_iload_n 0 dX2_indexOf_0 rfl rfl ?_
  refine x_sipush (v := (128)) dX2_indexOf_1 (by decide) ?_
  refine x_imul dX2_indexOf_4 ?_
  refine x_iload_n 1 dX2_indexOf_5 rfl rfl ?_
  refine x_iadd dX2_indexOf_6 ?_
  subst hf
  exact x_iret dX2_indexOf_7 rfl rfl
set_option maxRecDepth 100000 in
set_option maxHeartbeats 4000000 in
theorem l_X2_prepare_47   (v1 : Int32) (v2 : Int32) (L : z_L) {r : z_I} (k84 : z_I → Option (z_I)) (hk84 : ∀ (I : z_I), k84 I = some r → z_X layX RX2 cX2_prepare 4 (none) ({ frames := 2, cells := 0, slots := 0, locals := 55 } : Room) 84 [(0, .ref 51), (1, .int v1), (2, .int v2)] [] I L (none, r, L)) : ∀ (n : Nat) (v3 : Int32) (I : z_I), g_X2_prepare_47 v1 v2 k84 n v3 I = some r → z_X layX RX2 cX2_prepare 4 (none) ({ frames := 2, cells := 0, slots := 0, locals := 55 } : Room) 47 [(0, .ref 51), (1, .int v1), (2, .int v2), (3, .int v3)] [] I L (none, r, L) := by
  intro n
  induction n with
  | zero => intro v3 I hf; cases hf
  | succ n ih =>
    intro v3 I hf
    rw [g_X2_prepare_47] at hf
    refine x_iload_n 3 dX2_prepare_47 rfl rfl ?_
    refine x_aload_n 0 dX2_prepare_48 rfl rfl ?_
    refine x_getR dX2_prepare_49 lx_51 fl_X2_18 rfl ?_
    refine x_getI (v := (I 3 12)) dX2_prepare_52 lx_3 fl_X2_32 rfl rfl ?_
    refine x_icmp_ge 84 dX2_prepare_55 (by decide) (fun hB => ?_) (fun hB => ?_)
    · replace hf := f_if hB hf
      refine x_lv [(0, .ref 51), (1, .int v1), (2, .int v2)] [0, 1, 2] rfl ?_
      exact hk84 _ hf
    · replace hf := f_el hB hf
      refine x_aload_n 0 dX2_prepare_58 rfl rfl ?_
      refine x_getR dX2_prepare_59 lx_51 fl_X2_9 rfl ?_
      refine x_iload_n 2 dX2_prepare_62 rfl rfl ?_
      refine x_bipush (v := (7)) dX2_prepare_63 (by decide) ?_
      refine x_imul dX2_prepare_65 ?_
      refine x_iload_n 3 dX2_prepare_66 rfl rfl ?_
      refine x_iadd dX2_prepare_67 ?_
      refine x_aload_n 0 dX2_prepare_68 rfl rfl ?_
      refine x_getR dX2_prepare_69 lx_51 fl_X2_18 rfl ?_
      refine x_iload_n 2 dX2_prepare_72 rfl rfl ?_
      refine x_iload_n 3 dX2_prepare_73 rfl rfl ?_
      obtain ⟨q3, hq4, hf⟩ := f_bd hf
      refine x_callVi [.int v2, .int v3] (c_X0_yieldUnder (I := I) (L := L) zt_3 hq4) dX2_prepare_74 lk_X2_57 lx_3 rfl cd_X0_yieldUnder rfl rfl (Nat.le_of_ble_eq_true rfl) ⟨rfl, rfl, Nat.le_of_ble_eq_true rfl, Nat.le_of_ble_eq_true rfl⟩ ?_
      obtain ⟨h5, hf⟩ := f_gd hf
      obtain ⟨I6, hI6, hf⟩ := f_lt hf
      refine x_iast (j0 := (((v2 * (7 : Int32)) + v3)).toNatClampNeg) dX2_prepare_77 lx_52 h5 rfl hI6 ?_
      refine x_iinc 3 [(3, .int (v3 + (1 : Int32))), (0, .ref 51), (1, .int v1), (2, .int v2)] dX2_prepare_78 rfl rfl (by decide) rfl ?_
      refine x_goto 47 dX2_prepare_81 (by decide) ?_
      refine x_lv [(0, .ref 51), (1, .int v1), (2, .int v2), (3, .int (v3 + (1 : Int32)))] [1, 2, 3, 0] rfl ?_
      exact ih _ _ hf
set_option maxRecDepth 100000 in
set_option maxHeartbeats 4000000 in
theorem l_X2_prepare_8   (v1 : Int32) (L : z_L) {r : z_I}  : ∀ (n : Nat) (v2 : Int32) (I : z_I), g_X2_prepare_8 v1  n v2 I = some r → z_X layX RX2 cX2_prepare 4 (none) ({ frames := 2, cells := 0, slots := 0, locals := 55 } : Room) 8 [(0, .ref 51), (1, .int v1), (2, .int v2)] [] I L (none, r, L) := by
  intro n
  induction n with
  | zero => intro v2 I hf; cases hf
  | succ n ih =>
    intro v2 I hf
    rw [g_X2_prepare_8] at hf
    refine x_iload_n 2 dX2_prepare_8 rfl rfl ?_
    refine x_iconst (v := (1)) dX2_prepare_9 (by decide) ?_
    refine x_aload_n 0 dX2_prepare_10 rfl rfl ?_
    refine x_getR dX2_prepare_11 lx_51 fl_X2_18 rfl ?_
    refine x_getI (v := (I 3 12)) dX2_prepare_14 lx_3 fl_X2_32 rfl rfl ?_
    refine x_ishl dX2_prepare_17 ?_
    refine x_icmp_ge 90 dX2_prepare_18 (by decide) (fun hB => ?_) (fun hB => ?_)
    · replace hf := f_if hB hf
      cases hf
      exact x_vret dX2_prepare_90 rfl rfl
    · replace hf := f_el hB hf
      refine x_aload_n 0 dX2_prepare_21 rfl rfl ?_
      refine x_iload_n 2 dX2_prepare_22 rfl rfl ?_
      refine x_callVi [.int v2] (c_X2_claimsMore (I := I) (L := L) v2) dX2_prepare_23 lk_X2_35 lx_51 rfl cd_X2_claimsMore rfl rfl (Nat.le_of_ble_eq_true rfl) ⟨rfl, rfl, Nat.le_of_ble_eq_true rfl, Nat.le_of_ble_eq_true rfl⟩ ?_
      refine x_iconst (v := (0)) dX2_prepare_26 (by decide) ?_
      refine x_iload_n 1 dX2_prepare_27 rfl rfl ?_
      refine x_callNi [.int (f_X2_claimsMore I v2), .int (0 : Int32), .int v1] (c_X10_isWithin (I := I) (L := L) (f_X2_claimsMore I v2) (0 : Int32) v1) dX2_prepare_28 lk_X2_39 cd_X10_isWithin rfl rfl (Nat.le_of_ble_eq_true rfl) ⟨rfl, rfl, Nat.le_of_ble_eq_true rfl, Nat.le_of_ble_eq_true rfl⟩ ?_
      refine x_if_eqB 84 dX2_prepare_31 (by decide) (fun hB => ?_) (fun hB => ?_)
      · replace hf := f_el hB hf
        refine x_iinc 2 [(2, .int (v2 + (1 : Int32))), (0, .ref 51), (1, .int v1)] dX2_prepare_84 rfl rfl (by decide) rfl ?_
        refine x_goto 8 dX2_prepare_87 (by decide) ?_
        refine x_lv [(0, .ref 51), (1, .int v1), (2, .int (v2 + (1 : Int32)))] [1, 2, 0] rfl ?_
        exact ih _ _ hf
      · replace hf := f_if hB hf
        refine x_aload_n 0 dX2_prepare_34 rfl rfl ?_
        refine x_getR dX2_prepare_35 lx_51 fl_X2_15 rfl ?_
        refine x_iconst (v := (0)) dX2_prepare_38 (by decide) ?_
        refine x_iload_n 2 dX2_prepare_39 rfl rfl ?_
        refine x_callSi [.int (0 : Int32), .int v2] (c_X2_indexOf (I := I) (L := L) (0 : Int32) v2) dX2_prepare_40 lk_X2_43 cd_X2_indexOf rfl rfl (Nat.le_of_ble_eq_true rfl) ⟨rfl, rfl, Nat.le_of_ble_eq_true rfl, Nat.le_of_ble_eq_true rfl⟩ ?_
        refine x_iconst (v := (0)) dX2_prepare_43 (by decide) ?_
        obtain ⟨h1, hf⟩ := f_gd hf
        obtain ⟨I2, hI2, hf⟩ := f_lt hf
        refine x_iast (j0 := ((f_X2_indexOf (0 : Int32) v2)).toNatClampNeg) dX2_prepare_44 lx_53 h1 rfl hI2 ?_
        refine x_iconst (v := (0)) dX2_prepare_45 (by decide) ?_
        refine x_istore_n [(3, .int (0 : Int32)), (0, .ref 51), (1, .int v1), (2, .int v2)] dX2_prepare_46 rfl (by decide) rfl ?_
        refine x_lv [(0, .ref 51), (1, .int v1), (2, .int v2), (3, .int (0 : Int32))] [1, 2, 3, 0] rfl ?_
        refine l_X2_prepare_47 v1 v2 (L) _ ?_ _ _ _ hf
        · intro I_7 hf
          refine x_iinc 2 [(2, .int (v2 + (1 : Int32))), (0, .ref 51), (1, .int v1)] dX2_prepare_84 rfl rfl (by decide) rfl ?_
          refine x_goto 8 dX2_prepare_87 (by decide) ?_
          refine x_lv [(0, .ref 51), (1, .int v1), (2, .int (v2 + (1 : Int32)))] [1, 2, 0] rfl ?_
          exact ih _ _ hf
set_option maxRecDepth 100000 in
set_option maxHeartbeats 4000000 in
theorem c_X2_prepare {I : z_I} {L : z_L} {p0 : Int32}  {r : z_I} (hf : f_X2_prepare I p0 = some r) : z_C layX yX2_prepare cX2_prepare 4 (none) ({ frames := 2, cells := 0, slots := 0, locals := 55 } : Room) [.ref 51, .int p0] I L (none, r, L) := by
  refine z_C.of (by decide) (Nat.le_of_ble_eq_true rfl) ?_
  show z_X layX RX2 cX2_prepare 4 (none) ({ frames := 2, cells := 0, slots := 0, locals := 55 } : Room) 0 [(0, .ref 51), (1, .int p0)] [] I L (none, r, L)
  unfold f_X2_prepare at hf
  refine x_aload_n 0 dX2_prepare_0 rfl rfl ?_
  refine x_getR dX2_prepare_1 lx_51 fl_X2_18 rfl ?_
  refine x_getI (v := (I 3 16)) dX2_prepare_4 lx_3 fl_X2_26 rfl rfl ?_
  refine x_istore_n [(2, .int (I 3 16)), (0, .ref 51), (1, .int p0)] dX2_prepare_7 rfl (by decide) rfl ?_
  refine x_lv [(0, .ref 51), (1, .int p0), (2, .int (I 3 16))] [1, 2, 0] rfl ?_
  refine l_X2_prepare_8 p0 (L)   _ _ _ hf
set_option maxRecDepth 100000 in
set_option maxHeartbeats 4000000 in
theorem c_X2_worthOf {I : z_I} {L : z_L} {p0 : Int32} {p1 : Int32} {p2 : Int32} {p3 : Int32}  {r : Int32} (hf : f_X2_worthOf I p0 p1 p2 p3 = some r) : z_C layX yX2_worthOf cX2_worthOf 6 (some .int) ({ frames := 1, cells := 0, slots := 0, locals := 21 } : Room) [.ref 51, .int p0, .int p1, .int p2, .int p3] I L (some (.int r), I, L) := by
  refine z_C.of (by decide) (Nat.le_of_ble_eq_true rfl) ?_
  show z_X layX RX2 cX2_worthOf 6 (some .int) ({ frames := 1, cells := 0, slots := 0, locals := 21 } : Room) 0 [(0, .ref 51), (1, .int p0), (2, .int p1), (3, .int p2), (4, .int p3)] [] I L (some (.int r), I, L)
  unfold f_X2_worthOf at hf
  refine x_aload_n 0 dX2_worthOf_0 rfl rfl ?_
  refine x_getR dX2_worthOf_1 lx_51 fl_X2_15 rfl ?_
  refine x_iload_n 2 dX2_worthOf_4 rfl rfl ?_
  refine x_iconst (v := (1)) dX2_worthOf_5 (by decide) ?_
  refine x_isub dX2_worthOf_6 ?_
  refine x_iload_n 3 dX2_worthOf_7 rfl rfl ?_
  refine x_iconst (v := (1)) dX2_worthOf_8 (by decide) ?_
  refine x_iload_n 1 dX2_worthOf_9 rfl rfl ?_
  refine x_ishl dX2_worthOf_10 ?_
  refine x_ior dX2_worthOf_11 ?_
  refine x_callSi [.int (p1 - (1 : Int32)), .int (p2 ||| ((1 : Int32) <<< (p0 &&& 31)))] (c_X2_indexOf (I := I) (L := L) (p1 - (1 : Int32)) (p2 ||| ((1 : Int32) <<< (p0 &&& 31)))) dX2_worthOf_12 lk_X2_43 cd_X2_indexOf rfl rfl (Nat.le_of_ble_eq_true rfl) ⟨rfl, rfl, Nat.le_of_ble_eq_true rfl, Nat.le_of_ble_eq_true rfl⟩ ?_
  obtain ⟨h1, hf⟩ := f_gd hf
  refine x_iald (j := ((f_X2_indexOf (p1 - (1 : Int32)) (p2 ||| ((1 : Int32) <<< (p0 &&& 31))))).toNatClampNeg) (v := (I 53 ((f_X2_indexOf (p1 - (1 : Int32)) (p2 ||| ((1 : Int32) <<< (p0 &&& 31))))).toNatClampNeg)) dX2_worthOf_15 lx_53 h1 rfl rfl ?_
  obtain ⟨w2, hw2, hf⟩ := f_lt hf
  refine x_topI hw2 ?_
  refine x_istore [(5, .int w2), (0, .ref 51), (1, .int p0), (2, .int p1), (3, .int p2), (4, .int p3)] dX2_worthOf_16 (by decide) rfl ?_
  refine x_aload_n 1 dX2_worthOf_18 rfl rfl ?_
  refine x_getR dX2_worthOf_19 lx_51 fl_X2_9 rfl ?_
  refine x_iload_n 4 dX2_worthOf_22 rfl rfl ?_
  refine x_bipush (v := (7)) dX2_worthOf_23 (by decide) ?_
  refine x_imul dX2_worthOf_25 ?_
  refine x_iload_n 2 dX2_worthOf_26 rfl rfl ?_
  refine x_iadd dX2_worthOf_27 ?_
  obtain ⟨h3, hf⟩ := f_gd hf
  refine x_iald (j := (((p2 * (7 : Int32)) + p0)).toNatClampNeg) (v := (I 52 (((p2 * (7 : Int32)) + p0)).toNatClampNeg)) dX2_worthOf_28 lx_52 h3 rfl rfl ?_
  refine x_iload 5 dX2_worthOf_29 rfl ?_
  refine x_iload 0 dX2_worthOf_31 rfl ?_
  refine x_imul dX2_worthOf_33 ?_
  refine x_iadd dX2_worthOf_34 ?_
  cases hf
  exact x_iret dX2_worthOf_35 rfl rfl
set_option maxRecDepth 100000 in
set_option maxHeartbeats 4000000 in
theorem l_X2_bestFrom_6   (v1 : Int32) (v2 : Int32) (v4 : Int32) (I : z_I) (L : z_L) {r : Int32}  : ∀ (n : Nat) (v5 : Int32) (v6 : Int32), g_X2_bestFrom_6 v1 v2 v4 I  n v5 v6 = some r → z_X layX RX2 cX2_bestFrom 7 (some .int) ({ frames := 2, cells := 0, slots := 0, locals := 46 } : Room) 6 [(0, .ref 51), (1, .int v1), (2, .int v2), (4, .int v4), (5, .int v5), (6, .int v6)] [] I L (some (.int r), I, L) := by
  intro n
  induction n with
  | zero => intro v5 v6 hf; cases hf
  | succ n ih =>
    intro v5 v6 hf
    rw [g_X2_bestFrom_6] at hf
    refine x_iload 5 dX2_bestFrom_6 rfl ?_
    refine x_aload_n 0 dX2_bestFrom_8 rfl rfl ?_
    refine x_getR dX2_bestFrom_9 lx_51 fl_X2_18 rfl ?_
    refine x_getI (v := (I 3 12)) dX2_bestFrom_12 lx_3 fl_X2_32 rfl rfl ?_
    refine x_icmp_ge 50 dX2_bestFrom_15 (by decide) (fun hB => ?_) (fun hB => ?_)
    · replace hf := f_if hB hf
      refine x_iload 4 dX2_bestFrom_50 rfl ?_
      cases hf
      exact x_iret dX2_bestFrom_52 rfl rfl
    · replace hf := f_el hB hf
      refine x_iload_n 2 dX2_bestFrom_18 rfl rfl ?_
      refine x_iconst (v := (1)) dX2_bestFrom_19 (by decide) ?_
      refine x_iload 5 dX2_bestFrom_20 rfl ?_
      refine x_ishl dX2_bestFrom_22 ?_
      refine x_iand dX2_bestFrom_23 ?_
      refine x_if_ne 44 dX2_bestFrom_24 (by decide) (fun hB => ?_) (fun hB => ?_)
      · replace hf := f_el hB hf
        refine x_iinc 5 [(6, .int (v6 + (1 : Int32))), (0, .ref 51), (1, .int v1), (2, .int v2), (4, .int v4), (5, .int v5)] dX2_bestFrom_44 rfl rfl (by decide) rfl ?_
        refine x_goto 6 dX2_bestFrom_47 (by decide) ?_
        refine x_lv [(0, .ref 51), (1, .int v1), (2, .int v2), (4, .int v4), (5, .int v5), (6, .int (v6 + (1 : Int32)))] [1, 2, 3, 4, 5, 0] rfl ?_
        exact ih _ _ hf
      · replace hf := f_if hB hf
        refine x_iload 4 dX2_bestFrom_27 rfl ?_
        refine x_aload_n 0 dX2_bestFrom_29 rfl rfl ?_
        refine x_iload 5 dX2_bestFrom_30 rfl ?_
        refine x_iload_n 1 dX2_bestFrom_32 rfl rfl ?_
        refine x_iload_n 2 dX2_bestFrom_33 rfl rfl ?_
        refine x_iload 3 dX2_bestFrom_34 rfl ?_
        obtain ⟨q1, hq2, hf⟩ := f_bd hf
        refine x_callVi [.int v6, .int v1, .int v2, .int v4] (c_X2_worthOf (I := I) (L := L)  hq2) dX2_bestFrom_36 lk_X2_65 lx_51 rfl cd_X2_worthOf rfl rfl (Nat.le_of_ble_eq_true rfl) ⟨rfl, rfl, Nat.le_of_ble_eq_true rfl, Nat.le_of_ble_eq_true rfl⟩ ?_
        refine x_mmax dX2_bestFrom_39 lk_X2_68 ⟨Nat.le_of_ble_eq_true rfl, Nat.le_of_ble_eq_true rfl⟩ ?_
        refine x_istore [(5, .int (z_max v5 q1)), (0, .ref 51), (1, .int v1), (2, .int v2), (4, .int v4), (6, .int v6)] dX2_bestFrom_42 (by decide) rfl ?_
        refine x_iinc 5 [(6, .int (v6 + (1 : Int32))), (5, .int (z_max v5 q1)), (0, .ref 51), (1, .int v1), (2, .int v2), (4, .int v4)] dX2_bestFrom_44 rfl rfl (by decide) rfl ?_
        refine x_goto 6 dX2_bestFrom_47 (by decide) ?_
        refine x_lv [(0, .ref 51), (1, .int v1), (2, .int v2), (4, .int v4), (5, .int (z_max v5 q1)), (6, .int (v6 + (1 : Int32)))] [2, 3, 4, 5, 1, 0] rfl ?_
        exact ih _ _ hf
set_option maxRecDepth 100000 in
set_option maxHeartbeats 4000000 in
theorem c_X2_bestFrom {I : z_I} {L : z_L} {p0 : Int32} {p1 : Int32} {p2 : Int32} {p3 : Int32}  {r : Int32} (hf : f_X2_bestFrom I p0 p1 p2 p3 = some r) : z_C layX yX2_bestFrom cX2_bestFrom 7 (some .int) ({ frames := 2, cells := 0, slots := 0, locals := 46 } : Room) [.ref 51, .int p0, .int p1, .int p2, .int p3] I L (some (.int r), I, L) := by
  refine z_C.of (by decide) (Nat.le_of_ble_eq_true rfl) ?_
  show z_X layX RX2 cX2_bestFrom 7 (some .int) ({ frames := 2, cells := 0, slots := 0, locals := 46 } : Room) 0 [(0, .ref 51), (1, .int p0), (2, .int p1), (3, .int p2), (4, .int p3)] [] I L (some (.int r), I, L)
  unfold f_X2_bestFrom at hf
  refine x_iload_n 3 dX2_bestFrom_0 rfl rfl ?_
  refine x_istore [(5, .int p2), (0, .ref 51), (1, .int p0), (2, .int p1), (3, .int p2), (4, .int p3)] dX2_bestFrom_1 (by decide) rfl ?_
  refine x_iconst (v := (0)) dX2_bestFrom_3 (by decide) ?_
  refine x_istore [(6, .int (0 : Int32)), (5, .int p2), (0, .ref 51), (1, .int p0), (2, .int p1), (3, .int p2), (4, .int p3)] dX2_bestFrom_4 (by decide) rfl ?_
  refine x_lv [(0, .ref 51), (1, .int p0), (2, .int p1), (4, .int p3), (5, .int p2), (6, .int (0 : Int32))] [2, 3, 4, 6, 1, 0] rfl ?_
  refine l_X2_bestFrom_6 p0 p1 p3 (I) (L)   _ _ _ hf
set_option maxRecDepth 100000 in
set_option maxHeartbeats 4000000 in
theorem l_X2_lookAlone_20   (v1 : Int32) (v2 : Int32) (L : z_L) {r : z_I} (k72 : z_I → Option (z_I)) (hk72 : ∀ (I : z_I), k72 I = some r → z_X layX RX2 cX2_lookAlone 4 (none) ({ frames := 3, cells := 0, slots := 0, locals := 78 } : Room) 72 [(0, .ref 51), (1, .int v1), (2, .int v2)] [] I L (none, r, L)) : ∀ (n : Nat) (v3 : Int32) (I : z_I), g_X2_lookAlone_20 v1 v2 k72 n v3 I = some r → z_X layX RX2 cX2_lookAlone 4 (none) ({ frames := 3, cells := 0, slots := 0, locals := 78 } : Room) 20 [(0, .ref 51), (1, .int v1), (2, .int v2), (3, .int v3)] [] I L (none, r, L) := by
  intro n
  induction n with
  | zero => intro v3 I hf; cases hf
  | succ n ih =>
    intro v3 I hf
    rw [g_X2_lookAlone_20] at hf
    refine x_iload_n 3 dX2_lookAlone_20 rfl rfl ?_
    refine x_iconst (v := (1)) dX2_lookAlone_21 (by decide) ?_
    refine x_aload_n 0 dX2_lookAlone_22 rfl rfl ?_
    refine x_getR dX2_lookAlone_23 lx_51 fl_X2_18 rfl ?_
    refine x_getI (v := (I 3 12)) dX2_lookAlone_26 lx_3 fl_X2_32 rfl rfl ?_
    refine x_ishl dX2_lookAlone_29 ?_
    refine x_icmp_ge 72 dX2_lookAlone_30 (by decide) (fun hB => ?_) (fun hB => ?_)
    · replace hf := f_if hB hf
      refine x_lv [(0, .ref 51), (1, .int v1), (2, .int v2)] [0, 1, 2] rfl ?_
      exact hk72 _ hf
    · replace hf := f_el hB hf
      refine x_aload_n 0 dX2_lookAlone_33 rfl rfl ?_
      refine x_iload_n 3 dX2_lookAlone_34 rfl rfl ?_
      refine x_callVi [.int v3] (c_X2_claimsMore (I := I) (L := L) v3) dX2_lookAlone_35 lk_X2_35 lx_51 rfl cd_X2_claimsMore rfl rfl (Nat.le_of_ble_eq_true rfl) ⟨rfl, rfl, Nat.le_of_ble_eq_true rfl, Nat.le_of_ble_eq_true rfl⟩ ?_
      refine x_iconst (v := (0)) dX2_lookAlone_38 (by decide) ?_
      refine x_iload_n 1 dX2_lookAlone_39 rfl rfl ?_
      refine x_iload_n 2 dX2_lookAlone_40 rfl rfl ?_
      refine x_isub dX2_lookAlone_41 ?_
      refine x_callNi [.int (f_X2_claimsMore I v3), .int (0 : Int32), .int (v1 - v2)] (c_X10_isWithin (I := I) (L := L) (f_X2_claimsMore I v3) (0 : Int32) (v1 - v2)) dX2_lookAlone_42 lk_X2_39 cd_X10_isWithin rfl rfl (Nat.le_of_ble_eq_true rfl) ⟨rfl, rfl, Nat.le_of_ble_eq_true rfl, Nat.le_of_ble_eq_true rfl⟩ ?_
      refine x_if_eqB 66 dX2_lookAlone_45 (by decide) (fun hB => ?_) (fun hB => ?_)
      · replace hf := f_el hB hf
        refine x_iinc 3 [(3, .int (v3 + (1 : Int32))), (0, .ref 51), (1, .int v1), (2, .int v2)] dX2_lookAlone_66 rfl rfl (by decide) rfl ?_
        refine x_goto 20 dX2_lookAlone_69 (by decide) ?_
        refine x_lv [(0, .ref 51), (1, .int v1), (2, .int v2), (3, .int (v3 + (1 : Int32)))] [1, 2, 3, 0] rfl ?_
        exact ih _ _ hf
      · replace hf := f_if hB hf
        refine x_aload_n 0 dX2_lookAlone_48 rfl rfl ?_
        refine x_getR dX2_lookAlone_49 lx_51 fl_X2_15 rfl ?_
        refine x_iload_n 2 dX2_lookAlone_52 rfl rfl ?_
        refine x_iload_n 3 dX2_lookAlone_53 rfl rfl ?_
        refine x_callSi [.int v2, .int v3] (c_X2_indexOf (I := I) (L := L) v2 v3) dX2_lookAlone_54 lk_X2_43 cd_X2_indexOf rfl rfl (Nat.le_of_ble_eq_true rfl) ⟨rfl, rfl, Nat.le_of_ble_eq_true rfl, Nat.le_of_ble_eq_true rfl⟩ ?_
        refine x_aload_n 0 dX2_lookAlone_57 rfl rfl ?_
        refine x_iload_n 2 dX2_lookAlone_58 rfl rfl ?_
        refine x_iload_n 3 dX2_lookAlone_59 rfl rfl ?_
        refine x_iconst (v := (0)) dX2_lookAlone_60 (by decide) ?_
        refine x_iconst (v := (1)) dX2_lookAlone_61 (by decide) ?_
        obtain ⟨q3, hq4, hf⟩ := f_bd hf
        refine x_callVi [.int v2, .int v3, .int (0 : Int32), .int (1 : Int32)] (c_X2_bestFrom (I := I) (L := L)  hq4) dX2_lookAlone_62 lk_X2_47 lx_51 rfl cd_X2_bestFrom rfl rfl (Nat.le_of_ble_eq_true rfl) ⟨rfl, rfl, Nat.le_of_ble_eq_true rfl, Nat.le_of_ble_eq_true rfl⟩ ?_
        obtain ⟨h5, hf⟩ := f_gd hf
        obtain ⟨I6, hI6, hf⟩ := f_lt hf
        refine x_iast (j0 := ((f_X2_indexOf v2 v3)).toNatClampNeg) dX2_lookAlone_65 lx_53 h5 rfl hI6 ?_
        refine x_iinc 3 [(3, .int (v3 + (1 : Int32))), (0, .ref 51), (1, .int v1), (2, .int v2)] dX2_lookAlone_66 rfl rfl (by decide) rfl ?_
        refine x_goto 20 dX2_lookAlone_69 (by decide) ?_
        refine x_lv [(0, .ref 51), (1, .int v1), (2, .int v2), (3, .int (v3 + (1 : Int32)))] [1, 2, 3, 0] rfl ?_
        exact ih _ _ hf
set_option maxRecDepth 100000 in
set_option maxHeartbeats 4000000 in
theorem l_X2_lookAlone_7   (v1 : Int32) (L : z_L) {r : z_I}  : ∀ (n : Nat) (v2 : Int32) (I : z_I), g_X2_lookAlone_7 v1  n v2 I = some r → z_X layX RX2 cX2_lookAlone 4 (none) ({ frames := 3, cells := 0, slots := 0, locals := 78 } : Room) 7 [(0, .ref 51), (1, .int v1), (2, .int v2)] [] I L (none, r, L) := by
  intro n
  induction n with
  | zero => intro v2 I hf; cases hf
  | succ n ih =>
    intro v2 I hf
    rw [g_X2_lookAlone_7] at hf
    refine x_iload_n 2 dX2_lookAlone_7 rfl rfl ?_
    refine x_iload_n 1 dX2_lookAlone_8 rfl rfl ?_
    refine x_icmp_gt 78 dX2_lookAlone_9 (by decide) (fun hB => ?_) (fun hB => ?_)
    · replace hf := f_if hB hf
      cases hf
      exact x_vret dX2_lookAlone_78 rfl rfl
    · replace hf := f_el hB hf
      refine x_aload_n 0 dX2_lookAlone_12 rfl rfl ?_
      refine x_getR dX2_lookAlone_13 lx_51 fl_X2_18 rfl ?_
      refine x_getI (v := (I 3 16)) dX2_lookAlone_16 lx_3 fl_X2_26 rfl rfl ?_
      refine x_istore_n [(3, .int (I 3 16)), (0, .ref 51), (1, .int v1), (2, .int v2)] dX2_lookAlone_19 rfl (by decide) rfl ?_
      refine x_lv [(0, .ref 51), (1, .int v1), (2, .int v2), (3, .int (I 3 16))] [1, 2, 3, 0] rfl ?_
      refine l_X2_lookAlone_20 v1 v2 (L) _ ?_ _ _ _ hf
      · intro I_7 hf
        refine x_iinc 2 [(2, .int (v2 + (1 : Int32))), (0, .ref 51), (1, .int v1)] dX2_lookAlone_72 rfl rfl (by decide) rfl ?_
        refine x_goto 7 dX2_lookAlone_75 (by decide) ?_
        refine x_lv [(0, .ref 51), (1, .int v1), (2, .int (v2 + (1 : Int32)))] [1, 2, 0] rfl ?_
        exact ih _ _ hf
set_option maxRecDepth 100000 in
set_option maxHeartbeats 4000000 in
theorem c_X2_lookAlone {I : z_I} {L : z_L} {p0 : Int32}  {r : z_I} (hf : f_X2_lookAlone I p0 = some r) : z_C layX yX2_lookAlone cX2_lookAlone 4 (none) ({ frames := 3, cells := 0, slots := 0, locals := 78 } : Room) [.ref 51, .int p0] I L (none, r, L) := by
  refine z_C.of (by decide) (Nat.le_of_ble_eq_true rfl) ?_
  show z_X layX RX2 cX2_lookAlone 4 (none) ({ frames := 3, cells := 0, slots := 0, locals := 78 } : Room) 0 [(0, .ref 51), (1, .int p0)] [] I L (none, r, L)
  unfold f_X2_lookAlone at hf
  refine x_aload_n 0 dX2_lookAlone_0 rfl rfl ?_
  refine x_iload_n 1 dX2_lookAlone_1 rfl rfl ?_
  obtain ⟨q1, hq2, hf⟩ := f_bd hf
  refine x_callVv [.int p0] (c_X2_prepare (I := I) (L := L)  hq2) dX2_lookAlone_2 lk_X2_22 lx_51 rfl cd_X2_prepare rfl rfl (Nat.le_of_ble_eq_true rfl) ⟨rfl, rfl, Nat.le_of_ble_eq_true rfl, Nat.le_of_ble_eq_true rfl⟩ ?_
  refine x_iconst (v := (1)) dX2_lookAlone_5 (by decide) ?_
  refine x_istore_n [(2, .int (1 : Int32)), (0, .ref 51), (1, .int p0)] dX2_lookAlone_6 rfl (by decide) rfl ?_
  refine x_lv [(0, .ref 51), (1, .int p0), (2, .int (1 : Int32))] [1, 2, 0] rfl ?_
  refine l_X2_lookAlone_7 p0 (L)   _ _ _ hf
set_option maxRecDepth 100000 in
set_option maxHeartbeats 4000000 in
theorem l_X2_lookByTurns_20   (v1 : Int32) (v2 : Int32) (L : z_L) {r : z_I} (k88 : z_I → Option (z_I)) (hk88 : ∀ (I : z_I), k88 I = some r → z_X layX RX2 cX2_lookByTurns 5 (none) ({ frames := 3, cells := 0, slots := 0, locals := 78 } : Room) 88 [(0, .ref 51), (1, .int v1), (2, .int v2)] [] I L (none, r, L)) : ∀ (n : Nat) (v3 : Int32) (I : z_I), g_X2_lookByTurns_20 v1 v2 k88 n v3 I = some r → z_X layX RX2 cX2_lookByTurns 5 (none) ({ frames := 3, cells := 0, slots := 0, locals := 78 } : Room) 20 [(0, .ref 51), (1, .int v1), (2, .int v2), (3, .int v3)] [] I L (none, r, L) := by
  intro n
  induction n with
  | zero => intro v3 I hf; cases hf
  | succ n ih =>
    intro v3 I hf
    rw [g_X2_lookByTurns_20] at hf
    refine x_iload_n 3 dX2_lookByTurns_20 rfl rfl ?_
    refine x_iconst (v := (1)) dX2_lookByTurns_21 (by decide) ?_
    refine x_aload_n 0 dX2_lookByTurns_22 rfl rfl ?_
    refine x_getR dX2_lookByTurns_23 lx_51 fl_X2_18 rfl ?_
    refine x_getI (v := (I 3 12)) dX2_lookByTurns_26 lx_3 fl_X2_32 rfl rfl ?_
    refine x_ishl dX2_lookByTurns_29 ?_
    refine x_icmp_ge 88 dX2_lookByTurns_30 (by decide) (fun hB => ?_) (fun hB => ?_)
    · replace hf := f_if hB hf
      refine x_lv [(0, .ref 51), (1, .int v1), (2, .int v2)] [0, 1, 2] rfl ?_
      exact hk88 _ hf
    · replace hf := f_el hB hf
      refine x_aload_n 0 dX2_lookByTurns_33 rfl rfl ?_
      refine x_iload_n 3 dX2_lookByTurns_34 rfl rfl ?_
      refine x_callVi [.int v3] (c_X2_claimsMore (I := I) (L := L) v3) dX2_lookByTurns_35 lk_X2_35 lx_51 rfl cd_X2_claimsMore rfl rfl (Nat.le_of_ble_eq_true rfl) ⟨rfl, rfl, Nat.le_of_ble_eq_true rfl, Nat.le_of_ble_eq_true rfl⟩ ?_
      refine x_iconst (v := (0)) dX2_lookByTurns_38 (by decide) ?_
      refine x_iload_n 1 dX2_lookByTurns_39 rfl rfl ?_
      refine x_iload_n 2 dX2_lookByTurns_40 rfl rfl ?_
      refine x_isub dX2_lookByTurns_41 ?_
      refine x_callNi [.int (f_X2_claimsMore I v3), .int (0 : Int32), .int (v1 - v2)] (c_X10_isWithin (I := I) (L := L) (f_X2_claimsMore I v3) (0 : Int32) (v1 - v2)) dX2_lookByTurns_42 lk_X2_39 cd_X10_isWithin rfl rfl (Nat.le_of_ble_eq_true rfl) ⟨rfl, rfl, Nat.le_of_ble_eq_true rfl, Nat.le_of_ble_eq_true rfl⟩ ?_
      refine x_if_eqB 82 dX2_lookByTurns_45 (by decide) (fun hB => ?_) (fun hB => ?_)
      · replace hf := f_el hB hf
        refine x_iinc 3 [(3, .int (v3 + (1 : Int32))), (0, .ref 51), (1, .int v1), (2, .int v2)] dX2_lookByTurns_82 rfl rfl (by decide) rfl ?_
        refine x_goto 20 dX2_lookByTurns_85 (by decide) ?_
        refine x_lv [(0, .ref 51), (1, .int v1), (2, .int v2), (3, .int (v3 + (1 : Int32)))] [1, 2, 3, 0] rfl ?_
        exact ih _ _ hf
      · replace hf := f_if hB hf
        refine x_aload_n 0 dX2_lookByTurns_48 rfl rfl ?_
        refine x_getR dX2_lookByTurns_49 lx_51 fl_X2_15 rfl ?_
        refine x_iload_n 2 dX2_lookByTurns_52 rfl rfl ?_
        refine x_iconst (v := (1)) dX2_lookByTurns_53 (by decide) ?_
        refine x_isub dX2_lookByTurns_54 ?_
        refine x_iload_n 3 dX2_lookByTurns_55 rfl rfl ?_
        refine x_callSi [.int (v2 - (1 : Int32)), .int v3] (c_X2_indexOf (I := I) (L := L) (v2 - (1 : Int32)) v3) dX2_lookByTurns_56 lk_X2_43 cd_X2_indexOf rfl rfl (Nat.le_of_ble_eq_true rfl) ⟨rfl, rfl, Nat.le_of_ble_eq_true rfl, Nat.le_of_ble_eq_true rfl⟩ ?_
        obtain ⟨h3, hf⟩ := f_gd hf
        refine x_iald (j := ((f_X2_indexOf (v2 - (1 : Int32)) v3)).toNatClampNeg) (v := (I 53 ((f_X2_indexOf (v2 - (1 : Int32)) v3)).toNatClampNeg)) dX2_lookByTurns_59 lx_53 h3 rfl rfl ?_
        refine x_ineg dX2_lookByTurns_60 ?_
        obtain ⟨w4, hw4, hf⟩ := f_lt hf
        refine x_topI hw4 ?_
        refine x_istore [(4, .int w4), (0, .ref 51), (1, .int v1), (2, .int v2), (3, .int v3)] dX2_lookByTurns_61 (by decide) rfl ?_
        refine x_aload_n 1 dX2_lookByTurns_63 rfl rfl ?_
        refine x_getR dX2_lookByTurns_64 lx_51 fl_X2_15 rfl ?_
        refine x_iload_n 3 dX2_lookByTurns_67 rfl rfl ?_
        refine x_iload_n 4 dX2_lookByTurns_68 rfl rfl ?_
        refine x_callSi [.int v2, .int v3] (c_X2_indexOf (I := I) (L := L) v2 v3) dX2_lookByTurns_69 lk_X2_43 cd_X2_indexOf rfl rfl (Nat.le_of_ble_eq_true rfl) ⟨rfl, rfl, Nat.le_of_ble_eq_true rfl, Nat.le_of_ble_eq_true rfl⟩ ?_
        refine x_aload_n 1 dX2_lookByTurns_72 rfl rfl ?_
        refine x_iload_n 3 dX2_lookByTurns_73 rfl rfl ?_
        refine x_iload_n 4 dX2_lookByTurns_74 rfl rfl ?_
        refine x_iload 0 dX2_lookByTurns_75 rfl ?_
        refine x_iconst (v := (-1)) dX2_lookByTurns_77 (by decide) ?_
        obtain ⟨q5, hq6, hf⟩ := f_bd hf
        refine x_callVi [.int v2, .int v3, .int w4, .int (-1 : Int32)] (c_X2_bestFrom (I := I) (L := L)  hq6) dX2_lookByTurns_78 lk_X2_47 lx_51 rfl cd_X2_bestFrom rfl rfl (Nat.le_of_ble_eq_true rfl) ⟨rfl, rfl, Nat.le_of_ble_eq_true rfl, Nat.le_of_ble_eq_true rfl⟩ ?_
        obtain ⟨h7, hf⟩ := f_gd hf
        obtain ⟨I8, hI8, hf⟩ := f_lt hf
        refine x_iast (j0 := ((f_X2_indexOf v2 v3)).toNatClampNeg) dX2_lookByTurns_81 lx_53 h7 rfl hI8 ?_
        refine x_iinc 4 [(3, .int (v3 + (1 : Int32))), (4, .int w4), (0, .ref 51), (1, .int v1), (2, .int v2)] dX2_lookByTurns_82 rfl rfl (by decide) rfl ?_
        refine x_goto 20 dX2_lookByTurns_85 (by decide) ?_
        refine x_lv [(0, .ref 51), (1, .int v1), (2, .int v2), (3, .int (v3 + (1 : Int32)))] [2, 3, 4, 0] rfl ?_
        exact ih _ _ hf
set_option maxRecDepth 100000 in
set_option maxHeartbeats 4000000 in
theorem l_X2_lookByTurns_7   (v1 : Int32) (L : z_L) {r : z_I}  : ∀ (n : Nat) (v2 : Int32) (I : z_I), g_X2_lookByTurns_7 v1  n v2 I = some r → z_X layX RX2 cX2_lookByTurns 5 (none) ({ frames := 3, cells := 0, slots := 0, locals := 78 } : Room) 7 [(0, .ref 51), (1, .int v1), (2, .int v2)] [] I L (none, r, L) := by
  intro n
  induction n with
  | zero => intro v2 I hf; cases hf
  | succ n ih =>
    intro v2 I hf
    rw [g_X2_lookByTurns_7] at hf
    refine x_iload_n 2 dX2_lookByTurns_7 rfl rfl ?_
    refine x_iload_n 1 dX2_lookByTurns_8 rfl rfl ?_
    refine x_icmp_gt 94 dX2_lookByTurns_9 (by decide) (fun hB => ?_) (fun hB => ?_)
    · replace hf := f_if hB hf
      cases hf
      exact x_vret dX2_lookByTurns_94 rfl rfl
    · replace hf := f_el hB hf
      refine x_aload_n 0 dX2_lookByTurns_12 rfl rfl ?_
      refine x_getR dX2_lookByTurns_13 lx_51 fl_X2_18 rfl ?_
      refine x_getI (v := (I 3 16)) dX2_lookByTurns_16 lx_3 fl_X2_26 rfl rfl ?_
      refine x_istore_n [(3, .int (I 3 16)), (0, .ref 51), (1, .int v1), (2, .int v2)] dX2_lookByTurns_19 rfl (by decide) rfl ?_
      refine x_lv [(0, .ref 51), (1, .int v1), (2, .int v2), (3, .int (I 3 16))] [1, 2, 3, 0] rfl ?_
      refine l_X2_lookByTurns_20 v1 v2 (L) _ ?_ _ _ _ hf
      · intro I_9 hf
        refine x_iinc 2 [(2, .int (v2 + (1 : Int32))), (0, .ref 51), (1, .int v1)] dX2_lookByTurns_88 rfl rfl (by decide) rfl ?_
        refine x_goto 7 dX2_lookByTurns_91 (by decide) ?_
        refine x_lv [(0, .ref 51), (1, .int v1), (2, .int (v2 + (1 : Int32)))] [1, 2, 0] rfl ?_
        exact ih _ _ hf
set_option maxRecDepth 100000 in
set_option maxHeartbeats 4000000 in
theorem c_X2_lookByTurns {I : z_I} {L : z_L} {p0 : Int32}  {r : z_I} (hf : f_X2_lookByTurns I p0 = some r) : z_C layX yX2_lookByTurns cX2_lookByTurns 5 (none) ({ frames := 3, cells := 0, slots := 0, locals := 78 } : Room) [.ref 51, .int p0] I L (none, r, L) := by
  refine z_C.of (by decide) (Nat.le_of_ble_eq_true rfl) ?_
  show z_X layX RX2 cX2_lookByTurns 5 (none) ({ frames := 3, cells := 0, slots := 0, locals := 78 } : Room) 0 [(0, .ref 51), (1, .int p0)] [] I L (none, r, L)
  unfold f_X2_lookByTurns at hf
  refine x_aload_n 0 dX2_lookByTurns_0 rfl rfl ?_
  refine x_iload_n 1 dX2_lookByTurns_1 rfl rfl ?_
  obtain ⟨q1, hq2, hf⟩ := f_bd hf
  refine x_callVv [.int p0] (c_X2_prepare (I := I) (L := L)  hq2) dX2_lookByTurns_2 lk_X2_22 lx_51 rfl cd_X2_prepare rfl rfl (Nat.le_of_ble_eq_true rfl) ⟨rfl, rfl, Nat.le_of_ble_eq_true rfl, Nat.le_of_ble_eq_true rfl⟩ ?_
  refine x_iconst (v := (1)) dX2_lookByTurns_5 (by decide) ?_
  refine x_istore_n [(2, .int (1 : Int32)), (0, .ref 51), (1, .int p0)] dX2_lookByTurns_6 rfl (by decide) rfl ?_
  refine x_lv [(0, .ref 51), (1, .int p0), (2, .int (1 : Int32))] [1, 2, 0] rfl ?_
  refine l_X2_lookByTurns_7 p0 (L)   _ _ _ hf
set_option maxRecDepth 100000 in
set_option maxHeartbeats 4000000 in
theorem c_X2_bestBy {I : z_I} {L : z_L} {p0 : Int32}  {r : Int32} (hf : f_X2_bestBy I p0 = some r) : z_C layX yX2_bestBy cX2_bestBy 2 (some .int) ({ frames := 1, cells := 0, slots := 0, locals := 21 } : Room) [.ref 51, .int p0] I L (some (.int r), I, L) := by
  refine z_C.of (by decide) (Nat.le_of_ble_eq_true rfl) ?_
  show z_X layX RX2 cX2_bestBy 2 (some .int) ({ frames := 1, cells := 0, slots := 0, locals := 21 } : Room) 0 [(0, .ref 51), (1, .int p0)] [] I L (some (.int r), I, L)
  unfold f_X2_bestBy at hf
  refine x_aload_n 0 dX2_bestBy_0 rfl rfl ?_
  refine x_getR dX2_bestBy_1 lx_51 fl_X2_15 rfl ?_
  refine x_iload_n 1 dX2_bestBy_4 rfl rfl ?_
  refine x_aload_n 0 dX2_bestBy_5 rfl rfl ?_
  refine x_getR dX2_bestBy_6 lx_51 fl_X2_18 rfl ?_
  refine x_getI (v := (I 3 16)) dX2_bestBy_9 lx_3 fl_X2_26 rfl rfl ?_
  refine x_callSi [.int p0, .int (I 3 16)] (c_X2_indexOf (I := I) (L := L) p0 (I 3 16)) dX2_bestBy_12 lk_X2_43 cd_X2_indexOf rfl rfl (Nat.le_of_ble_eq_true rfl) ⟨rfl, rfl, Nat.le_of_ble_eq_true rfl, Nat.le_of_ble_eq_true rfl⟩ ?_
  obtain ⟨h1, hf⟩ := f_gd hf
  refine x_iald (j := ((f_X2_indexOf p0 (I 3 16))).toNatClampNeg) (v := (I 53 ((f_X2_indexOf p0 (I 3 16))).toNatClampNeg)) dX2_bestBy_15 lx_53 h1 rfl rfl ?_
  cases hf
  exact x_iret dX2_bestBy_16 rfl rfl
set_option maxRecDepth 100000 in
set_option maxHeartbeats 4000000 in
theorem l_X2_firstFor_3   (v1 : Int32) (v2 : Int32) (v3 : Int32) (v4 : Int32) (I : z_I) (L : z_L) {r : Int32}  : ∀ (n : Nat) (v5 : Int32), g_X2_firstFor_3 v1 v2 v3 v4 I  n v5 = some r → z_X layX RX2 cX2_firstFor 6 (some .int) ({ frames := 2, cells := 0, slots := 0, locals := 46 } : Room) 3 [(0, .ref 51), (1, .int v1), (2, .int v2), (3, .int v3), (4, .int v4), (5, .int v5)] [] I L (some (.int r), I, L) := by
  intro n
  induction n with
  | zero => intro v5 hf; cases hf
  | succ n ih =>
    intro v5 hf
    rw [g_X2_firstFor_3] at hf
    refine x_iload 5 dX2_firstFor_3 rfl ?_
    refine x_aload_n 0 dX2_firstFor_5 rfl rfl ?_
    refine x_getR dX2_firstFor_6 lx_51 fl_X2_18 rfl ?_
    refine x_getI (v := (I 3 12)) dX2_firstFor_9 lx_3 fl_X2_32 rfl rfl ?_
    refine x_icmp_ge 47 dX2_firstFor_12 (by decide) (fun hB => ?_) (fun hB => ?_)
    · replace hf := f_if hB hf
      refine x_iconst (v := (-1)) dX2_firstFor_47 (by decide) ?_
      cases hf
      exact x_iret dX2_firstFor_48 rfl rfl
    · replace hf := f_el hB hf
      refine x_iload_n 3 dX2_firstFor_15 rfl rfl ?_
      refine x_iconst (v := (1)) dX2_firstFor_16 (by decide) ?_
      refine x_iload 5 dX2_firstFor_17 rfl ?_
      refine x_ishl dX2_firstFor_19 ?_
      refine x_iand dX2_firstFor_20 ?_
      refine x_if_ne 41 dX2_firstFor_21 (by decide) (fun hB => ?_) (fun hB => ?_)
      · replace hf := f_el hB hf
        refine x_iinc 5 [(5, .int (v5 + (1 : Int32))), (0, .ref 51), (1, .int v1), (2, .int v2), (3, .int v3), (4, .int v4)] dX2_firstFor_41 rfl rfl (by decide) rfl ?_
        refine x_goto 3 dX2_firstFor_44 (by decide) ?_
        refine x_lv [(0, .ref 51), (1, .int v1), (2, .int v2), (3, .int v3), (4, .int v4), (5, .int (v5 + (1 : Int32)))] [1, 2, 3, 4, 5, 0] rfl ?_
        exact ih _ hf
      · replace hf := f_if hB hf
        refine x_aload_n 0 dX2_firstFor_24 rfl rfl ?_
        refine x_iload 5 dX2_firstFor_25 rfl ?_
        refine x_iload_n 2 dX2_firstFor_27 rfl rfl ?_
        refine x_iload_n 3 dX2_firstFor_28 rfl rfl ?_
        refine x_iload 4 dX2_firstFor_29 rfl ?_
        obtain ⟨q1, hq2, hf⟩ := f_bd hf
        refine x_callVi [.int v5, .int v2, .int v3, .int v4] (c_X2_worthOf (I := I) (L := L)  hq2) dX2_firstFor_31 lk_X2_65 lx_51 rfl cd_X2_worthOf rfl rfl (Nat.le_of_ble_eq_true rfl) ⟨rfl, rfl, Nat.le_of_ble_eq_true rfl, Nat.le_of_ble_eq_true rfl⟩ ?_
        refine x_iload_n 1 dX2_firstFor_34 rfl rfl ?_
        refine x_icmp_ne 41 dX2_firstFor_35 (by decide) (fun hB => ?_) (fun hB => ?_)
        · replace hf := f_el hB hf
          refine x_iinc 5 [(5, .int (v5 + (1 : Int32))), (0, .ref 51), (1, .int v1), (2, .int v2), (3, .int v3), (4, .int v4)] dX2_firstFor_41 rfl rfl (by decide) rfl ?_
          refine x_goto 3 dX2_firstFor_44 (by decide) ?_
          refine x_lv [(0, .ref 51), (1, .int v1), (2, .int v2), (3, .int v3), (4, .int v4), (5, .int (v5 + (1 : Int32)))] [1, 2, 3, 4, 5, 0] rfl ?_
          exact ih _ hf
        · replace hf := f_if hB hf
          refine x_iload 5 dX2_firstFor_38 rfl ?_
          cases hf
          exact x_iret dX2_firstFor_40 rfl rfl
set_option maxRecDepth 100000 in
set_option maxHeartbeats 4000000 in
theorem c_X2_firstFor {I : z_I} {L : z_L} {p0 : Int32} {p1 : Int32} {p2 : Int32} {p3 : Int32}  {r : Int32} (hf : f_X2_firstFor I p0 p1 p2 p3 = some r) : z_C layX yX2_firstFor cX2_firstFor 6 (some .int) ({ frames := 2, cells := 0, slots := 0, locals := 46 } : Room) [.ref 51, .int p0, .int p1, .int p2, .int p3] I L (some (.int r), I, L) := by
  refine z_C.of (by decide) (Nat.le_of_ble_eq_true rfl) ?_
  show z_X layX RX2 cX2_firstFor 6 (some .int) ({ frames := 2, cells := 0, slots := 0, locals := 46 } : Room) 0 [(0, .ref 51), (1, .int p0), (2, .int p1), (3, .int p2), (4, .int p3)] [] I L (some (.int r), I, L)
  unfold f_X2_firstFor at hf
  refine x_iconst (v := (0)) dX2_firstFor_0 (by decide) ?_
  refine x_istore [(5, .int (0 : Int32)), (0, .ref 51), (1, .int p0), (2, .int p1), (3, .int p2), (4, .int p3)] dX2_firstFor_1 (by decide) rfl ?_
  refine x_lv [(0, .ref 51), (1, .int p0), (2, .int p1), (3, .int p2), (4, .int p3), (5, .int (0 : Int32))] [1, 2, 3, 4, 5, 0] rfl ?_
  refine l_X2_firstFor_3 p0 p1 p2 p3 (I) (L)   _ _ hf
set_option maxRecDepth 100000 in
set_option maxHeartbeats 4000000 in
theorem l_X2_rowAt_11   (v1 : Int32) (v2 : Int32) (I : z_I) (L : z_L) {r : Int32}  : ∀ (n : Nat) (v3 : Int32) (v4 : Int32), g_X2_rowAt_11 v1 v2 I  n v3 v4 = some r → z_X layX RX2 cX2_rowAt 7 (some .int) ({ frames := 3, cells := 0, slots := 0, locals := 71 } : Room) 11 [(0, .ref 51), (1, .int v1), (2, .int v2), (3, .int v3), (4, .int v4)] [] I L (some (.int r), I, L) := by
  intro n
  induction n with
  | zero => intro v3 v4 hf; cases hf
  | succ n ih =>
    intro v3 v4 hf
    rw [g_X2_rowAt_11] at hf
    refine x_iload 4 dX2_rowAt_11 rfl ?_
    refine x_iload_n 1 dX2_rowAt_13 rfl rfl ?_
    refine x_icmp_ge 83 dX2_rowAt_14 (by decide) (fun hB => ?_) (fun hB => ?_)
    · replace hf := f_if hB hf
      refine x_iconst (v := (-1)) dX2_rowAt_83 (by decide) ?_
      cases hf
      exact x_iret dX2_rowAt_84 rfl rfl
    · replace hf := f_el hB hf
      refine x_aload_n 0 dX2_rowAt_17 rfl rfl ?_
      refine x_getR dX2_rowAt_18 lx_51 fl_X2_15 rfl ?_
      refine x_iload_n 1 dX2_rowAt_21 rfl rfl ?_
      refine x_iload 4 dX2_rowAt_22 rfl ?_
      refine x_isub dX2_rowAt_24 ?_
      refine x_iload_n 3 dX2_rowAt_25 rfl rfl ?_
      refine x_callSi [.int (v1 - v4), .int v3] (c_X2_indexOf (I := I) (L := L) (v1 - v4) v3) dX2_rowAt_26 lk_X2_43 cd_X2_indexOf rfl rfl (Nat.le_of_ble_eq_true rfl) ⟨rfl, rfl, Nat.le_of_ble_eq_true rfl, Nat.le_of_ble_eq_true rfl⟩ ?_
      obtain ⟨h1, hf⟩ := f_gd hf
      refine x_iald (j := ((f_X2_indexOf (v1 - v4) v3)).toNatClampNeg) (v := (I 53 ((f_X2_indexOf (v1 - v4) v3)).toNatClampNeg)) dX2_rowAt_29 lx_53 h1 rfl rfl ?_
      obtain ⟨w2, hw2, hf⟩ := f_lt hf
      refine x_topI hw2 ?_
      refine x_istore [(5, .int w2), (0, .ref 51), (1, .int v1), (2, .int v2), (3, .int v3), (4, .int v4)] dX2_rowAt_30 (by decide) rfl ?_
      refine x_iload 0 dX2_rowAt_32 rfl ?_
      refine x_if_ne 41 dX2_rowAt_34 (by decide) (fun hB => ?_) (fun hB => ?_)
      · replace hf := f_el hB hf
        refine x_aload_n 1 dX2_rowAt_41 rfl rfl ?_
        refine x_iload 0 dX2_rowAt_42 rfl ?_
        refine x_iload_n 2 dX2_rowAt_44 rfl rfl ?_
        refine x_iload 5 dX2_rowAt_45 rfl ?_
        refine x_isub dX2_rowAt_47 ?_
        refine x_iload_n 4 dX2_rowAt_48 rfl rfl ?_
        refine x_iconst (v := (1)) dX2_rowAt_49 (by decide) ?_
        obtain ⟨q3, hq4, hf⟩ := f_bd hf
        refine x_callVi [.int w2, .int (v1 - v4), .int v3, .int (1 : Int32)] (c_X2_firstFor (I := I) (L := L)  hq4) dX2_rowAt_50 lk_X2_51 lx_51 rfl cd_X2_firstFor rfl rfl (Nat.le_of_ble_eq_true rfl) ⟨rfl, rfl, Nat.le_of_ble_eq_true rfl, Nat.le_of_ble_eq_true rfl⟩ ?_
        refine x_istore [(6, .int q3), (5, .int w2), (0, .ref 51), (1, .int v1), (2, .int v2), (3, .int v3), (4, .int v4)] dX2_rowAt_53 (by decide) rfl ?_
        refine x_iload 0 dX2_rowAt_55 rfl ?_
        refine x_iconst (v := (-1)) dX2_rowAt_57 (by decide) ?_
        refine x_icmp_eq 67 dX2_rowAt_58 (by decide) (fun hB => ?_) (fun hB => ?_)
        · replace hf := f_if hB hf
          refine x_iload 0 dX2_rowAt_67 rfl ?_
          cases hf
          exact x_iret dX2_rowAt_69 rfl rfl
        · replace hf := f_el hB hf
          refine x_iload 6 dX2_rowAt_61 rfl ?_
          refine x_iload_n 4 dX2_rowAt_63 rfl rfl ?_
          refine x_icmp_ne 70 dX2_rowAt_64 (by decide) (fun hB => ?_) (fun hB => ?_)
          · replace hf := f_el hB hf
            refine x_iload_n 5 dX2_rowAt_70 rfl rfl ?_
            refine x_iconst (v := (1)) dX2_rowAt_71 (by decide) ?_
            refine x_iload 0 dX2_rowAt_72 rfl ?_
            refine x_ishl dX2_rowAt_74 ?_
            refine x_ior dX2_rowAt_75 ?_
            refine x_istore_n [(3, .int (v3 ||| ((1 : Int32) <<< (q3 &&& 31)))), (6, .int q3), (5, .int w2), (0, .ref 51), (1, .int v1), (2, .int v2), (4, .int v4)] dX2_rowAt_76 rfl (by decide) rfl ?_
            refine x_iinc 6 [(4, .int (v4 + (1 : Int32))), (3, .int (v3 ||| ((1 : Int32) <<< (q3 &&& 31)))), (6, .int q3), (5, .int w2), (0, .ref 51), (1, .int v1), (2, .int v2)] dX2_rowAt_77 rfl rfl (by decide) rfl ?_
            refine x_goto 11 dX2_rowAt_80 (by decide) ?_
            refine x_lv [(0, .ref 51), (1, .int v1), (2, .int v2), (3, .int (v3 ||| ((1 : Int32) <<< (q3 &&& 31)))), (4, .int (v4 + (1 : Int32)))] [4, 5, 6, 1, 0] rfl ?_
            exact ih _ _ hf
          · replace hf := f_if hB hf
            refine x_iload 0 dX2_rowAt_67 rfl ?_
            cases hf
            exact x_iret dX2_rowAt_69 rfl rfl
      · replace hf := f_if hB hf
        refine x_iconst (v := (-1)) dX2_rowAt_37 (by decide) ?_
        refine x_goto 53 dX2_rowAt_38 (by decide) ?_
        refine x_istore [(6, .int (-1 : Int32)), (5, .int w2), (0, .ref 51), (1, .int v1), (2, .int v2), (3, .int v3), (4, .int v4)] dX2_rowAt_53 (by decide) rfl ?_
        refine x_iload 0 dX2_rowAt_55 rfl ?_
        refine x_iconst (v := (-1)) dX2_rowAt_57 (by decide) ?_
        refine x_icmp_eq 67 dX2_rowAt_58 (by decide) (fun _ => ?_) (fun h => absurd h (by decide))
        refine x_iload 0 dX2_rowAt_67 rfl ?_
        cases hf
        exact x_iret dX2_rowAt_69 rfl rfl
set_option maxRecDepth 100000 in
set_option maxHeartbeats 4000000 in
theorem c_X2_rowAt {I : z_I} {L : z_L} {p0 : Int32} {p1 : Int32}  {r : Int32} (hf : f_X2_rowAt I p0 p1 = some r) : z_C layX yX2_rowAt cX2_rowAt 7 (some .int) ({ frames := 3, cells := 0, slots := 0, locals := 71 } : Room) [.ref 51, .int p0, .int p1] I L (some (.int r), I, L) := by
  refine z_C.of (by decide) (Nat.le_of_ble_eq_true rfl) ?_
  show z_X layX RX2 cX2_rowAt 7 (some .int) ({ frames := 3, cells := 0, slots := 0, locals := 71 } : Room) 0 [(0, .ref 51), (1, .int p0), (2, .int p1)] [] I L (some (.int r), I, L)
  unfold f_X2_rowAt at hf
  refine x_aload_n 0 dX2_rowAt_0 rfl rfl ?_
  refine x_getR dX2_rowAt_1 lx_51 fl_X2_18 rfl ?_
  refine x_getI (v := (I 3 16)) dX2_rowAt_4 lx_3 fl_X2_26 rfl rfl ?_
  refine x_istore_n [(3, .int (I 3 16)), (0, .ref 51), (1, .int p0), (2, .int p1)] dX2_rowAt_7 rfl (by decide) rfl ?_
  refine x_iconst (v := (0)) dX2_rowAt_8 (by decide) ?_
  refine x_istore [(4, .int (0 : Int32)), (3, .int (I 3 16)), (0, .ref 51), (1, .int p0), (2, .int p1)] dX2_rowAt_9 (by decide) rfl ?_
  refine x_lv [(0, .ref 51), (1, .int p0), (2, .int p1), (3, .int (I 3 16)), (4, .int (0 : Int32))] [2, 3, 4, 1, 0] rfl ?_
  refine l_X2_rowAt_11 p0 p1 (I) (L)   _ _ _ hf
set_option maxRecDepth 100000 in
set_option maxHeartbeats 4000000 in
theorem c_X2_openingOf {I : z_I} {L : z_L} {p0 : Int32}  {r : Int32} (hf : f_X2_openingOf I p0 = some r) : z_C layX yX2_openingOf cX2_openingOf 2 (some .int) ({ frames := 3, cells := 0, slots := 0, locals := 71 } : Room) [.ref 51, .int p0] I L (some (.int r), I, L) := by
  refine z_C.of (by decide) (Nat.le_of_ble_eq_true rfl) ?_
  show z_X layX RX2 cX2_openingOf 2 (some .int) ({ frames := 3, cells := 0, slots := 0, locals := 71 } : Room) 0 [(0, .ref 51), (1, .int p0)] [] I L (some (.int r), I, L)
  unfold f_X2_openingOf at hf
  refine x_aload_n 0 dX2_openingOf_0 rfl rfl ?_
  refine x_aload_n 0 dX2_openingOf_1 rfl rfl ?_
  refine x_iload_n 1 dX2_openingOf_2 rfl rfl ?_
  obtain ⟨q1, hq2, hf⟩ := f_bd hf
  refine x_callVi [.int p0] (c_X2_bestBy (I := I) (L := L)  hq2) dX2_openingOf_3 lk_X2_54 lx_51 rfl cd_X2_bestBy rfl rfl (Nat.le_of_ble_eq_true rfl) ⟨rfl, rfl, Nat.le_of_ble_eq_true rfl, Nat.le_of_ble_eq_true rfl⟩ ?_
  refine x_iload_n 1 dX2_openingOf_6 rfl rfl ?_
  refine x_aload_n 0 dX2_openingOf_7 rfl rfl ?_
  refine x_getR dX2_openingOf_8 lx_51 fl_X2_18 rfl ?_
  refine x_getI (v := (I 3 16)) dX2_openingOf_11 lx_3 fl_X2_26 rfl rfl ?_
  refine x_iconst (v := (-1)) dX2_openingOf_14 (by decide) ?_
  obtain ⟨q3, hq4, hf⟩ := f_bd hf
  refine x_callVi [.int q1, .int p0, .int (I 3 16), .int (-1 : Int32)] (c_X2_firstFor (I := I) (L := L)  hq4) dX2_openingOf_15 lk_X2_51 lx_51 rfl cd_X2_firstFor rfl rfl (Nat.le_of_ble_eq_true rfl) ⟨rfl, rfl, Nat.le_of_ble_eq_true rfl, Nat.le_of_ble_eq_true rfl⟩ ?_
  cases hf
  exact x_iret dX2_openingOf_18 rfl rfl
set_option maxRecDepth 100000 in
set_option maxHeartbeats 4000000 in
theorem c_X4_behindEnd {I : z_I} {L : z_L} {p0 : Int32}  {r : Int32 × z_I} (hf : f_X4_behindEnd I p0 = some r) : z_C layX yX4_behindEnd cX4_behindEnd 3 (some .int) ({ frames := 0, cells := 0, slots := 0, locals := 0 } : Room) [.ref 45, .int p0] I L (some (.int r.1), r.2, L) := by
  refine z_C.of (by decide) (Nat.le_of_ble_eq_true rfl) ?_
  show z_X layX RX4 cX4_behindEnd 3 (some .int) ({ frames := 0, cells := 0, slots := 0, locals := 0 } : Room) 0 [(0, .ref 45), (1, .int p0)] [] I L (some (.int r.1), r.2, L)
  unfold f_X4_behindEnd at hf
  refine x_aload_n 0 dX4_behindEnd_0 rfl rfl ?_
  refine x_getR dX4_behindEnd_1 lx_45 fl_X4_20 rfl ?_
  refine x_getR dX4_behindEnd_4 lx_14 fl_X4_72 rfl ?_
  refine x_iload_n 1 dX4_behindEnd_7 rfl rfl ?_
  obtain ⟨h1, hf⟩ := f_gd hf
  refine x_iald (j := (p0).toNatClampNeg) (v := (I 19 (p0).toNatClampNeg)) dX4_behindEnd_8 lx_19 h1 rfl rfl ?_
  refine x_istore_n [(2, .int (I 19 (p0).toNatClampNeg)), (0, .ref 45), (1, .int p0)] dX4_behindEnd_9 rfl (by decide) rfl ?_
  refine x_aload_n 1 dX4_behindEnd_10 rfl rfl ?_
  refine x_getR dX4_behindEnd_11 lx_45 fl_X4_20 rfl ?_
  refine x_getR dX4_behindEnd_14 lx_14 fl_X4_55 rfl ?_
  refine x_iload_n 0 dX4_behindEnd_17 rfl rfl ?_
  obtain ⟨h2, hf⟩ := f_gd hf
  refine x_iald (j := ((I 19 (p0).toNatClampNeg)).toNatClampNeg) (v := (I 15 ((I 19 (p0).toNatClampNeg)).toNatClampNeg)) dX4_behindEnd_18 lx_15 h2 rfl rfl ?_
  refine x_bipush (v := (20)) dX4_behindEnd_19 (by decide) ?_
  refine x_icmp_eq 28 dX4_behindEnd_21 (by decide) (fun hB => ?_) (fun hB => ?_)
  · replace hf := f_if hB hf
    refine x_aload_n 1 dX4_behindEnd_28 rfl rfl ?_
    refine x_getR dX4_behindEnd_29 lx_45 fl_X4_17 rfl ?_
    refine x_iload_n 0 dX4_behindEnd_32 rfl rfl ?_
    refine x_dup2 dX4_behindEnd_33 rfl rfl ?_
    refine x_iald (j := ((I 19 (p0).toNatClampNeg)).toNatClampNeg) (v := (I 47 ((I 19 (p0).toNatClampNeg)).toNatClampNeg)) dX4_behindEnd_34 lx_47 h2 rfl rfl ?_
    refine x_iconst (v := (1)) dX4_behindEnd_35 (by decide) ?_
    refine x_isub dX4_behindEnd_36 ?_
    obtain ⟨I5, hI5, hf⟩ := f_lt hf
    refine x_iast (j0 := ((I 19 (p0).toNatClampNeg)).toNatClampNeg) dX4_behindEnd_37 lx_47 h2 rfl hI5 ?_
    refine x_aload_n 1 dX4_behindEnd_38 rfl rfl ?_
    refine x_getR dX4_behindEnd_39 lx_45 fl_X4_17 rfl ?_
    refine x_iload_n 0 dX4_behindEnd_42 rfl rfl ?_
    refine x_iald (j := ((I 19 (p0).toNatClampNeg)).toNatClampNeg) (v := (I5 47 ((I 19 (p0).toNatClampNeg)).toNatClampNeg)) dX4_behindEnd_43 lx_47 h2 rfl rfl ?_
    refine x_if_le 53 dX4_behindEnd_44 (by decide) (fun hB => ?_) (fun hB => ?_)
    · replace hf := f_if hB hf
      refine x_iload_n 2 dX4_behindEnd_53 rfl rfl ?_
      refine x_iconst (v := (1)) dX4_behindEnd_54 (by decide) ?_
      refine x_iadd dX4_behindEnd_55 ?_
      cases hf
      exact x_iret dX4_behindEnd_56 rfl rfl
    · replace hf := f_el hB hf
      refine x_iload_n 0 dX4_behindEnd_47 rfl rfl ?_
      refine x_iconst (v := (1)) dX4_behindEnd_48 (by decide) ?_
      refine x_iadd dX4_behindEnd_49 ?_
      refine x_goto 56 dX4_behindEnd_50 (by decide) ?_
      cases hf
      exact x_iret dX4_behindEnd_56 rfl rfl
  · replace hf := f_el hB hf
    refine x_iload_n 2 dX4_behindEnd_24 rfl rfl ?_
    refine x_iconst (v := (1)) dX4_behindEnd_25 (by decide) ?_
    refine x_iadd dX4_behindEnd_26 ?_
    cases hf
    exact x_iret dX4_behindEnd_27 rfl rfl
set_option maxRecDepth 100000 in
set_option maxHeartbeats 4000000 in
theorem c_X4_tryClaim {I : z_I} {L : z_L} {p0 : Int32}  {r : z_I} (hf : f_X4_tryClaim I p0 = some r) : z_C layX yX4_tryClaim cX4_tryClaim 2 (none) ({ frames := 3, cells := 0, slots := 0, locals := 78 } : Room) [.ref 45, .int p0] I L (none, r, L) := by
  refine z_C.of (by decide) (Nat.le_of_ble_eq_true rfl) ?_
  show z_X layX RX4 cX4_tryClaim 2 (none) ({ frames := 3, cells := 0, slots := 0, locals := 78 } : Room) 0 [(0, .ref 45), (1, .int p0)] [] I L (none, r, L)
  unfold f_X4_tryClaim at hf
  refine x_aload_n 0 dX4_tryClaim_0 rfl rfl ?_
  obtain ⟨h1, hf⟩ := f_gd hf
  refine x_getQ (v := ((I 45 5)).toNatClampNeg) dX4_tryClaim_1 lx_45 fl_X4_24 rfl rfl ?_
  refine x_iload_n 1 dX4_tryClaim_4 rfl rfl ?_
  refine x_callVi [.int p0] (c_X0_isMade (I := I) (L := L) (((I 45 5)).toNatClampNeg) p0 (z_ctof h1)) dX4_tryClaim_5 lk_X4_85 (z_ctof h1).1 rfl cd_X0_isMade rfl rfl (Nat.le_of_ble_eq_true rfl) ⟨rfl, rfl, Nat.le_of_ble_eq_true rfl, Nat.le_of_ble_eq_true rfl⟩ ?_
  refine x_if_eqB 24 dX4_tryClaim_8 (by decide) (fun hB => ?_) (fun hB => ?_)
  · replace hf := f_el hB hf
    refine x_aload_n 0 dX4_tryClaim_24 rfl rfl ?_
    refine x_dup dX4_tryClaim_25 rfl ?_
    refine x_getI (v := (I 45 8)) dX4_tryClaim_26 lx_45 fl_X4_38 rfl rfl ?_
    refine x_aload_n 0 dX4_tryClaim_29 rfl rfl ?_
    refine x_getQ (v := ((I 45 5)).toNatClampNeg) dX4_tryClaim_30 lx_45 fl_X4_24 rfl rfl ?_
    refine x_iload_n 1 dX4_tryClaim_33 rfl rfl ?_
    obtain ⟨q4, hq5, hf⟩ := f_bd hf
    refine x_callVi [.int p0] (c_X0_putForward (I := I) (L := L) (z_ctof h1) hq5) dX4_tryClaim_34 lk_X4_122 (z_ctof h1).1 rfl cd_X0_putForward rfl rfl (Nat.le_of_ble_eq_true rfl) ⟨rfl, rfl, Nat.le_of_ble_eq_true rfl, Nat.le_of_ble_eq_true rfl⟩ ?_
    refine x_iadd dX4_tryClaim_37 ?_
    obtain ⟨I6, hI6, hf⟩ := f_lt hf
    refine x_putI dX4_tryClaim_38 lx_45 fl_X4_38 rfl rfl rfl hI6 ?_
    cases hf
    exact x_vret dX4_tryClaim_41 rfl rfl
  · replace hf := f_if hB hf
    refine x_aload_n 0 dX4_tryClaim_11 rfl rfl ?_
    refine x_dup dX4_tryClaim_12 rfl ?_
    refine x_getI (v := (I 45 7)) dX4_tryClaim_13 lx_45 fl_X4_35 rfl rfl ?_
    refine x_iconst (v := (1)) dX4_tryClaim_16 (by decide) ?_
    refine x_iadd dX4_tryClaim_17 ?_
    obtain ⟨I2, hI2, hf⟩ := f_lt hf
    refine x_putI dX4_tryClaim_18 lx_45 fl_X4_35 rfl rfl rfl hI2 ?_
    refine x_goto 41 dX4_tryClaim_21 (by decide) ?_
    cases hf
    exact x_vret dX4_tryClaim_41 rfl rfl
set_option maxRecDepth 100000 in
set_option maxHeartbeats 4000000 in
theorem c_X4_tryBed {I : z_I} {L : z_L} {p0 : Int32} {p1 : Int32}  {r : z_I} (hf : f_X4_tryBed I p0 p1 = some r) : z_C layX yX4_tryBed cX4_tryBed 3 (none) ({ frames := 0, cells := 0, slots := 0, locals := 0 } : Room) [.ref 45, .int p0, .int p1] I L (none, r, L) := by
  refine z_C.of (by decide) (Nat.le_of_ble_eq_true rfl) ?_
  show z_X layX RX4 cX4_tryBed 3 (none) ({ frames := 0, cells := 0, slots := 0, locals := 0 } : Room) 0 [(0, .ref 45), (1, .int p0), (2, .int p1)] [] I L (none, r, L)
  unfold f_X4_tryBed at hf
  refine x_aload_n 0 dX4_tryBed_0 rfl rfl ?_
  obtain ⟨h1, hf⟩ := f_gd hf
  refine x_getQ (v := ((I 45 5)).toNatClampNeg) dX4_tryBed_1 lx_45 fl_X4_24 rfl rfl ?_
  refine x_getR dX4_tryBed_4 (z_ctof h1).1 fl_X4_125 rfl ?_
  refine x_iload_n 1 dX4_tryBed_7 rfl rfl ?_
  obtain ⟨h2, hf⟩ := f_gd hf
  refine x_iald (j := (p0).toNatClampNeg) (v := (I ((((I 45 5)).toNatClampNeg) + 8) (p0).toNatClampNeg)) dX4_tryBed_8 (z_ctof h1).2.2.2.2.2.2.2.2.1 h2 rfl rfl ?_
  refine x_iload_n 2 dX4_tryBed_9 rfl rfl ?_
  refine x_icmp_ne 26 dX4_tryBed_10 (by decide) (fun hB => ?_) (fun hB => ?_)
  · replace hf := f_el hB hf
    refine x_aload_n 0 dX4_tryBed_26 rfl rfl ?_
    refine x_getQ (v := ((I 45 5)).toNatClampNeg) dX4_tryBed_27 lx_45 fl_X4_24 rfl rfl ?_
    refine x_getR dX4_tryBed_30 (z_ctof h1).1 fl_X4_125 rfl ?_
    refine x_iload_n 1 dX4_tryBed_33 rfl rfl ?_
    refine x_iload_n 2 dX4_tryBed_34 rfl rfl ?_
    obtain ⟨I6, hI6, hf⟩ := f_lt hf
    refine x_iast (j0 := (p0).toNatClampNeg) dX4_tryBed_35 (z_ctof h1).2.2.2.2.2.2.2.2.1 h2 rfl hI6 ?_
    cases hf
    exact x_vret dX4_tryBed_36 rfl rfl
  · replace hf := f_if hB hf
    refine x_aload_n 0 dX4_tryBed_13 rfl rfl ?_
    refine x_dup dX4_tryBed_14 rfl ?_
    refine x_getI (v := (I 45 7)) dX4_tryBed_15 lx_45 fl_X4_35 rfl rfl ?_
    refine x_iconst (v := (1)) dX4_tryBed_18 (by decide) ?_
    refine x_iadd dX4_tryBed_19 ?_
    obtain ⟨I3, hI3, hf⟩ := f_lt hf
    refine x_putI dX4_tryBed_20 lx_45 fl_X4_35 rfl rfl rfl hI3 ?_
    refine x_goto 36 dX4_tryBed_23 (by decide) ?_
    cases hf
    exact x_vret dX4_tryBed_36 rfl rfl
set_option maxRecDepth 100000 in
set_option maxHeartbeats 4000000 in
theorem c_X4_tryHarvest {I : z_I} {L : z_L} {p0 : Int32}  {r : z_I} (hf : f_X4_tryHarvest I p0 = some r) : z_C layX yX4_tryHarvest cX4_tryHarvest 3 (none) ({ frames := 2, cells := 0, slots := 0, locals := 51 } : Room) [.ref 45, .int p0] I L (none, r, L) := by
  refine z_C.of (by decide) (Nat.le_of_ble_eq_true rfl) ?_
  show z_X layX RX4 cX4_tryHarvest 3 (none) ({ frames := 2, cells := 0, slots := 0, locals := 51 } : Room) 0 [(0, .ref 45), (1, .int p0)] [] I L (none, r, L)
  unfold f_X4_tryHarvest at hf
  refine x_aload_n 0 dX4_tryHarvest_0 rfl rfl ?_
  obtain ⟨h1, hf⟩ := f_gd hf
  refine x_getQ (v := ((I 45 5)).toNatClampNeg) dX4_tryHarvest_1 lx_45 fl_X4_24 rfl rfl ?_
  refine x_iload_n 1 dX4_tryHarvest_4 rfl rfl ?_
  obtain ⟨q2, hq3, hf⟩ := f_bd hf
  refine x_callVi [.int p0] (c_X0_harvest (I := I) (L := L) (z_ctof h1) hq3) dX4_tryHarvest_5 lk_X4_128 (z_ctof h1).1 rfl cd_X0_harvest rfl rfl (Nat.le_of_ble_eq_true rfl) ⟨rfl, rfl, Nat.le_of_ble_eq_true rfl, Nat.le_of_ble_eq_true rfl⟩ ?_
  refine x_istore_n [(2, .int q2.1), (0, .ref 45), (1, .int p0)] dX4_tryHarvest_8 rfl (by decide) rfl ?_
  refine x_aload_n 1 dX4_tryHarvest_9 rfl rfl ?_
  refine x_dup dX4_tryHarvest_10 rfl ?_
  refine x_getI (v := (q2.2 45 9)) dX4_tryHarvest_11 lx_45 fl_X4_41 rfl rfl ?_
  refine x_iload_n 0 dX4_tryHarvest_14 rfl rfl ?_
  refine x_iadd dX4_tryHarvest_15 ?_
  obtain ⟨I4, hI4, hf⟩ := f_lt hf
  refine x_putI dX4_tryHarvest_16 lx_45 fl_X4_41 rfl rfl rfl hI4 ?_
  refine x_iload_n 0 dX4_tryHarvest_19 rfl rfl ?_
  refine x_if_ne 33 dX4_tryHarvest_20 (by decide) (fun hB => ?_) (fun hB => ?_)
  · replace hf := f_el hB hf
    cases hf
    exact x_vret dX4_tryHarvest_33 rfl rfl
  · replace hf := f_if hB hf
    refine x_aload_n 1 dX4_tryHarvest_23 rfl rfl ?_
    refine x_dup dX4_tryHarvest_24 rfl ?_
    refine x_getI (v := (q2.2 45 7)) dX4_tryHarvest_25 lx_45 fl_X4_35 rfl (by rw [hI4, z2_s, z1_o (by decide)]) ?_
    refine x_iconst (v := (1)) dX4_tryHarvest_28 (by decide) ?_
    refine x_iadd dX4_tryHarvest_29 ?_
    obtain ⟨I5, hI5, hf⟩ := f_lt hf
    refine x_putI dX4_tryHarvest_30 lx_45 fl_X4_35 rfl rfl rfl hI5 ?_
    cases hf
    exact x_vret dX4_tryHarvest_33 rfl rfl
set_option maxRecDepth 100000 in
set_option maxHeartbeats 4000000 in
theorem c_X4_tryNights {I : z_I} {L : z_L} {p0 : Int32}  {r : z_I} (hf : f_X4_tryNights I p0 = some r) : z_C layX yX4_tryNights cX4_tryNights 2 (none) ({ frames := 2, cells := 0, slots := 0, locals := 51 } : Room) [.ref 45, .int p0] I L (none, r, L) := by
  refine z_C.of (by decide) (Nat.le_of_ble_eq_true rfl) ?_
  show z_X layX RX4 cX4_tryNights 2 (none) ({ frames := 2, cells := 0, slots := 0, locals := 51 } : Room) 0 [(0, .ref 45), (1, .int p0)] [] I L (none, r, L)
  unfold f_X4_tryNights at hf
  refine x_aload_n 0 dX4_tryNights_0 rfl rfl ?_
  obtain ⟨h1, hf⟩ := f_gd hf
  refine x_getQ (v := ((I 45 5)).toNatClampNeg) dX4_tryNights_1 lx_45 fl_X4_24 rfl rfl ?_
  refine x_iload_n 1 dX4_tryNights_4 rfl rfl ?_
  obtain ⟨q2, hq3, hf⟩ := f_bd hf
  refine x_callVi [.int p0] (c_X0_passNights (I := I) (L := L) (z_ctof h1) hq3) dX4_tryNights_5 lk_X4_131 (z_ctof h1).1 rfl cd_X0_passNights rfl rfl (Nat.le_of_ble_eq_true rfl) ⟨rfl, rfl, Nat.le_of_ble_eq_true rfl, Nat.le_of_ble_eq_true rfl⟩ ?_
  refine x_if_eqB 24 dX4_tryNights_8 (by decide) (fun hB => ?_) (fun hB => ?_)
  · replace hf := f_el hB hf
    refine x_aload_n 0 dX4_tryNights_24 rfl rfl ?_
    refine x_dup dX4_tryNights_25 rfl ?_
    refine x_getI (v := (q2.2 45 7)) dX4_tryNights_26 lx_45 fl_X4_35 rfl rfl ?_
    refine x_iconst (v := (1)) dX4_tryNights_29 (by decide) ?_
    refine x_iadd dX4_tryNights_30 ?_
    obtain ⟨I5, hI5, hf⟩ := f_lt hf
    refine x_putI dX4_tryNights_31 lx_45 fl_X4_35 rfl rfl rfl hI5 ?_
    cases hf
    exact x_vret dX4_tryNights_34 rfl rfl
  · replace hf := f_if hB hf
    refine x_aload_n 0 dX4_tryNights_11 rfl rfl ?_
    refine x_dup dX4_tryNights_12 rfl ?_
    refine x_getI (v := (q2.2 45 10)) dX4_tryNights_13 lx_45 fl_X4_44 rfl rfl ?_
    refine x_iload_n 1 dX4_tryNights_16 rfl rfl ?_
    refine x_iadd dX4_tryNights_17 ?_
    obtain ⟨I4, hI4, hf⟩ := f_lt hf
    refine x_putI dX4_tryNights_18 lx_45 fl_X4_44 rfl rfl rfl hI4 ?_
    refine x_goto 34 dX4_tryNights_21 (by decide) ?_
    cases hf
    exact x_vret dX4_tryNights_34 rfl rfl
set_option maxRecDepth 100000 in
set_option maxHeartbeats 4000000 in
theorem c_X4_tryForgetting {I : z_I} {L : z_L}   {r : z_I} (hf : f_X4_tryForgetting I = some r) : z_C layX yX4_tryForgetting cX4_tryForgetting 1 (none) ({ frames := 0, cells := 0, slots := 0, locals := 0 } : Room) [.ref 45] I L (none, r, L) := by
  refine z_C.of (by decide) (Nat.le_of_ble_eq_true rfl) ?_
  show z_X layX RX4 cX4_tryForgetting 1 (none) ({ frames := 0, cells := 0, slots := 0, locals := 0 } : Room) 0 [(0, .ref 45)] [] I L (none, r, L)
  unfold f_X4_tryForgetting at hf
  refine x_aload_n 0 dX4_tryForgetting_0 rfl rfl ?_
  obtain ⟨h1, hf⟩ := f_gd hf
  refine x_getQ (v := ((I 45 5)).toNatClampNeg) dX4_tryForgetting_1 lx_45 fl_X4_24 rfl rfl ?_
  refine x_getI (v := (I (((I 45 5)).toNatClampNeg) 16)) dX4_tryForgetting_4 (z_ctof h1).1 fl_X4_134 rfl rfl ?_
  refine x_if_ne 20 dX4_tryForgetting_7 (by decide) (fun hB => ?_) (fun hB => ?_)
  · replace hf := f_el hB hf
    refine x_aload_n 0 dX4_tryForgetting_20 rfl rfl ?_
    refine x_getQ (v := ((I 45 5)).toNatClampNeg) dX4_tryForgetting_21 lx_45 fl_X4_24 rfl rfl ?_
    refine x_iconst (v := (0)) dX4_tryForgetting_24 (by decide) ?_
    obtain ⟨I6, hI6, hf⟩ := f_lt hf
    refine x_putI dX4_tryForgetting_25 (z_ctof h1).1 fl_X4_134 rfl rfl rfl hI6 ?_
    cases hf
    exact x_vret dX4_tryForgetting_28 rfl rfl
  · replace hf := f_if hB hf
    refine x_aload_n 0 dX4_tryForgetting_10 rfl rfl ?_
    refine x_dup dX4_tryForgetting_11 rfl ?_
    refine x_getI (v := (I 45 7)) dX4_tryForgetting_12 lx_45 fl_X4_35 rfl rfl ?_
    refine x_iconst (v := (1)) dX4_tryForgetting_15 (by decide) ?_
    refine x_iadd dX4_tryForgetting_16 ?_
    obtain ⟨I2, hI2, hf⟩ := f_lt hf
    refine x_putI dX4_tryForgetting_17 lx_45 fl_X4_35 rfl rfl rfl hI2 ?_
    refine x_aload_n 0 dX4_tryForgetting_20 rfl rfl ?_
    refine x_getQ (v := ((I 45 5)).toNatClampNeg) dX4_tryForgetting_21 lx_45 fl_X4_24 rfl (by rw [hI2, z2_s, z1_o (by decide)]) ?_
    refine x_iconst (v := (0)) dX4_tryForgetting_24 (by decide) ?_
    obtain ⟨I4, hI4, hf⟩ := f_lt hf
    refine x_putI dX4_tryForgetting_25 (z_ctof h1).1 fl_X4_134 rfl rfl rfl hI4 ?_
    cases hf
    exact x_vret dX4_tryForgetting_28 rfl rfl
set_option maxRecDepth 100000 in
set_option maxHeartbeats 4000000 in
theorem c_X4_draw {I : z_I} {L : z_L} {p0 : Int32}  {r : Int32 × z_I} (hf : f_X4_draw I p0 = some r) : z_C layX yX4_draw cX4_draw 2 (some .int) ({ frames := 0, cells := 0, slots := 0, locals := 0 } : Room) [.ref 45, .int p0] I L (some (.int r.1), r.2, L) := by
  refine z_C.of (by decide) (Nat.le_of_ble_eq_true rfl) ?_
  show z_X layX RX4 cX4_draw 2 (some .int) ({ frames := 0, cells := 0, slots := 0, locals := 0 } : Room) 0 [(0, .ref 45), (1, .int p0)] [] I L (some (.int r.1), r.2, L)
  unfold f_X4_draw at hf
  refine x_aload_n 0 dX4_draw_0 rfl rfl ?_
  refine x_aload_n 0 dX4_draw_1 rfl rfl ?_
  refine x_getI (v := (I 45 6)) dX4_draw_2 lx_45 fl_X4_28 rfl rfl ?_
  refine x_sipush (v := (3229)) dX4_draw_5 (by decide) ?_
  refine x_imul dX4_draw_8 ?_
  refine x_sipush (v := (11453)) dX4_draw_9 (by decide) ?_
  refine x_iadd dX4_draw_12 ?_
  refine x_ldc (v := (65536)) dX4_draw_13 kc_X4_149 ?_
  refine x_irem dX4_draw_15 (by decide) ?_
  obtain ⟨I1, hI1, hf⟩ := f_lt hf
  refine x_putI dX4_draw_16 lx_45 fl_X4_28 rfl rfl rfl hI1 ?_
  refine x_iload_n 1 dX4_draw_19 rfl rfl ?_
  refine x_if_le 35 dX4_draw_20 (by decide) (fun hB => ?_) (fun hB => ?_)
  · replace hf := f_if hB hf
    refine x_iconst (v := (0)) dX4_draw_35 (by decide) ?_
    cases hf
    exact x_iret dX4_draw_36 rfl rfl
  · replace hf := f_el hB hf
    refine x_aload_n 0 dX4_draw_23 rfl rfl ?_
    refine x_getI (v := ((((I 45 6) * (3229 : Int32)) + (11453 : Int32)) - (((I 45 6) * (3229 : Int32)) + (11453 : Int32)) / (65536 : Int32) * (65536 : Int32))) dX4_draw_24 lx_45 fl_X4_28 rfl (by rw [hI1, z2_s, z1_s]) ?_
    refine x_bipush (v := (8)) dX4_draw_27 (by decide) ?_
    refine x_idiv dX4_draw_29 (by decide) ?_
    refine x_iload_n 1 dX4_draw_30 rfl rfl ?_
    obtain ⟨h2, hf⟩ := f_gd hf
    refine x_irem dX4_draw_31 h2 ?_
    refine x_goto 36 dX4_draw_32 (by decide) ?_
    cases hf
    exact x_iret dX4_draw_36 rfl rfl
set_option maxRecDepth 100000 in
set_option maxHeartbeats 4000000 in
theorem c_X4_tryAny {I : z_I} {L : z_L}   {r : z_I} (hf : f_X4_tryAny I = some r) : z_C layX yX4_tryAny cX4_tryAny 3 (none) ({ frames := 4, cells := 0, slots := 0, locals := 99 } : Room) [.ref 45] I L (none, r, L) := by
  refine z_C.of (by decide) (Nat.le_of_ble_eq_true rfl) ?_
  show z_X layX RX4 cX4_tryAny 3 (none) ({ frames := 4, cells := 0, slots := 0, locals := 99 } : Room) 0 [(0, .ref 45)] [] I L (none, r, L)
  unfold f_X4_tryAny at hf
  refine x_aload_n 0 dX4_tryAny_0 rfl rfl ?_
  obtain ⟨h1, hf⟩ := f_gd hf
  refine x_getQ (v := ((I 45 5)).toNatClampNeg) dX4_tryAny_1 lx_45 fl_X4_24 rfl rfl ?_
  refine x_getI (v := (I (((I 45 5)).toNatClampNeg) 12)) dX4_tryAny_4 (z_ctof h1).1 fl_X4_137 rfl rfl ?_
  refine x_if_eq 20 dX4_tryAny_7 (by decide) (fun hB => ?_) (fun hB => ?_)
  · replace hf := f_if hB hf
    refine x_aload_n 0 dX4_tryAny_20 rfl rfl ?_
    refine x_dup dX4_tryAny_21 rfl ?_
    refine x_getI (v := (I 45 7)) dX4_tryAny_22 lx_45 fl_X4_35 rfl rfl ?_
    refine x_iconst (v := (1)) dX4_tryAny_25 (by decide) ?_
    refine x_iadd dX4_tryAny_26 ?_
    obtain ⟨I2, hI2, hf⟩ := f_lt hf
    refine x_putI dX4_tryAny_27 lx_45 fl_X4_35 rfl rfl rfl hI2 ?_
    cases hf
    exact x_vret dX4_tryAny_30 rfl rfl
  · replace hf := f_el hB hf
    refine x_aload_n 0 dX4_tryAny_10 rfl rfl ?_
    refine x_getQ (v := ((I 45 5)).toNatClampNeg) dX4_tryAny_11 lx_45 fl_X4_24 rfl rfl ?_
    refine x_getI (v := (I (((I 45 5)).toNatClampNeg) 13)) dX4_tryAny_14 (z_ctof h1).1 fl_X4_140 rfl rfl ?_
    refine x_if_ne 31 dX4_tryAny_17 (by decide) (fun hB => ?_) (fun hB => ?_)
    · replace hf := f_el hB hf
      refine x_aload_n 0 dX4_tryAny_31 rfl rfl ?_
      refine x_aload_n 0 dX4_tryAny_32 rfl rfl ?_
      refine x_getQ (v := ((I 45 5)).toNatClampNeg) dX4_tryAny_33 lx_45 fl_X4_24 rfl rfl ?_
      refine x_getI (v := (I (((I 45 5)).toNatClampNeg) 12)) dX4_tryAny_36 (z_ctof h1).1 fl_X4_137 rfl rfl ?_
      obtain ⟨q6, hq7, hf⟩ := f_bd hf
      refine x_callVi [.int (I (((I 45 5)).toNatClampNeg) 12)] (c_X4_draw (I := I) (L := L)  hq7) dX4_tryAny_39 lk_X4_143 lx_45 rfl cd_X4_draw rfl rfl (Nat.le_of_ble_eq_true rfl) ⟨rfl, rfl, Nat.le_of_ble_eq_true rfl, Nat.le_of_ble_eq_true rfl⟩ ?_
      refine x_istore_n [(1, .int q6.1), (0, .ref 45)] dX4_tryAny_42 rfl (by decide) rfl ?_
      refine x_aload_n 1 dX4_tryAny_43 rfl rfl ?_
      refine x_aload_n 1 dX4_tryAny_44 rfl rfl ?_
      obtain ⟨h8, hf⟩ := f_gd hf
      refine x_getQ (v := ((q6.2 45 5)).toNatClampNeg) dX4_tryAny_45 lx_45 fl_X4_24 rfl rfl ?_
      refine x_getI (v := (q6.2 (((q6.2 45 5)).toNatClampNeg) 13)) dX4_tryAny_48 (z_ctof h8).1 fl_X4_140 rfl rfl ?_
      obtain ⟨q9, hq10, hf⟩ := f_bd hf
      refine x_callVi [.int (q6.2 (((q6.2 45 5)).toNatClampNeg) 13)] (c_X4_draw (I := q6.2) (L := L)  hq10) dX4_tryAny_51 lk_X4_143 lx_45 rfl cd_X4_draw rfl rfl (Nat.le_of_ble_eq_true rfl) ⟨rfl, rfl, Nat.le_of_ble_eq_true rfl, Nat.le_of_ble_eq_true rfl⟩ ?_
      refine x_istore_n [(2, .int q9.1), (1, .int q6.1), (0, .ref 45)] dX4_tryAny_54 rfl (by decide) rfl ?_
      refine x_aload_n 2 dX4_tryAny_55 rfl rfl ?_
      refine x_bipush (v := (16)) dX4_tryAny_56 (by decide) ?_
      obtain ⟨q11, hq12, hf⟩ := f_bd hf
      refine x_callVi [.int (16 : Int32)] (c_X4_draw (I := q9.2) (L := L)  hq12) dX4_tryAny_58 lk_X4_143 lx_45 rfl cd_X4_draw rfl rfl (Nat.le_of_ble_eq_true rfl) ⟨rfl, rfl, Nat.le_of_ble_eq_true rfl, Nat.le_of_ble_eq_true rfl⟩ ?_
      refine x_aload_n 2 dX4_tryAny_61 rfl rfl ?_
      obtain ⟨h13, hf⟩ := f_gd hf
      refine x_getQ (v := ((q11.2 45 5)).toNatClampNeg) dX4_tryAny_62 lx_45 fl_X4_24 rfl rfl ?_
      refine x_getI (v := (q11.2 (((q11.2 45 5)).toNatClampNeg) 14)) dX4_tryAny_65 (z_ctof h13).1 fl_X4_146 rfl rfl ?_
      refine x_icmp_ge 79 dX4_tryAny_68 (by decide) (fun hB => ?_) (fun hB => ?_)
      · replace hf := f_if hB hf
        refine x_aload_n 2 dX4_tryAny_79 rfl rfl ?_
        refine x_iload_n 0 dX4_tryAny_80 rfl rfl ?_
        obtain ⟨q14, hq15, hf⟩ := f_bd hf
        refine x_callVv [.int q9.1] (c_X4_tryHarvest (I := q11.2) (L := L)  hq15) dX4_tryAny_81 lk_X4_110 lx_45 rfl cd_X4_tryHarvest rfl rfl (Nat.le_of_ble_eq_true rfl) ⟨rfl, rfl, Nat.le_of_ble_eq_true rfl, Nat.le_of_ble_eq_true rfl⟩ ?_
        cases hf
        exact x_vret dX4_tryAny_84 rfl rfl
      · replace hf := f_el hB hf
        refine x_aload_n 2 dX4_tryAny_71 rfl rfl ?_
        refine x_iload_n 1 dX4_tryAny_72 rfl rfl ?_
        obtain ⟨q16, hq17, hf⟩ := f_bd hf
        refine x_callVv [.int q6.1] (c_X4_tryClaim (I := q11.2) (L := L)  hq17) dX4_tryAny_73 lk_X4_103 lx_45 rfl cd_X4_tryClaim rfl rfl (Nat.le_of_ble_eq_true rfl) ⟨rfl, rfl, Nat.le_of_ble_eq_true rfl, Nat.le_of_ble_eq_true rfl⟩ ?_
        refine x_goto 84 dX4_tryAny_76 (by decide) ?_
        cases hf
        exact x_vret dX4_tryAny_84 rfl rfl
    · replace hf := f_if hB hf
      refine x_aload_n 0 dX4_tryAny_20 rfl rfl ?_
      refine x_dup dX4_tryAny_21 rfl ?_
      refine x_getI (v := (I 45 7)) dX4_tryAny_22 lx_45 fl_X4_35 rfl rfl ?_
      refine x_iconst (v := (1)) dX4_tryAny_25 (by decide) ?_
      refine x_iadd dX4_tryAny_26 ?_
      obtain ⟨I4, hI4, hf⟩ := f_lt hf
      refine x_putI dX4_tryAny_27 lx_45 fl_X4_35 rfl rfl rfl hI4 ?_
      cases hf
      exact x_vret dX4_tryAny_30 rfl rfl
set_option maxRecDepth 100000 in
set_option maxHeartbeats 4000000 in
theorem c_X4_act {I : z_I} {L : z_L} {p0 : Int32}  {r : z_I} (hf : f_X4_act I p0 = some r) : z_C layX yX4_act cX4_act 4 (none) ({ frames := 5, cells := 0, slots := 0, locals := 121 } : Room) [.ref 45, .int p0] I L (none, r, L) := by
  refine z_C.of (by decide) (Nat.le_of_ble_eq_true rfl) ?_
  show z_X layX RX4 cX4_act 4 (none) ({ frames := 5, cells := 0, slots := 0, locals := 121 } : Room) 0 [(0, .ref 45), (1, .int p0)] [] I L (none, r, L)
  unfold f_X4_act at hf
  refine x_aload_n 0 dX4_act_0 rfl rfl ?_
  refine x_getR dX4_act_1 lx_45 fl_X4_20 rfl ?_
  refine x_getR dX4_act_4 lx_14 fl_X4_82 rfl ?_
  refine x_iload_n 1 dX4_act_7 rfl rfl ?_
  obtain ⟨h1, hf⟩ := f_gd hf
  refine x_iald (j := (p0).toNatClampNeg) (v := (I 16 (p0).toNatClampNeg)) dX4_act_8 lx_16 h1 rfl rfl ?_
  refine x_istore_n [(2, .int (I 16 (p0).toNatClampNeg)), (0, .ref 45), (1, .int p0)] dX4_act_9 rfl (by decide) rfl ?_
  refine x_aload_n 1 dX4_act_10 rfl rfl ?_
  refine x_getR dX4_act_11 lx_45 fl_X4_20 rfl ?_
  refine x_getR dX4_act_14 lx_14 fl_X4_79 rfl ?_
  refine x_iload_n 2 dX4_act_17 rfl rfl ?_
  refine x_iald (j := (p0).toNatClampNeg) (v := (I 18 (p0).toNatClampNeg)) dX4_act_18 lx_18 h1 rfl rfl ?_
  refine x_istore_n [(3, .int (I 18 (p0).toNatClampNeg)), (2, .int (I 16 (p0).toNatClampNeg)), (0, .ref 45), (1, .int p0)] dX4_act_19 rfl (by decide) rfl ?_
  refine x_aload_n 2 dX4_act_20 rfl rfl ?_
  refine x_getR dX4_act_21 lx_45 fl_X4_20 rfl ?_
  refine x_getR dX4_act_24 lx_14 fl_X4_55 rfl ?_
  refine x_iload_n 3 dX4_act_27 rfl rfl ?_
  refine x_iald (j := (p0).toNatClampNeg) (v := (I 15 (p0).toNatClampNeg)) dX4_act_28 lx_15 h1 rfl rfl ?_
  by_cases hs6 : (I 15 (p0).toNatClampNeg) = (12)
  · replace hf := f_if hs6 hf
    refine x_tabIn (12) 68 dX4_act_29 hs6 (by decide) (by decide) rfl (by decide) ?_
    refine x_aload_n 2 dX4_act_68 rfl rfl ?_
    refine x_iload_n 1 dX4_act_69 rfl rfl ?_
    obtain ⟨q4, hq5, hf⟩ := f_bd hf
    refine x_callVv [.int (I 16 (p0).toNatClampNeg)] (c_X4_tryClaim (I := I) (L := L)  hq5) dX4_act_70 lk_X4_103 lx_45 rfl cd_X4_tryClaim rfl rfl (Nat.le_of_ble_eq_true rfl) ⟨rfl, rfl, Nat.le_of_ble_eq_true rfl, Nat.le_of_ble_eq_true rfl⟩ ?_
    refine x_goto 115 dX4_act_73 (by decide) ?_
    cases hf
    exact x_vret dX4_act_115 rfl rfl
  replace hf := f_el hs6 hf
  by_cases hs9 : (I 15 (p0).toNatClampNeg) = (13)
  · replace hf := f_if hs9 hf
    refine x_tabIn (13) 76 dX4_act_29 hs9 (by decide) (by decide) rfl (by decide) ?_
    refine x_aload_n 2 dX4_act_76 rfl rfl ?_
    refine x_iload_n 1 dX4_act_77 rfl rfl ?_
    refine x_iload_n 0 dX4_act_78 rfl rfl ?_
    obtain ⟨q7, hq8, hf⟩ := f_bd hf
    refine x_callVv [.int (I 16 (p0).toNatClampNeg), .int (I 18 (p0).toNatClampNeg)] (c_X4_tryBed (I := I) (L := L)  hq8) dX4_act_79 lk_X4_106 lx_45 rfl cd_X4_tryBed rfl rfl (Nat.le_of_ble_eq_true rfl) ⟨rfl, rfl, Nat.le_of_ble_eq_true rfl, Nat.le_of_ble_eq_true rfl⟩ ?_
    refine x_goto 115 dX4_act_82 (by decide) ?_
    cases hf
    exact x_vret dX4_act_115 rfl rfl
  replace hf := f_el hs9 hf
  by_cases hs12 : (I 15 (p0).toNatClampNeg) = (14)
  · replace hf := f_if hs12 hf
    refine x_tabIn (14) 85 dX4_act_29 hs12 (by decide) (by decide) rfl (by decide) ?_
    refine x_aload_n 2 dX4_act_85 rfl rfl ?_
    refine x_iload_n 1 dX4_act_86 rfl rfl ?_
    obtain ⟨q10, hq11, hf⟩ := f_bd hf
    refine x_callVv [.int (I 16 (p0).toNatClampNeg)] (c_X4_tryHarvest (I := I) (L := L)  hq11) dX4_act_87 lk_X4_110 lx_45 rfl cd_X4_tryHarvest rfl rfl (Nat.le_of_ble_eq_true rfl) ⟨rfl, rfl, Nat.le_of_ble_eq_true rfl, Nat.le_of_ble_eq_true rfl⟩ ?_
    refine x_goto 115 dX4_act_90 (by decide) ?_
    cases hf
    exact x_vret dX4_act_115 rfl rfl
  replace hf := f_el hs12 hf
  by_cases hs15 : (I 15 (p0).toNatClampNeg) = (15)
  · replace hf := f_if hs15 hf
    refine x_tabIn (15) 93 dX4_act_29 hs15 (by decide) (by decide) rfl (by decide) ?_
    refine x_aload_n 2 dX4_act_93 rfl rfl ?_
    refine x_iload_n 0 dX4_act_94 rfl rfl ?_
    obtain ⟨q13, hq14, hf⟩ := f_bd hf
    refine x_callVv [.int (I 18 (p0).toNatClampNeg)] (c_X4_tryNights (I := I) (L := L)  hq14) dX4_act_95 lk_X4_113 lx_45 rfl cd_X4_tryNights rfl rfl (Nat.le_of_ble_eq_true rfl) ⟨rfl, rfl, Nat.le_of_ble_eq_true rfl, Nat.le_of_ble_eq_true rfl⟩ ?_
    refine x_goto 115 dX4_act_98 (by decide) ?_
    cases hf
    exact x_vret dX4_act_115 rfl rfl
  replace hf := f_el hs15 hf
  by_cases hs18 : (I 15 (p0).toNatClampNeg) = (16)
  · replace hf := f_if hs18 hf
    refine x_tabIn (16) 101 dX4_act_29 hs18 (by decide) (by decide) rfl (by decide) ?_
    refine x_aload_n 2 dX4_act_101 rfl rfl ?_
    obtain ⟨q16, hq17, hf⟩ := f_bd hf
    refine x_callVv [] (c_X4_tryForgetting (I := I) (L := L)  hq17) dX4_act_102 lk_X4_116 lx_45 rfl cd_X4_tryForgetting rfl rfl (Nat.le_of_ble_eq_true rfl) ⟨rfl, rfl, Nat.le_of_ble_eq_true rfl, Nat.le_of_ble_eq_true rfl⟩ ?_
    refine x_goto 115 dX4_act_105 (by decide) ?_
    cases hf
    exact x_vret dX4_act_115 rfl rfl
  replace hf := f_el hs18 hf
  by_cases hs21 : (I 15 (p0).toNatClampNeg) = (17)
  · replace hf := f_if hs21 hf
    refine x_tabIn (17) 108 dX4_act_29 hs21 (by decide) (by decide) rfl (by decide) ?_
    refine x_aload_n 2 dX4_act_108 rfl rfl ?_
    obtain ⟨q19, hq20, hf⟩ := f_bd hf
    refine x_callVv [] (c_X4_tryAny (I := I) (L := L)  hq20) dX4_act_109 lk_X4_119 lx_45 rfl cd_X4_tryAny rfl rfl (Nat.le_of_ble_eq_true rfl) ⟨rfl, rfl, Nat.le_of_ble_eq_true rfl, Nat.le_of_ble_eq_true rfl⟩ ?_
    refine x_goto 115 dX4_act_112 (by decide) ?_
    cases hf
    exact x_vret dX4_act_115 rfl rfl
  replace hf := f_el hs21 hf
  refine x_tabOut 115 dX4_act_29 (by have := lv_neT (a := 12) hs6 (by decide); have := lv_neT (a := 13) hs9 (by decide); have := lv_neT (a := 14) hs12 (by decide); have := lv_neT (a := 15) hs15 (by decide); have := lv_neT (a := 16) hs18 (by decide); have := lv_neT (a := 17) hs21 (by decide); omega) (by decide) ?_
  cases hf
  exact x_vret dX4_act_115 rfl rfl
set_option maxRecDepth 100000 in
set_option maxHeartbeats 4000000 in
theorem c_X4_compares {I : z_I} {L : z_L} {p0 : Int32} {p1 : Int32}  {r : Bool} (hf : f_X4_compares I p0 p1 = some r) : z_C layX yX4_compares cX4_compares 3 (some .boolean) ({ frames := 0, cells := 0, slots := 0, locals := 0 } : Room) [.ref 45, .int p0, .int p1] I L (some (.int (zb r)), I, L) := by
  refine z_C.of (by decide) (Nat.le_of_ble_eq_true rfl) ?_
  show z_X layX RX4 cX4_compares 3 (some .boolean) ({ frames := 0, cells := 0, slots := 0, locals := 0 } : Room) 0 [(0, .ref 45), (1, .int p0), (2, .int p1)] [] I L (some (.int (zb r)), I, L)
  unfold f_X4_compares at hf
  refine x_aload_n 0 dX4_compares_0 rfl rfl ?_
  refine x_getR dX4_compares_1 lx_45 fl_X4_20 rfl ?_
  refine x_getR dX4_compares_4 lx_14 fl_X4_100 rfl ?_
  refine x_iload_n 2 dX4_compares_7 rfl rfl ?_
  obtain ⟨h1, hf⟩ := f_gd hf
  refine x_iald (j := (p1).toNatClampNeg) (v := (I 17 (p1).toNatClampNeg)) dX4_compares_8 lx_17 h1 rfl rfl ?_
  by_cases hs3 : (I 17 (p1).toNatClampNeg) = (60)
  · replace hf := f_if hs3 hf
    refine x_look 36 dX4_compares_9 (by decide) (by rw [hs3]; try rfl) (by decide) ?_
    refine x_iload_n 1 dX4_compares_36 rfl rfl ?_
    refine x_aload_n 0 dX4_compares_37 rfl rfl ?_
    refine x_getR dX4_compares_38 lx_45 fl_X4_20 rfl ?_
    refine x_getR dX4_compares_41 lx_14 fl_X4_79 rfl ?_
    refine x_iload_n 2 dX4_compares_44 rfl rfl ?_
    refine x_iald (j := (p1).toNatClampNeg) (v := (I 18 (p1).toNatClampNeg)) dX4_compares_45 lx_18 h1 rfl rfl ?_
    refine x_icmp_ge 53 dX4_compares_46 (by decide) (fun hB => ?_) (fun hB => ?_)
    · replace hf := f_if hB hf
      refine x_iconst (v := (0)) dX4_compares_53 (by decide) ?_
      cases hf
      exact x_zret (b := false) dX4_compares_54 rfl rfl
    · replace hf := f_el hB hf
      refine x_iconst (v := (1)) dX4_compares_49 (by decide) ?_
      refine x_goto 54 dX4_compares_50 (by decide) ?_
      cases hf
      exact x_zret (b := true) dX4_compares_54 rfl rfl
  replace hf := f_el hs3 hf
  by_cases hs5 : (I 17 (p1).toNatClampNeg) = (62)
  · replace hf := f_if hs5 hf
    refine x_look 55 dX4_compares_9 (by decide) (by rw [hs5]; try rfl) (by decide) ?_
    refine x_iload_n 1 dX4_compares_55 rfl rfl ?_
    refine x_aload_n 0 dX4_compares_56 rfl rfl ?_
    refine x_getR dX4_compares_57 lx_45 fl_X4_20 rfl ?_
    refine x_getR dX4_compares_60 lx_14 fl_X4_79 rfl ?_
    refine x_iload_n 2 dX4_compares_63 rfl rfl ?_
    refine x_iald (j := (p1).toNatClampNeg) (v := (I 18 (p1).toNatClampNeg)) dX4_compares_64 lx_18 h1 rfl rfl ?_
    refine x_icmp_le 72 dX4_compares_65 (by decide) (fun hB => ?_) (fun hB => ?_)
    · replace hf := f_if hB hf
      refine x_iconst (v := (0)) dX4_compares_72 (by decide) ?_
      cases hf
      exact x_zret (b := false) dX4_compares_73 rfl rfl
    · replace hf := f_el hB hf
      refine x_iconst (v := (1)) dX4_compares_68 (by decide) ?_
      refine x_goto 73 dX4_compares_69 (by decide) ?_
      cases hf
      exact x_zret (b := true) dX4_compares_73 rfl rfl
  replace hf := f_el hs5 hf
  refine x_look (off := 65) 74 dX4_compares_9 (by decide) (Eq.trans (lv_osw (a := 60) hs3 (by decide)) (Eq.trans (lv_osw (a := 62) hs5 (by decide)) rfl)) (by decide) ?_
  refine x_iload_n 1 dX4_compares_74 rfl rfl ?_
  refine x_aload_n 0 dX4_compares_75 rfl rfl ?_
  refine x_getR dX4_compares_76 lx_45 fl_X4_20 rfl ?_
  refine x_getR dX4_compares_79 lx_14 fl_X4_79 rfl ?_
  refine x_iload_n 2 dX4_compares_82 rfl rfl ?_
  refine x_iald (j := (p1).toNatClampNeg) (v := (I 18 (p1).toNatClampNeg)) dX4_compares_83 lx_18 h1 rfl rfl ?_
  refine x_icmp_ne 91 dX4_compares_84 (by decide) (fun hB => ?_) (fun hB => ?_)
  · replace hf := f_el hB hf
    refine x_iconst (v := (0)) dX4_compares_91 (by decide) ?_
    cases hf
    exact x_zret (b := false) dX4_compares_92 rfl rfl
  · replace hf := f_if hB hf
    refine x_iconst (v := (1)) dX4_compares_87 (by decide) ?_
    refine x_goto 92 dX4_compares_88 (by decide) ?_
    cases hf
    exact x_zret (b := true) dX4_compares_92 rfl rfl
set_option maxRecDepth 100000 in
set_option maxHeartbeats 4000000 in
theorem c_X4_holds {I : z_I} {L : z_L} {p0 : Int32}  {r : Bool} (hf : f_X4_holds I p0 = some r) : z_C layX yX4_holds cX4_holds 3 (some .boolean) ({ frames := 1, cells := 0, slots := 0, locals := 22 } : Room) [.ref 45, .int p0] I L (some (.int (zb r)), I, L) := by
  refine z_C.of (by decide) (Nat.le_of_ble_eq_true rfl) ?_
  show z_X layX RX4 cX4_holds 3 (some .boolean) ({ frames := 1, cells := 0, slots := 0, locals := 22 } : Room) 0 [(0, .ref 45), (1, .int p0)] [] I L (some (.int (zb r)), I, L)
  unfold f_X4_holds at hf
  refine x_aload_n 0 dX4_holds_0 rfl rfl ?_
  refine x_getR dX4_holds_1 lx_45 fl_X4_20 rfl ?_
  refine x_getR dX4_holds_4 lx_14 fl_X4_82 rfl ?_
  refine x_iload_n 1 dX4_holds_7 rfl rfl ?_
  obtain ⟨h1, hf⟩ := f_gd hf
  refine x_iald (j := (p0).toNatClampNeg) (v := (I 16 (p0).toNatClampNeg)) dX4_holds_8 lx_16 h1 rfl rfl ?_
  refine x_istore_n [(2, .int (I 16 (p0).toNatClampNeg)), (0, .ref 45), (1, .int p0)] dX4_holds_9 rfl (by decide) rfl ?_
  refine x_aload_n 1 dX4_holds_10 rfl rfl ?_
  refine x_getR dX4_holds_11 lx_45 fl_X4_20 rfl ?_
  refine x_getR dX4_holds_14 lx_14 fl_X4_55 rfl ?_
  refine x_iload_n 2 dX4_holds_17 rfl rfl ?_
  refine x_iald (j := (p0).toNatClampNeg) (v := (I 15 (p0).toNatClampNeg)) dX4_holds_18 lx_15 h1 rfl rfl ?_
  by_cases hs7 : (I 15 (p0).toNatClampNeg) = (2)
  · replace hf := f_if hs7 hf
    refine x_look 53 dX4_holds_19 (by decide) (by rw [hs7]; try rfl) (by decide) ?_
    refine x_aload_n 1 dX4_holds_53 rfl rfl ?_
    refine x_aload_n 1 dX4_holds_54 rfl rfl ?_
    obtain ⟨h3, hf⟩ := f_gd hf
    refine x_getQ (v := ((I 45 5)).toNatClampNeg) dX4_holds_55 lx_45 fl_X4_24 rfl rfl ?_
    refine x_getR dX4_holds_58 (z_ctof h3).1 fl_X4_90 rfl ?_
    refine x_iload_n 0 dX4_holds_61 rfl rfl ?_
    obtain ⟨h4, hf⟩ := f_gd hf
    refine x_iald (j := ((I 16 (p0).toNatClampNeg)).toNatClampNeg) (v := (I ((((I 45 5)).toNatClampNeg) + 1) ((I 16 (p0).toNatClampNeg)).toNatClampNeg)) dX4_holds_62 (z_ctof h3).2.1 h4 rfl rfl ?_
    refine x_iload_n 2 dX4_holds_63 rfl rfl ?_
    obtain ⟨q5, hq6, hf⟩ := f_bd hf
    refine x_callVi [.int (I ((((I 45 5)).toNatClampNeg) + 1) ((I 16 (p0).toNatClampNeg)).toNatClampNeg), .int p0] (c_X4_compares (I := I) (L := L)  hq6) dX4_holds_64 lk_X4_93 lx_45 rfl cd_X4_compares rfl rfl (Nat.le_of_ble_eq_true rfl) ⟨rfl, rfl, Nat.le_of_ble_eq_true rfl, Nat.le_of_ble_eq_true rfl⟩ ?_
    cases hf
    exact x_zret dX4_holds_67 rfl rfl
  replace hf := f_el hs7 hf
  by_cases hs9 : (I 15 (p0).toNatClampNeg) = (19)
  · replace hf := f_if hs9 hf
    refine x_look 44 dX4_holds_19 (by decide) (by rw [hs9]; try rfl) (by decide) ?_
    refine x_aload_n 1 dX4_holds_44 rfl rfl ?_
    obtain ⟨h8, hf⟩ := f_gd hf
    refine x_getQ (v := ((I 45 5)).toNatClampNeg) dX4_holds_45 lx_45 fl_X4_24 rfl rfl ?_
    refine x_iload_n 0 dX4_holds_48 rfl rfl ?_
    refine x_callVi [.int (I 16 (p0).toNatClampNeg)] (c_X0_isMade (I := I) (L := L) (((I 45 5)).toNatClampNeg) (I 16 (p0).toNatClampNeg) (z_ctof h8)) dX4_holds_49 lk_X4_85 (z_ctof h8).1 rfl cd_X0_isMade rfl rfl (Nat.le_of_ble_eq_true rfl) ⟨rfl, rfl, Nat.le_of_ble_eq_true rfl, Nat.le_of_ble_eq_true rfl⟩ ?_
    cases hf
    exact x_zret dX4_holds_52 rfl rfl
  replace hf := f_el hs9 hf
  refine x_look (off := 49) 68 dX4_holds_19 (by decide) (Eq.trans (lv_osw (a := 2) hs7 (by decide)) (Eq.trans (lv_osw (a := 19) hs9 (by decide)) rfl)) (by decide) ?_
  refine x_aload_n 1 dX4_holds_68 rfl rfl ?_
  refine x_aload_n 1 dX4_holds_69 rfl rfl ?_
  obtain ⟨h10, hf⟩ := f_gd hf
  refine x_getQ (v := ((I 45 5)).toNatClampNeg) dX4_holds_70 lx_45 fl_X4_24 rfl rfl ?_
  refine x_getR dX4_holds_73 (z_ctof h10).1 fl_X4_97 rfl ?_
  refine x_iload_n 0 dX4_holds_76 rfl rfl ?_
  obtain ⟨h11, hf⟩ := f_gd hf
  refine x_iald (j := ((I 16 (p0).toNatClampNeg)).toNatClampNeg) (v := (I ((((I 45 5)).toNatClampNeg) + 9) ((I 16 (p0).toNatClampNeg)).toNatClampNeg)) dX4_holds_77 (z_ctof h10).2.2.2.2.2.2.2.2.2.1 h11 rfl rfl ?_
  refine x_iload_n 2 dX4_holds_78 rfl rfl ?_
  obtain ⟨q12, hq13, hf⟩ := f_bd hf
  refine x_callVi [.int (I ((((I 45 5)).toNatClampNeg) + 9) ((I 16 (p0).toNatClampNeg)).toNatClampNeg), .int p0] (c_X4_compares (I := I) (L := L)  hq13) dX4_holds_79 lk_X4_93 lx_45 rfl cd_X4_compares rfl rfl (Nat.le_of_ble_eq_true rfl) ⟨rfl, rfl, Nat.le_of_ble_eq_true rfl, Nat.le_of_ble_eq_true rfl⟩ ?_
  cases hf
  exact x_zret dX4_holds_82 rfl rfl
set_option maxRecDepth 100000 in
set_option maxHeartbeats 4000000 in
theorem c_X4_behindStep {I : z_I} {L : z_L} {p0 : Int32}  {r : Int32 × z_I} (hf : f_X4_behindStep I p0 = some r) : z_C layX yX4_behindStep cX4_behindStep 2 (some .int) ({ frames := 2, cells := 0, slots := 0, locals := 44 } : Room) [.ref 45, .int p0] I L (some (.int r.1), r.2, L) := by
  refine z_C.of (by decide) (Nat.le_of_ble_eq_true rfl) ?_
  show z_X layX RX4 cX4_behindStep 2 (some .int) ({ frames := 2, cells := 0, slots := 0, locals := 44 } : Room) 0 [(0, .ref 45), (1, .int p0)] [] I L (some (.int r.1), r.2, L)
  unfold f_X4_behindStep at hf
  refine x_aload_n 0 dX4_behindStep_0 rfl rfl ?_
  refine x_getR dX4_behindStep_1 lx_45 fl_X4_20 rfl ?_
  refine x_getR dX4_behindStep_4 lx_14 fl_X4_55 rfl ?_
  refine x_iload_n 1 dX4_behindStep_7 rfl rfl ?_
  obtain ⟨h1, hf⟩ := f_gd hf
  refine x_iald (j := (p0).toNatClampNeg) (v := (I 15 (p0).toNatClampNeg)) dX4_behindStep_8 lx_15 h1 rfl rfl ?_
  by_cases hs5 : (I 15 (p0).toNatClampNeg) = (2)
  · replace hf := f_if hs5 hf
    refine x_look 60 dX4_behindStep_9 (by decide) (by rw [hs5]; try rfl) (by decide) ?_
    refine x_aload_n 0 dX4_behindStep_60 rfl rfl ?_
    refine x_iload_n 1 dX4_behindStep_61 rfl rfl ?_
    obtain ⟨q2, hq3, hf⟩ := f_bd hf
    refine x_callVi [.int p0] (c_X4_holds (I := I) (L := L)  hq3) dX4_behindStep_62 lk_X4_75 lx_45 rfl cd_X4_holds rfl rfl (Nat.le_of_ble_eq_true rfl) ⟨rfl, rfl, Nat.le_of_ble_eq_true rfl, Nat.le_of_ble_eq_true rfl⟩ ?_
    refine x_if_eqB 74 dX4_behindStep_65 (by decide) (fun hB => ?_) (fun hB => ?_)
    · replace hf := f_el hB hf
      refine x_aload_n 0 dX4_behindStep_74 rfl rfl ?_
      refine x_getR dX4_behindStep_75 lx_45 fl_X4_20 rfl ?_
      refine x_getR dX4_behindStep_78 lx_14 fl_X4_72 rfl ?_
      refine x_iload_n 1 dX4_behindStep_81 rfl rfl ?_
      refine x_iald (j := (p0).toNatClampNeg) (v := (I 19 (p0).toNatClampNeg)) dX4_behindStep_82 lx_19 h1 rfl rfl ?_
      refine x_iconst (v := (1)) dX4_behindStep_83 (by decide) ?_
      refine x_iadd dX4_behindStep_84 ?_
      cases hf
      exact x_iret dX4_behindStep_85 rfl rfl
    · replace hf := f_if hB hf
      refine x_iload_n 1 dX4_behindStep_68 rfl rfl ?_
      refine x_iconst (v := (1)) dX4_behindStep_69 (by decide) ?_
      refine x_iadd dX4_behindStep_70 ?_
      refine x_goto 85 dX4_behindStep_71 (by decide) ?_
      cases hf
      exact x_iret dX4_behindStep_85 rfl rfl
  replace hf := f_el hs5 hf
  by_cases hs9 : (I 15 (p0).toNatClampNeg) = (11)
  · replace hf := f_if hs9 hf
    refine x_look 60 dX4_behindStep_9 (by decide) (by rw [hs9]; try rfl) (by decide) ?_
    refine x_aload_n 0 dX4_behindStep_60 rfl rfl ?_
    refine x_iload_n 1 dX4_behindStep_61 rfl rfl ?_
    obtain ⟨q6, hq7, hf⟩ := f_bd hf
    refine x_callVi [.int p0] (c_X4_holds (I := I) (L := L)  hq7) dX4_behindStep_62 lk_X4_75 lx_45 rfl cd_X4_holds rfl rfl (Nat.le_of_ble_eq_true rfl) ⟨rfl, rfl, Nat.le_of_ble_eq_true rfl, Nat.le_of_ble_eq_true rfl⟩ ?_
    refine x_if_eqB 74 dX4_behindStep_65 (by decide) (fun hB => ?_) (fun hB => ?_)
    · replace hf := f_el hB hf
      refine x_aload_n 0 dX4_behindStep_74 rfl rfl ?_
      refine x_getR dX4_behindStep_75 lx_45 fl_X4_20 rfl ?_
      refine x_getR dX4_behindStep_78 lx_14 fl_X4_72 rfl ?_
      refine x_iload_n 1 dX4_behindStep_81 rfl rfl ?_
      refine x_iald (j := (p0).toNatClampNeg) (v := (I 19 (p0).toNatClampNeg)) dX4_behindStep_82 lx_19 h1 rfl rfl ?_
      refine x_iconst (v := (1)) dX4_behindStep_83 (by decide) ?_
      refine x_iadd dX4_behindStep_84 ?_
      cases hf
      exact x_iret dX4_behindStep_85 rfl rfl
    · replace hf := f_if hB hf
      refine x_iload_n 1 dX4_behindStep_68 rfl rfl ?_
      refine x_iconst (v := (1)) dX4_behindStep_69 (by decide) ?_
      refine x_iadd dX4_behindStep_70 ?_
      refine x_goto 85 dX4_behindStep_71 (by decide) ?_
      cases hf
      exact x_iret dX4_behindStep_85 rfl rfl
  replace hf := f_el hs9 hf
  by_cases hs13 : (I 15 (p0).toNatClampNeg) = (19)
  · replace hf := f_if hs13 hf
    refine x_look 60 dX4_behindStep_9 (by decide) (by rw [hs13]; try rfl) (by decide) ?_
    refine x_aload_n 0 dX4_behindStep_60 rfl rfl ?_
    refine x_iload_n 1 dX4_behindStep_61 rfl rfl ?_
    obtain ⟨q10, hq11, hf⟩ := f_bd hf
    refine x_callVi [.int p0] (c_X4_holds (I := I) (L := L)  hq11) dX4_behindStep_62 lk_X4_75 lx_45 rfl cd_X4_holds rfl rfl (Nat.le_of_ble_eq_true rfl) ⟨rfl, rfl, Nat.le_of_ble_eq_true rfl, Nat.le_of_ble_eq_true rfl⟩ ?_
    refine x_if_eqB 74 dX4_behindStep_65 (by decide) (fun hB => ?_) (fun hB => ?_)
    · replace hf := f_el hB hf
      refine x_aload_n 0 dX4_behindStep_74 rfl rfl ?_
      refine x_getR dX4_behindStep_75 lx_45 fl_X4_20 rfl ?_
      refine x_getR dX4_behindStep_78 lx_14 fl_X4_72 rfl ?_
      refine x_iload_n 1 dX4_behindStep_81 rfl rfl ?_
      refine x_iald (j := (p0).toNatClampNeg) (v := (I 19 (p0).toNatClampNeg)) dX4_behindStep_82 lx_19 h1 rfl rfl ?_
      refine x_iconst (v := (1)) dX4_behindStep_83 (by decide) ?_
      refine x_iadd dX4_behindStep_84 ?_
      cases hf
      exact x_iret dX4_behindStep_85 rfl rfl
    · replace hf := f_if hB hf
      refine x_iload_n 1 dX4_behindStep_68 rfl rfl ?_
      refine x_iconst (v := (1)) dX4_behindStep_69 (by decide) ?_
      refine x_iadd dX4_behindStep_70 ?_
      refine x_goto 85 dX4_behindStep_71 (by decide) ?_
      cases hf
      exact x_iret dX4_behindStep_85 rfl rfl
  replace hf := f_el hs13 hf
  by_cases hs17 : (I 15 (p0).toNatClampNeg) = (20)
  · replace hf := f_if hs17 hf
    refine x_look 86 dX4_behindStep_9 (by decide) (by rw [hs17]; try rfl) (by decide) ?_
    refine x_aload_n 0 dX4_behindStep_86 rfl rfl ?_
    refine x_getR dX4_behindStep_87 lx_45 fl_X4_17 rfl ?_
    refine x_iload_n 1 dX4_behindStep_90 rfl rfl ?_
    refine x_aload_n 0 dX4_behindStep_91 rfl rfl ?_
    refine x_getR dX4_behindStep_92 lx_45 fl_X4_20 rfl ?_
    refine x_getR dX4_behindStep_95 lx_14 fl_X4_79 rfl ?_
    refine x_iload_n 1 dX4_behindStep_98 rfl rfl ?_
    refine x_iald (j := (p0).toNatClampNeg) (v := (I 18 (p0).toNatClampNeg)) dX4_behindStep_99 lx_18 h1 rfl rfl ?_
    obtain ⟨I16, hI16, hf⟩ := f_lt hf
    refine x_iast (j0 := (p0).toNatClampNeg) dX4_behindStep_100 lx_47 h1 rfl hI16 ?_
    refine x_iload_n 1 dX4_behindStep_101 rfl rfl ?_
    refine x_iconst (v := (1)) dX4_behindStep_102 (by decide) ?_
    refine x_iadd dX4_behindStep_103 ?_
    cases hf
    exact x_iret dX4_behindStep_104 rfl rfl
  replace hf := f_el hs17 hf
  by_cases hs18 : (I 15 (p0).toNatClampNeg) = (22)
  · replace hf := f_if hs18 hf
    refine x_look 105 dX4_behindStep_9 (by decide) (by rw [hs18]; try rfl) (by decide) ?_
    refine x_aload_n 0 dX4_behindStep_105 rfl rfl ?_
    refine x_getR dX4_behindStep_106 lx_45 fl_X4_20 rfl ?_
    refine x_getI (v := (I 14 6)) dX4_behindStep_109 lx_14 fl_X4_52 rfl rfl ?_
    cases hf
    exact x_iret dX4_behindStep_112 rfl rfl
  replace hf := f_el hs18 hf
  refine x_look (off := 104) 113 dX4_behindStep_9 (by decide) (Eq.trans (lv_osw (a := 2) hs5 (by decide)) (Eq.trans (lv_osw (a := 11) hs9 (by decide)) (Eq.trans (lv_osw (a := 19) hs13 (by decide)) (Eq.trans (lv_osw (a := 20) hs17 (by decide)) (Eq.trans (lv_osw (a := 22) hs18 (by decide)) rfl))))) (by decide) ?_
  refine x_iload_n 1 dX4_behindStep_113 rfl rfl ?_
  refine x_iconst (v := (1)) dX4_behindStep_114 (by decide) ?_
  refine x_iadd dX4_behindStep_115 ?_
  cases hf
  exact x_iret dX4_behindStep_116 rfl rfl
set_option maxRecDepth 100000 in
set_option maxHeartbeats 4000000 in
theorem l_X4_pass_45 (p0 : Nat) (hp0 : z_ct p0)  (L : z_L) {r : z_I}  : ∀ (n : Nat) (v3 : Int32) (v4 : Int32) (I : z_I), g_X4_pass_45 p0  n v3 v4 I = some r → z_X layX RX4 cX4_pass 5 (none) ({ frames := 6, cells := 0, slots := 0, locals := 144 } : Room) 45 [(0, .ref 45), (3, .int v3), (4, .int v4)] [] I L (none, r, L) := by
  intro n
  induction n with
  | zero => intro v3 v4 I hf; cases hf
  | succ n ih =>
    intro v3 v4 I hf
    rw [g_X4_pass_45] at hf
    refine x_iload 2 dX4_pass_45 rfl ?_
    refine x_ldc (v := (100000)) dX4_pass_47 kc_X4_51 ?_
    refine x_icmp_ge 132 dX4_pass_49 (by decide) (fun hB => ?_) (fun hB => ?_)
    · replace hf := f_if hB hf
      cases hf
      exact x_vret dX4_pass_132 rfl rfl
    · replace hf := f_el hB hf
      refine x_iload_n 1 dX4_pass_52 rfl rfl ?_
      refine x_aload_n 0 dX4_pass_53 rfl rfl ?_
      refine x_getR dX4_pass_54 lx_45 fl_X4_20 rfl ?_
      refine x_getI (v := (I 14 6)) dX4_pass_57 lx_14 fl_X4_52 rfl rfl ?_
      refine x_icmp_ge 132 dX4_pass_60 (by decide) (fun hB => ?_) (fun hB => ?_)
      · replace hf := f_if hB hf
        cases hf
        exact x_vret dX4_pass_132 rfl rfl
      · replace hf := f_el hB hf
        refine x_aload_n 0 dX4_pass_63 rfl rfl ?_
        refine x_getR dX4_pass_64 lx_45 fl_X4_20 rfl ?_
        refine x_getR dX4_pass_67 lx_14 fl_X4_55 rfl ?_
        refine x_iload_n 1 dX4_pass_70 rfl rfl ?_
        obtain ⟨h9, hf⟩ := f_gd hf
        refine x_iald (j := (v3).toNatClampNeg) (v := (I 15 (v3).toNatClampNeg)) dX4_pass_71 lx_15 h9 rfl rfl ?_
        refine x_bipush (v := (21)) dX4_pass_72 (by decide) ?_
        refine x_icmp_ne 86 dX4_pass_74 (by decide) (fun hB => ?_) (fun hB => ?_)
        · replace hf := f_el hB hf
          refine x_aload_n 0 dX4_pass_86 rfl rfl ?_
          refine x_getI (v := (I 45 2)) dX4_pass_87 lx_45 fl_X4_32 rfl rfl ?_
          refine x_sipush (v := (300)) dX4_pass_90 (by decide) ?_
          refine x_icmp_ge 120 dX4_pass_93 (by decide) (fun hB => ?_) (fun hB => ?_)
          · replace hf := f_if hB hf
            refine x_aload_n 0 dX4_pass_120 rfl rfl ?_
            refine x_iconst (v := (1)) dX4_pass_121 (by decide) ?_
            obtain ⟨I12, hI12, hf⟩ := f_lt hf
            refine x_putB (b := true) dX4_pass_122 lx_45 fl_X4_47 rfl rfl hI12 ?_
            cases hf
            exact x_vret dX4_pass_125 rfl rfl
          · replace hf := f_el hB hf
            refine x_aload_n 0 dX4_pass_96 rfl rfl ?_
            refine x_dup dX4_pass_97 rfl ?_
            refine x_getI (v := (I 45 2)) dX4_pass_98 lx_45 fl_X4_32 rfl rfl ?_
            refine x_iconst (v := (1)) dX4_pass_101 (by decide) ?_
            refine x_iadd dX4_pass_102 ?_
            obtain ⟨I13, hI13, hf⟩ := f_lt hf
            refine x_putI dX4_pass_103 lx_45 fl_X4_32 rfl rfl rfl hI13 ?_
            refine x_aload_n 0 dX4_pass_106 rfl rfl ?_
            refine x_iload_n 1 dX4_pass_107 rfl rfl ?_
            obtain ⟨q14, hq15, hf⟩ := f_bd hf
            refine x_callVv [.int v3] (c_X4_act (I := I13) (L := L)  hq15) dX4_pass_108 lk_X4_62 lx_45 rfl cd_X4_act rfl rfl (Nat.le_of_ble_eq_true rfl) ⟨rfl, rfl, Nat.le_of_ble_eq_true rfl, Nat.le_of_ble_eq_true rfl⟩ ?_
            refine x_aload_n 0 dX4_pass_111 rfl rfl ?_
            refine x_iload_n 1 dX4_pass_112 rfl rfl ?_
            obtain ⟨q16, hq17, hf⟩ := f_bd hf
            refine x_callVi [.int v3] (c_X4_behindStep (I := q14) (L := L)  hq17) dX4_pass_113 lk_X4_66 lx_45 rfl cd_X4_behindStep rfl rfl (Nat.le_of_ble_eq_true rfl) ⟨rfl, rfl, Nat.le_of_ble_eq_true rfl, Nat.le_of_ble_eq_true rfl⟩ ?_
            refine x_istore_n [(3, .int q16.1), (0, .ref 45), (4, .int v4)] dX4_pass_116 rfl (by decide) rfl ?_
            refine x_goto 126 dX4_pass_117 (by decide) ?_
            refine x_iinc 2 [(4, .int (v4 + (1 : Int32))), (3, .int q16.1), (0, .ref 45)] dX4_pass_126 rfl rfl (by decide) rfl ?_
            refine x_goto 45 dX4_pass_129 (by decide) ?_
            refine x_lv [(0, .ref 45), (3, .int q16.1), (4, .int (v4 + (1 : Int32)))] [2, 1, 0] rfl ?_
            exact ih _ _ _ hf
        · replace hf := f_if hB hf
          refine x_aload_n 0 dX4_pass_77 rfl rfl ?_
          refine x_iload_n 1 dX4_pass_78 rfl rfl ?_
          obtain ⟨q10, hq11, hf⟩ := f_bd hf
          refine x_callVi [.int v3] (c_X4_behindEnd (I := I) (L := L)  hq11) dX4_pass_79 lk_X4_58 lx_45 rfl cd_X4_behindEnd rfl rfl (Nat.le_of_ble_eq_true rfl) ⟨rfl, rfl, Nat.le_of_ble_eq_true rfl, Nat.le_of_ble_eq_true rfl⟩ ?_
          refine x_istore_n [(3, .int q10.1), (0, .ref 45), (4, .int v4)] dX4_pass_82 rfl (by decide) rfl ?_
          refine x_goto 126 dX4_pass_83 (by decide) ?_
          refine x_iinc 2 [(4, .int (v4 + (1 : Int32))), (3, .int q10.1), (0, .ref 45)] dX4_pass_126 rfl rfl (by decide) rfl ?_
          refine x_goto 45 dX4_pass_129 (by decide) ?_
          refine x_lv [(0, .ref 45), (3, .int q10.1), (4, .int (v4 + (1 : Int32)))] [2, 1, 0] rfl ?_
          exact ih _ _ _ hf
set_option maxRecDepth 100000 in
set_option maxHeartbeats 4000000 in
theorem c_X4_pass {I : z_I} {L : z_L} {p0 : Nat} {p1 : Int32} (hp0 : z_ct p0) {r : z_I} (hf : f_X4_pass I p0 p1 = some r) : z_C layX yX4_pass cX4_pass 5 (none) ({ frames := 6, cells := 0, slots := 0, locals := 144 } : Room) [.ref 45, .ref p0, .int p1] I L (none, r, L) := by
  refine z_C.of (by decide) (Nat.le_of_ble_eq_true rfl) ?_
  show z_X layX RX4 cX4_pass 5 (none) ({ frames := 6, cells := 0, slots := 0, locals := 144 } : Room) 0 [(0, .ref 45), (1, .ref p0), (2, .int p1)] [] I L (none, r, L)
  unfold f_X4_pass at hf
  refine x_aload_n 0 dX4_pass_0 rfl rfl ?_
  refine x_aload_n 1 dX4_pass_1 rfl rfl ?_
  obtain ⟨I1, hI1, hf⟩ := f_lt hf
  refine x_putQ dX4_pass_2 lx_45 fl_X4_24 rfl rfl hp0.2.2.2.2.2.2.2.2.2.2.2 hI1 ?_
  refine x_aload_n 0 dX4_pass_5 rfl rfl ?_
  refine x_iload_n 2 dX4_pass_6 rfl rfl ?_
  obtain ⟨I2, hI2, hf⟩ := f_lt hf
  refine x_putI dX4_pass_7 lx_45 fl_X4_28 rfl rfl rfl hI2 ?_
  refine x_aload_n 0 dX4_pass_10 rfl rfl ?_
  refine x_iconst (v := (0)) dX4_pass_11 (by decide) ?_
  obtain ⟨I3, hI3, hf⟩ := f_lt hf
  refine x_putI dX4_pass_12 lx_45 fl_X4_32 rfl rfl rfl hI3 ?_
  refine x_aload_n 0 dX4_pass_15 rfl rfl ?_
  refine x_iconst (v := (0)) dX4_pass_16 (by decide) ?_
  obtain ⟨I4, hI4, hf⟩ := f_lt hf
  refine x_putI dX4_pass_17 lx_45 fl_X4_35 rfl rfl rfl hI4 ?_
  refine x_aload_n 0 dX4_pass_20 rfl rfl ?_
  refine x_iconst (v := (0)) dX4_pass_21 (by decide) ?_
  obtain ⟨I5, hI5, hf⟩ := f_lt hf
  refine x_putI dX4_pass_22 lx_45 fl_X4_38 rfl rfl rfl hI5 ?_
  refine x_aload_n 0 dX4_pass_25 rfl rfl ?_
  refine x_iconst (v := (0)) dX4_pass_26 (by decide) ?_
  obtain ⟨I6, hI6, hf⟩ := f_lt hf
  refine x_putI dX4_pass_27 lx_45 fl_X4_41 rfl rfl rfl hI6 ?_
  refine x_aload_n 0 dX4_pass_30 rfl rfl ?_
  refine x_iconst (v := (0)) dX4_pass_31 (by decide) ?_
  obtain ⟨I7, hI7, hf⟩ := f_lt hf
  refine x_putI dX4_pass_32 lx_45 fl_X4_44 rfl rfl rfl hI7 ?_
  refine x_aload_n 0 dX4_pass_35 rfl rfl ?_
  refine x_iconst (v := (0)) dX4_pass_36 (by decide) ?_
  obtain ⟨I8, hI8, hf⟩ := f_lt hf
  refine x_putB (b := false) dX4_pass_37 lx_45 fl_X4_47 rfl rfl hI8 ?_
  refine x_iconst (v := (0)) dX4_pass_40 (by decide) ?_
  refine x_istore_n [(3, .int (0 : Int32)), (0, .ref 45), (1, .ref p0), (2, .int p1)] dX4_pass_41 rfl (by decide) rfl ?_
  refine x_iconst (v := (0)) dX4_pass_42 (by decide) ?_
  refine x_istore [(4, .int (0 : Int32)), (3, .int (0 : Int32)), (0, .ref 45), (1, .ref p0), (2, .int p1)] dX4_pass_43 (by decide) rfl ?_
  refine x_lv [(0, .ref 45), (3, .int (0 : Int32)), (4, .int (0 : Int32))] [2, 1, 0] rfl ?_
  refine l_X4_pass_45 p0 hp0 (L)   _ _ _ _ hf
set_option maxRecDepth 100000 in
set_option maxHeartbeats 4000000 in
theorem c_X4_keepNumbers {I : z_I} {L : z_L}   : z_C layX yX4_keepNumbers cX4_keepNumbers 1 (none) ({ frames := 0, cells := 0, slots := 0, locals := 0 } : Room) [.ref 45] I L (none, (f_X4_keepNumbers I), L) := by
  obtain ⟨r, hf⟩ : ∃ r, f_X4_keepNumbers I = r := ⟨_, rfl⟩
  rw [hf]
  refine z_C.of (by decide) (Nat.le_of_ble_eq_true rfl) ?_
  show z_X layX RX4 cX4_keepNumbers 1 (none) ({ frames := 0, cells := 0, slots := 0, locals := 0 } : Room) 0 [(0, .ref 45)] [] I L (none, r, L)
  unfold f_X4_keepNumbers at hf
  refine x_aload_n 0 dX4_keepNumbers_0 rfl rfl ?_
  refine x_getR dX4_keepNumbers_1 lx_45 fl_X4_9 rfl ?_
  refine x_iconst (v := (0)) dX4_keepNumbers_4 (by decide) ?_
  refine x_aload_n 0 dX4_keepNumbers_5 rfl rfl ?_
  refine x_getI (v := (I 45 7)) dX4_keepNumbers_6 lx_45 fl_X4_35 rfl rfl ?_
  obtain ⟨I2, hI2, hf⟩ := f_lt hf
  refine x_iast (j0 := 0) dX4_keepNumbers_9 lx_46 (by decide +kernel) (by decide +kernel) hI2 ?_
  refine x_aload_n 0 dX4_keepNumbers_10 rfl rfl ?_
  refine x_getR dX4_keepNumbers_11 lx_45 fl_X4_9 rfl ?_
  refine x_iconst (v := (1)) dX4_keepNumbers_14 (by decide) ?_
  refine x_aload_n 0 dX4_keepNumbers_15 rfl rfl ?_
  refine x_getI (v := (I 45 8)) dX4_keepNumbers_16 lx_45 fl_X4_38 rfl (by rw [hI2, z2_o (by decide)]) ?_
  obtain ⟨I4, hI4, hf⟩ := f_lt hf
  refine x_iast (j0 := 1) dX4_keepNumbers_19 lx_46 (by decide +kernel) (by decide +kernel) hI4 ?_
  refine x_aload_n 0 dX4_keepNumbers_20 rfl rfl ?_
  refine x_getR dX4_keepNumbers_21 lx_45 fl_X4_9 rfl ?_
  refine x_iconst (v := (2)) dX4_keepNumbers_24 (by decide) ?_
  refine x_aload_n 0 dX4_keepNumbers_25 rfl rfl ?_
  refine x_getI (v := (I 45 9)) dX4_keepNumbers_26 lx_45 fl_X4_41 rfl (by rw [hI4, z2_o (by decide), hI2, z2_o (by decide)]) ?_
  obtain ⟨I6, hI6, hf⟩ := f_lt hf
  refine x_iast (j0 := 2) dX4_keepNumbers_29 lx_46 (by decide +kernel) (by decide +kernel) hI6 ?_
  refine x_aload_n 0 dX4_keepNumbers_30 rfl rfl ?_
  refine x_getR dX4_keepNumbers_31 lx_45 fl_X4_9 rfl ?_
  refine x_iconst (v := (3)) dX4_keepNumbers_34 (by decide) ?_
  refine x_aload_n 0 dX4_keepNumbers_35 rfl rfl ?_
  refine x_getI (v := (I 45 10)) dX4_keepNumbers_36 lx_45 fl_X4_44 rfl (by rw [hI6, z2_o (by decide), hI4, z2_o (by decide), hI2, z2_o (by decide)]) ?_
  obtain ⟨I8, hI8, hf⟩ := f_lt hf
  refine x_iast (j0 := 3) dX4_keepNumbers_39 lx_46 (by decide +kernel) (by decide +kernel) hI8 ?_
  refine x_aload_n 0 dX4_keepNumbers_40 rfl rfl ?_
  refine x_getR dX4_keepNumbers_41 lx_45 fl_X4_9 rfl ?_
  refine x_iconst (v := (4)) dX4_keepNumbers_44 (by decide) ?_
  refine x_aload_n 0 dX4_keepNumbers_45 rfl rfl ?_
  refine x_getB (v := (zn (I 45 11))) dX4_keepNumbers_46 lx_45 fl_X4_47 rfl (by rw [hI8, z2_o (by decide), hI6, z2_o (by decide), hI4, z2_o (by decide), hI2, z2_o (by decide)]) ?_
  refine x_if_eqB 56 dX4_keepNumbers_49 (by decide) (fun hB => ?_) (fun hB => ?_)
  · replace hf := t_el hB hf
    refine x_iconst (v := (0)) dX4_keepNumbers_56 (by decide) ?_
    obtain ⟨I13, hI13, hf⟩ := f_lt hf
    refine x_iast (j0 := 4) dX4_keepNumbers_57 lx_46 (by decide +kernel) (by decide +kernel) hI13 ?_
    refine x_aload_n 0 dX4_keepNumbers_58 rfl rfl ?_
    refine x_iconst (v := (1)) dX4_keepNumbers_59 (by decide) ?_
    obtain ⟨I14, hI14, hf⟩ := f_lt hf
    refine x_putB (b := true) dX4_keepNumbers_60 lx_45 fl_X4_69 rfl rfl hI14 ?_
    subst hf
    exact x_vret dX4_keepNumbers_63 rfl rfl
  · replace hf := t_if hB hf
    refine x_iconst (v := (1)) dX4_keepNumbers_52 (by decide) ?_
    refine x_goto 57 dX4_keepNumbers_53 (by decide) ?_
    obtain ⟨I10, hI10, hf⟩ := f_lt hf
    refine x_iast (j0 := 4) dX4_keepNumbers_57 lx_46 (by decide +kernel) (by decide +kernel) hI10 ?_
    refine x_aload_n 0 dX4_keepNumbers_58 rfl rfl ?_
    refine x_iconst (v := (1)) dX4_keepNumbers_59 (by decide) ?_
    obtain ⟨I11, hI11, hf⟩ := f_lt hf
    refine x_putB (b := true) dX4_keepNumbers_60 lx_45 fl_X4_69 rfl rfl hI11 ?_
    subst hf
    exact x_vret dX4_keepNumbers_63 rfl rfl
set_option maxRecDepth 100000 in
set_option maxHeartbeats 4000000 in
theorem l_X9_growOne_38   (v1 : Int32) (v2 : Bool) (v3 : Int32) (L : z_L) {r : z_I}  : ∀ (n : Nat) (v4 : Int32) (I : z_I), g_X9_growOne_38 v1 v2 v3  n v4 I = some r → z_X layX RX9 cX9_growOne 8 (none) ({ frames := 1, cells := 0, slots := 0, locals := 28 } : Room) 38 [(0, .ref 48), (1, .int v1), (2, .int (zb v2)), (3, .int v3), (4, .int v4)] [] I L (none, r, L) := by
  intro n
  induction n with
  | zero => intro v4 I hf; cases hf
  | succ n ih =>
    intro v4 I hf
    rw [g_X9_growOne_38] at hf
    refine x_iload 4 dX9_growOne_38 rfl ?_
    refine x_aload_n 0 dX9_growOne_40 rfl rfl ?_
    refine x_getR dX9_growOne_41 lx_48 fl_X9_18 rfl ?_
    refine x_getI (v := (I 3 12)) dX9_growOne_44 lx_3 fl_X9_37 rfl rfl ?_
    refine x_icmp_ge 214 dX9_growOne_47 (by decide) (fun hB => ?_) (fun hB => ?_)
    · replace hf := f_if hB hf
      cases hf
      exact x_vret dX9_growOne_214 rfl rfl
    · replace hf := f_el hB hf
      refine x_iload_n 1 dX9_growOne_50 rfl rfl ?_
      refine x_aload_n 0 dX9_growOne_51 rfl rfl ?_
      refine x_getR dX9_growOne_52 lx_48 fl_X9_18 rfl ?_
      refine x_getR dX9_growOne_55 lx_3 fl_X9_41 rfl ?_
      refine x_iload 4 dX9_growOne_58 rfl ?_
      obtain ⟨h7, hf⟩ := f_gd hf
      refine x_iald (j := (v4).toNatClampNeg) (v := (I 9 (v4).toNatClampNeg)) dX9_growOne_60 lx_9 h7 rfl rfl ?_
      refine x_iand dX9_growOne_61 ?_
      refine x_istore [(5, .int (v1 &&& (I 9 (v4).toNatClampNeg))), (0, .ref 48), (1, .int v1), (2, .int (zb v2)), (3, .int v3), (4, .int v4)] dX9_growOne_62 (by decide) rfl ?_
      refine x_iload_n 2 dX9_growOne_64 rfl rfl ?_
      refine x_aload_n 1 dX9_growOne_65 rfl rfl ?_
      refine x_getR dX9_growOne_66 lx_48 fl_X9_18 rfl ?_
      refine x_getR dX9_growOne_69 lx_3 fl_X9_41 rfl ?_
      refine x_iload 5 dX9_growOne_72 rfl ?_
      refine x_iald (j := (v4).toNatClampNeg) (v := (I 9 (v4).toNatClampNeg)) dX9_growOne_74 lx_9 h7 rfl rfl ?_
      refine x_iconst (v := (-1)) dX9_growOne_75 (by decide) ?_
      refine x_ixor dX9_growOne_76 ?_
      refine x_iand dX9_growOne_77 ?_
      obtain ⟨w9, hw9, hf⟩ := f_lt hf
      refine x_topI hw9 ?_
      refine x_istore [(6, .int w9), (5, .int (v1 &&& (I 9 (v4).toNatClampNeg))), (0, .ref 48), (1, .int v1), (2, .int (zb v2)), (3, .int v3), (4, .int v4)] dX9_growOne_78 (by decide) rfl ?_
      refine x_iload 1 dX9_growOne_80 rfl ?_
      refine x_if_eq 208 dX9_growOne_82 (by decide) (fun hB => ?_) (fun hB => ?_)
      · replace hf := f_if hB hf
        refine x_iinc 6 [(4, .int (v4 + (1 : Int32))), (6, .int w9), (5, .int (v1 &&& (I 9 (v4).toNatClampNeg))), (0, .ref 48), (1, .int v1), (2, .int (zb v2)), (3, .int v3)] dX9_growOne_208 rfl rfl (by decide) rfl ?_
        refine x_goto 38 dX9_growOne_211 (by decide) ?_
        refine x_lv [(0, .ref 48), (1, .int v1), (2, .int (zb v2)), (3, .int v3), (4, .int (v4 + (1 : Int32)))] [3, 4, 5, 6, 0] rfl ?_
        exact ih _ _ hf
      · replace hf := f_el hB hf
        refine x_iload 0 dX9_growOne_85 rfl ?_
        refine x_if_eq 208 dX9_growOne_87 (by decide) (fun hB => ?_) (fun hB => ?_)
        · replace hf := f_if hB hf
          refine x_iinc 6 [(4, .int (v4 + (1 : Int32))), (6, .int w9), (5, .int (v1 &&& (I 9 (v4).toNatClampNeg))), (0, .ref 48), (1, .int v1), (2, .int (zb v2)), (3, .int v3)] dX9_growOne_208 rfl rfl (by decide) rfl ?_
          refine x_goto 38 dX9_growOne_211 (by decide) ?_
          refine x_lv [(0, .ref 48), (1, .int v1), (2, .int (zb v2)), (3, .int v3), (4, .int (v4 + (1 : Int32)))] [3, 4, 5, 6, 0] rfl ?_
          exact ih _ _ hf
        · replace hf := f_el hB hf
          refine x_aload_n 2 dX9_growOne_90 rfl rfl ?_
          refine x_getR dX9_growOne_91 lx_48 fl_X9_9 rfl ?_
          refine x_iload 1 dX9_growOne_94 rfl ?_
          obtain ⟨h10, hf⟩ := f_gd hf
          refine x_iald (j := ((v1 &&& (I 9 (v4).toNatClampNeg))).toNatClampNeg) (v := (I 49 ((v1 &&& (I 9 (v4).toNatClampNeg))).toNatClampNeg)) dX9_growOne_96 lx_49 h10 rfl rfl ?_
          refine x_iconst (v := (-1)) dX9_growOne_97 (by decide) ?_
          refine x_icmp_eq 208 dX9_growOne_98 (by decide) (fun hB => ?_) (fun hB => ?_)
          · replace hf := f_if hB hf
            refine x_iinc 6 [(4, .int (v4 + (1 : Int32))), (6, .int w9), (5, .int (v1 &&& (I 9 (v4).toNatClampNeg))), (0, .ref 48), (1, .int v1), (2, .int (zb v2)), (3, .int v3)] dX9_growOne_208 rfl rfl (by decide) rfl ?_
            refine x_goto 38 dX9_growOne_211 (by decide) ?_
            refine x_lv [(0, .ref 48), (1, .int v1), (2, .int (zb v2)), (3, .int v3), (4, .int (v4 + (1 : Int32)))] [3, 4, 5, 6, 0] rfl ?_
            exact ih _ _ hf
          · replace hf := f_el hB hf
            refine x_aload_n 2 dX9_growOne_101 rfl rfl ?_
            refine x_getR dX9_growOne_102 lx_48 fl_X9_9 rfl ?_
            refine x_iload 0 dX9_growOne_105 rfl ?_
            obtain ⟨h11, hf⟩ := f_gd hf
            refine x_iald (j := (w9).toNatClampNeg) (v := (I 49 (w9).toNatClampNeg)) dX9_growOne_107 lx_49 h11 rfl rfl ?_
            refine x_iconst (v := (-1)) dX9_growOne_108 (by decide) ?_
            refine x_icmp_ne 115 dX9_growOne_109 (by decide) (fun hB => ?_) (fun hB => ?_)
            · replace hf := f_el hB hf
              refine x_iload_n 4 dX9_growOne_115 rfl rfl ?_
              refine x_if_eqB 150 dX9_growOne_116 (by decide) (fun hB => ?_) (fun hB => ?_)
              · replace hf := f_el hB hf
                refine x_iconst (v := (1)) dX9_growOne_150 (by decide) ?_
                refine x_aload_n 2 dX9_growOne_151 rfl rfl ?_
                refine x_getR dX9_growOne_152 lx_48 fl_X9_9 rfl ?_
                refine x_iload 1 dX9_growOne_155 rfl ?_
                refine x_iald (j := ((v1 &&& (I 9 (v4).toNatClampNeg))).toNatClampNeg) (v := (I 49 ((v1 &&& (I 9 (v4).toNatClampNeg))).toNatClampNeg)) dX9_growOne_157 lx_49 h10 rfl rfl ?_
                refine x_aload_n 2 dX9_growOne_158 rfl rfl ?_
                refine x_getR dX9_growOne_159 lx_48 fl_X9_9 rfl ?_
                refine x_iload 0 dX9_growOne_162 rfl ?_
                refine x_iald (j := (w9).toNatClampNeg) (v := (I 49 (w9).toNatClampNeg)) dX9_growOne_164 lx_49 h11 rfl rfl ?_
                refine x_mmax dX9_growOne_165 lk_X9_47 ⟨Nat.le_of_ble_eq_true rfl, Nat.le_of_ble_eq_true rfl⟩ ?_
                refine x_iadd dX9_growOne_168 ?_
                obtain ⟨w28, hw28, hf⟩ := f_lt hf
                refine x_topI hw28 ?_
                refine x_istore [(7, .int w28), (6, .int w9), (5, .int (v1 &&& (I 9 (v4).toNatClampNeg))), (0, .ref 48), (1, .int v1), (2, .int (zb v2)), (3, .int v3), (4, .int v4)] dX9_growOne_169 (by decide) rfl ?_
                refine x_aload_n 3 dX9_growOne_171 rfl rfl ?_
                refine x_getR dX9_growOne_172 lx_48 fl_X9_9 rfl ?_
                refine x_iload_n 4 dX9_growOne_175 rfl rfl ?_
                obtain ⟨h29, hf⟩ := f_gd hf
                refine x_iald (j := (v1).toNatClampNeg) (v := (I 49 (v1).toNatClampNeg)) dX9_growOne_176 lx_49 h29 rfl rfl ?_
                refine x_iconst (v := (-1)) dX9_growOne_177 (by decide) ?_
                refine x_icmp_eq 192 dX9_growOne_178 (by decide) (fun hB => ?_) (fun hB => ?_)
                · replace hf := f_if hB hf
                  refine x_aload_n 3 dX9_growOne_192 rfl rfl ?_
                  refine x_getR dX9_growOne_193 lx_48 fl_X9_9 rfl ?_
                  refine x_iload_n 4 dX9_growOne_196 rfl rfl ?_
                  refine x_iload 0 dX9_growOne_197 rfl ?_
                  obtain ⟨I31, hI31, hf⟩ := f_lt hf
                  refine x_iast (j0 := (v1).toNatClampNeg) dX9_growOne_199 lx_49 h29 rfl hI31 ?_
                  refine x_aload_n 3 dX9_growOne_200 rfl rfl ?_
                  refine x_getR dX9_growOne_201 lx_48 fl_X9_15 rfl ?_
                  refine x_iload_n 4 dX9_growOne_204 rfl rfl ?_
                  refine x_iload 7 dX9_growOne_205 rfl ?_
                  obtain ⟨I33, hI33, hf⟩ := f_lt hf
                  refine x_iast (j0 := (v1).toNatClampNeg) dX9_growOne_207 lx_50 h29 rfl hI33 ?_
                  refine x_iinc 7 [(4, .int (v4 + (1 : Int32))), (7, .int w28), (6, .int w9), (5, .int (v1 &&& (I 9 (v4).toNatClampNeg))), (0, .ref 48), (1, .int v1), (2, .int (zb v2)), (3, .int v3)] dX9_growOne_208 rfl rfl (by decide) rfl ?_
                  refine x_goto 38 dX9_growOne_211 (by decide) ?_
                  refine x_lv [(0, .ref 48), (1, .int v1), (2, .int (zb v2)), (3, .int v3), (4, .int (v4 + (1 : Int32)))] [4, 5, 6, 7, 0] rfl ?_
                  exact ih _ _ hf
                · replace hf := f_el hB hf
                  refine x_iload 0 dX9_growOne_181 rfl ?_
                  refine x_aload_n 3 dX9_growOne_183 rfl rfl ?_
                  refine x_getR dX9_growOne_184 lx_48 fl_X9_9 rfl ?_
                  refine x_iload_n 4 dX9_growOne_187 rfl rfl ?_
                  refine x_iald (j := (v1).toNatClampNeg) (v := (I 49 (v1).toNatClampNeg)) dX9_growOne_188 lx_49 h29 rfl rfl ?_
                  refine x_icmp_ge 208 dX9_growOne_189 (by decide) (fun hB => ?_) (fun hB => ?_)
                  · replace hf := f_if hB hf
                    refine x_iinc 7 [(4, .int (v4 + (1 : Int32))), (7, .int w28), (6, .int w9), (5, .int (v1 &&& (I 9 (v4).toNatClampNeg))), (0, .ref 48), (1, .int v1), (2, .int (zb v2)), (3, .int v3)] dX9_growOne_208 rfl rfl (by decide) rfl ?_
                    refine x_goto 38 dX9_growOne_211 (by decide) ?_
                    refine x_lv [(0, .ref 48), (1, .int v1), (2, .int (zb v2)), (3, .int v3), (4, .int (v4 + (1 : Int32)))] [4, 5, 6, 7, 0] rfl ?_
                    exact ih _ _ hf
                  · replace hf := f_el hB hf
                    refine x_aload_n 3 dX9_growOne_192 rfl rfl ?_
                    refine x_getR dX9_growOne_193 lx_48 fl_X9_9 rfl ?_
                    refine x_iload_n 4 dX9_growOne_196 rfl rfl ?_
                    refine x_iload 0 dX9_growOne_197 rfl ?_
                    obtain ⟨I36, hI36, hf⟩ := f_lt hf
                    refine x_iast (j0 := (v1).toNatClampNeg) dX9_growOne_199 lx_49 h29 rfl hI36 ?_
                    refine x_aload_n 3 dX9_growOne_200 rfl rfl ?_
                    refine x_getR dX9_growOne_201 lx_48 fl_X9_15 rfl ?_
                    refine x_iload_n 4 dX9_growOne_204 rfl rfl ?_
                    refine x_iload 7 dX9_growOne_205 rfl ?_
                    obtain ⟨I38, hI38, hf⟩ := f_lt hf
                    refine x_iast (j0 := (v1).toNatClampNeg) dX9_growOne_207 lx_50 h29 rfl hI38 ?_
                    refine x_iinc 7 [(4, .int (v4 + (1 : Int32))), (7, .int w28), (6, .int w9), (5, .int (v1 &&& (I 9 (v4).toNatClampNeg))), (0, .ref 48), (1, .int v1), (2, .int (zb v2)), (3, .int v3)] dX9_growOne_208 rfl rfl (by decide) rfl ?_
                    refine x_goto 38 dX9_growOne_211 (by decide) ?_
                    refine x_lv [(0, .ref 48), (1, .int v1), (2, .int (zb v2)), (3, .int v3), (4, .int (v4 + (1 : Int32)))] [4, 5, 6, 7, 0] rfl ?_
                    exact ih _ _ hf
              · replace hf := f_if hB hf
                refine x_aload_n 2 dX9_growOne_119 rfl rfl ?_
                refine x_getR dX9_growOne_120 lx_48 fl_X9_18 rfl ?_
                refine x_getR dX9_growOne_123 lx_3 fl_X9_44 rfl ?_
                refine x_iload 6 dX9_growOne_126 rfl ?_
                refine x_iald (j := (v4).toNatClampNeg) (v := (I 8 (v4).toNatClampNeg)) dX9_growOne_128 lx_8 h7 rfl rfl ?_
                refine x_iload_n 5 dX9_growOne_129 rfl rfl ?_
                refine x_imul dX9_growOne_130 ?_
                refine x_aload_n 2 dX9_growOne_131 rfl rfl ?_
                refine x_getR dX9_growOne_132 lx_48 fl_X9_9 rfl ?_
                refine x_iload 1 dX9_growOne_135 rfl ?_
                refine x_iald (j := ((v1 &&& (I 9 (v4).toNatClampNeg))).toNatClampNeg) (v := (I 49 ((v1 &&& (I 9 (v4).toNatClampNeg))).toNatClampNeg)) dX9_growOne_137 lx_49 h10 rfl rfl ?_
                refine x_iadd dX9_growOne_138 ?_
                refine x_aload_n 2 dX9_growOne_139 rfl rfl ?_
                refine x_getR dX9_growOne_140 lx_48 fl_X9_9 rfl ?_
                refine x_iload 0 dX9_growOne_143 rfl ?_
                refine x_iald (j := (w9).toNatClampNeg) (v := (I 49 (w9).toNatClampNeg)) dX9_growOne_145 lx_49 h11 rfl rfl ?_
                refine x_iadd dX9_growOne_146 ?_
                refine x_goto 169 dX9_growOne_147 (by decide) ?_
                obtain ⟨w15, hw15, hf⟩ := f_lt hf
                refine x_topI hw15 ?_
                refine x_istore [(7, .int w15), (6, .int w9), (5, .int (v1 &&& (I 9 (v4).toNatClampNeg))), (0, .ref 48), (1, .int v1), (2, .int (zb v2)), (3, .int v3), (4, .int v4)] dX9_growOne_169 (by decide) rfl ?_
                refine x_aload_n 3 dX9_growOne_171 rfl rfl ?_
                refine x_getR dX9_growOne_172 lx_48 fl_X9_9 rfl ?_
                refine x_iload_n 4 dX9_growOne_175 rfl rfl ?_
                obtain ⟨h16, hf⟩ := f_gd hf
                refine x_iald (j := (v1).toNatClampNeg) (v := (I 49 (v1).toNatClampNeg)) dX9_growOne_176 lx_49 h16 rfl rfl ?_
                refine x_iconst (v := (-1)) dX9_growOne_177 (by decide) ?_
                refine x_icmp_eq 192 dX9_growOne_178 (by decide) (fun hB => ?_) (fun hB => ?_)
                · replace hf := f_if hB hf
                  refine x_aload_n 3 dX9_growOne_192 rfl rfl ?_
                  refine x_getR dX9_growOne_193 lx_48 fl_X9_9 rfl ?_
                  refine x_iload_n 4 dX9_growOne_196 rfl rfl ?_
                  refine x_iload 0 dX9_growOne_197 rfl ?_
                  obtain ⟨I18, hI18, hf⟩ := f_lt hf
                  refine x_iast (j0 := (v1).toNatClampNeg) dX9_growOne_199 lx_49 h16 rfl hI18 ?_
                  refine x_aload_n 3 dX9_growOne_200 rfl rfl ?_
                  refine x_getR dX9_growOne_201 lx_48 fl_X9_15 rfl ?_
                  refine x_iload_n 4 dX9_growOne_204 rfl rfl ?_
                  refine x_iload 7 dX9_growOne_205 rfl ?_
                  obtain ⟨I20, hI20, hf⟩ := f_lt hf
                  refine x_iast (j0 := (v1).toNatClampNeg) dX9_growOne_207 lx_50 h16 rfl hI20 ?_
                  refine x_iinc 7 [(4, .int (v4 + (1 : Int32))), (7, .int w15), (6, .int w9), (5, .int (v1 &&& (I 9 (v4).toNatClampNeg))), (0, .ref 48), (1, .int v1), (2, .int (zb v2)), (3, .int v3)] dX9_growOne_208 rfl rfl (by decide) rfl ?_
                  refine x_goto 38 dX9_growOne_211 (by decide) ?_
                  refine x_lv [(0, .ref 48), (1, .int v1), (2, .int (zb v2)), (3, .int v3), (4, .int (v4 + (1 : Int32)))] [4, 5, 6, 7, 0] rfl ?_
                  exact ih _ _ hf
                · replace hf := f_el hB hf
                  refine x_iload 0 dX9_growOne_181 rfl ?_
                  refine x_aload_n 3 dX9_growOne_183 rfl rfl ?_
                  refine x_getR dX9_growOne_184 lx_48 fl_X9_9 rfl ?_
                  refine x_iload_n 4 dX9_growOne_187 rfl rfl ?_
                  refine x_iald (j := (v1).toNatClampNeg) (v := (I 49 (v1).toNatClampNeg)) dX9_growOne_188 lx_49 h16 rfl rfl ?_
                  refine x_icmp_ge 208 dX9_growOne_189 (by decide) (fun hB => ?_) (fun hB => ?_)
                  · replace hf := f_if hB hf
                    refine x_iinc 7 [(4, .int (v4 + (1 : Int32))), (7, .int w15), (6, .int w9), (5, .int (v1 &&& (I 9 (v4).toNatClampNeg))), (0, .ref 48), (1, .int v1), (2, .int (zb v2)), (3, .int v3)] dX9_growOne_208 rfl rfl (by decide) rfl ?_
                    refine x_goto 38 dX9_growOne_211 (by decide) ?_
                    refine x_lv [(0, .ref 48), (1, .int v1), (2, .int (zb v2)), (3, .int v3), (4, .int (v4 + (1 : Int32)))] [4, 5, 6, 7, 0] rfl ?_
                    exact ih _ _ hf
                  · replace hf := f_el hB hf
                    refine x_aload_n 3 dX9_growOne_192 rfl rfl ?_
                    refine x_getR dX9_growOne_193 lx_48 fl_X9_9 rfl ?_
                    refine x_iload_n 4 dX9_growOne_196 rfl rfl ?_
                    refine x_iload 0 dX9_growOne_197 rfl ?_
                    obtain ⟨I23, hI23, hf⟩ := f_lt hf
                    refine x_iast (j0 := (v1).toNatClampNeg) dX9_growOne_199 lx_49 h16 rfl hI23 ?_
                    refine x_aload_n 3 dX9_growOne_200 rfl rfl ?_
                    refine x_getR dX9_growOne_201 lx_48 fl_X9_15 rfl ?_
                    refine x_iload_n 4 dX9_growOne_204 rfl rfl ?_
                    refine x_iload 7 dX9_growOne_205 rfl ?_
                    obtain ⟨I25, hI25, hf⟩ := f_lt hf
                    refine x_iast (j0 := (v1).toNatClampNeg) dX9_growOne_207 lx_50 h16 rfl hI25 ?_
                    refine x_iinc 7 [(4, .int (v4 + (1 : Int32))), (7, .int w15), (6, .int w9), (5, .int (v1 &&& (I 9 (v4).toNatClampNeg))), (0, .ref 48), (1, .int v1), (2, .int (zb v2)), (3, .int v3)] dX9_growOne_208 rfl rfl (by decide) rfl ?_
                    refine x_goto 38 dX9_growOne_211 (by decide) ?_
                    refine x_lv [(0, .ref 48), (1, .int v1), (2, .int (zb v2)), (3, .int v3), (4, .int (v4 + (1 : Int32)))] [4, 5, 6, 7, 0] rfl ?_
                    exact ih _ _ hf
            · replace hf := f_if hB hf
              refine x_goto 208 dX9_growOne_112 (by decide) ?_
              refine x_iinc 6 [(4, .int (v4 + (1 : Int32))), (6, .int w9), (5, .int (v1 &&& (I 9 (v4).toNatClampNeg))), (0, .ref 48), (1, .int v1), (2, .int (zb v2)), (3, .int v3)] dX9_growOne_208 rfl rfl (by decide) rfl ?_
              refine x_goto 38 dX9_growOne_211 (by decide) ?_
              refine x_lv [(0, .ref 48), (1, .int v1), (2, .int (zb v2)), (3, .int v3), (4, .int (v4 + (1 : Int32)))] [3, 4, 5, 6, 0] rfl ?_
              exact ih _ _ hf
set_option maxRecDepth 100000 in
set_option maxHeartbeats 4000000 in
theorem c_X9_growOne {I : z_I} {L : z_L} {p0 : Int32} {p1 : Bool}  {r : z_I} (hf : f_X9_growOne I p0 p1 = some r) : z_C layX yX9_growOne cX9_growOne 8 (none) ({ frames := 1, cells := 0, slots := 0, locals := 28 } : Room) [.ref 48, .int p0, .int (zb p1)] I L (none, r, L) := by
  refine z_C.of (by decide) (Nat.le_of_ble_eq_true rfl) ?_
  show z_X layX RX9 cX9_growOne 8 (none) ({ frames := 1, cells := 0, slots := 0, locals := 28 } : Room) 0 [(0, .ref 48), (1, .int p0), (2, .int (zb p1))] [] I L (none, r, L)
  unfold f_X9_growOne at hf
  refine x_aload_n 0 dX9_growOne_0 rfl rfl ?_
  refine x_getR dX9_growOne_1 lx_48 fl_X9_9 rfl ?_
  refine x_iload_n 1 dX9_growOne_4 rfl rfl ?_
  refine x_iload_n 1 dX9_growOne_5 rfl rfl ?_
  refine x_callSi [.int p0] (c_J6_bitCount_0f7a4 (lay := layX) (I := I) (L := L) p0) dX9_growOne_6 lk_X9_26 cd_J6_bitCount_0f7a4 rfl rfl (Nat.le_of_ble_eq_true rfl) ⟨rfl, rfl, Nat.le_of_ble_eq_true rfl, Nat.le_of_ble_eq_true rfl⟩ ?_
  refine x_iconst (v := (1)) dX9_growOne_9 (by decide) ?_
  refine x_icmp_ne 17 dX9_growOne_10 (by decide) (fun hB => ?_) (fun hB => ?_)
  · replace hf := f_el hB hf
    refine x_iconst (v := (-1)) dX9_growOne_17 (by decide) ?_
    obtain ⟨h39, hf⟩ := f_gd hf
    obtain ⟨I40, hI40, hf⟩ := f_lt hf
    refine x_iast (j0 := (p0).toNatClampNeg) dX9_growOne_18 lx_49 h39 rfl hI40 ?_
    refine x_aload_n 0 dX9_growOne_19 rfl rfl ?_
    refine x_getR dX9_growOne_20 lx_48 fl_X9_15 rfl ?_
    refine x_iload_n 1 dX9_growOne_23 rfl rfl ?_
    refine x_iconst (v := (-1)) dX9_growOne_24 (by decide) ?_
    obtain ⟨I42, hI42, hf⟩ := f_lt hf
    refine x_iast (j0 := (p0).toNatClampNeg) dX9_growOne_25 lx_50 h39 rfl hI42 ?_
    refine x_aload_n 0 dX9_growOne_26 rfl rfl ?_
    refine x_getR dX9_growOne_27 lx_48 fl_X9_18 rfl ?_
    refine x_iload_n 1 dX9_growOne_30 rfl rfl ?_
    obtain ⟨q43, hq44, hf⟩ := f_bd hf
    refine x_callVi [.int p0] (c_X0_weightOf (I := I42) (L := L) zt_3 hq44) dX9_growOne_31 lk_X9_32 lx_3 rfl cd_X0_weightOf rfl rfl (Nat.le_of_ble_eq_true rfl) ⟨rfl, rfl, Nat.le_of_ble_eq_true rfl, Nat.le_of_ble_eq_true rfl⟩ ?_
    refine x_istore_n [(3, .int q43), (0, .ref 48), (1, .int p0), (2, .int (zb p1))] dX9_growOne_34 rfl (by decide) rfl ?_
    refine x_iconst (v := (0)) dX9_growOne_35 (by decide) ?_
    refine x_istore [(4, .int (0 : Int32)), (3, .int q43), (0, .ref 48), (1, .int p0), (2, .int (zb p1))] dX9_growOne_36 (by decide) rfl ?_
    refine x_lv [(0, .ref 48), (1, .int p0), (2, .int (zb p1)), (3, .int q43), (4, .int (0 : Int32))] [2, 3, 4, 1, 0] rfl ?_
    refine l_X9_growOne_38 p0 p1 q43 (L)   _ _ _ hf
  · replace hf := f_if hB hf
    refine x_iconst (v := (0)) dX9_growOne_13 (by decide) ?_
    refine x_goto 18 dX9_growOne_14 (by decide) ?_
    obtain ⟨h1, hf⟩ := f_gd hf
    obtain ⟨I2, hI2, hf⟩ := f_lt hf
    refine x_iast (j0 := (p0).toNatClampNeg) dX9_growOne_18 lx_49 h1 rfl hI2 ?_
    refine x_aload_n 0 dX9_growOne_19 rfl rfl ?_
    refine x_getR dX9_growOne_20 lx_48 fl_X9_15 rfl ?_
    refine x_iload_n 1 dX9_growOne_23 rfl rfl ?_
    refine x_iconst (v := (-1)) dX9_growOne_24 (by decide) ?_
    obtain ⟨I4, hI4, hf⟩ := f_lt hf
    refine x_iast (j0 := (p0).toNatClampNeg) dX9_growOne_25 lx_50 h1 rfl hI4 ?_
    refine x_aload_n 0 dX9_growOne_26 rfl rfl ?_
    refine x_getR dX9_growOne_27 lx_48 fl_X9_18 rfl ?_
    refine x_iload_n 1 dX9_growOne_30 rfl rfl ?_
    obtain ⟨q5, hq6, hf⟩ := f_bd hf
    refine x_callVi [.int p0] (c_X0_weightOf (I := I4) (L := L) zt_3 hq6) dX9_growOne_31 lk_X9_32 lx_3 rfl cd_X0_weightOf rfl rfl (Nat.le_of_ble_eq_true rfl) ⟨rfl, rfl, Nat.le_of_ble_eq_true rfl, Nat.le_of_ble_eq_true rfl⟩ ?_
    refine x_istore_n [(3, .int q5), (0, .ref 48), (1, .int p0), (2, .int (zb p1))] dX9_growOne_34 rfl (by decide) rfl ?_
    refine x_iconst (v := (0)) dX9_growOne_35 (by decide) ?_
    refine x_istore [(4, .int (0 : Int32)), (3, .int q5), (0, .ref 48), (1, .int p0), (2, .int (zb p1))] dX9_growOne_36 (by decide) rfl ?_
    refine x_lv [(0, .ref 48), (1, .int p0), (2, .int (zb p1)), (3, .int q5), (4, .int (0 : Int32))] [2, 3, 4, 1, 0] rfl ?_
    refine l_X9_growOne_38 p0 p1 q5 (L)   _ _ _ hf
set_option maxRecDepth 100000 in
set_option maxHeartbeats 4000000 in
theorem l_X9_grow_2   (v1 : Int32) (v2 : Bool) (L : z_L) {r : z_I}  : ∀ (n : Nat) (v3 : Int32) (I : z_I), g_X9_grow_2 v1 v2  n v3 I = some r → z_X layX RX9 cX9_grow 4 (none) ({ frames := 2, cells := 0, slots := 0, locals := 55 } : Room) 2 [(0, .ref 48), (1, .int v1), (2, .int (zb v2)), (3, .int v3)] [] I L (none, r, L) := by
  intro n
  induction n with
  | zero => intro v3 I hf; cases hf
  | succ n ih =>
    intro v3 I hf
    rw [g_X9_grow_2] at hf
    refine x_iload_n 3 dX9_grow_2 rfl rfl ?_
    refine x_iload_n 1 dX9_grow_3 rfl rfl ?_
    refine x_icmp_gt 27 dX9_grow_4 (by decide) (fun hB => ?_) (fun hB => ?_)
    · replace hf := f_if hB hf
      cases hf
      exact x_vret dX9_grow_27 rfl rfl
    · replace hf := f_el hB hf
      refine x_iload_n 3 dX9_grow_7 rfl rfl ?_
      refine x_iload_n 1 dX9_grow_8 rfl rfl ?_
      refine x_iconst (v := (-1)) dX9_grow_9 (by decide) ?_
      refine x_ixor dX9_grow_10 ?_
      refine x_iand dX9_grow_11 ?_
      refine x_if_ne 21 dX9_grow_12 (by decide) (fun hB => ?_) (fun hB => ?_)
      · replace hf := f_el hB hf
        refine x_iinc 3 [(3, .int (v3 + (1 : Int32))), (0, .ref 48), (1, .int v1), (2, .int (zb v2))] dX9_grow_21 rfl rfl (by decide) rfl ?_
        refine x_goto 2 dX9_grow_24 (by decide) ?_
        refine x_lv [(0, .ref 48), (1, .int v1), (2, .int (zb v2)), (3, .int (v3 + (1 : Int32)))] [1, 2, 3, 0] rfl ?_
        exact ih _ _ hf
      · replace hf := f_if hB hf
        refine x_aload_n 0 dX9_grow_15 rfl rfl ?_
        refine x_iload_n 3 dX9_grow_16 rfl rfl ?_
        refine x_iload_n 2 dX9_grow_17 rfl rfl ?_
        obtain ⟨q1, hq2, hf⟩ := f_bd hf
        refine x_callVv [.int v3, .int (zb v2)] (c_X9_growOne (I := I) (L := L)  hq2) dX9_grow_18 lk_X9_22 lx_48 rfl cd_X9_growOne rfl rfl (Nat.le_of_ble_eq_true rfl) ⟨rfl, rfl, Nat.le_of_ble_eq_true rfl, Nat.le_of_ble_eq_true rfl⟩ ?_
        refine x_iinc 3 [(3, .int (v3 + (1 : Int32))), (0, .ref 48), (1, .int v1), (2, .int (zb v2))] dX9_grow_21 rfl rfl (by decide) rfl ?_
        refine x_goto 2 dX9_grow_24 (by decide) ?_
        refine x_lv [(0, .ref 48), (1, .int v1), (2, .int (zb v2)), (3, .int (v3 + (1 : Int32)))] [1, 2, 3, 0] rfl ?_
        exact ih _ _ hf
set_option maxRecDepth 100000 in
set_option maxHeartbeats 4000000 in
theorem c_X9_grow {I : z_I} {L : z_L} {p0 : Int32} {p1 : Bool}  {r : z_I} (hf : f_X9_grow I p0 p1 = some r) : z_C layX yX9_grow cX9_grow 4 (none) ({ frames := 2, cells := 0, slots := 0, locals := 55 } : Room) [.ref 48, .int p0, .int (zb p1)] I L (none, r, L) := by
  refine z_C.of (by decide) (Nat.le_of_ble_eq_true rfl) ?_
  show z_X layX RX9 cX9_grow 4 (none) ({ frames := 2, cells := 0, slots := 0, locals := 55 } : Room) 0 [(0, .ref 48), (1, .int p0), (2, .int (zb p1))] [] I L (none, r, L)
  unfold f_X9_grow at hf
  refine x_iconst (v := (1)) dX9_grow_0 (by decide) ?_
  refine x_istore_n [(3, .int (1 : Int32)), (0, .ref 48), (1, .int p0), (2, .int (zb p1))] dX9_grow_1 rfl (by decide) rfl ?_
  refine x_lv [(0, .ref 48), (1, .int p0), (2, .int (zb p1)), (3, .int (1 : Int32))] [1, 2, 3, 0] rfl ?_
  refine l_X9_grow_2 p0 p1 (L)   _ _ _ hf
