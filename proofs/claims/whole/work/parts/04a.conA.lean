set_option maxRecDepth 100000 in
set_option maxHeartbeats 4000000 in
theorem l_X10_indexOfName_3 (p0 p0n : Nat) (hp0 : layX[p0]? = some (.inl (.long, p0n, 1, []))) (v1 : Int32) (v2 : Int64) (I : z_I) (L : z_L) {r : Int32}  : ∀ (n : Nat) (v4 : Int32), g_X10_indexOfName_3 p0 p0n v1 v2 L  n v4 = some r → z_X layX RX10 cX10_indexOfName 5 (some .int) ({ frames := 0, cells := 0, slots := 0, locals := 0 } : Room) 3 [(0, .ref p0), (1, .int v1), (2, .long v2), (4, .int v4)] [] I L (some (.int r), I, L) := by
  intro n
  induction n with
  | zero => intro v4 hf; cases hf
  | succ n ih =>
    intro v4 hf
    rw [g_X10_indexOfName_3] at hf
    refine x_iload 3 dX10_indexOfName_3 rfl ?_
    refine x_iload_n 1 dX10_indexOfName_5 rfl rfl ?_
    refine x_icmp_ge 27 dX10_indexOfName_6 (by decide) (fun hB => ?_) (fun hB => ?_)
    · replace hf := f_if hB hf
      refine x_iconst (v := (-1)) dX10_indexOfName_27 (by decide) ?_
      cases hf
      exact x_iret dX10_indexOfName_28 rfl rfl
    · replace hf := f_el hB hf
      refine x_aload_n 0 dX10_indexOfName_9 rfl rfl ?_
      refine x_iload 3 dX10_indexOfName_10 rfl ?_
      obtain ⟨h1, hf⟩ := f_gd hf
      refine x_lald (j := (v4).toNatClampNeg) (v := (L p0 (v4).toNatClampNeg)) dX10_indexOfName_12 hp0 h1 rfl rfl ?_
      refine x_lload_n 2 dX10_indexOfName_13 rfl rfl ?_
      refine x_lcmp_ne 21 dX10_indexOfName_14 dX10_indexOfName_15 (by decide) (fun hB => ?_) (fun hB => ?_)
      · replace hf := f_el hB hf
        refine x_iinc 3 [(4, .int (v4 + (1 : Int32))), (0, .ref p0), (1, .int v1), (2, .long v2)] dX10_indexOfName_21 rfl rfl (by decide) rfl ?_
        refine x_goto 3 dX10_indexOfName_24 (by decide) ?_
        refine x_lv [(0, .ref p0), (1, .int v1), (2, .long v2), (4, .int (v4 + (1 : Int32)))] [1, 2, 3, 0] rfl ?_
        exact ih _ hf
      · replace hf := f_if hB hf
        refine x_iload 3 dX10_indexOfName_18 rfl ?_
        cases hf
        exact x_iret dX10_indexOfName_20 rfl rfl
set_option maxRecDepth 100000 in
set_option maxHeartbeats 4000000 in
theorem c_X10_indexOfName {I : z_I} {L : z_L} {p0 p0n : Nat} {p1 : Int32} {p2 : Int64} (hp0 : layX[p0]? = some (.inl (.long, p0n, 1, []))) {r : Int32} (hf : f_X10_indexOfName L p0 p0n p1 p2 = some r) : z_C layX yX10_indexOfName cX10_indexOfName 5 (some .int) ({ frames := 0, cells := 0, slots := 0, locals := 0 } : Room) [.ref p0, .int p1, .long p2] I L (some (.int r), I, L) := by
  refine z_C.of (by decide) (Nat.le_of_ble_eq_true rfl) ?_
  show z_X layX RX10 cX10_indexOfName 5 (some .int) ({ frames := 0, cells := 0, slots := 0, locals := 0 } : Room) 0 [(0, .ref p0), (1, .int p1), (2, .long p2)] [] I L (some (.int r), I, L)
  unfold f_X10_indexOfName at hf
  refine x_iconst (v := (0)) dX10_indexOfName_0 (by decide) ?_
  refine x_istore [(4, .int (0 : Int32)), (0, .ref p0), (1, .int p1), (2, .long p2)] dX10_indexOfName_1 (by decide) rfl ?_
  refine x_lv [(0, .ref p0), (1, .int p1), (2, .long p2), (4, .int (0 : Int32))] [1, 2, 3, 0] rfl ?_
  refine l_X10_indexOfName_3 p0 p0n hp0 p1 p2 (I) (L)   _ _ hf
set_option maxRecDepth 100000 in
set_option maxHeartbeats 4000000 in
theorem c_X10_isWithin {I : z_I} {L : z_L} (p0 : Int32) (p1 : Int32) (p2 : Int32)  : z_C layX yX10_isWithin cX10_isWithin 3 (some .boolean) ({ frames := 0, cells := 0, slots := 0, locals := 0 } : Room) [.int p0, .int p1, .int p2] I L (some (.int (zb (f_X10_isWithin p0 p1 p2))), I, L) := by
  obtain ⟨r, hf⟩ : ∃ r, f_X10_isWithin p0 p1 p2 = r := ⟨_, rfl⟩
  rw [hf]
  refine z_C.of (by decide) (Nat.le_of_ble_eq_true rfl) ?_
  show z_X layX RX10 cX10_isWithin 3 (some .boolean) ({ frames := 0, cells := 0, slots := 0, locals := 0 } : Room) 0 [(0, .int p0), (1, .int p1), (2, .int p2)] [] I L (some (.int (zb r)), I, L)
  unfold f_X10_isWithin at hf
  refine x_iload_n 0 dX10_isWithin_0 rfl rfl ?_
  refine x_iload_n 1 dX10_isWithin_1 rfl rfl ?_
  refine x_icmp_lt 14 dX10_isWithin_2 (by decide) (fun hB => ?_) (fun hB => ?_)
  · replace hf := t_if hB hf
    refine x_iconst (v := (0)) dX10_isWithin_14 (by decide) ?_
    subst hf
    exact x_zret (b := false) dX10_isWithin_15 rfl rfl
  · replace hf := t_el hB hf
    refine x_iload_n 0 dX10_isWithin_5 rfl rfl ?_
    refine x_iload_n 2 dX10_isWithin_6 rfl rfl ?_
    refine x_icmp_gt 14 dX10_isWithin_7 (by decide) (fun hB => ?_) (fun hB => ?_)
    · replace hf := t_if hB hf
      refine x_iconst (v := (0)) dX10_isWithin_14 (by decide) ?_
      subst hf
      exact x_zret (b := false) dX10_isWithin_15 rfl rfl
    · replace hf := t_el hB hf
      refine x_iconst (v := (1)) dX10_isWithin_10 (by decide) ?_
      refine x_goto 15 dX10_isWithin_11 (by decide) ?_
      subst hf
      exact x_zret (b := true) dX10_isWithin_15 rfl rfl
set_option maxRecDepth 100000 in
set_option maxHeartbeats 4000000 in
theorem c_X0_clear {I : z_I} {L : z_L} (c : Nat) (hc : z_ct c) : z_C layX yX0_clear cX0_clear 1 (none) ({ frames := 0, cells := 0, slots := 0, locals := 0 } : Room) [.ref c] I L (none, (f_X0_clear I c), L) := by
  obtain ⟨r, hf⟩ : ∃ r, f_X0_clear I c = r := ⟨_, rfl⟩
  rw [hf]
  refine z_C.of (by decide) (Nat.le_of_ble_eq_true rfl) ?_
  show z_X layX RX0 cX0_clear 1 (none) ({ frames := 0, cells := 0, slots := 0, locals := 0 } : Room) 0 [(0, .ref c)] [] I L (none, r, L)
  unfold f_X0_clear at hf
  refine x_aload_n 0 dX0_clear_0 rfl rfl ?_
  refine x_iconst (v := (0)) dX0_clear_1 (by decide) ?_
  obtain ⟨I1, hI1, hf⟩ := f_lt hf
  refine x_putI dX0_clear_2 hc.1 fl_X0_47 rfl rfl rfl hI1 ?_
  refine x_aload_n 0 dX0_clear_5 rfl rfl ?_
  refine x_iconst (v := (0)) dX0_clear_6 (by decide) ?_
  obtain ⟨I2, hI2, hf⟩ := f_lt hf
  refine x_putI dX0_clear_7 hc.1 fl_X0_50 rfl rfl rfl hI2 ?_
  refine x_aload_n 0 dX0_clear_10 rfl rfl ?_
  refine x_iconst (v := (0)) dX0_clear_11 (by decide) ?_
  obtain ⟨I3, hI3, hf⟩ := f_lt hf
  refine x_putI dX0_clear_12 hc.1 fl_X0_53 rfl rfl rfl hI3 ?_
  refine x_aload_n 0 dX0_clear_15 rfl rfl ?_
  refine x_iconst (v := (0)) dX0_clear_16 (by decide) ?_
  obtain ⟨I4, hI4, hf⟩ := f_lt hf
  refine x_putI dX0_clear_17 hc.1 fl_X0_56 rfl rfl rfl hI4 ?_
  refine x_aload_n 0 dX0_clear_20 rfl rfl ?_
  refine x_bipush (v := (8)) dX0_clear_21 (by decide) ?_
  obtain ⟨I5, hI5, hf⟩ := f_lt hf
  refine x_putI dX0_clear_23 hc.1 fl_X0_43 rfl rfl rfl hI5 ?_
  refine x_aload_n 0 dX0_clear_26 rfl rfl ?_
  refine x_iconst (v := (0)) dX0_clear_27 (by decide) ?_
  obtain ⟨I6, hI6, hf⟩ := f_lt hf
  refine x_putI dX0_clear_28 hc.1 fl_X0_59 rfl rfl rfl hI6 ?_
  refine x_aload_n 0 dX0_clear_31 rfl rfl ?_
  refine x_iconst (v := (0)) dX0_clear_32 (by decide) ?_
  obtain ⟨I7, hI7, hf⟩ := f_lt hf
  refine x_putI dX0_clear_33 hc.1 fl_X0_62 rfl rfl rfl hI7 ?_
  subst hf
  exact x_vret dX0_clear_36 rfl rfl
set_option maxRecDepth 100000 in
set_option maxHeartbeats 4000000 in
theorem c_X0_copyFrom {I : z_I} {L : z_L} (c : Nat) (p0 : Nat) (hc : z_ct c) (hp0 : z_ct p0) : z_C layX yX0_copyFrom cX0_copyFrom 2 (none) ({ frames := 1, cells := 0, slots := 0, locals := 60 } : Room) [.ref c, .ref p0] I L (none, (f_X0_copyFrom I L c p0).1, (f_X0_copyFrom I L c p0).2) := by
  obtain ⟨r, hf⟩ : ∃ r, f_X0_copyFrom I L c p0 = r := ⟨_, rfl⟩
  rw [hf]
  refine z_C.of (by decide) (Nat.le_of_ble_eq_true rfl) ?_
  show z_X layX RX0 cX0_copyFrom 2 (none) ({ frames := 1, cells := 0, slots := 0, locals := 60 } : Room) 0 [(0, .ref c), (1, .ref p0)] [] I L (none, r.1, r.2)
  unfold f_X0_copyFrom at hf
  refine x_aload_n 1 dX0_copyFrom_0 rfl rfl ?_
  refine x_getR dX0_copyFrom_1 hp0.1 fl_X0_9 rfl ?_
  refine x_iconst (v := (0)) dX0_copyFrom_4 (by decide) ?_
  refine x_aload_n 0 dX0_copyFrom_5 rfl rfl ?_
  refine x_getR dX0_copyFrom_6 hc.1 fl_X0_9 rfl ?_
  refine x_iconst (v := (0)) dX0_copyFrom_9 (by decide) ?_
  refine x_bipush (v := (6)) dX0_copyFrom_10 (by decide) ?_
  obtain ⟨I1, hI1, hf⟩ := f_lt hf
  refine x_cpyI dX0_copyFrom_12 ac_X0_65 hp0.2.1 hc.2.1 (by decide) (by decide) (by decide) (by decide) (by decide) ⟨Nat.le_of_ble_eq_true rfl, Nat.le_of_ble_eq_true rfl⟩ hI1 ?_
  refine x_aload_n 1 dX0_copyFrom_15 rfl rfl ?_
  refine x_getR dX0_copyFrom_16 hp0.1 fl_X0_15 rfl ?_
  refine x_iconst (v := (0)) dX0_copyFrom_19 (by decide) ?_
  refine x_aload_n 0 dX0_copyFrom_20 rfl rfl ?_
  refine x_getR dX0_copyFrom_21 hc.1 fl_X0_15 rfl ?_
  refine x_iconst (v := (0)) dX0_copyFrom_24 (by decide) ?_
  refine x_bipush (v := (6)) dX0_copyFrom_25 (by decide) ?_
  obtain ⟨I2, hI2, hf⟩ := f_lt hf
  refine x_cpyI dX0_copyFrom_27 ac_X0_65 hp0.2.2.1 hc.2.2.1 (by decide) (by decide) (by decide) (by decide) (by decide) ⟨Nat.le_of_ble_eq_true rfl, Nat.le_of_ble_eq_true rfl⟩ hI2 ?_
  refine x_aload_n 1 dX0_copyFrom_30 rfl rfl ?_
  refine x_getR dX0_copyFrom_31 hp0.1 fl_X0_18 rfl ?_
  refine x_iconst (v := (0)) dX0_copyFrom_34 (by decide) ?_
  refine x_aload_n 0 dX0_copyFrom_35 rfl rfl ?_
  refine x_getR dX0_copyFrom_36 hc.1 fl_X0_18 rfl ?_
  refine x_iconst (v := (0)) dX0_copyFrom_39 (by decide) ?_
  refine x_bipush (v := (8)) dX0_copyFrom_40 (by decide) ?_
  obtain ⟨I3, hI3, hf⟩ := f_lt hf
  refine x_cpyI dX0_copyFrom_42 ac_X0_65 hp0.2.2.2.1 hc.2.2.2.1 (by decide) (by decide) (by decide) (by decide) (by decide) ⟨Nat.le_of_ble_eq_true rfl, Nat.le_of_ble_eq_true rfl⟩ hI3 ?_
  refine x_aload_n 1 dX0_copyFrom_45 rfl rfl ?_
  refine x_getR dX0_copyFrom_46 hp0.1 fl_X0_21 rfl ?_
  refine x_iconst (v := (0)) dX0_copyFrom_49 (by decide) ?_
  refine x_aload_n 0 dX0_copyFrom_50 rfl rfl ?_
  refine x_getR dX0_copyFrom_51 hc.1 fl_X0_21 rfl ?_
  refine x_iconst (v := (0)) dX0_copyFrom_54 (by decide) ?_
  refine x_bipush (v := (7)) dX0_copyFrom_55 (by decide) ?_
  obtain ⟨I4, hI4, hf⟩ := f_lt hf
  refine x_cpyI dX0_copyFrom_57 ac_X0_65 hp0.2.2.2.2.1 hc.2.2.2.2.1 (by decide) (by decide) (by decide) (by decide) (by decide) ⟨Nat.le_of_ble_eq_true rfl, Nat.le_of_ble_eq_true rfl⟩ hI4 ?_
  refine x_aload_n 1 dX0_copyFrom_60 rfl rfl ?_
  refine x_getR dX0_copyFrom_61 hp0.1 fl_X0_24 rfl ?_
  refine x_iconst (v := (0)) dX0_copyFrom_64 (by decide) ?_
  refine x_aload_n 0 dX0_copyFrom_65 rfl rfl ?_
  refine x_getR dX0_copyFrom_66 hc.1 fl_X0_24 rfl ?_
  refine x_iconst (v := (0)) dX0_copyFrom_69 (by decide) ?_
  refine x_bipush (v := (7)) dX0_copyFrom_70 (by decide) ?_
  obtain ⟨I5, hI5, hf⟩ := f_lt hf
  refine x_cpyI dX0_copyFrom_72 ac_X0_65 hp0.2.2.2.2.2.1 hc.2.2.2.2.2.1 (by decide) (by decide) (by decide) (by decide) (by decide) ⟨Nat.le_of_ble_eq_true rfl, Nat.le_of_ble_eq_true rfl⟩ hI5 ?_
  refine x_aload_n 1 dX0_copyFrom_75 rfl rfl ?_
  refine x_getR dX0_copyFrom_76 hp0.1 fl_X0_27 rfl ?_
  refine x_iconst (v := (0)) dX0_copyFrom_79 (by decide) ?_
  refine x_aload_n 0 dX0_copyFrom_80 rfl rfl ?_
  refine x_getR dX0_copyFrom_81 hc.1 fl_X0_27 rfl ?_
  refine x_iconst (v := (0)) dX0_copyFrom_84 (by decide) ?_
  refine x_bipush (v := (7)) dX0_copyFrom_85 (by decide) ?_
  obtain ⟨I6, hI6, hf⟩ := f_lt hf
  refine x_cpyI dX0_copyFrom_87 ac_X0_65 hp0.2.2.2.2.2.2.1 hc.2.2.2.2.2.2.1 (by decide) (by decide) (by decide) (by decide) (by decide) ⟨Nat.le_of_ble_eq_true rfl, Nat.le_of_ble_eq_true rfl⟩ hI6 ?_
  refine x_aload_n 1 dX0_copyFrom_90 rfl rfl ?_
  refine x_getR dX0_copyFrom_91 hp0.1 fl_X0_30 rfl ?_
  refine x_iconst (v := (0)) dX0_copyFrom_94 (by decide) ?_
  refine x_aload_n 0 dX0_copyFrom_95 rfl rfl ?_
  refine x_getR dX0_copyFrom_96 hc.1 fl_X0_30 rfl ?_
  refine x_iconst (v := (0)) dX0_copyFrom_99 (by decide) ?_
  refine x_bipush (v := (7)) dX0_copyFrom_100 (by decide) ?_
  obtain ⟨L7, hL7, hf⟩ := f_lt hf
  refine x_cpyL dX0_copyFrom_102 ac_X0_65 hp0.2.2.2.2.2.2.2.1 hc.2.2.2.2.2.2.2.1 (by decide) (by decide) (by decide) (by decide) (by decide) ⟨Nat.le_of_ble_eq_true rfl, Nat.le_of_ble_eq_true rfl⟩ hL7 ?_
  refine x_aload_n 1 dX0_copyFrom_105 rfl rfl ?_
  refine x_getR dX0_copyFrom_106 hp0.1 fl_X0_34 rfl ?_
  refine x_iconst (v := (0)) dX0_copyFrom_109 (by decide) ?_
  refine x_aload_n 0 dX0_copyFrom_110 rfl rfl ?_
  refine x_getR dX0_copyFrom_111 hc.1 fl_X0_34 rfl ?_
  refine x_iconst (v := (0)) dX0_copyFrom_114 (by decide) ?_
  refine x_iconst (v := (4)) dX0_copyFrom_115 (by decide) ?_
  obtain ⟨I8, hI8, hf⟩ := f_lt hf
  refine x_cpyI dX0_copyFrom_116 ac_X0_65 hp0.2.2.2.2.2.2.2.2.1 hc.2.2.2.2.2.2.2.2.1 (by decide) (by decide) (by decide) (by decide) (by decide) ⟨Nat.le_of_ble_eq_true rfl, Nat.le_of_ble_eq_true rfl⟩ hI8 ?_
  refine x_aload_n 1 dX0_copyFrom_119 rfl rfl ?_
  refine x_getR dX0_copyFrom_120 hp0.1 fl_X0_37 rfl ?_
  refine x_iconst (v := (0)) dX0_copyFrom_123 (by decide) ?_
  refine x_aload_n 0 dX0_copyFrom_124 rfl rfl ?_
  refine x_getR dX0_copyFrom_125 hc.1 fl_X0_37 rfl ?_
  refine x_iconst (v := (0)) dX0_copyFrom_128 (by decide) ?_
  refine x_iconst (v := (4)) dX0_copyFrom_129 (by decide) ?_
  obtain ⟨I9, hI9, hf⟩ := f_lt hf
  refine x_cpyI dX0_copyFrom_130 ac_X0_65 hp0.2.2.2.2.2.2.2.2.2.1 hc.2.2.2.2.2.2.2.2.2.1 (by decide) (by decide) (by decide) (by decide) (by decide) ⟨Nat.le_of_ble_eq_true rfl, Nat.le_of_ble_eq_true rfl⟩ hI9 ?_
  refine x_aload_n 1 dX0_copyFrom_133 rfl rfl ?_
  refine x_getR dX0_copyFrom_134 hp0.1 fl_X0_40 rfl ?_
  refine x_iconst (v := (0)) dX0_copyFrom_137 (by decide) ?_
  refine x_aload_n 0 dX0_copyFrom_138 rfl rfl ?_
  refine x_getR dX0_copyFrom_139 hc.1 fl_X0_40 rfl ?_
  refine x_iconst (v := (0)) dX0_copyFrom_142 (by decide) ?_
  refine x_iconst (v := (4)) dX0_copyFrom_143 (by decide) ?_
  obtain ⟨L10, hL10, hf⟩ := f_lt hf
  refine x_cpyL dX0_copyFrom_144 ac_X0_65 hp0.2.2.2.2.2.2.2.2.2.2.1 hc.2.2.2.2.2.2.2.2.2.2.1 (by decide) (by decide) (by decide) (by decide) (by decide) ⟨Nat.le_of_ble_eq_true rfl, Nat.le_of_ble_eq_true rfl⟩ hL10 ?_
  refine x_aload_n 0 dX0_copyFrom_147 rfl rfl ?_
  refine x_aload_n 1 dX0_copyFrom_148 rfl rfl ?_
  refine x_getI (v := (I9 p0 10)) dX0_copyFrom_149 hp0.1 fl_X0_47 rfl rfl ?_
  obtain ⟨I11, hI11, hf⟩ := f_lt hf
  refine x_putI dX0_copyFrom_152 hc.1 fl_X0_47 rfl rfl rfl hI11 ?_
  refine x_aload_n 0 dX0_copyFrom_155 rfl rfl ?_
  refine x_aload_n 1 dX0_copyFrom_156 rfl rfl ?_
  refine x_getI (v := (I11 p0 11)) dX0_copyFrom_157 hp0.1 fl_X0_50 rfl rfl ?_
  obtain ⟨I12, hI12, hf⟩ := f_lt hf
  refine x_putI dX0_copyFrom_160 hc.1 fl_X0_50 rfl rfl rfl hI12 ?_
  refine x_aload_n 0 dX0_copyFrom_163 rfl rfl ?_
  refine x_aload_n 1 dX0_copyFrom_164 rfl rfl ?_
  refine x_getI (v := (I12 p0 12)) dX0_copyFrom_165 hp0.1 fl_X0_53 rfl rfl ?_
  obtain ⟨I13, hI13, hf⟩ := f_lt hf
  refine x_putI dX0_copyFrom_168 hc.1 fl_X0_53 rfl rfl rfl hI13 ?_
  refine x_aload_n 0 dX0_copyFrom_171 rfl rfl ?_
  refine x_aload_n 1 dX0_copyFrom_172 rfl rfl ?_
  refine x_getI (v := (I13 p0 13)) dX0_copyFrom_173 hp0.1 fl_X0_56 rfl rfl ?_
  obtain ⟨I14, hI14, hf⟩ := f_lt hf
  refine x_putI dX0_copyFrom_176 hc.1 fl_X0_56 rfl rfl rfl hI14 ?_
  refine x_aload_n 0 dX0_copyFrom_179 rfl rfl ?_
  refine x_aload_n 1 dX0_copyFrom_180 rfl rfl ?_
  refine x_getI (v := (I14 p0 14)) dX0_copyFrom_181 hp0.1 fl_X0_43 rfl rfl ?_
  obtain ⟨I15, hI15, hf⟩ := f_lt hf
  refine x_putI dX0_copyFrom_184 hc.1 fl_X0_43 rfl rfl rfl hI15 ?_
  refine x_aload_n 0 dX0_copyFrom_187 rfl rfl ?_
  refine x_aload_n 1 dX0_copyFrom_188 rfl rfl ?_
  refine x_getI (v := (I15 p0 15)) dX0_copyFrom_189 hp0.1 fl_X0_59 rfl rfl ?_
  obtain ⟨I16, hI16, hf⟩ := f_lt hf
  refine x_putI dX0_copyFrom_192 hc.1 fl_X0_59 rfl rfl rfl hI16 ?_
  refine x_aload_n 0 dX0_copyFrom_195 rfl rfl ?_
  refine x_aload_n 1 dX0_copyFrom_196 rfl rfl ?_
  refine x_getI (v := (I16 p0 16)) dX0_copyFrom_197 hp0.1 fl_X0_62 rfl rfl ?_
  obtain ⟨I17, hI17, hf⟩ := f_lt hf
  refine x_putI dX0_copyFrom_200 hc.1 fl_X0_62 rfl rfl rfl hI17 ?_
  subst hf
  exact x_vret dX0_copyFrom_203 rfl rfl
set_option maxRecDepth 100000 in
set_option maxHeartbeats 4000000 in
theorem c_X0_hasBed {I : z_I} {L : z_L} (c : Nat) (p0 : Int32) (hc : z_ct c) : z_C layX yX0_hasBed cX0_hasBed 2 (some .boolean) ({ frames := 0, cells := 0, slots := 0, locals := 0 } : Room) [.ref c, .int p0] I L (some (.int (zb (f_X0_hasBed I c p0))), I, L) := by
  obtain ⟨r, hf⟩ : ∃ r, f_X0_hasBed I c p0 = r := ⟨_, rfl⟩
  rw [hf]
  refine z_C.of (by decide) (Nat.le_of_ble_eq_true rfl) ?_
  show z_X layX RX0 cX0_hasBed 2 (some .boolean) ({ frames := 0, cells := 0, slots := 0, locals := 0 } : Room) 0 [(0, .ref c), (1, .int p0)] [] I L (some (.int (zb r)), I, L)
  unfold f_X0_hasBed at hf
  refine x_iload_n 1 dX0_hasBed_0 rfl rfl ?_
  refine x_if_lt 16 dX0_hasBed_1 (by decide) (fun hB => ?_) (fun hB => ?_)
  · replace hf := t_if hB hf
    refine x_iconst (v := (0)) dX0_hasBed_16 (by decide) ?_
    subst hf
    exact x_zret (b := false) dX0_hasBed_17 rfl rfl
  · replace hf := t_el hB hf
    refine x_iload_n 1 dX0_hasBed_4 rfl rfl ?_
    refine x_aload_n 0 dX0_hasBed_5 rfl rfl ?_
    refine x_getI (v := (I c 10)) dX0_hasBed_6 hc.1 fl_X0_47 rfl rfl ?_
    refine x_icmp_ge 16 dX0_hasBed_9 (by decide) (fun hB => ?_) (fun hB => ?_)
    · replace hf := t_if hB hf
      refine x_iconst (v := (0)) dX0_hasBed_16 (by decide) ?_
      subst hf
      exact x_zret (b := false) dX0_hasBed_17 rfl rfl
    · replace hf := t_el hB hf
      refine x_iconst (v := (1)) dX0_hasBed_12 (by decide) ?_
      refine x_goto 17 dX0_hasBed_13 (by decide) ?_
      subst hf
      exact x_zret (b := true) dX0_hasBed_17 rfl rfl
set_option maxRecDepth 100000 in
set_option maxHeartbeats 4000000 in
theorem c_X0_hasCase {I : z_I} {L : z_L} (c : Nat) (p0 : Int32) (hc : z_ct c) : z_C layX yX0_hasCase cX0_hasCase 2 (some .boolean) ({ frames := 0, cells := 0, slots := 0, locals := 0 } : Room) [.ref c, .int p0] I L (some (.int (zb (f_X0_hasCase I c p0))), I, L) := by
  obtain ⟨r, hf⟩ : ∃ r, f_X0_hasCase I c p0 = r := ⟨_, rfl⟩
  rw [hf]
  refine z_C.of (by decide) (Nat.le_of_ble_eq_true rfl) ?_
  show z_X layX RX0 cX0_hasCase 2 (some .boolean) ({ frames := 0, cells := 0, slots := 0, locals := 0 } : Room) 0 [(0, .ref c), (1, .int p0)] [] I L (some (.int (zb r)), I, L)
  unfold f_X0_hasCase at hf
  refine x_iload_n 1 dX0_hasCase_0 rfl rfl ?_
  refine x_if_lt 16 dX0_hasCase_1 (by decide) (fun hB => ?_) (fun hB => ?_)
  · replace hf := t_if hB hf
    refine x_iconst (v := (0)) dX0_hasCase_16 (by decide) ?_
    subst hf
    exact x_zret (b := false) dX0_hasCase_17 rfl rfl
  · replace hf := t_el hB hf
    refine x_iload_n 1 dX0_hasCase_4 rfl rfl ?_
    refine x_aload_n 0 dX0_hasCase_5 rfl rfl ?_
    refine x_getI (v := (I c 11)) dX0_hasCase_6 hc.1 fl_X0_50 rfl rfl ?_
    refine x_icmp_ge 16 dX0_hasCase_9 (by decide) (fun hB => ?_) (fun hB => ?_)
    · replace hf := t_if hB hf
      refine x_iconst (v := (0)) dX0_hasCase_16 (by decide) ?_
      subst hf
      exact x_zret (b := false) dX0_hasCase_17 rfl rfl
    · replace hf := t_el hB hf
      refine x_iconst (v := (1)) dX0_hasCase_12 (by decide) ?_
      refine x_goto 17 dX0_hasCase_13 (by decide) ?_
      subst hf
      exact x_zret (b := true) dX0_hasCase_17 rfl rfl
set_option maxRecDepth 100000 in
set_option maxHeartbeats 4000000 in
theorem c_X0_setOfAll {I : z_I} {L : z_L} (c : Nat) (hc : z_ct c) : z_C layX yX0_setOfAll cX0_setOfAll 1 (some .int) ({ frames := 0, cells := 0, slots := 0, locals := 0 } : Room) [.ref c] I L (some (.int (f_X0_setOfAll I c)), I, L) := by
  obtain ⟨r, hf⟩ : ∃ r, f_X0_setOfAll I c = r := ⟨_, rfl⟩
  rw [hf]
  refine z_C.of (by decide) (Nat.le_of_ble_eq_true rfl) ?_
  show z_X layX RX0 cX0_setOfAll 1 (some .int) ({ frames := 0, cells := 0, slots := 0, locals := 0 } : Room) 0 [(0, .ref c)] [] I L (some (.int r), I, L)
  unfold f_X0_setOfAll at hf
  refine x_iconst (v := (1)) dX0_setOfAll_0 (by decide) ?_
  refine x_aload_n 0 dX0_setOfAll_1 rfl rfl ?_
  refine x_getI (v := (I c 11)) dX0_setOfAll_2 hc.1 fl_X0_50 rfl rfl ?_
  refine x_ishl dX0_setOfAll_5 ?_
  refine x_iconst (v := (1)) dX0_setOfAll_6 (by decide) ?_
  refine x_isub dX0_setOfAll_7 ?_
  subst hf
  exact x_iret dX0_setOfAll_8 rfl rfl
set_option maxRecDepth 100000 in
set_option maxHeartbeats 4000000 in
theorem c_X0_hasCases {I : z_I} {L : z_L} (c : Nat) (p0 : Int32) (hc : z_ct c) : z_C layX yX0_hasCases cX0_hasCases 2 (some .boolean) ({ frames := 1, cells := 0, slots := 0, locals := 20 } : Room) [.ref c, .int p0] I L (some (.int (zb (f_X0_hasCases I c p0))), I, L) := by
  obtain ⟨r, hf⟩ : ∃ r, f_X0_hasCases I c p0 = r := ⟨_, rfl⟩
  rw [hf]
  refine z_C.of (by decide) (Nat.le_of_ble_eq_true rfl) ?_
  show z_X layX RX0 cX0_hasCases 2 (some .boolean) ({ frames := 1, cells := 0, slots := 0, locals := 20 } : Room) 0 [(0, .ref c), (1, .int p0)] [] I L (some (.int (zb r)), I, L)
  unfold f_X0_hasCases at hf
  refine x_iload_n 1 dX0_hasCases_0 rfl rfl ?_
  refine x_aload_n 0 dX0_hasCases_1 rfl rfl ?_
  refine x_callVi [] (c_X0_setOfAll (I := I) (L := L) c hc) dX0_hasCases_2 lk_X0_71 hc.1 rfl cd_X0_setOfAll rfl rfl (Nat.le_of_ble_eq_true rfl) ⟨rfl, rfl, Nat.le_of_ble_eq_true rfl, Nat.le_of_ble_eq_true rfl⟩ ?_
  refine x_iconst (v := (-1)) dX0_hasCases_5 (by decide) ?_
  refine x_ixor dX0_hasCases_6 ?_
  refine x_iand dX0_hasCases_7 ?_
  refine x_if_ne 15 dX0_hasCases_8 (by decide) (fun hB => ?_) (fun hB => ?_)
  · replace hf := t_el hB hf
    refine x_iconst (v := (0)) dX0_hasCases_15 (by decide) ?_
    subst hf
    exact x_zret (b := false) dX0_hasCases_16 rfl rfl
  · replace hf := t_if hB hf
    refine x_iconst (v := (1)) dX0_hasCases_11 (by decide) ?_
    refine x_goto 16 dX0_hasCases_12 (by decide) ?_
    subst hf
    exact x_zret (b := true) dX0_hasCases_16 rfl rfl
set_option maxRecDepth 100000 in
set_option maxHeartbeats 4000000 in
theorem c_X0_hasClaim {I : z_I} {L : z_L} (c : Nat) (p0 : Int32) (hc : z_ct c) : z_C layX yX0_hasClaim cX0_hasClaim 2 (some .boolean) ({ frames := 0, cells := 0, slots := 0, locals := 0 } : Room) [.ref c, .int p0] I L (some (.int (zb (f_X0_hasClaim I c p0))), I, L) := by
  obtain ⟨r, hf⟩ : ∃ r, f_X0_hasClaim I c p0 = r := ⟨_, rfl⟩
  rw [hf]
  refine z_C.of (by decide) (Nat.le_of_ble_eq_true rfl) ?_
  show z_X layX RX0 cX0_hasClaim 2 (some .boolean) ({ frames := 0, cells := 0, slots := 0, locals := 0 } : Room) 0 [(0, .ref c), (1, .int p0)] [] I L (some (.int (zb r)), I, L)
  unfold f_X0_hasClaim at hf
  refine x_iload_n 1 dX0_hasClaim_0 rfl rfl ?_
  refine x_if_lt 16 dX0_hasClaim_1 (by decide) (fun hB => ?_) (fun hB => ?_)
  · replace hf := t_if hB hf
    refine x_iconst (v := (0)) dX0_hasClaim_16 (by decide) ?_
    subst hf
    exact x_zret (b := false) dX0_hasClaim_17 rfl rfl
  · replace hf := t_el hB hf
    refine x_iload_n 1 dX0_hasClaim_4 rfl rfl ?_
    refine x_aload_n 0 dX0_hasClaim_5 rfl rfl ?_
    refine x_getI (v := (I c 12)) dX0_hasClaim_6 hc.1 fl_X0_53 rfl rfl ?_
    refine x_icmp_ge 16 dX0_hasClaim_9 (by decide) (fun hB => ?_) (fun hB => ?_)
    · replace hf := t_if hB hf
      refine x_iconst (v := (0)) dX0_hasClaim_16 (by decide) ?_
      subst hf
      exact x_zret (b := false) dX0_hasClaim_17 rfl rfl
    · replace hf := t_el hB hf
      refine x_iconst (v := (1)) dX0_hasClaim_12 (by decide) ?_
      refine x_goto 17 dX0_hasClaim_13 (by decide) ?_
      subst hf
      exact x_zret (b := true) dX0_hasClaim_17 rfl rfl
set_option maxRecDepth 100000 in
set_option maxHeartbeats 4000000 in
theorem c_X0_hasScholar {I : z_I} {L : z_L} (c : Nat) (p0 : Int32) (hc : z_ct c) : z_C layX yX0_hasScholar cX0_hasScholar 2 (some .boolean) ({ frames := 0, cells := 0, slots := 0, locals := 0 } : Room) [.ref c, .int p0] I L (some (.int (zb (f_X0_hasScholar I c p0))), I, L) := by
  obtain ⟨r, hf⟩ : ∃ r, f_X0_hasScholar I c p0 = r := ⟨_, rfl⟩
  rw [hf]
  refine z_C.of (by decide) (Nat.le_of_ble_eq_true rfl) ?_
  show z_X layX RX0 cX0_hasScholar 2 (some .boolean) ({ frames := 0, cells := 0, slots := 0, locals := 0 } : Room) 0 [(0, .ref c), (1, .int p0)] [] I L (some (.int (zb r)), I, L)
  unfold f_X0_hasScholar at hf
  refine x_iload_n 1 dX0_hasScholar_0 rfl rfl ?_
  refine x_if_lt 16 dX0_hasScholar_1 (by decide) (fun hB => ?_) (fun hB => ?_)
  · replace hf := t_if hB hf
    refine x_iconst (v := (0)) dX0_hasScholar_16 (by decide) ?_
    subst hf
    exact x_zret (b := false) dX0_hasScholar_17 rfl rfl
  · replace hf := t_el hB hf
    refine x_iload_n 1 dX0_hasScholar_4 rfl rfl ?_
    refine x_aload_n 0 dX0_hasScholar_5 rfl rfl ?_
    refine x_getI (v := (I c 13)) dX0_hasScholar_6 hc.1 fl_X0_56 rfl rfl ?_
    refine x_icmp_ge 16 dX0_hasScholar_9 (by decide) (fun hB => ?_) (fun hB => ?_)
    · replace hf := t_if hB hf
      refine x_iconst (v := (0)) dX0_hasScholar_16 (by decide) ?_
      subst hf
      exact x_zret (b := false) dX0_hasScholar_17 rfl rfl
    · replace hf := t_el hB hf
      refine x_iconst (v := (1)) dX0_hasScholar_12 (by decide) ?_
      refine x_goto 17 dX0_hasScholar_13 (by decide) ?_
      subst hf
      exact x_zret (b := true) dX0_hasScholar_17 rfl rfl
set_option maxRecDepth 100000 in
set_option maxHeartbeats 4000000 in
theorem c_X0_isMade {I : z_I} {L : z_L} (c : Nat) (p0 : Int32) (hc : z_ct c) : z_C layX yX0_isMade cX0_isMade 2 (some .boolean) ({ frames := 0, cells := 0, slots := 0, locals := 0 } : Room) [.ref c, .int p0] I L (some (.int (zb (f_X0_isMade I c p0))), I, L) := by
  obtain ⟨r, hf⟩ : ∃ r, f_X0_isMade I c p0 = r := ⟨_, rfl⟩
  rw [hf]
  refine z_C.of (by decide) (Nat.le_of_ble_eq_true rfl) ?_
  show z_X layX RX0 cX0_isMade 2 (some .boolean) ({ frames := 0, cells := 0, slots := 0, locals := 0 } : Room) 0 [(0, .ref c), (1, .int p0)] [] I L (some (.int (zb r)), I, L)
  unfold f_X0_isMade at hf
  refine x_aload_n 0 dX0_isMade_0 rfl rfl ?_
  refine x_getI (v := (I c 16)) dX0_isMade_1 hc.1 fl_X0_62 rfl rfl ?_
  refine x_iconst (v := (1)) dX0_isMade_4 (by decide) ?_
  refine x_iload_n 1 dX0_isMade_5 rfl rfl ?_
  refine x_ishl dX0_isMade_6 ?_
  refine x_iand dX0_isMade_7 ?_
  refine x_if_eq 15 dX0_isMade_8 (by decide) (fun hB => ?_) (fun hB => ?_)
  · replace hf := t_if hB hf
    refine x_iconst (v := (0)) dX0_isMade_15 (by decide) ?_
    subst hf
    exact x_zret (b := false) dX0_isMade_16 rfl rfl
  · replace hf := t_el hB hf
    refine x_iconst (v := (1)) dX0_isMade_11 (by decide) ?_
    refine x_goto 16 dX0_isMade_12 (by decide) ?_
    subst hf
    exact x_zret (b := true) dX0_isMade_16 rfl rfl
set_option maxRecDepth 100000 in
set_option maxHeartbeats 4000000 in
theorem l_X0_sumOf_4 (p0 p0n : Nat) (hp0 : layX[p0]? = some (.inl (.int, p0n, 0, []))) (v1 : Int32) (I : z_I) (L : z_L) {r : Int32}  : ∀ (n : Nat) (v2 : Int32) (v3 : Int32), g_X0_sumOf_4 p0 p0n v1 I  n v2 v3 = some r → z_X layX RX0 cX0_sumOf 4 (some .int) ({ frames := 0, cells := 0, slots := 0, locals := 0 } : Room) 4 [(0, .ref p0), (1, .int v1), (2, .int v2), (3, .int v3)] [] I L (some (.int r), I, L) := by
  intro n
  induction n with
  | zero => intro v2 v3 hf; cases hf
  | succ n ih =>
    intro v2 v3 hf
    rw [g_X0_sumOf_4] at hf
    refine x_iload_n 3 dX0_sumOf_4 rfl rfl ?_
    refine x_iload_n 1 dX0_sumOf_5 rfl rfl ?_
    refine x_icmp_ge 21 dX0_sumOf_6 (by decide) (fun hB => ?_) (fun hB => ?_)
    · replace hf := f_if hB hf
      refine x_iload_n 2 dX0_sumOf_21 rfl rfl ?_
      cases hf
      exact x_iret dX0_sumOf_22 rfl rfl
    · replace hf := f_el hB hf
      refine x_iload_n 2 dX0_sumOf_9 rfl rfl ?_
      refine x_aload_n 0 dX0_sumOf_10 rfl rfl ?_
      refine x_iload_n 3 dX0_sumOf_11 rfl rfl ?_
      obtain ⟨h1, hf⟩ := f_gd hf
      refine x_iald (j := (v3).toNatClampNeg) (v := (I p0 (v3).toNatClampNeg)) dX0_sumOf_12 hp0 h1 rfl rfl ?_
      refine x_iadd dX0_sumOf_13 ?_
      refine x_istore_n [(2, .int (v2 + (I p0 (v3).toNatClampNeg))), (0, .ref p0), (1, .int v1), (3, .int v3)] dX0_sumOf_14 rfl (by decide) rfl ?_
      refine x_iinc 3 [(3, .int (v3 + (1 : Int32))), (2, .int (v2 + (I p0 (v3).toNatClampNeg))), (0, .ref p0), (1, .int v1)] dX0_sumOf_15 rfl rfl (by decide) rfl ?_
      refine x_goto 4 dX0_sumOf_18 (by decide) ?_
      refine x_lv [(0, .ref p0), (1, .int v1), (2, .int (v2 + (I p0 (v3).toNatClampNeg))), (3, .int (v3 + (1 : Int32)))] [2, 3, 1, 0] rfl ?_
      exact ih _ _ hf
set_option maxRecDepth 100000 in
set_option maxHeartbeats 4000000 in
theorem c_X0_sumOf {I : z_I} {L : z_L} {p0 p0n : Nat} {p1 : Int32} (hp0 : layX[p0]? = some (.inl (.int, p0n, 0, []))) {r : Int32} (hf : f_X0_sumOf I p0 p0n p1 = some r) : z_C layX yX0_sumOf cX0_sumOf 4 (some .int) ({ frames := 0, cells := 0, slots := 0, locals := 0 } : Room) [.ref p0, .int p1] I L (some (.int r), I, L) := by
  refine z_C.of (by decide) (Nat.le_of_ble_eq_true rfl) ?_
  show z_X layX RX0 cX0_sumOf 4 (some .int) ({ frames := 0, cells := 0, slots := 0, locals := 0 } : Room) 0 [(0, .ref p0), (1, .int p1)] [] I L (some (.int r), I, L)
  unfold f_X0_sumOf at hf
  refine x_iconst (v := (0)) dX0_sumOf_0 (by decide) ?_
  refine x_istore_n [(2, .int (0 : Int32)), (0, .ref p0), (1, .int p1)] dX0_sumOf_1 rfl (by decide) rfl ?_
  refine x_iconst (v := (0)) dX0_sumOf_2 (by decide) ?_
  refine x_istore_n [(3, .int (0 : Int32)), (2, .int (0 : Int32)), (0, .ref p0), (1, .int p1)] dX0_sumOf_3 rfl (by decide) rfl ?_
  refine x_lv [(0, .ref p0), (1, .int p1), (2, .int (0 : Int32)), (3, .int (0 : Int32))] [2, 3, 1, 0] rfl ?_
  refine l_X0_sumOf_4 p0 p0n hp0 p1 (I) (L)   _ _ _ hf
set_option maxRecDepth 100000 in
set_option maxHeartbeats 4000000 in
theorem c_X0_allCrocuses {I : z_I} {L : z_L} {c : Nat} (hc : z_ct c) {r : Int32} (hf : f_X0_allCrocuses I c = some r) : z_C layX yX0_allCrocuses cX0_allCrocuses 1 (some .int) ({ frames := 1, cells := 0, slots := 0, locals := 23 } : Room) [.ref c] I L (some (.int r), I, L) := by
  refine z_C.of (by decide) (Nat.le_of_ble_eq_true rfl) ?_
  show z_X layX RX0 cX0_allCrocuses 1 (some .int) ({ frames := 1, cells := 0, slots := 0, locals := 23 } : Room) 0 [(0, .ref c)] [] I L (some (.int r), I, L)
  unfold f_X0_allCrocuses at hf
  refine x_aload_n 0 dX0_allCrocuses_0 rfl rfl ?_
  refine x_getR dX0_allCrocuses_1 hc.1 fl_X0_9 rfl ?_
  refine x_aload_n 0 dX0_allCrocuses_4 rfl rfl ?_
  refine x_getI (v := (I c 10)) dX0_allCrocuses_5 hc.1 fl_X0_47 rfl rfl ?_
  obtain ⟨q1, hq2, hf⟩ := f_bd hf
  refine x_callSi [.ref (c + 1), .int (I c 10)] (c_X0_sumOf (I := I) (L := L) hc.2.1 hq2) dX0_allCrocuses_8 lk_X0_75 cd_X0_sumOf rfl rfl (Nat.le_of_ble_eq_true rfl) ⟨rfl, rfl, Nat.le_of_ble_eq_true rfl, Nat.le_of_ble_eq_true rfl⟩ ?_
  cases hf
  exact x_iret dX0_allCrocuses_11 rfl rfl
set_option maxRecDepth 100000 in
set_option maxHeartbeats 4000000 in
theorem c_X0_allShams {I : z_I} {L : z_L} {c : Nat} (hc : z_ct c) {r : Int32} (hf : f_X0_allShams I c = some r) : z_C layX yX0_allShams cX0_allShams 1 (some .int) ({ frames := 1, cells := 0, slots := 0, locals := 23 } : Room) [.ref c] I L (some (.int r), I, L) := by
  refine z_C.of (by decide) (Nat.le_of_ble_eq_true rfl) ?_
  show z_X layX RX0 cX0_allShams 1 (some .int) ({ frames := 1, cells := 0, slots := 0, locals := 23 } : Room) 0 [(0, .ref c)] [] I L (some (.int r), I, L)
  unfold f_X0_allShams at hf
  refine x_aload_n 0 dX0_allShams_0 rfl rfl ?_
  refine x_getR dX0_allShams_1 hc.1 fl_X0_15 rfl ?_
  refine x_aload_n 0 dX0_allShams_4 rfl rfl ?_
  refine x_getI (v := (I c 10)) dX0_allShams_5 hc.1 fl_X0_47 rfl rfl ?_
  obtain ⟨q1, hq2, hf⟩ := f_bd hf
  refine x_callSi [.ref (c + 2), .int (I c 10)] (c_X0_sumOf (I := I) (L := L) hc.2.2.1 hq2) dX0_allShams_8 lk_X0_75 cd_X0_sumOf rfl rfl (Nat.le_of_ble_eq_true rfl) ⟨rfl, rfl, Nat.le_of_ble_eq_true rfl, Nat.le_of_ble_eq_true rfl⟩ ?_
  cases hf
  exact x_iret dX0_allShams_11 rfl rfl
set_option maxRecDepth 100000 in
set_option maxHeartbeats 4000000 in
theorem c_X0_allGold {I : z_I} {L : z_L} {c : Nat} (hc : z_ct c) {r : Int32} (hf : f_X0_allGold I c = some r) : z_C layX yX0_allGold cX0_allGold 1 (some .int) ({ frames := 1, cells := 0, slots := 0, locals := 23 } : Room) [.ref c] I L (some (.int r), I, L) := by
  refine z_C.of (by decide) (Nat.le_of_ble_eq_true rfl) ?_
  show z_X layX RX0 cX0_allGold 1 (some .int) ({ frames := 1, cells := 0, slots := 0, locals := 23 } : Room) 0 [(0, .ref c)] [] I L (some (.int r), I, L)
  unfold f_X0_allGold at hf
  refine x_aload_n 0 dX0_allGold_0 rfl rfl ?_
  refine x_getR dX0_allGold_1 hc.1 fl_X0_37 rfl ?_
  refine x_aload_n 0 dX0_allGold_4 rfl rfl ?_
  refine x_getI (v := (I c 13)) dX0_allGold_5 hc.1 fl_X0_56 rfl rfl ?_
  obtain ⟨q1, hq2, hf⟩ := f_bd hf
  refine x_callSi [.ref (c + 9), .int (I c 13)] (c_X0_sumOf (I := I) (L := L) hc.2.2.2.2.2.2.2.2.2.1 hq2) dX0_allGold_8 lk_X0_75 cd_X0_sumOf rfl rfl (Nat.le_of_ble_eq_true rfl) ⟨rfl, rfl, Nat.le_of_ble_eq_true rfl, Nat.le_of_ble_eq_true rfl⟩ ?_
  cases hf
  exact x_iret dX0_allGold_11 rfl rfl
set_option maxRecDepth 100000 in
set_option maxHeartbeats 4000000 in
theorem l_X0_weightOf_4 (c : Nat) (hc : z_ct c) (v1 : Int32) (I : z_I) (L : z_L) {r : Int32}  : ∀ (n : Nat) (v2 : Int32) (v3 : Int32), g_X0_weightOf_4 c v1 I  n v2 v3 = some r → z_X layX RX0 cX0_weightOf 4 (some .int) ({ frames := 0, cells := 0, slots := 0, locals := 0 } : Room) 4 [(0, .ref c), (1, .int v1), (2, .int v2), (3, .int v3)] [] I L (some (.int r), I, L) := by
  intro n
  induction n with
  | zero => intro v2 v3 hf; cases hf
  | succ n ih =>
    intro v2 v3 hf
    rw [g_X0_weightOf_4] at hf
    refine x_iload_n 3 dX0_weightOf_4 rfl rfl ?_
    refine x_aload_n 0 dX0_weightOf_5 rfl rfl ?_
    refine x_getI (v := (I c 11)) dX0_weightOf_6 hc.1 fl_X0_50 rfl rfl ?_
    refine x_icmp_ge 35 dX0_weightOf_9 (by decide) (fun hB => ?_) (fun hB => ?_)
    · replace hf := f_if hB hf
      refine x_iload_n 2 dX0_weightOf_35 rfl rfl ?_
      cases hf
      exact x_iret dX0_weightOf_36 rfl rfl
    · replace hf := f_el hB hf
      refine x_iload_n 1 dX0_weightOf_12 rfl rfl ?_
      refine x_iconst (v := (1)) dX0_weightOf_13 (by decide) ?_
      refine x_iload_n 3 dX0_weightOf_14 rfl rfl ?_
      refine x_ishl dX0_weightOf_15 ?_
      refine x_iand dX0_weightOf_16 ?_
      refine x_if_eq 29 dX0_weightOf_17 (by decide) (fun hB => ?_) (fun hB => ?_)
      · replace hf := f_if hB hf
        refine x_iinc 3 [(3, .int (v3 + (1 : Int32))), (0, .ref c), (1, .int v1), (2, .int v2)] dX0_weightOf_29 rfl rfl (by decide) rfl ?_
        refine x_goto 4 dX0_weightOf_32 (by decide) ?_
        refine x_lv [(0, .ref c), (1, .int v1), (2, .int v2), (3, .int (v3 + (1 : Int32)))] [1, 2, 3, 0] rfl ?_
        exact ih _ _ hf
      · replace hf := f_el hB hf
        refine x_iload_n 2 dX0_weightOf_20 rfl rfl ?_
        refine x_aload_n 0 dX0_weightOf_21 rfl rfl ?_
        refine x_getR dX0_weightOf_22 hc.1 fl_X0_18 rfl ?_
        refine x_iload_n 3 dX0_weightOf_25 rfl rfl ?_
        obtain ⟨h1, hf⟩ := f_gd hf
        refine x_iald (j := (v3).toNatClampNeg) (v := (I (c + 3) (v3).toNatClampNeg)) dX0_weightOf_26 hc.2.2.2.1 h1 rfl rfl ?_
        refine x_iadd dX0_weightOf_27 ?_
        refine x_istore_n [(2, .int (v2 + (I (c + 3) (v3).toNatClampNeg))), (0, .ref c), (1, .int v1), (3, .int v3)] dX0_weightOf_28 rfl (by decide) rfl ?_
        refine x_iinc 3 [(3, .int (v3 + (1 : Int32))), (2, .int (v2 + (I (c + 3) (v3).toNatClampNeg))), (0, .ref c), (1, .int v1)] dX0_weightOf_29 rfl rfl (by decide) rfl ?_
        refine x_goto 4 dX0_weightOf_32 (by decide) ?_
        refine x_lv [(0, .ref c), (1, .int v1), (2, .int (v2 + (I (c + 3) (v3).toNatClampNeg))), (3, .int (v3 + (1 : Int32)))] [2, 3, 1, 0] rfl ?_
        exact ih _ _ hf
set_option maxRecDepth 100000 in
set_option maxHeartbeats 4000000 in
theorem c_X0_weightOf {I : z_I} {L : z_L} {c : Nat} {p0 : Int32} (hc : z_ct c) {r : Int32} (hf : f_X0_weightOf I c p0 = some r) : z_C layX yX0_weightOf cX0_weightOf 4 (some .int) ({ frames := 0, cells := 0, slots := 0, locals := 0 } : Room) [.ref c, .int p0] I L (some (.int r), I, L) := by
  refine z_C.of (by decide) (Nat.le_of_ble_eq_true rfl) ?_
  show z_X layX RX0 cX0_weightOf 4 (some .int) ({ frames := 0, cells := 0, slots := 0, locals := 0 } : Room) 0 [(0, .ref c), (1, .int p0)] [] I L (some (.int r), I, L)
  unfold f_X0_weightOf at hf
  refine x_iconst (v := (0)) dX0_weightOf_0 (by decide) ?_
  refine x_istore_n [(2, .int (0 : Int32)), (0, .ref c), (1, .int p0)] dX0_weightOf_1 rfl (by decide) rfl ?_
  refine x_iconst (v := (0)) dX0_weightOf_2 (by decide) ?_
  refine x_istore_n [(3, .int (0 : Int32)), (2, .int (0 : Int32)), (0, .ref c), (1, .int p0)] dX0_weightOf_3 rfl (by decide) rfl ?_
  refine x_lv [(0, .ref c), (1, .int p0), (2, .int (0 : Int32)), (3, .int (0 : Int32))] [2, 3, 1, 0] rfl ?_
  refine l_X0_weightOf_4 c hc p0 (I) (L)   _ _ _ hf
set_option maxRecDepth 100000 in
set_option maxHeartbeats 4000000 in
theorem l_X0_heaviestOf_7 (c : Nat) (hc : z_ct c) (v1 : Int32) (I : z_I) (L : z_L) {r : Int32}  : ∀ (n : Nat) (v2 : Int32) (v3 : Int32) (v4 : Int32), g_X0_heaviestOf_7 c v1 I  n v2 v3 v4 = some r → z_X layX RX0 cX0_heaviestOf 5 (some .int) ({ frames := 0, cells := 0, slots := 0, locals := 0 } : Room) 7 [(0, .ref c), (1, .int v1), (2, .int v2), (3, .int v3), (4, .int v4)] [] I L (some (.int r), I, L) := by
  intro n
  induction n with
  | zero => intro v2 v3 v4 hf; cases hf
  | succ n ih =>
    intro v2 v3 v4 hf
    rw [g_X0_heaviestOf_7] at hf
    refine x_iload 4 dX0_heaviestOf_7 rfl ?_
    refine x_aload_n 0 dX0_heaviestOf_9 rfl rfl ?_
    refine x_getI (v := (I c 11)) dX0_heaviestOf_10 hc.1 fl_X0_50 rfl rfl ?_
    refine x_icmp_ge 53 dX0_heaviestOf_13 (by decide) (fun hB => ?_) (fun hB => ?_)
    · replace hf := f_if hB hf
      refine x_iload_n 2 dX0_heaviestOf_53 rfl rfl ?_
      cases hf
      exact x_iret dX0_heaviestOf_54 rfl rfl
    · replace hf := f_el hB hf
      refine x_iload_n 1 dX0_heaviestOf_16 rfl rfl ?_
      refine x_iconst (v := (1)) dX0_heaviestOf_17 (by decide) ?_
      refine x_iload 4 dX0_heaviestOf_18 rfl ?_
      refine x_ishl dX0_heaviestOf_20 ?_
      refine x_iand dX0_heaviestOf_21 ?_
      refine x_if_eq 47 dX0_heaviestOf_22 (by decide) (fun hB => ?_) (fun hB => ?_)
      · replace hf := f_if hB hf
        refine x_iinc 4 [(4, .int (v4 + (1 : Int32))), (0, .ref c), (1, .int v1), (2, .int v2), (3, .int v3)] dX0_heaviestOf_47 rfl rfl (by decide) rfl ?_
        refine x_goto 7 dX0_heaviestOf_50 (by decide) ?_
        refine x_lv [(0, .ref c), (1, .int v1), (2, .int v2), (3, .int v3), (4, .int (v4 + (1 : Int32)))] [1, 2, 3, 4, 0] rfl ?_
        exact ih _ _ _ hf
      · replace hf := f_el hB hf
        refine x_aload_n 0 dX0_heaviestOf_25 rfl rfl ?_
        refine x_getR dX0_heaviestOf_26 hc.1 fl_X0_18 rfl ?_
        refine x_iload 4 dX0_heaviestOf_29 rfl ?_
        obtain ⟨h1, hf⟩ := f_gd hf
        refine x_iald (j := (v4).toNatClampNeg) (v := (I (c + 3) (v4).toNatClampNeg)) dX0_heaviestOf_31 hc.2.2.2.1 h1 rfl rfl ?_
        refine x_iload_n 3 dX0_heaviestOf_32 rfl rfl ?_
        refine x_icmp_le 47 dX0_heaviestOf_33 (by decide) (fun hB => ?_) (fun hB => ?_)
        · replace hf := f_if hB hf
          refine x_iinc 4 [(4, .int (v4 + (1 : Int32))), (0, .ref c), (1, .int v1), (2, .int v2), (3, .int v3)] dX0_heaviestOf_47 rfl rfl (by decide) rfl ?_
          refine x_goto 7 dX0_heaviestOf_50 (by decide) ?_
          refine x_lv [(0, .ref c), (1, .int v1), (2, .int v2), (3, .int v3), (4, .int (v4 + (1 : Int32)))] [1, 2, 3, 4, 0] rfl ?_
          exact ih _ _ _ hf
        · replace hf := f_el hB hf
          refine x_aload_n 0 dX0_heaviestOf_36 rfl rfl ?_
          refine x_getR dX0_heaviestOf_37 hc.1 fl_X0_18 rfl ?_
          refine x_iload 4 dX0_heaviestOf_40 rfl ?_
          refine x_iald (j := (v4).toNatClampNeg) (v := (I (c + 3) (v4).toNatClampNeg)) dX0_heaviestOf_42 hc.2.2.2.1 h1 rfl rfl ?_
          refine x_istore_n [(3, .int (I (c + 3) (v4).toNatClampNeg)), (0, .ref c), (1, .int v1), (2, .int v2), (4, .int v4)] dX0_heaviestOf_43 rfl (by decide) rfl ?_
          refine x_iload 4 dX0_heaviestOf_44 rfl ?_
          refine x_istore_n [(2, .int v4), (3, .int (I (c + 3) (v4).toNatClampNeg)), (0, .ref c), (1, .int v1), (4, .int v4)] dX0_heaviestOf_46 rfl (by decide) rfl ?_
          refine x_iinc 4 [(4, .int (v4 + (1 : Int32))), (2, .int v4), (3, .int (I (c + 3) (v4).toNatClampNeg)), (0, .ref c), (1, .int v1)] dX0_heaviestOf_47 rfl rfl (by decide) rfl ?_
          refine x_goto 7 dX0_heaviestOf_50 (by decide) ?_
          refine x_lv [(0, .ref c), (1, .int v1), (2, .int v4), (3, .int (I (c + 3) (v4).toNatClampNeg)), (4, .int (v4 + (1 : Int32)))] [3, 4, 1, 2, 0] rfl ?_
          exact ih _ _ _ hf
set_option maxRecDepth 100000 in
set_option maxHeartbeats 4000000 in
theorem c_X0_heaviestOf {I : z_I} {L : z_L} {c : Nat} {p0 : Int32} (hc : z_ct c) {r : Int32} (hf : f_X0_heaviestOf I c p0 = some r) : z_C layX yX0_heaviestOf cX0_heaviestOf 5 (some .int) ({ frames := 0, cells := 0, slots := 0, locals := 0 } : Room) [.ref c, .int p0] I L (some (.int r), I, L) := by
  refine z_C.of (by decide) (Nat.le_of_ble_eq_true rfl) ?_
  show z_X layX RX0 cX0_heaviestOf 5 (some .int) ({ frames := 0, cells := 0, slots := 0, locals := 0 } : Room) 0 [(0, .ref c), (1, .int p0)] [] I L (some (.int r), I, L)
  unfold f_X0_heaviestOf at hf
  refine x_iconst (v := (-1)) dX0_heaviestOf_0 (by decide) ?_
  refine x_istore_n [(2, .int (-1 : Int32)), (0, .ref c), (1, .int p0)] dX0_heaviestOf_1 rfl (by decide) rfl ?_
  refine x_iconst (v := (0)) dX0_heaviestOf_2 (by decide) ?_
  refine x_istore_n [(3, .int (0 : Int32)), (2, .int (-1 : Int32)), (0, .ref c), (1, .int p0)] dX0_heaviestOf_3 rfl (by decide) rfl ?_
  refine x_iconst (v := (0)) dX0_heaviestOf_4 (by decide) ?_
  refine x_istore [(4, .int (0 : Int32)), (3, .int (0 : Int32)), (2, .int (-1 : Int32)), (0, .ref c), (1, .int p0)] dX0_heaviestOf_5 (by decide) rfl ?_
  refine x_lv [(0, .ref c), (1, .int p0), (2, .int (-1 : Int32)), (3, .int (0 : Int32)), (4, .int (0 : Int32))] [3, 4, 2, 1, 0] rfl ?_
  refine l_X0_heaviestOf_7 c hc p0 (I) (L)   _ _ _ _ hf
set_option maxRecDepth 100000 in
set_option maxHeartbeats 4000000 in
theorem c_X0_addBed {I : z_I} {L : z_L} {c : Nat} {p0 : Int32} {p1 : Int32} (hc : z_ct c) {r : z_I} (hf : f_X0_addBed I c p0 p1 = some r) : z_C layX yX0_addBed cX0_addBed 3 (none) ({ frames := 0, cells := 0, slots := 0, locals := 0 } : Room) [.ref c, .int p0, .int p1] I L (none, r, L) := by
  refine z_C.of (by decide) (Nat.le_of_ble_eq_true rfl) ?_
  show z_X layX RX0 cX0_addBed 3 (none) ({ frames := 0, cells := 0, slots := 0, locals := 0 } : Room) 0 [(0, .ref c), (1, .int p0), (2, .int p1)] [] I L (none, r, L)
  unfold f_X0_addBed at hf
  refine x_aload_n 0 dX0_addBed_0 rfl rfl ?_
  refine x_getR dX0_addBed_1 hc.1 fl_X0_9 rfl ?_
  refine x_aload_n 0 dX0_addBed_4 rfl rfl ?_
  refine x_getI (v := (I c 10)) dX0_addBed_5 hc.1 fl_X0_47 rfl rfl ?_
  refine x_iload_n 1 dX0_addBed_8 rfl rfl ?_
  obtain ⟨h1, hf⟩ := f_gd hf
  obtain ⟨I2, hI2, hf⟩ := f_lt hf
  refine x_iast (j0 := ((I c 10)).toNatClampNeg) dX0_addBed_9 hc.2.1 h1 rfl hI2 ?_
  refine x_aload_n 0 dX0_addBed_10 rfl rfl ?_
  refine x_getR dX0_addBed_11 hc.1 fl_X0_15 rfl ?_
  refine x_aload_n 0 dX0_addBed_14 rfl rfl ?_
  refine x_getI (v := (I c 10)) dX0_addBed_15 hc.1 fl_X0_47 rfl (by rw [hI2, z2_o (by omega)]) ?_
  refine x_iload_n 2 dX0_addBed_18 rfl rfl ?_
  obtain ⟨I4, hI4, hf⟩ := f_lt hf
  refine x_iast (j0 := ((I c 10)).toNatClampNeg) dX0_addBed_19 hc.2.2.1 h1 rfl hI4 ?_
  refine x_aload_n 0 dX0_addBed_20 rfl rfl ?_
  refine x_dup dX0_addBed_21 rfl ?_
  refine x_getI (v := (I c 10)) dX0_addBed_22 hc.1 fl_X0_47 rfl (by rw [hI4, z2_o (by omega), hI2, z2_o (by omega)]) ?_
  refine x_iconst (v := (1)) dX0_addBed_25 (by decide) ?_
  refine x_iadd dX0_addBed_26 ?_
  obtain ⟨I5, hI5, hf⟩ := f_lt hf
  refine x_putI dX0_addBed_27 hc.1 fl_X0_47 rfl rfl rfl hI5 ?_
  cases hf
  exact x_vret dX0_addBed_30 rfl rfl
set_option maxRecDepth 100000 in
set_option maxHeartbeats 4000000 in
theorem c_X0_addCase {I : z_I} {L : z_L} {c : Nat} {p0 : Int32} (hc : z_ct c) {r : z_I} (hf : f_X0_addCase I c p0 = some r) : z_C layX yX0_addCase cX0_addCase 2 (none) ({ frames := 0, cells := 0, slots := 0, locals := 0 } : Room) [.ref c, .int p0] I L (none, r, L) := by
  refine z_C.of (by decide) (Nat.le_of_ble_eq_true rfl) ?_
  show z_X layX RX0 cX0_addCase 2 (none) ({ frames := 0, cells := 0, slots := 0, locals := 0 } : Room) 0 [(0, .ref c), (1, .int p0)] [] I L (none, r, L)
  unfold f_X0_addCase at hf
  refine x_aload_n 0 dX0_addCase_0 rfl rfl ?_
  refine x_getR dX0_addCase_1 hc.1 fl_X0_18 rfl ?_
  refine x_aload_n 0 dX0_addCase_4 rfl rfl ?_
  refine x_getI (v := (I c 11)) dX0_addCase_5 hc.1 fl_X0_50 rfl rfl ?_
  refine x_iload_n 1 dX0_addCase_8 rfl rfl ?_
  obtain ⟨h1, hf⟩ := f_gd hf
  obtain ⟨I2, hI2, hf⟩ := f_lt hf
  refine x_iast (j0 := ((I c 11)).toNatClampNeg) dX0_addCase_9 hc.2.2.2.1 h1 rfl hI2 ?_
  refine x_aload_n 0 dX0_addCase_10 rfl rfl ?_
  refine x_dup dX0_addCase_11 rfl ?_
  refine x_getI (v := (I c 11)) dX0_addCase_12 hc.1 fl_X0_50 rfl (by rw [hI2, z2_o (by omega)]) ?_
  refine x_iconst (v := (1)) dX0_addCase_15 (by decide) ?_
  refine x_iadd dX0_addCase_16 ?_
  obtain ⟨I3, hI3, hf⟩ := f_lt hf
  refine x_putI dX0_addCase_17 hc.1 fl_X0_50 rfl rfl rfl hI3 ?_
  cases hf
  exact x_vret dX0_addCase_20 rfl rfl
set_option maxRecDepth 100000 in
set_option maxHeartbeats 4000000 in
theorem c_X0_addClaim {I : z_I} {L : z_L} {c : Nat} {p0 : Int64} {p1 : Int32} {p2 : Int32} {p3 : Int32} (hc : z_ct c) {r : z_I × z_L} (hf : f_X0_addClaim I L c p0 p1 p2 p3 = some r) : z_C layX yX0_addClaim cX0_addClaim 6 (none) ({ frames := 0, cells := 0, slots := 0, locals := 0 } : Room) [.ref c, .long p0, .int p1, .int p2, .int p3] I L (none, r.1, r.2) := by
  refine z_C.of (by decide) (Nat.le_of_ble_eq_true rfl) ?_
  show z_X layX RX0 cX0_addClaim 6 (none) ({ frames := 0, cells := 0, slots := 0, locals := 0 } : Room) 0 [(0, .ref c), (1, .long p0), (3, .int p1), (4, .int p2), (5, .int p3)] [] I L (none, r.1, r.2)
  unfold f_X0_addClaim at hf
  refine x_aload_n 0 dX0_addClaim_0 rfl rfl ?_
  refine x_getR dX0_addClaim_1 hc.1 fl_X0_30 rfl ?_
  refine x_aload_n 0 dX0_addClaim_4 rfl rfl ?_
  refine x_getI (v := (I c 12)) dX0_addClaim_5 hc.1 fl_X0_53 rfl rfl ?_
  refine x_lload_n 1 dX0_addClaim_8 rfl rfl ?_
  obtain ⟨h1, hf⟩ := f_gd hf
  obtain ⟨L2, hL2, hf⟩ := f_lt hf
  refine x_last (j0 := ((I c 12)).toNatClampNeg) dX0_addClaim_9 hc.2.2.2.2.2.2.2.1 h1 rfl hL2 ?_
  refine x_aload_n 0 dX0_addClaim_10 rfl rfl ?_
  refine x_getR dX0_addClaim_11 hc.1 fl_X0_21 rfl ?_
  refine x_aload_n 0 dX0_addClaim_14 rfl rfl ?_
  refine x_getI (v := (I c 12)) dX0_addClaim_15 hc.1 fl_X0_53 rfl rfl ?_
  refine x_iload_n 2 dX0_addClaim_18 rfl rfl ?_
  obtain ⟨I4, hI4, hf⟩ := f_lt hf
  refine x_iast (j0 := ((I c 12)).toNatClampNeg) dX0_addClaim_19 hc.2.2.2.2.1 h1 rfl hI4 ?_
  refine x_aload_n 0 dX0_addClaim_20 rfl rfl ?_
  refine x_getR dX0_addClaim_21 hc.1 fl_X0_24 rfl ?_
  refine x_aload_n 0 dX0_addClaim_24 rfl rfl ?_
  refine x_getI (v := (I c 12)) dX0_addClaim_25 hc.1 fl_X0_53 rfl (by rw [hI4, z2_o (by omega)]) ?_
  refine x_iload 3 dX0_addClaim_28 rfl ?_
  obtain ⟨I6, hI6, hf⟩ := f_lt hf
  refine x_iast (j0 := ((I c 12)).toNatClampNeg) dX0_addClaim_30 hc.2.2.2.2.2.1 h1 rfl hI6 ?_
  refine x_aload_n 0 dX0_addClaim_31 rfl rfl ?_
  refine x_getR dX0_addClaim_32 hc.1 fl_X0_27 rfl ?_
  refine x_aload_n 0 dX0_addClaim_35 rfl rfl ?_
  refine x_getI (v := (I c 12)) dX0_addClaim_36 hc.1 fl_X0_53 rfl (by rw [hI6, z2_o (by omega), hI4, z2_o (by omega)]) ?_
  refine x_iload 4 dX0_addClaim_39 rfl ?_
  obtain ⟨I8, hI8, hf⟩ := f_lt hf
  refine x_iast (j0 := ((I c 12)).toNatClampNeg) dX0_addClaim_41 hc.2.2.2.2.2.2.1 h1 rfl hI8 ?_
  refine x_aload_n 0 dX0_addClaim_42 rfl rfl ?_
  refine x_dup dX0_addClaim_43 rfl ?_
  refine x_getI (v := (I c 12)) dX0_addClaim_44 hc.1 fl_X0_53 rfl (by rw [hI8, z2_o (by omega), hI6, z2_o (by omega), hI4, z2_o (by omega)]) ?_
  refine x_iconst (v := (1)) dX0_addClaim_47 (by decide) ?_
  refine x_iadd dX0_addClaim_48 ?_
  obtain ⟨I9, hI9, hf⟩ := f_lt hf
  refine x_putI dX0_addClaim_49 hc.1 fl_X0_53 rfl rfl rfl hI9 ?_
  cases hf
  exact x_vret dX0_addClaim_52 rfl rfl
set_option maxRecDepth 100000 in
set_option maxHeartbeats 4000000 in
theorem c_X0_addScholar {I : z_I} {L : z_L} {c : Nat} {p0 : Int64} {p1 : Int32} {p2 : Int32} (hc : z_ct c) {r : z_I × z_L} (hf : f_X0_addScholar I L c p0 p1 p2 = some r) : z_C layX yX0_addScholar cX0_addScholar 5 (none) ({ frames := 0, cells := 0, slots := 0, locals := 0 } : Room) [.ref c, .long p0, .int p1, .int p2] I L (none, r.1, r.2) := by
  refine z_C.of (by decide) (Nat.le_of_ble_eq_true rfl) ?_
  show z_X layX RX0 cX0_addScholar 5 (none) ({ frames := 0, cells := 0, slots := 0, locals := 0 } : Room) 0 [(0, .ref c), (1, .long p0), (3, .int p1), (4, .int p2)] [] I L (none, r.1, r.2)
  unfold f_X0_addScholar at hf
  refine x_aload_n 0 dX0_addScholar_0 rfl rfl ?_
  refine x_getR dX0_addScholar_1 hc.1 fl_X0_40 rfl ?_
  refine x_aload_n 0 dX0_addScholar_4 rfl rfl ?_
  refine x_getI (v := (I c 13)) dX0_addScholar_5 hc.1 fl_X0_56 rfl rfl ?_
  refine x_lload_n 1 dX0_addScholar_8 rfl rfl ?_
  obtain ⟨h1, hf⟩ := f_gd hf
  obtain ⟨L2, hL2, hf⟩ := f_lt hf
  refine x_last (j0 := ((I c 13)).toNatClampNeg) dX0_addScholar_9 hc.2.2.2.2.2.2.2.2.2.2.1 h1 rfl hL2 ?_
  refine x_aload_n 0 dX0_addScholar_10 rfl rfl ?_
  refine x_getR dX0_addScholar_11 hc.1 fl_X0_34 rfl ?_
  refine x_aload_n 0 dX0_addScholar_14 rfl rfl ?_
  refine x_getI (v := (I c 13)) dX0_addScholar_15 hc.1 fl_X0_56 rfl rfl ?_
  refine x_iload_n 2 dX0_addScholar_18 rfl rfl ?_
  obtain ⟨I4, hI4, hf⟩ := f_lt hf
  refine x_iast (j0 := ((I c 13)).toNatClampNeg) dX0_addScholar_19 hc.2.2.2.2.2.2.2.2.1 h1 rfl hI4 ?_
  refine x_aload_n 0 dX0_addScholar_20 rfl rfl ?_
  refine x_getR dX0_addScholar_21 hc.1 fl_X0_37 rfl ?_
  refine x_aload_n 0 dX0_addScholar_24 rfl rfl ?_
  refine x_getI (v := (I c 13)) dX0_addScholar_25 hc.1 fl_X0_56 rfl (by rw [hI4, z2_o (by omega)]) ?_
  refine x_iload 3 dX0_addScholar_28 rfl ?_
  obtain ⟨I6, hI6, hf⟩ := f_lt hf
  refine x_iast (j0 := ((I c 13)).toNatClampNeg) dX0_addScholar_30 hc.2.2.2.2.2.2.2.2.2.1 h1 rfl hI6 ?_
  refine x_aload_n 0 dX0_addScholar_31 rfl rfl ?_
  refine x_dup dX0_addScholar_32 rfl ?_
  refine x_getI (v := (I c 13)) dX0_addScholar_33 hc.1 fl_X0_56 rfl (by rw [hI6, z2_o (by omega), hI4, z2_o (by omega)]) ?_
  refine x_iconst (v := (1)) dX0_addScholar_36 (by decide) ?_
  refine x_iadd dX0_addScholar_37 ?_
  obtain ⟨I7, hI7, hf⟩ := f_lt hf
  refine x_putI dX0_addScholar_38 hc.1 fl_X0_56 rfl rfl rfl hI7 ?_
  cases hf
  exact x_vret dX0_addScholar_41 rfl rfl
set_option maxRecDepth 100000 in
set_option maxHeartbeats 4000000 in
theorem l_X0_partUnder_12 (c : Nat) (hc : z_ct c) (v1 : Int32) (v2 : Int32) (I : z_I) (L : z_L) {r : Int32}  : ∀ (n : Nat) (v3 : Int32) (v4 : Int32), g_X0_partUnder_12 c v1 v2 I  n v3 v4 = some r → z_X layX RX0 cX0_partUnder 6 (some .int) ({ frames := 0, cells := 0, slots := 0, locals := 0 } : Room) 12 [(0, .ref c), (1, .int v1), (2, .int v2), (3, .int v3), (4, .int v4)] [] I L (some (.int r), I, L) := by
  intro n
  induction n with
  | zero => intro v3 v4 hf; cases hf
  | succ n ih =>
    intro v3 v4 hf
    rw [g_X0_partUnder_12] at hf
    refine x_iload 4 dX0_partUnder_12 rfl ?_
    refine x_aload_n 0 dX0_partUnder_14 rfl rfl ?_
    refine x_getI (v := (I c 12)) dX0_partUnder_15 hc.1 fl_X0_53 rfl rfl ?_
    refine x_icmp_ge 84 dX0_partUnder_18 (by decide) (fun hB => ?_) (fun hB => ?_)
    · replace hf := f_if hB hf
      refine x_iload_n 3 dX0_partUnder_84 rfl rfl ?_
      cases hf
      exact x_iret dX0_partUnder_85 rfl rfl
    · replace hf := f_el hB hf
      refine x_iload_n 1 dX0_partUnder_21 rfl rfl ?_
      refine x_iconst (v := (1)) dX0_partUnder_22 (by decide) ?_
      refine x_iload 4 dX0_partUnder_23 rfl ?_
      refine x_ishl dX0_partUnder_25 ?_
      refine x_iand dX0_partUnder_26 ?_
      refine x_if_eq 78 dX0_partUnder_27 (by decide) (fun hB => ?_) (fun hB => ?_)
      · replace hf := f_if hB hf
        refine x_iinc 4 [(4, .int (v4 + (1 : Int32))), (0, .ref c), (1, .int v1), (2, .int v2), (3, .int v3)] dX0_partUnder_78 rfl rfl (by decide) rfl ?_
        refine x_goto 12 dX0_partUnder_81 (by decide) ?_
        refine x_lv [(0, .ref c), (1, .int v1), (2, .int v2), (3, .int v3), (4, .int (v4 + (1 : Int32)))] [1, 2, 3, 4, 0] rfl ?_
        exact ih _ _ hf
      · replace hf := f_el hB hf
        refine x_aload_n 0 dX0_partUnder_30 rfl rfl ?_
        refine x_getR dX0_partUnder_31 hc.1 fl_X0_27 rfl ?_
        refine x_iload 4 dX0_partUnder_34 rfl ?_
        obtain ⟨h2, hf⟩ := f_gd hf
        refine x_iald (j := (v4).toNatClampNeg) (v := (I (c + 6) (v4).toNatClampNeg)) dX0_partUnder_36 hc.2.2.2.2.2.2.1 h2 rfl rfl ?_
        refine x_iconst (v := (1)) dX0_partUnder_37 (by decide) ?_
        refine x_iload_n 2 dX0_partUnder_38 rfl rfl ?_
        refine x_ishl dX0_partUnder_39 ?_
        refine x_iand dX0_partUnder_40 ?_
        refine x_if_eq 48 dX0_partUnder_41 (by decide) (fun hB => ?_) (fun hB => ?_)
        · replace hf := f_if hB hf
          refine x_iconst (v := (0)) dX0_partUnder_48 (by decide) ?_
          refine x_istore [(5, .int (0 : Int32)), (0, .ref c), (1, .int v1), (2, .int v2), (3, .int v3), (4, .int v4)] dX0_partUnder_49 (by decide) rfl ?_
          refine x_iload_n 4 dX0_partUnder_51 rfl rfl ?_
          refine x_iload 0 dX0_partUnder_52 rfl ?_
          refine x_if_eq 67 dX0_partUnder_54 (by decide) (fun _ => ?_) (fun h => absurd h (by decide))
          refine x_aload_n 1 dX0_partUnder_67 rfl rfl ?_
          refine x_getR dX0_partUnder_68 hc.1 fl_X0_27 rfl ?_
          refine x_iload 5 dX0_partUnder_71 rfl ?_
          refine x_iald (j := (v4).toNatClampNeg) (v := (I (c + 6) (v4).toNatClampNeg)) dX0_partUnder_73 hc.2.2.2.2.2.2.1 h2 rfl rfl ?_
          refine x_iconst (v := (-1)) dX0_partUnder_74 (by decide) ?_
          refine x_ixor dX0_partUnder_75 ?_
          refine x_iand dX0_partUnder_76 ?_
          obtain ⟨w4, hw4, hf⟩ := f_lt hf
          refine x_topI hw4 ?_
          refine x_istore_n [(3, .int w4), (5, .int (0 : Int32)), (0, .ref c), (1, .int v1), (2, .int v2), (4, .int v4)] dX0_partUnder_77 rfl (by decide) rfl ?_
          refine x_iinc 5 [(4, .int (v4 + (1 : Int32))), (3, .int w4), (5, .int (0 : Int32)), (0, .ref c), (1, .int v1), (2, .int v2)] dX0_partUnder_78 rfl rfl (by decide) rfl ?_
          refine x_goto 12 dX0_partUnder_81 (by decide) ?_
          refine x_lv [(0, .ref c), (1, .int v1), (2, .int v2), (3, .int w4), (4, .int (v4 + (1 : Int32)))] [3, 4, 5, 1, 0] rfl ?_
          exact ih _ _ hf
        · replace hf := f_el hB hf
          refine x_iconst (v := (1)) dX0_partUnder_44 (by decide) ?_
          refine x_goto 49 dX0_partUnder_45 (by decide) ?_
          refine x_istore [(5, .int (1 : Int32)), (0, .ref c), (1, .int v1), (2, .int v2), (3, .int v3), (4, .int v4)] dX0_partUnder_49 (by decide) rfl ?_
          refine x_iload_n 4 dX0_partUnder_51 rfl rfl ?_
          refine x_iload 0 dX0_partUnder_52 rfl ?_
          refine x_if_eq 67 dX0_partUnder_54 (by decide) (fun h => absurd h (by decide)) (fun _ => ?_)
          refine x_aload_n 1 dX0_partUnder_57 rfl rfl ?_
          refine x_getR dX0_partUnder_58 hc.1 fl_X0_27 rfl ?_
          refine x_iload 5 dX0_partUnder_61 rfl ?_
          refine x_iald (j := (v4).toNatClampNeg) (v := (I (c + 6) (v4).toNatClampNeg)) dX0_partUnder_63 hc.2.2.2.2.2.2.1 h2 rfl rfl ?_
          refine x_goto 76 dX0_partUnder_64 (by decide) ?_
          refine x_iand dX0_partUnder_76 ?_
          refine x_istore_n [(3, .int (v3 &&& (I (c + 6) (v4).toNatClampNeg))), (5, .int (1 : Int32)), (0, .ref c), (1, .int v1), (2, .int v2), (4, .int v4)] dX0_partUnder_77 rfl (by decide) rfl ?_
          refine x_iinc 5 [(4, .int (v4 + (1 : Int32))), (3, .int (v3 &&& (I (c + 6) (v4).toNatClampNeg))), (5, .int (1 : Int32)), (0, .ref c), (1, .int v1), (2, .int v2)] dX0_partUnder_78 rfl rfl (by decide) rfl ?_
          refine x_goto 12 dX0_partUnder_81 (by decide) ?_
          refine x_lv [(0, .ref c), (1, .int v1), (2, .int v2), (3, .int (v3 &&& (I (c + 6) (v4).toNatClampNeg))), (4, .int (v4 + (1 : Int32)))] [3, 4, 5, 1, 0] rfl ?_
          exact ih _ _ hf
set_option maxRecDepth 100000 in
set_option maxHeartbeats 4000000 in
theorem c_X0_partUnder {I : z_I} {L : z_L} {c : Nat} {p0 : Int32} {p1 : Int32} (hc : z_ct c) {r : Int32} (hf : f_X0_partUnder I c p0 p1 = some r) : z_C layX yX0_partUnder cX0_partUnder 6 (some .int) ({ frames := 0, cells := 0, slots := 0, locals := 0 } : Room) [.ref c, .int p0, .int p1] I L (some (.int r), I, L) := by
  refine z_C.of (by decide) (Nat.le_of_ble_eq_true rfl) ?_
  show z_X layX RX0 cX0_partUnder 6 (some .int) ({ frames := 0, cells := 0, slots := 0, locals := 0 } : Room) 0 [(0, .ref c), (1, .int p0), (2, .int p1)] [] I L (some (.int r), I, L)
  unfold f_X0_partUnder at hf
  refine x_iconst (v := (1)) dX0_partUnder_0 (by decide) ?_
  refine x_aload_n 0 dX0_partUnder_1 rfl rfl ?_
  refine x_getI (v := (I c 11)) dX0_partUnder_2 hc.1 fl_X0_50 rfl rfl ?_
  refine x_ishl dX0_partUnder_5 ?_
  refine x_iconst (v := (1)) dX0_partUnder_6 (by decide) ?_
  refine x_isub dX0_partUnder_7 ?_
  obtain ⟨w1, hw1, hf⟩ := f_lt hf
  refine x_topI hw1 ?_
  refine x_istore_n [(3, .int w1), (0, .ref c), (1, .int p0), (2, .int p1)] dX0_partUnder_8 rfl (by decide) rfl ?_
  refine x_iconst (v := (0)) dX0_partUnder_9 (by decide) ?_
  refine x_istore [(4, .int (0 : Int32)), (3, .int w1), (0, .ref c), (1, .int p0), (2, .int p1)] dX0_partUnder_10 (by decide) rfl ?_
  refine x_lv [(0, .ref c), (1, .int p0), (2, .int p1), (3, .int w1), (4, .int (0 : Int32))] [2, 3, 4, 1, 0] rfl ?_
  refine l_X0_partUnder_12 c hc p0 p1 (I) (L)   _ _ _ hf
set_option maxRecDepth 100000 in
set_option maxHeartbeats 4000000 in
theorem l_X0_countParts_6 (c : Nat) (hc : z_ct c)  (I : z_I) (L : z_L) {r : Int32}  : ∀ (n : Nat) (v1 : Int32) (v2 : Int32) (v3 : Int32), g_X0_countParts_6 c I  n v1 v2 v3 = some r → z_X layX RX0 cX0_countParts 4 (some .int) ({ frames := 1, cells := 0, slots := 0, locals := 25 } : Room) 6 [(0, .ref c), (1, .int v1), (2, .int v2), (3, .int v3)] [] I L (some (.int r), I, L) := by
  intro n
  induction n with
  | zero => intro v1 v2 v3 hf; cases hf
  | succ n ih =>
    intro v1 v2 v3 hf
    rw [g_X0_countParts_6] at hf
    refine x_iload_n 3 dX0_countParts_6 rfl rfl ?_
    refine x_aload_n 0 dX0_countParts_7 rfl rfl ?_
    refine x_getI (v := (I c 11)) dX0_countParts_8 hc.1 fl_X0_50 rfl rfl ?_
    refine x_icmp_ge 43 dX0_countParts_11 (by decide) (fun hB => ?_) (fun hB => ?_)
    · replace hf := f_if hB hf
      refine x_iload_n 1 dX0_countParts_43 rfl rfl ?_
      cases hf
      exact x_iret dX0_countParts_44 rfl rfl
    · replace hf := f_el hB hf
      refine x_iload_n 2 dX0_countParts_14 rfl rfl ?_
      refine x_iconst (v := (1)) dX0_countParts_15 (by decide) ?_
      refine x_iload_n 3 dX0_countParts_16 rfl rfl ?_
      refine x_ishl dX0_countParts_17 ?_
      refine x_iand dX0_countParts_18 ?_
      refine x_if_ne 37 dX0_countParts_19 (by decide) (fun hB => ?_) (fun hB => ?_)
      · replace hf := f_el hB hf
        refine x_iinc 3 [(3, .int (v3 + (1 : Int32))), (0, .ref c), (1, .int v1), (2, .int v2)] dX0_countParts_37 rfl rfl (by decide) rfl ?_
        refine x_goto 6 dX0_countParts_40 (by decide) ?_
        refine x_lv [(0, .ref c), (1, .int v1), (2, .int v2), (3, .int (v3 + (1 : Int32)))] [1, 2, 3, 0] rfl ?_
        exact ih _ _ _ hf
      · replace hf := f_if hB hf
        refine x_iload_n 2 dX0_countParts_22 rfl rfl ?_
        refine x_aload_n 0 dX0_countParts_23 rfl rfl ?_
        refine x_aload_n 0 dX0_countParts_24 rfl rfl ?_
        refine x_getI (v := (I c 16)) dX0_countParts_25 hc.1 fl_X0_62 rfl rfl ?_
        refine x_iload_n 3 dX0_countParts_28 rfl rfl ?_
        obtain ⟨q1, hq2, hf⟩ := f_bd hf
        refine x_callVi [.int (I c 16), .int v3] (c_X0_partUnder (I := I) (L := L) hc hq2) dX0_countParts_29 lk_X0_79 hc.1 rfl cd_X0_partUnder rfl rfl (Nat.le_of_ble_eq_true rfl) ⟨rfl, rfl, Nat.le_of_ble_eq_true rfl, Nat.le_of_ble_eq_true rfl⟩ ?_
        refine x_ior dX0_countParts_32 ?_
        refine x_istore_n [(2, .int (v2 ||| q1)), (0, .ref c), (1, .int v1), (3, .int v3)] dX0_countParts_33 rfl (by decide) rfl ?_
        refine x_iinc 2 [(1, .int (v1 + (1 : Int32))), (2, .int (v2 ||| q1)), (0, .ref c), (3, .int v3)] dX0_countParts_34 rfl rfl (by decide) rfl ?_
        refine x_iinc 3 [(3, .int (v3 + (1 : Int32))), (1, .int (v1 + (1 : Int32))), (2, .int (v2 ||| q1)), (0, .ref c)] dX0_countParts_37 rfl rfl (by decide) rfl ?_
        refine x_goto 6 dX0_countParts_40 (by decide) ?_
        refine x_lv [(0, .ref c), (1, .int (v1 + (1 : Int32))), (2, .int (v2 ||| q1)), (3, .int (v3 + (1 : Int32)))] [3, 1, 2, 0] rfl ?_
        exact ih _ _ _ hf
set_option maxRecDepth 100000 in
set_option maxHeartbeats 4000000 in
theorem c_X0_countParts {I : z_I} {L : z_L} {c : Nat} (hc : z_ct c) {r : Int32} (hf : f_X0_countParts I c = some r) : z_C layX yX0_countParts cX0_countParts 4 (some .int) ({ frames := 1, cells := 0, slots := 0, locals := 25 } : Room) [.ref c] I L (some (.int r), I, L) := by
  refine z_C.of (by decide) (Nat.le_of_ble_eq_true rfl) ?_
  show z_X layX RX0 cX0_countParts 4 (some .int) ({ frames := 1, cells := 0, slots := 0, locals := 25 } : Room) 0 [(0, .ref c)] [] I L (some (.int r), I, L)
  unfold f_X0_countParts at hf
  refine x_iconst (v := (0)) dX0_countParts_0 (by decide) ?_
  refine x_istore_n [(1, .int (0 : Int32)), (0, .ref c)] dX0_countParts_1 rfl (by decide) rfl ?_
  refine x_iconst (v := (0)) dX0_countParts_2 (by decide) ?_
  refine x_istore_n [(2, .int (0 : Int32)), (1, .int (0 : Int32)), (0, .ref c)] dX0_countParts_3 rfl (by decide) rfl ?_
  refine x_iconst (v := (0)) dX0_countParts_4 (by decide) ?_
  refine x_istore_n [(3, .int (0 : Int32)), (2, .int (0 : Int32)), (1, .int (0 : Int32)), (0, .ref c)] dX0_countParts_5 rfl (by decide) rfl ?_
  refine x_lv [(0, .ref c), (1, .int (0 : Int32)), (2, .int (0 : Int32)), (3, .int (0 : Int32))] [3, 2, 1, 0] rfl ?_
  refine l_X0_countParts_6 c hc (I) (L)   _ _ _ _ hf
set_option maxRecDepth 100000 in
set_option maxHeartbeats 4000000 in
theorem c_J6_bitCount_0f7a4 {lay : List z_Sh} {I : z_I} {L : z_L} (p0 : Int32)  : z_C lay yJ6_bitCount_0f7a4 cJ6_bitCount_0f7a4 1 (some .int) ({ frames := 0, cells := 0, slots := 0, locals := 0 } : Room) [.int p0] I L (some (.int (f_J6_bitCount_0f7a4 p0)), I, L) := by
  obtain ⟨r, hf⟩ : ∃ r, f_J6_bitCount_0f7a4 p0 = r := ⟨_, rfl⟩
  rw [hf]
  refine z_C.of (by decide) (Nat.le_of_ble_eq_true rfl) ?_
  show z_X lay RJ6 cJ6_bitCount_0f7a4 1 (some .int) ({ frames := 0, cells := 0, slots := 0, locals := 0 } : Room) 0 [(0, .int p0)] [] I L (some (.int r), I, L)
  unfold f_J6_bitCount_0f7a4 at hf
  refine x_iload_n 0 dJ6_bitCount_0f7a4_0 rfl rfl ?_
  refine x_iload_n 0 dJ6_bitCount_0f7a4_1 rfl rfl ?_
  refine x_iconst (v := (1)) dJ6_bitCount_0f7a4_2 (by decide) ?_
  refine x_iushr dJ6_bitCount_0f7a4_3 ?_
  refine x_ldcw (v := (1431655765)) dJ6_bitCount_0f7a4_4 kc_J6_265 ?_
  refine x_iand dJ6_bitCount_0f7a4_7 ?_
  refine x_isub dJ6_bitCount_0f7a4_8 ?_
  obtain ⟨w1, hw1, hf⟩ := f_lt hf
  refine x_topI hw1 ?_
  refine x_istore_n [(0, .int w1)] dJ6_bitCount_0f7a4_9 rfl (by decide) rfl ?_
  refine x_iload_n 0 dJ6_bitCount_0f7a4_10 rfl rfl ?_
  refine x_ldcw (v := (858993459)) dJ6_bitCount_0f7a4_11 kc_J6_266 ?_
  refine x_iand dJ6_bitCount_0f7a4_14 ?_
  refine x_iload_n 0 dJ6_bitCount_0f7a4_15 rfl rfl ?_
  refine x_iconst (v := (2)) dJ6_bitCount_0f7a4_16 (by decide) ?_
  refine x_iushr dJ6_bitCount_0f7a4_17 ?_
  refine x_ldcw (v := (858993459)) dJ6_bitCount_0f7a4_18 kc_J6_266 ?_
  refine x_iand dJ6_bitCount_0f7a4_21 ?_
  refine x_iadd dJ6_bitCount_0f7a4_22 ?_
  obtain ⟨w2, hw2, hf⟩ := f_lt hf
  refine x_topI hw2 ?_
  refine x_istore_n [(0, .int w2)] dJ6_bitCount_0f7a4_23 rfl (by decide) rfl ?_
  refine x_iload_n 0 dJ6_bitCount_0f7a4_24 rfl rfl ?_
  refine x_iload_n 0 dJ6_bitCount_0f7a4_25 rfl rfl ?_
  refine x_iconst (v := (4)) dJ6_bitCount_0f7a4_26 (by decide) ?_
  refine x_iushr dJ6_bitCount_0f7a4_27 ?_
  refine x_iadd dJ6_bitCount_0f7a4_28 ?_
  refine x_ldcw (v := (252645135)) dJ6_bitCount_0f7a4_29 kc_J6_267 ?_
  refine x_iand dJ6_bitCount_0f7a4_32 ?_
  obtain ⟨w3, hw3, hf⟩ := f_lt hf
  refine x_topI hw3 ?_
  refine x_istore_n [(0, .int w3)] dJ6_bitCount_0f7a4_33 rfl (by decide) rfl ?_
  refine x_iload_n 0 dJ6_bitCount_0f7a4_34 rfl rfl ?_
  refine x_iload_n 0 dJ6_bitCount_0f7a4_35 rfl rfl ?_
  refine x_bipush (v := (8)) dJ6_bitCount_0f7a4_36 (by decide) ?_
  refine x_iushr dJ6_bitCount_0f7a4_38 ?_
  refine x_iadd dJ6_bitCount_0f7a4_39 ?_
  obtain ⟨w4, hw4, hf⟩ := f_lt hf
  refine x_topI hw4 ?_
  refine x_istore_n [(0, .int w4)] dJ6_bitCount_0f7a4_40 rfl (by decide) rfl ?_
  refine x_iload_n 0 dJ6_bitCount_0f7a4_41 rfl rfl ?_
  refine x_iload_n 0 dJ6_bitCount_0f7a4_42 rfl rfl ?_
  refine x_bipush (v := (16)) dJ6_bitCount_0f7a4_43 (by decide) ?_
  refine x_iushr dJ6_bitCount_0f7a4_45 ?_
  refine x_iadd dJ6_bitCount_0f7a4_46 ?_
  obtain ⟨w5, hw5, hf⟩ := f_lt hf
  refine x_topI hw5 ?_
  refine x_istore_n [(0, .int w5)] dJ6_bitCount_0f7a4_47 rfl (by decide) rfl ?_
  refine x_iload_n 0 dJ6_bitCount_0f7a4_48 rfl rfl ?_
  refine x_bipush (v := (63)) dJ6_bitCount_0f7a4_49 (by decide) ?_
  refine x_iand dJ6_bitCount_0f7a4_51 ?_
  subst hf
  exact x_iret dJ6_bitCount_0f7a4_52 rfl rfl
set_option maxRecDepth 100000 in
set_option maxHeartbeats 4000000 in
theorem l_X0_yieldUnder_18 (c : Nat) (hc : z_ct c) (v1 : Int32) (v2 : Int32) (I : z_I) (L : z_L) {r : Int32}  : ∀ (n : Nat) (v3 : Int32) (v4 : Int32) (v5 : Int32), g_X0_yieldUnder_18 c v1 v2 I  n v3 v4 v5 = some r → z_X layX RX0 cX0_yieldUnder 8 (some .int) ({ frames := 1, cells := 0, slots := 0, locals := 28 } : Room) 18 [(0, .ref c), (1, .int v1), (2, .int v2), (3, .int v3), (4, .int v4), (5, .int v5)] [] I L (some (.int r), I, L) := by
  intro n
  induction n with
  | zero => intro v3 v4 v5 hf; cases hf
  | succ n ih =>
    intro v3 v4 v5 hf
    rw [g_X0_yieldUnder_18] at hf
    refine x_iload 5 dX0_yieldUnder_18 rfl ?_
    refine x_aload_n 0 dX0_yieldUnder_20 rfl rfl ?_
    refine x_getI (v := (I c 11)) dX0_yieldUnder_21 hc.1 fl_X0_50 rfl rfl ?_
    refine x_icmp_ge 89 dX0_yieldUnder_24 (by decide) (fun hB => ?_) (fun hB => ?_)
    · replace hf := f_if hB hf
      refine x_iconst (v := (3)) dX0_yieldUnder_89 (by decide) ?_
      refine x_iload_n 3 dX0_yieldUnder_90 rfl rfl ?_
      refine x_imul dX0_yieldUnder_91 ?_
      cases hf
      exact x_iret dX0_yieldUnder_92 rfl rfl
    · replace hf := f_el hB hf
      refine x_iload 4 dX0_yieldUnder_27 rfl ?_
      refine x_iconst (v := (1)) dX0_yieldUnder_29 (by decide) ?_
      refine x_iload 5 dX0_yieldUnder_30 rfl ?_
      refine x_ishl dX0_yieldUnder_32 ?_
      refine x_iand dX0_yieldUnder_33 ?_
      refine x_if_ne 83 dX0_yieldUnder_34 (by decide) (fun hB => ?_) (fun hB => ?_)
      · replace hf := f_el hB hf
        refine x_iinc 5 [(5, .int (v5 + (1 : Int32))), (0, .ref c), (1, .int v1), (2, .int v2), (3, .int v3), (4, .int v4)] dX0_yieldUnder_83 rfl rfl (by decide) rfl ?_
        refine x_goto 18 dX0_yieldUnder_86 (by decide) ?_
        refine x_lv [(0, .ref c), (1, .int v1), (2, .int v2), (3, .int v3), (4, .int v4), (5, .int (v5 + (1 : Int32)))] [1, 2, 3, 4, 5, 0] rfl ?_
        exact ih _ _ _ hf
      · replace hf := f_if hB hf
        refine x_aload_n 0 dX0_yieldUnder_37 rfl rfl ?_
        refine x_iload_n 1 dX0_yieldUnder_38 rfl rfl ?_
        refine x_iload 5 dX0_yieldUnder_39 rfl ?_
        obtain ⟨q1, hq2, hf⟩ := f_bd hf
        refine x_callVi [.int v1, .int v5] (c_X0_partUnder (I := I) (L := L) hc hq2) dX0_yieldUnder_41 lk_X0_79 hc.1 rfl cd_X0_partUnder rfl rfl (Nat.le_of_ble_eq_true rfl) ⟨rfl, rfl, Nat.le_of_ble_eq_true rfl, Nat.le_of_ble_eq_true rfl⟩ ?_
        refine x_istore [(6, .int q1), (0, .ref c), (1, .int v1), (2, .int v2), (3, .int v3), (4, .int v4), (5, .int v5)] dX0_yieldUnder_44 (by decide) rfl ?_
        refine x_iload 0 dX0_yieldUnder_46 rfl ?_
        refine x_aload_n 1 dX0_yieldUnder_48 rfl rfl ?_
        refine x_getR dX0_yieldUnder_49 hc.1 fl_X0_27 rfl ?_
        refine x_iload_n 3 dX0_yieldUnder_52 rfl rfl ?_
        obtain ⟨h3, hf⟩ := f_gd hf
        refine x_iald (j := (v2).toNatClampNeg) (v := (I (c + 6) (v2).toNatClampNeg)) dX0_yieldUnder_53 hc.2.2.2.2.2.2.1 h3 rfl rfl ?_
        refine x_iand dX0_yieldUnder_54 ?_
        refine x_callSi [.int (q1 &&& (I (c + 6) (v2).toNatClampNeg))] (c_J6_bitCount_0f7a4 (lay := layX) (I := I) (L := L) (q1 &&& (I (c + 6) (v2).toNatClampNeg))) dX0_yieldUnder_55 lk_X0_83 cd_J6_bitCount_0f7a4 rfl rfl (Nat.le_of_ble_eq_true rfl) ⟨rfl, rfl, Nat.le_of_ble_eq_true rfl, Nat.le_of_ble_eq_true rfl⟩ ?_
        obtain ⟨w4, hw4, hf⟩ := f_lt hf
        refine x_topI hw4 ?_
        refine x_istore [(7, .int w4), (6, .int q1), (0, .ref c), (1, .int v1), (2, .int v2), (3, .int v3), (4, .int v4), (5, .int v5)] dX0_yieldUnder_58 (by decide) rfl ?_
        refine x_iload_n 5 dX0_yieldUnder_60 rfl rfl ?_
        refine x_iload 0 dX0_yieldUnder_61 rfl ?_
        refine x_iload 1 dX0_yieldUnder_63 rfl ?_
        refine x_callSi [.int q1] (c_J6_bitCount_0f7a4 (lay := layX) (I := I) (L := L) q1) dX0_yieldUnder_65 lk_X0_83 cd_J6_bitCount_0f7a4 rfl rfl (Nat.le_of_ble_eq_true rfl) ⟨rfl, rfl, Nat.le_of_ble_eq_true rfl, Nat.le_of_ble_eq_true rfl⟩ ?_
        refine x_iload 0 dX0_yieldUnder_68 rfl ?_
        refine x_isub dX0_yieldUnder_70 ?_
        refine x_mmin dX0_yieldUnder_71 lk_X0_89 ⟨Nat.le_of_ble_eq_true rfl, Nat.le_of_ble_eq_true rfl⟩ ?_
        refine x_iadd dX0_yieldUnder_74 ?_
        obtain ⟨w5, hw5, hf⟩ := f_lt hf
        refine x_topI hw5 ?_
        refine x_istore_n [(3, .int w5), (7, .int w4), (6, .int q1), (0, .ref c), (1, .int v1), (2, .int v2), (4, .int v4), (5, .int v5)] dX0_yieldUnder_75 rfl (by decide) rfl ?_
        refine x_iload 6 dX0_yieldUnder_76 rfl ?_
        refine x_iload 2 dX0_yieldUnder_78 rfl ?_
        refine x_ior dX0_yieldUnder_80 ?_
        refine x_istore [(4, .int (v4 ||| q1)), (3, .int w5), (7, .int w4), (6, .int q1), (0, .ref c), (1, .int v1), (2, .int v2), (5, .int v5)] dX0_yieldUnder_81 (by decide) rfl ?_
        refine x_iinc 7 [(5, .int (v5 + (1 : Int32))), (4, .int (v4 ||| q1)), (3, .int w5), (7, .int w4), (6, .int q1), (0, .ref c), (1, .int v1), (2, .int v2)] dX0_yieldUnder_83 rfl rfl (by decide) rfl ?_
        refine x_goto 18 dX0_yieldUnder_86 (by decide) ?_
        refine x_lv [(0, .ref c), (1, .int v1), (2, .int v2), (3, .int w5), (4, .int (v4 ||| q1)), (5, .int (v5 + (1 : Int32)))] [5, 6, 7, 2, 1, 0] rfl ?_
        exact ih _ _ _ hf
set_option maxRecDepth 100000 in
set_option maxHeartbeats 4000000 in
theorem c_X0_yieldUnder {I : z_I} {L : z_L} {c : Nat} {p0 : Int32} {p1 : Int32} (hc : z_ct c) {r : Int32} (hf : f_X0_yieldUnder I c p0 p1 = some r) : z_C layX yX0_yieldUnder cX0_yieldUnder 8 (some .int) ({ frames := 1, cells := 0, slots := 0, locals := 28 } : Room) [.ref c, .int p0, .int p1] I L (some (.int r), I, L) := by
  refine z_C.of (by decide) (Nat.le_of_ble_eq_true rfl) ?_
  show z_X layX RX0 cX0_yieldUnder 8 (some .int) ({ frames := 1, cells := 0, slots := 0, locals := 28 } : Room) 0 [(0, .ref c), (1, .int p0), (2, .int p1)] [] I L (some (.int r), I, L)
  unfold f_X0_yieldUnder at hf
  refine x_iload_n 1 dX0_yieldUnder_0 rfl rfl ?_
  refine x_iconst (v := (1)) dX0_yieldUnder_1 (by decide) ?_
  refine x_iload_n 2 dX0_yieldUnder_2 rfl rfl ?_
  refine x_ishl dX0_yieldUnder_3 ?_
  refine x_iand dX0_yieldUnder_4 ?_
  refine x_if_eq 10 dX0_yieldUnder_5 (by decide) (fun hB => ?_) (fun hB => ?_)
  · replace hf := f_if hB hf
    refine x_iconst (v := (0)) dX0_yieldUnder_10 (by decide) ?_
    refine x_istore_n [(3, .int (0 : Int32)), (0, .ref c), (1, .int p0), (2, .int p1)] dX0_yieldUnder_11 rfl (by decide) rfl ?_
    refine x_iconst (v := (0)) dX0_yieldUnder_12 (by decide) ?_
    refine x_istore [(4, .int (0 : Int32)), (3, .int (0 : Int32)), (0, .ref c), (1, .int p0), (2, .int p1)] dX0_yieldUnder_13 (by decide) rfl ?_
    refine x_iconst (v := (0)) dX0_yieldUnder_15 (by decide) ?_
    refine x_istore [(5, .int (0 : Int32)), (4, .int (0 : Int32)), (3, .int (0 : Int32)), (0, .ref c), (1, .int p0), (2, .int p1)] dX0_yieldUnder_16 (by decide) rfl ?_
    refine x_lv [(0, .ref c), (1, .int p0), (2, .int p1), (3, .int (0 : Int32)), (4, .int (0 : Int32)), (5, .int (0 : Int32))] [3, 4, 5, 2, 1, 0] rfl ?_
    refine l_X0_yieldUnder_18 c hc p0 p1 (I) (L)   _ _ _ _ hf
  · replace hf := f_el hB hf
    refine x_iconst (v := (0)) dX0_yieldUnder_8 (by decide) ?_
    cases hf
    exact x_iret dX0_yieldUnder_9 rfl rfl
set_option maxRecDepth 100000 in
set_option maxHeartbeats 4000000 in
theorem l_X0_partedBy_5 (c : Nat) (hc : z_ct c) (v1 : Int32) (v2 : Int32) (I : z_I) (L : z_L) {r : Int32}  : ∀ (n : Nat) (v3 : Int32) (v4 : Int32), g_X0_partedBy_5 c v1 v2 I  n v3 v4 = some r → z_X layX RX0 cX0_partedBy 5 (some .int) ({ frames := 0, cells := 0, slots := 0, locals := 0 } : Room) 5 [(0, .ref c), (1, .int v1), (2, .int v2), (3, .int v3), (4, .int v4)] [] I L (some (.int r), I, L) := by
  intro n
  induction n with
  | zero => intro v3 v4 hf; cases hf
  | succ n ih =>
    intro v3 v4 hf
    rw [g_X0_partedBy_5] at hf
    refine x_iload 4 dX0_partedBy_5 rfl ?_
    refine x_aload_n 0 dX0_partedBy_7 rfl rfl ?_
    refine x_getI (v := (I c 12)) dX0_partedBy_8 hc.1 fl_X0_53 rfl rfl ?_
    refine x_icmp_ge 52 dX0_partedBy_11 (by decide) (fun hB => ?_) (fun hB => ?_)
    · replace hf := f_if hB hf
      refine x_iload_n 3 dX0_partedBy_52 rfl rfl ?_
      cases hf
      exact x_iret dX0_partedBy_53 rfl rfl
    · replace hf := f_el hB hf
      refine x_aload_n 0 dX0_partedBy_14 rfl rfl ?_
      refine x_getR dX0_partedBy_15 hc.1 fl_X0_27 rfl ?_
      refine x_iload 4 dX0_partedBy_18 rfl ?_
      obtain ⟨h1, hf⟩ := f_gd hf
      refine x_iald (j := (v4).toNatClampNeg) (v := (I (c + 6) (v4).toNatClampNeg)) dX0_partedBy_20 hc.2.2.2.2.2.2.1 h1 rfl rfl ?_
      refine x_iload_n 1 dX0_partedBy_21 rfl rfl ?_
      refine x_ishr dX0_partedBy_22 ?_
      refine x_iconst (v := (1)) dX0_partedBy_23 (by decide) ?_
      refine x_iand dX0_partedBy_24 ?_
      refine x_aload_n 0 dX0_partedBy_25 rfl rfl ?_
      refine x_getR dX0_partedBy_26 hc.1 fl_X0_27 rfl ?_
      refine x_iload 4 dX0_partedBy_29 rfl ?_
      refine x_iald (j := (v4).toNatClampNeg) (v := (I (c + 6) (v4).toNatClampNeg)) dX0_partedBy_31 hc.2.2.2.2.2.2.1 h1 rfl rfl ?_
      refine x_iload_n 2 dX0_partedBy_32 rfl rfl ?_
      refine x_ishr dX0_partedBy_33 ?_
      refine x_iconst (v := (1)) dX0_partedBy_34 (by decide) ?_
      refine x_iand dX0_partedBy_35 ?_
      refine x_icmp_eq 46 dX0_partedBy_36 (by decide) (fun hB => ?_) (fun hB => ?_)
      · replace hf := f_if hB hf
        refine x_iinc 4 [(4, .int (v4 + (1 : Int32))), (0, .ref c), (1, .int v1), (2, .int v2), (3, .int v3)] dX0_partedBy_46 rfl rfl (by decide) rfl ?_
        refine x_goto 5 dX0_partedBy_49 (by decide) ?_
        refine x_lv [(0, .ref c), (1, .int v1), (2, .int v2), (3, .int v3), (4, .int (v4 + (1 : Int32)))] [1, 2, 3, 4, 0] rfl ?_
        exact ih _ _ hf
      · replace hf := f_el hB hf
        refine x_iload_n 3 dX0_partedBy_39 rfl rfl ?_
        refine x_iconst (v := (1)) dX0_partedBy_40 (by decide) ?_
        refine x_iload 4 dX0_partedBy_41 rfl ?_
        refine x_ishl dX0_partedBy_43 ?_
        refine x_ior dX0_partedBy_44 ?_
        refine x_istore_n [(3, .int (v3 ||| ((1 : Int32) <<< (v4 &&& 31)))), (0, .ref c), (1, .int v1), (2, .int v2), (4, .int v4)] dX0_partedBy_45 rfl (by decide) rfl ?_
        refine x_iinc 4 [(4, .int (v4 + (1 : Int32))), (3, .int (v3 ||| ((1 : Int32) <<< (v4 &&& 31)))), (0, .ref c), (1, .int v1), (2, .int v2)] dX0_partedBy_46 rfl rfl (by decide) rfl ?_
        refine x_goto 5 dX0_partedBy_49 (by decide) ?_
        refine x_lv [(0, .ref c), (1, .int v1), (2, .int v2), (3, .int (v3 ||| ((1 : Int32) <<< (v4 &&& 31)))), (4, .int (v4 + (1 : Int32)))] [2, 3, 4, 1, 0] rfl ?_
        exact ih _ _ hf
set_option maxRecDepth 100000 in
set_option maxHeartbeats 4000000 in
theorem c_X0_partedBy {I : z_I} {L : z_L} {c : Nat} {p0 : Int32} {p1 : Int32} (hc : z_ct c) {r : Int32} (hf : f_X0_partedBy I c p0 p1 = some r) : z_C layX yX0_partedBy cX0_partedBy 5 (some .int) ({ frames := 0, cells := 0, slots := 0, locals := 0 } : Room) [.ref c, .int p0, .int p1] I L (some (.int r), I, L) := by
  refine z_C.of (by decide) (Nat.le_of_ble_eq_true rfl) ?_
  show z_X layX RX0 cX0_partedBy 5 (some .int) ({ frames := 0, cells := 0, slots := 0, locals := 0 } : Room) 0 [(0, .ref c), (1, .int p0), (2, .int p1)] [] I L (some (.int r), I, L)
  unfold f_X0_partedBy at hf
  refine x_iconst (v := (0)) dX0_partedBy_0 (by decide) ?_
  refine x_istore_n [(3, .int (0 : Int32)), (0, .ref c), (1, .int p0), (2, .int p1)] dX0_partedBy_1 rfl (by decide) rfl ?_
  refine x_iconst (v := (0)) dX0_partedBy_2 (by decide) ?_
  refine x_istore [(4, .int (0 : Int32)), (3, .int (0 : Int32)), (0, .ref c), (1, .int p0), (2, .int p1)] dX0_partedBy_3 (by decide) rfl ?_
  refine x_lv [(0, .ref c), (1, .int p0), (2, .int p1), (3, .int (0 : Int32)), (4, .int (0 : Int32))] [2, 3, 4, 1, 0] rfl ?_
  refine l_X0_partedBy_5 c hc p0 p1 (I) (L)   _ _ _ hf
set_option maxRecDepth 100000 in
set_option maxHeartbeats 4000000 in
theorem l_X0_isPartedWhole_2 (c : Nat) (hc : z_ct c) (v1 : Int32) (v2 : Int32) (I : z_I) (L : z_L) {r : Bool}  : ∀ (n : Nat) (v3 : Int32), g_X0_isPartedWhole_2 c v1 v2 I  n v3 = some r → z_X layX RX0 cX0_isPartedWhole 5 (some .boolean) ({ frames := 1, cells := 0, slots := 0, locals := 25 } : Room) 2 [(0, .ref c), (1, .int v1), (2, .int v2), (3, .int v3)] [] I L (some (.int (zb r)), I, L) := by
  intro n
  induction n with
  | zero => intro v3 hf; cases hf
  | succ n ih =>
    intro v3 hf
    rw [g_X0_isPartedWhole_2] at hf
    refine x_iload_n 3 dX0_isPartedWhole_2 rfl rfl ?_
    refine x_aload_n 0 dX0_isPartedWhole_3 rfl rfl ?_
    refine x_getI (v := (I c 11)) dX0_isPartedWhole_4 hc.1 fl_X0_50 rfl rfl ?_
    refine x_icmp_ge 44 dX0_isPartedWhole_7 (by decide) (fun hB => ?_) (fun hB => ?_)
    · replace hf := f_if hB hf
      refine x_iconst (v := (1)) dX0_isPartedWhole_44 (by decide) ?_
      cases hf
      exact x_zret (b := true) dX0_isPartedWhole_45 rfl rfl
    · replace hf := f_el hB hf
      refine x_aload_n 0 dX0_isPartedWhole_10 rfl rfl ?_
      refine x_iload_n 2 dX0_isPartedWhole_11 rfl rfl ?_
      refine x_iload_n 3 dX0_isPartedWhole_12 rfl rfl ?_
      obtain ⟨q1, hq2, hf⟩ := f_bd hf
      refine x_callVi [.int v2, .int v3] (c_X0_partUnder (I := I) (L := L) hc hq2) dX0_isPartedWhole_13 lk_X0_79 hc.1 rfl cd_X0_partUnder rfl rfl (Nat.le_of_ble_eq_true rfl) ⟨rfl, rfl, Nat.le_of_ble_eq_true rfl, Nat.le_of_ble_eq_true rfl⟩ ?_
      refine x_iload_n 1 dX0_isPartedWhole_16 rfl rfl ?_
      refine x_iand dX0_isPartedWhole_17 ?_
      refine x_istore [(4, .int (q1 &&& v1)), (0, .ref c), (1, .int v1), (2, .int v2), (3, .int v3)] dX0_isPartedWhole_18 (by decide) rfl ?_
      refine x_iload_n 2 dX0_isPartedWhole_20 rfl rfl ?_
      refine x_iconst (v := (1)) dX0_isPartedWhole_21 (by decide) ?_
      refine x_iload_n 4 dX0_isPartedWhole_22 rfl rfl ?_
      refine x_ishl dX0_isPartedWhole_23 ?_
      refine x_iand dX0_isPartedWhole_24 ?_
      refine x_if_eq 38 dX0_isPartedWhole_25 (by decide) (fun hB => ?_) (fun hB => ?_)
      · replace hf := f_if hB hf
        refine x_iinc 4 [(3, .int (v3 + (1 : Int32))), (4, .int (q1 &&& v1)), (0, .ref c), (1, .int v1), (2, .int v2)] dX0_isPartedWhole_38 rfl rfl (by decide) rfl ?_
        refine x_goto 2 dX0_isPartedWhole_41 (by decide) ?_
        refine x_lv [(0, .ref c), (1, .int v1), (2, .int v2), (3, .int (v3 + (1 : Int32)))] [2, 3, 4, 0] rfl ?_
        exact ih _ hf
      · replace hf := f_el hB hf
        refine x_iload 0 dX0_isPartedWhole_28 rfl ?_
        refine x_iconst (v := (1)) dX0_isPartedWhole_30 (by decide) ?_
        refine x_iload_n 4 dX0_isPartedWhole_31 rfl rfl ?_
        refine x_ishl dX0_isPartedWhole_32 ?_
        refine x_icmp_eq 38 dX0_isPartedWhole_33 (by decide) (fun hB => ?_) (fun hB => ?_)
        · replace hf := f_if hB hf
          refine x_iinc 4 [(3, .int (v3 + (1 : Int32))), (4, .int (q1 &&& v1)), (0, .ref c), (1, .int v1), (2, .int v2)] dX0_isPartedWhole_38 rfl rfl (by decide) rfl ?_
          refine x_goto 2 dX0_isPartedWhole_41 (by decide) ?_
          refine x_lv [(0, .ref c), (1, .int v1), (2, .int v2), (3, .int (v3 + (1 : Int32)))] [2, 3, 4, 0] rfl ?_
          exact ih _ hf
        · replace hf := f_el hB hf
          refine x_iconst (v := (0)) dX0_isPartedWhole_36 (by decide) ?_
          cases hf
          exact x_zret (b := false) dX0_isPartedWhole_37 rfl rfl
set_option maxRecDepth 100000 in
set_option maxHeartbeats 4000000 in
theorem c_X0_isPartedWhole {I : z_I} {L : z_L} {c : Nat} {p0 : Int32} {p1 : Int32} (hc : z_ct c) {r : Bool} (hf : f_X0_isPartedWhole I c p0 p1 = some r) : z_C layX yX0_isPartedWhole cX0_isPartedWhole 5 (some .boolean) ({ frames := 1, cells := 0, slots := 0, locals := 25 } : Room) [.ref c, .int p0, .int p1] I L (some (.int (zb r)), I, L) := by
  refine z_C.of (by decide) (Nat.le_of_ble_eq_true rfl) ?_
  show z_X layX RX0 cX0_isPartedWhole 5 (some .boolean) ({ frames := 1, cells := 0, slots := 0, locals := 25 } : Room) 0 [(0, .ref c), (1, .int p0), (2, .int p1)] [] I L (some (.int (zb r)), I, L)
  unfold f_X0_isPartedWhole at hf
  refine x_iconst (v := (0)) dX0_isPartedWhole_0 (by decide) ?_
  refine x_istore_n [(3, .int (0 : Int32)), (0, .ref c), (1, .int p0), (2, .int p1)] dX0_isPartedWhole_1 rfl (by decide) rfl ?_
  refine x_lv [(0, .ref c), (1, .int p0), (2, .int p1), (3, .int (0 : Int32))] [1, 2, 3, 0] rfl ?_
  refine l_X0_isPartedWhole_2 c hc p0 p1 (I) (L)   _ _ hf
set_option maxRecDepth 100000 in
set_option maxHeartbeats 4000000 in
theorem c_X0_putForward {I : z_I} {L : z_L} {c : Nat} {p0 : Int32} (hc : z_ct c) {r : Int32 × z_I} (hf : f_X0_putForward I c p0 = some r) : z_C layX yX0_putForward cX0_putForward 4 (some .int) ({ frames := 2, cells := 0, slots := 0, locals := 55 } : Room) [.ref c, .int p0] I L (some (.int r.1), r.2, L) := by
  refine z_C.of (by decide) (Nat.le_of_ble_eq_true rfl) ?_
  show z_X layX RX0 cX0_putForward 4 (some .int) ({ frames := 2, cells := 0, slots := 0, locals := 55 } : Room) 0 [(0, .ref c), (1, .int p0)] [] I L (some (.int r.1), r.2, L)
  unfold f_X0_putForward at hf
  refine x_aload_n 0 dX0_putForward_0 rfl rfl ?_
  refine x_aload_n 0 dX0_putForward_1 rfl rfl ?_
  refine x_getI (v := (I c 16)) dX0_putForward_2 hc.1 fl_X0_62 rfl rfl ?_
  refine x_iload_n 1 dX0_putForward_5 rfl rfl ?_
  obtain ⟨q1, hq2, hf⟩ := f_bd hf
  refine x_callVi [.int (I c 16), .int p0] (c_X0_yieldUnder (I := I) (L := L) hc hq2) dX0_putForward_6 lk_X0_94 hc.1 rfl cd_X0_yieldUnder rfl rfl (Nat.le_of_ble_eq_true rfl) ⟨rfl, rfl, Nat.le_of_ble_eq_true rfl, Nat.le_of_ble_eq_true rfl⟩ ?_
  refine x_istore_n [(2, .int q1), (0, .ref c), (1, .int p0)] dX0_putForward_9 rfl (by decide) rfl ?_
  refine x_aload_n 1 dX0_putForward_10 rfl rfl ?_
  refine x_getR dX0_putForward_11 hc.1 fl_X0_21 rfl ?_
  refine x_iload_n 2 dX0_putForward_14 rfl rfl ?_
  obtain ⟨h3, hf⟩ := f_gd hf
  refine x_iald (j := (p0).toNatClampNeg) (v := (I (c + 4) (p0).toNatClampNeg)) dX0_putForward_15 hc.2.2.2.2.1 h3 rfl rfl ?_
  refine x_istore_n [(3, .int (I (c + 4) (p0).toNatClampNeg)), (2, .int q1), (0, .ref c), (1, .int p0)] dX0_putForward_16 rfl (by decide) rfl ?_
  refine x_aload_n 2 dX0_putForward_17 rfl rfl ?_
  refine x_dup dX0_putForward_18 rfl ?_
  refine x_getI (v := (I c 16)) dX0_putForward_19 hc.1 fl_X0_62 rfl rfl ?_
  refine x_iconst (v := (1)) dX0_putForward_22 (by decide) ?_
  refine x_iload_n 3 dX0_putForward_23 rfl rfl ?_
  refine x_ishl dX0_putForward_24 ?_
  refine x_ior dX0_putForward_25 ?_
  obtain ⟨I4, hI4, hf⟩ := f_lt hf
  refine x_putI dX0_putForward_26 hc.1 fl_X0_62 rfl rfl rfl hI4 ?_
  refine x_aload_n 2 dX0_putForward_29 rfl rfl ?_
  refine x_getR dX0_putForward_30 hc.1 fl_X0_9 rfl ?_
  refine x_iload_n 0 dX0_putForward_33 rfl rfl ?_
  refine x_sipush (v := (9999)) dX0_putForward_34 (by decide) ?_
  refine x_aload_n 2 dX0_putForward_37 rfl rfl ?_
  refine x_getR dX0_putForward_38 hc.1 fl_X0_9 rfl ?_
  refine x_iload_n 0 dX0_putForward_41 rfl rfl ?_
  obtain ⟨h5, hf⟩ := f_gd hf
  refine x_iald (j := ((I (c + 4) (p0).toNatClampNeg)).toNatClampNeg) (v := (I (c + 1) ((I (c + 4) (p0).toNatClampNeg)).toNatClampNeg)) dX0_putForward_42 hc.2.1 h5 rfl (by rw [hI4, z2_o (by omega)]) ?_
  refine x_iload_n 1 dX0_putForward_43 rfl rfl ?_
  refine x_iadd dX0_putForward_44 ?_
  refine x_mmin dX0_putForward_45 lk_X0_89 ⟨Nat.le_of_ble_eq_true rfl, Nat.le_of_ble_eq_true rfl⟩ ?_
  obtain ⟨I7, hI7, hf⟩ := f_lt hf
  refine x_iast (j0 := ((I (c + 4) (p0).toNatClampNeg)).toNatClampNeg) dX0_putForward_48 hc.2.1 h5 rfl hI7 ?_
  refine x_iload_n 1 dX0_putForward_49 rfl rfl ?_
  cases hf
  exact x_iret dX0_putForward_50 rfl rfl
set_option maxRecDepth 100000 in
set_option maxHeartbeats 4000000 in
theorem c_X0_harvest {I : z_I} {L : z_L} {c : Nat} {p0 : Int32} (hc : z_ct c) {r : Int32 × z_I} (hf : f_X0_harvest I c p0 = some r) : z_C layX yX0_harvest cX0_harvest 4 (some .int) ({ frames := 1, cells := 0, slots := 0, locals := 28 } : Room) [.ref c, .int p0] I L (some (.int r.1), r.2, L) := by
  refine z_C.of (by decide) (Nat.le_of_ble_eq_true rfl) ?_
  show z_X layX RX0 cX0_harvest 4 (some .int) ({ frames := 1, cells := 0, slots := 0, locals := 28 } : Room) 0 [(0, .ref c), (1, .int p0)] [] I L (some (.int r.1), r.2, L)
  unfold f_X0_harvest at hf
  refine x_aload_n 0 dX0_harvest_0 rfl rfl ?_
  refine x_getR dX0_harvest_1 hc.1 fl_X0_34 rfl ?_
  refine x_iload_n 1 dX0_harvest_4 rfl rfl ?_
  obtain ⟨h1, hf⟩ := f_gd hf
  refine x_iald (j := (p0).toNatClampNeg) (v := (I (c + 8) (p0).toNatClampNeg)) dX0_harvest_5 hc.2.2.2.2.2.2.2.2.1 h1 rfl rfl ?_
  refine x_istore_n [(2, .int (I (c + 8) (p0).toNatClampNeg)), (0, .ref c), (1, .int p0)] dX0_harvest_6 rfl (by decide) rfl ?_
  refine x_aload_n 1 dX0_harvest_7 rfl rfl ?_
  refine x_getR dX0_harvest_8 hc.1 fl_X0_9 rfl ?_
  refine x_iload_n 0 dX0_harvest_11 rfl rfl ?_
  obtain ⟨h2, hf⟩ := f_gd hf
  refine x_iald (j := ((I (c + 8) (p0).toNatClampNeg)).toNatClampNeg) (v := (I (c + 1) ((I (c + 8) (p0).toNatClampNeg)).toNatClampNeg)) dX0_harvest_12 hc.2.1 h2 rfl rfl ?_
  obtain ⟨w3, hw3, hf⟩ := f_lt hf
  refine x_topI hw3 ?_
  refine x_istore_n [(3, .int w3), (2, .int (I (c + 8) (p0).toNatClampNeg)), (0, .ref c), (1, .int p0)] dX0_harvest_13 rfl (by decide) rfl ?_
  refine x_aload_n 2 dX0_harvest_14 rfl rfl ?_
  refine x_getR dX0_harvest_15 hc.1 fl_X0_9 rfl ?_
  refine x_iload_n 1 dX0_harvest_18 rfl rfl ?_
  refine x_iconst (v := (0)) dX0_harvest_19 (by decide) ?_
  obtain ⟨I5, hI5, hf⟩ := f_lt hf
  refine x_iast (j0 := ((I (c + 8) (p0).toNatClampNeg)).toNatClampNeg) dX0_harvest_20 hc.2.1 h2 rfl hI5 ?_
  refine x_aload_n 2 dX0_harvest_21 rfl rfl ?_
  refine x_getR dX0_harvest_22 hc.1 fl_X0_37 rfl ?_
  refine x_iload_n 3 dX0_harvest_25 rfl rfl ?_
  refine x_sipush (v := (9999)) dX0_harvest_26 (by decide) ?_
  refine x_aload_n 2 dX0_harvest_29 rfl rfl ?_
  refine x_getR dX0_harvest_30 hc.1 fl_X0_37 rfl ?_
  refine x_iload_n 3 dX0_harvest_33 rfl rfl ?_
  refine x_iald (j := (p0).toNatClampNeg) (v := (I (c + 9) (p0).toNatClampNeg)) dX0_harvest_34 hc.2.2.2.2.2.2.2.2.2.1 h1 rfl (by rw [hI5, z2_o (by omega)]) ?_
  refine x_iload_n 0 dX0_harvest_35 rfl rfl ?_
  refine x_iadd dX0_harvest_36 ?_
  refine x_mmin dX0_harvest_37 lk_X0_89 ⟨Nat.le_of_ble_eq_true rfl, Nat.le_of_ble_eq_true rfl⟩ ?_
  obtain ⟨I8, hI8, hf⟩ := f_lt hf
  refine x_iast (j0 := (p0).toNatClampNeg) dX0_harvest_40 hc.2.2.2.2.2.2.2.2.2.1 h1 rfl hI8 ?_
  refine x_iload_n 0 dX0_harvest_41 rfl rfl ?_
  cases hf
  exact x_iret dX0_harvest_42 rfl rfl
set_option maxRecDepth 100000 in
set_option maxHeartbeats 4000000 in
theorem l_X0_passNights_26 (c : Nat) (hc : z_ct c) (v1 : Int32) (L : z_L) {r : Bool × z_I}  : ∀ (n : Nat) (v2 : Int32) (I : z_I), g_X0_passNights_26 c v1  n v2 I = some r → z_X layX RX0 cX0_passNights 4 (some .boolean) ({ frames := 1, cells := 0, slots := 0, locals := 28 } : Room) 26 [(0, .ref c), (1, .int v1), (2, .int v2)] [] I L (some (.int (zb r.1)), r.2, L) := by
  intro n
  induction n with
  | zero => intro v2 I hf; cases hf
  | succ n ih =>
    intro v2 I hf
    rw [g_X0_passNights_26] at hf
    refine x_iload_n 2 dX0_passNights_26 rfl rfl ?_
    refine x_aload_n 0 dX0_passNights_27 rfl rfl ?_
    refine x_getI (v := (I c 10)) dX0_passNights_28 hc.1 fl_X0_47 rfl rfl ?_
    refine x_icmp_ge 80 dX0_passNights_31 (by decide) (fun hB => ?_) (fun hB => ?_)
    · replace hf := f_if hB hf
      refine x_iconst (v := (1)) dX0_passNights_80 (by decide) ?_
      cases hf
      exact x_zret (b := true) dX0_passNights_81 rfl rfl
    · replace hf := f_el hB hf
      refine x_iload_n 1 dX0_passNights_34 rfl rfl ?_
      refine x_aload_n 0 dX0_passNights_35 rfl rfl ?_
      refine x_getR dX0_passNights_36 hc.1 fl_X0_9 rfl ?_
      refine x_iload_n 2 dX0_passNights_39 rfl rfl ?_
      obtain ⟨h2, hf⟩ := f_gd hf
      refine x_iald (j := (v2).toNatClampNeg) (v := (I (c + 1) (v2).toNatClampNeg)) dX0_passNights_40 hc.2.1 h2 rfl rfl ?_
      refine x_mmin dX0_passNights_41 lk_X0_89 ⟨Nat.le_of_ble_eq_true rfl, Nat.le_of_ble_eq_true rfl⟩ ?_
      refine x_istore_n [(3, .int (z_min v1 (I (c + 1) (v2).toNatClampNeg))), (0, .ref c), (1, .int v1), (2, .int v2)] dX0_passNights_44 rfl (by decide) rfl ?_
      refine x_aload_n 1 dX0_passNights_45 rfl rfl ?_
      refine x_getR dX0_passNights_46 hc.1 fl_X0_9 rfl ?_
      refine x_iload_n 3 dX0_passNights_49 rfl rfl ?_
      refine x_dup2 dX0_passNights_50 rfl rfl ?_
      refine x_iald (j := (v2).toNatClampNeg) (v := (I (c + 1) (v2).toNatClampNeg)) dX0_passNights_51 hc.2.1 h2 rfl rfl ?_
      refine x_iload_n 0 dX0_passNights_52 rfl rfl ?_
      refine x_isub dX0_passNights_53 ?_
      obtain ⟨I5, hI5, hf⟩ := f_lt hf
      refine x_iast (j0 := (v2).toNatClampNeg) dX0_passNights_54 hc.2.1 h2 rfl hI5 ?_
      refine x_aload_n 1 dX0_passNights_55 rfl rfl ?_
      refine x_getR dX0_passNights_56 hc.1 fl_X0_15 rfl ?_
      refine x_iload_n 3 dX0_passNights_59 rfl rfl ?_
      refine x_bipush (v := (99)) dX0_passNights_60 (by decide) ?_
      refine x_aload_n 1 dX0_passNights_62 rfl rfl ?_
      refine x_getR dX0_passNights_63 hc.1 fl_X0_15 rfl ?_
      refine x_iload_n 3 dX0_passNights_66 rfl rfl ?_
      refine x_iald (j := (v2).toNatClampNeg) (v := (I (c + 2) (v2).toNatClampNeg)) dX0_passNights_67 hc.2.2.1 h2 rfl (by rw [hI5, z2_o (by omega)]) ?_
      refine x_iload_n 0 dX0_passNights_68 rfl rfl ?_
      refine x_iadd dX0_passNights_69 ?_
      refine x_mmin dX0_passNights_70 lk_X0_89 ⟨Nat.le_of_ble_eq_true rfl, Nat.le_of_ble_eq_true rfl⟩ ?_
      obtain ⟨I8, hI8, hf⟩ := f_lt hf
      refine x_iast (j0 := (v2).toNatClampNeg) dX0_passNights_73 hc.2.2.1 h2 rfl hI8 ?_
      refine x_iinc 3 [(2, .int (v2 + (1 : Int32))), (3, .int (z_min v1 (I (c + 1) (v2).toNatClampNeg))), (0, .ref c), (1, .int v1)] dX0_passNights_74 rfl rfl (by decide) rfl ?_
      refine x_goto 26 dX0_passNights_77 (by decide) ?_
      refine x_lv [(0, .ref c), (1, .int v1), (2, .int (v2 + (1 : Int32)))] [2, 3, 0] rfl ?_
      exact ih _ _ hf
set_option maxRecDepth 100000 in
set_option maxHeartbeats 4000000 in
theorem c_X0_passNights {I : z_I} {L : z_L} {c : Nat} {p0 : Int32} (hc : z_ct c) {r : Bool × z_I} (hf : f_X0_passNights I c p0 = some r) : z_C layX yX0_passNights cX0_passNights 4 (some .boolean) ({ frames := 1, cells := 0, slots := 0, locals := 28 } : Room) [.ref c, .int p0] I L (some (.int (zb r.1)), r.2, L) := by
  refine z_C.of (by decide) (Nat.le_of_ble_eq_true rfl) ?_
  show z_X layX RX0 cX0_passNights 4 (some .boolean) ({ frames := 1, cells := 0, slots := 0, locals := 28 } : Room) 0 [(0, .ref c), (1, .int p0)] [] I L (some (.int (zb r.1)), r.2, L)
  unfold f_X0_passNights at hf
  refine x_aload_n 0 dX0_passNights_0 rfl rfl ?_
  refine x_getI (v := (I c 15)) dX0_passNights_1 hc.1 fl_X0_59 rfl rfl ?_
  refine x_iload_n 1 dX0_passNights_4 rfl rfl ?_
  refine x_iadd dX0_passNights_5 ?_
  refine x_sipush (v := (9999)) dX0_passNights_6 (by decide) ?_
  refine x_icmp_le 14 dX0_passNights_9 (by decide) (fun hB => ?_) (fun hB => ?_)
  · replace hf := f_if hB hf
    refine x_aload_n 0 dX0_passNights_14 rfl rfl ?_
    refine x_dup dX0_passNights_15 rfl ?_
    refine x_getI (v := (I c 15)) dX0_passNights_16 hc.1 fl_X0_59 rfl rfl ?_
    refine x_iload_n 1 dX0_passNights_19 rfl rfl ?_
    refine x_iadd dX0_passNights_20 ?_
    obtain ⟨I1, hI1, hf⟩ := f_lt hf
    refine x_putI dX0_passNights_21 hc.1 fl_X0_59 rfl rfl rfl hI1 ?_
    refine x_iconst (v := (0)) dX0_passNights_24 (by decide) ?_
    refine x_istore_n [(2, .int (0 : Int32)), (0, .ref c), (1, .int p0)] dX0_passNights_25 rfl (by decide) rfl ?_
    refine x_lv [(0, .ref c), (1, .int p0), (2, .int (0 : Int32))] [1, 2, 0] rfl ?_
    refine l_X0_passNights_26 c hc p0 (L)   _ _ _ hf
  · replace hf := f_el hB hf
    refine x_iconst (v := (0)) dX0_passNights_12 (by decide) ?_
    cases hf
    exact x_zret (b := false) dX0_passNights_13 rfl rfl
set_option maxRecDepth 100000 in
set_option maxHeartbeats 4000000 in
theorem l_X0_reapedWithin_14 (c : Nat) (hc : z_ct c) (v1 : Int32) (v2 : Int32) (v4 : Int32) (I : z_I) (L : z_L) {r : Int32} (k84 : Int32 → Option (Int32)) (hk84 : ∀ (v3 : Int32), k84 v3 = some r → z_X layX RX0 cX0_reapedWithin 8 (some .int) ({ frames := 1, cells := 0, slots := 0, locals := 28 } : Room) 84 [(0, .ref c), (1, .int v1), (2, .int v2), (3, .int v3), (4, .int v4)] [] I L (some (.int r), I, L)) : ∀ (n : Nat) (v3 : Int32) (v5 : Int32), g_X0_reapedWithin_14 c v1 v2 v4 I k84 n v3 v5 = some r → z_X layX RX0 cX0_reapedWithin 8 (some .int) ({ frames := 1, cells := 0, slots := 0, locals := 28 } : Room) 14 [(0, .ref c), (1, .int v1), (2, .int v2), (3, .int v3), (4, .int v4), (5, .int v5)] [] I L (some (.int r), I, L) := by
  intro n
  induction n with
  | zero => intro v3 v5 hf; cases hf
  | succ n ih =>
    intro v3 v5 hf
    rw [g_X0_reapedWithin_14] at hf
    refine x_iload 5 dX0_reapedWithin_14 rfl ?_
    refine x_aload_n 0 dX0_reapedWithin_16 rfl rfl ?_
    refine x_getI (v := (I c 10)) dX0_reapedWithin_17 hc.1 fl_X0_47 rfl rfl ?_
    refine x_icmp_ge 84 dX0_reapedWithin_20 (by decide) (fun hB => ?_) (fun hB => ?_)
    · replace hf := f_if hB hf
      refine x_lv [(0, .ref c), (1, .int v1), (2, .int v2), (3, .int v3), (4, .int v4)] [0, 1, 2, 3, 4] rfl ?_
      exact hk84 _ hf
    · replace hf := f_el hB hf
      refine x_iload_n 1 dX0_reapedWithin_23 rfl rfl ?_
      refine x_iload 4 dX0_reapedWithin_24 rfl ?_
      refine x_isub dX0_reapedWithin_26 ?_
      refine x_istore [(6, .int (v1 - v4)), (0, .ref c), (1, .int v1), (2, .int v2), (3, .int v3), (4, .int v4), (5, .int v5)] dX0_reapedWithin_27 (by decide) rfl ?_
      refine x_iload 6 dX0_reapedWithin_29 rfl ?_
      refine x_iload_n 2 dX0_reapedWithin_31 rfl rfl ?_
      refine x_isub dX0_reapedWithin_32 ?_
      refine x_istore [(7, .int (v5 - v1)), (6, .int (v1 - v4)), (0, .ref c), (1, .int v1), (2, .int v2), (3, .int v3), (4, .int v4), (5, .int v5)] dX0_reapedWithin_33 (by decide) rfl ?_
      refine x_iload 1 dX0_reapedWithin_35 rfl ?_
      refine x_iload 0 dX0_reapedWithin_37 rfl ?_
      refine x_iadd dX0_reapedWithin_39 ?_
      refine x_iload 1 dX0_reapedWithin_40 rfl ?_
      refine x_iload 0 dX0_reapedWithin_42 rfl ?_
      refine x_mmin dX0_reapedWithin_44 lk_X0_89 ⟨Nat.le_of_ble_eq_true rfl, Nat.le_of_ble_eq_true rfl⟩ ?_
      refine x_iadd dX0_reapedWithin_47 ?_
      refine x_iload_n 4 dX0_reapedWithin_48 rfl rfl ?_
      refine x_icmp_gt 78 dX0_reapedWithin_49 (by decide) (fun hB => ?_) (fun hB => ?_)
      · replace hf := f_if hB hf
        refine x_iinc 7 [(5, .int (v5 + (1 : Int32))), (7, .int (v5 - v1)), (6, .int (v1 - v4)), (0, .ref c), (1, .int v1), (2, .int v2), (3, .int v3), (4, .int v4)] dX0_reapedWithin_78 rfl rfl (by decide) rfl ?_
        refine x_goto 14 dX0_reapedWithin_81 (by decide) ?_
        refine x_lv [(0, .ref c), (1, .int v1), (2, .int v2), (3, .int v3), (4, .int v4), (5, .int (v5 + (1 : Int32)))] [3, 4, 5, 6, 7, 0] rfl ?_
        exact ih _ _ hf
      · replace hf := f_el hB hf
        refine x_iload_n 5 dX0_reapedWithin_52 rfl rfl ?_
        refine x_aload_n 2 dX0_reapedWithin_53 rfl rfl ?_
        refine x_getR dX0_reapedWithin_54 hc.1 fl_X0_9 rfl ?_
        refine x_iload 7 dX0_reapedWithin_57 rfl ?_
        refine x_iconst (v := (1)) dX0_reapedWithin_59 (by decide) ?_
        refine x_iadd dX0_reapedWithin_60 ?_
        obtain ⟨q1, hq2, hf⟩ := f_bd hf
        refine x_callSi [.ref (c + 1), .int (v5 + (1 : Int32))] (c_X0_sumOf (I := I) (L := L) hc.2.1 hq2) dX0_reapedWithin_61 lk_X0_75 cd_X0_sumOf rfl rfl (Nat.le_of_ble_eq_true rfl) ⟨rfl, rfl, Nat.le_of_ble_eq_true rfl, Nat.le_of_ble_eq_true rfl⟩ ?_
        refine x_aload_n 2 dX0_reapedWithin_64 rfl rfl ?_
        refine x_getR dX0_reapedWithin_65 hc.1 fl_X0_9 rfl ?_
        refine x_iload 6 dX0_reapedWithin_68 rfl ?_
        obtain ⟨q3, hq4, hf⟩ := f_bd hf
        refine x_callSi [.ref (c + 1), .int v4] (c_X0_sumOf (I := I) (L := L) hc.2.1 hq4) dX0_reapedWithin_70 lk_X0_75 cd_X0_sumOf rfl rfl (Nat.le_of_ble_eq_true rfl) ⟨rfl, rfl, Nat.le_of_ble_eq_true rfl, Nat.le_of_ble_eq_true rfl⟩ ?_
        refine x_isub dX0_reapedWithin_73 ?_
        refine x_mmax dX0_reapedWithin_74 lk_X0_97 ⟨Nat.le_of_ble_eq_true rfl, Nat.le_of_ble_eq_true rfl⟩ ?_
        refine x_istore_n [(3, .int (z_max v3 (q1 - q3))), (7, .int (v5 - v1)), (6, .int (v1 - v4)), (0, .ref c), (1, .int v1), (2, .int v2), (4, .int v4), (5, .int v5)] dX0_reapedWithin_77 rfl (by decide) rfl ?_
        refine x_iinc 7 [(5, .int (v5 + (1 : Int32))), (3, .int (z_max v3 (q1 - q3))), (7, .int (v5 - v1)), (6, .int (v1 - v4)), (0, .ref c), (1, .int v1), (2, .int v2), (4, .int v4)] dX0_reapedWithin_78 rfl rfl (by decide) rfl ?_
        refine x_goto 14 dX0_reapedWithin_81 (by decide) ?_
        refine x_lv [(0, .ref c), (1, .int v1), (2, .int v2), (3, .int (z_max v3 (q1 - q3))), (4, .int v4), (5, .int (v5 + (1 : Int32)))] [4, 5, 6, 1, 7, 0] rfl ?_
        exact ih _ _ hf
set_option maxRecDepth 100000 in
set_option maxHeartbeats 4000000 in
theorem l_X0_reapedWithin_5 (c : Nat) (hc : z_ct c) (v1 : Int32) (v2 : Int32) (I : z_I) (L : z_L) {r : Int32}  : ∀ (n : Nat) (v3 : Int32) (v4 : Int32), g_X0_reapedWithin_5 c v1 v2 I  n v3 v4 = some r → z_X layX RX0 cX0_reapedWithin 8 (some .int) ({ frames := 1, cells := 0, slots := 0, locals := 28 } : Room) 5 [(0, .ref c), (1, .int v1), (2, .int v2), (3, .int v3), (4, .int v4)] [] I L (some (.int r), I, L) := by
  intro n
  induction n with
  | zero => intro v3 v4 hf; cases hf
  | succ n ih =>
    intro v3 v4 hf
    rw [g_X0_reapedWithin_5] at hf
    refine x_iload 4 dX0_reapedWithin_5 rfl ?_
    refine x_iload_n 1 dX0_reapedWithin_7 rfl rfl ?_
    refine x_icmp_gt 90 dX0_reapedWithin_8 (by decide) (fun hB => ?_) (fun hB => ?_)
    · replace hf := f_if hB hf
      refine x_iload_n 3 dX0_reapedWithin_90 rfl rfl ?_
      cases hf
      exact x_iret dX0_reapedWithin_91 rfl rfl
    · replace hf := f_el hB hf
      refine x_iload_n 1 dX0_reapedWithin_11 rfl rfl ?_
      refine x_istore [(5, .int v1), (0, .ref c), (1, .int v1), (2, .int v2), (3, .int v3), (4, .int v4)] dX0_reapedWithin_12 (by decide) rfl ?_
      refine x_lv [(0, .ref c), (1, .int v1), (2, .int v2), (3, .int v3), (4, .int v4), (5, .int v1)] [1, 2, 3, 4, 5, 0] rfl ?_
      refine l_X0_reapedWithin_14 c hc v1 v2 v4 (I) (L) _ ?_ _ _ _ hf
      · intro v3_5 hf
        refine x_iinc 4 [(4, .int (v4 + (1 : Int32))), (0, .ref c), (1, .int v1), (2, .int v2), (3, .int v3_5)] dX0_reapedWithin_84 rfl rfl (by decide) rfl ?_
        refine x_goto 5 dX0_reapedWithin_87 (by decide) ?_
        refine x_lv [(0, .ref c), (1, .int v1), (2, .int v2), (3, .int v3_5), (4, .int (v4 + (1 : Int32)))] [1, 2, 3, 4, 0] rfl ?_
        exact ih _ _ hf
set_option maxRecDepth 100000 in
set_option maxHeartbeats 4000000 in
theorem c_X0_reapedWithin {I : z_I} {L : z_L} {c : Nat} {p0 : Int32} {p1 : Int32} (hc : z_ct c) {r : Int32} (hf : f_X0_reapedWithin I c p0 p1 = some r) : z_C layX yX0_reapedWithin cX0_reapedWithin 8 (some .int) ({ frames := 1, cells := 0, slots := 0, locals := 28 } : Room) [.ref c, .int p0, .int p1] I L (some (.int r), I, L) := by
  refine z_C.of (by decide) (Nat.le_of_ble_eq_true rfl) ?_
  show z_X layX RX0 cX0_reapedWithin 8 (some .int) ({ frames := 1, cells := 0, slots := 0, locals := 28 } : Room) 0 [(0, .ref c), (1, .int p0), (2, .int p1)] [] I L (some (.int r), I, L)
  unfold f_X0_reapedWithin at hf
  refine x_iconst (v := (0)) dX0_reapedWithin_0 (by decide) ?_
  refine x_istore_n [(3, .int (0 : Int32)), (0, .ref c), (1, .int p0), (2, .int p1)] dX0_reapedWithin_1 rfl (by decide) rfl ?_
  refine x_iconst (v := (0)) dX0_reapedWithin_2 (by decide) ?_
  refine x_istore [(4, .int (0 : Int32)), (3, .int (0 : Int32)), (0, .ref c), (1, .int p0), (2, .int p1)] dX0_reapedWithin_3 (by decide) rfl ?_
  refine x_lv [(0, .ref c), (1, .int p0), (2, .int p1), (3, .int (0 : Int32)), (4, .int (0 : Int32))] [2, 3, 4, 1, 0] rfl ?_
  refine l_X0_reapedWithin_5 c hc p0 p1 (I) (L)   _ _ _ hf
set_option maxRecDepth 100000 in
set_option maxHeartbeats 4000000 in
theorem l_X3_commonDivisor_9    (I : z_I) (L : z_L) {r : Int64}  : ∀ (n : Nat) (v4 : Int64) (v6 : Int64) (v8 : Int32), g_X3_commonDivisor_9   n v4 v6 v8 = some r → z_X layX RX3 cX3_commonDivisor 11 (some .long) ({ frames := 0, cells := 0, slots := 0, locals := 0 } : Room) 9 [(4, .long v4), (6, .long v6), (8, .int v8)] [] I L (some (.long r), I, L) := by
  intro n
  induction n with
  | zero => intro v4 v6 v8 hf; cases hf
  | succ n ih =>
    intro v4 v6 v8 hf
    rw [g_X3_commonDivisor_9] at hf
    refine x_iload 2 dX3_commonDivisor_9 rfl ?_
    refine x_sipush (v := (200)) dX3_commonDivisor_11 (by decide) ?_
    refine x_icmp_ge 45 dX3_commonDivisor_14 (by decide) (fun hB => ?_) (fun hB => ?_)
    · replace hf := f_if hB hf
      refine x_lload 0 dX3_commonDivisor_45 rfl ?_
      cases hf
      exact x_lret dX3_commonDivisor_47 rfl rfl
    · replace hf := f_el hB hf
      refine x_lload 1 dX3_commonDivisor_17 rfl ?_
      refine x_lconst (v := (0)) dX3_commonDivisor_19 (by decide) ?_
      refine x_lcmp_eq 45 dX3_commonDivisor_20 dX3_commonDivisor_21 (by decide) (fun hB => ?_) (fun hB => ?_)
      · replace hf := f_if hB hf
        refine x_lload 0 dX3_commonDivisor_45 rfl ?_
        cases hf
        exact x_lret dX3_commonDivisor_47 rfl rfl
      · replace hf := f_el hB hf
        refine x_lload 0 dX3_commonDivisor_24 rfl ?_
        refine x_lload 1 dX3_commonDivisor_26 rfl ?_
        obtain ⟨h1, hf⟩ := f_gd hf
        refine x_lrem dX3_commonDivisor_28 h1 ?_
        refine x_lstore [(9, .long (v4 - v4 / v6 * v6)), (4, .long v4), (6, .long v6), (8, .int v8)] dX3_commonDivisor_29 (by decide) rfl ?_
        refine x_lload 2 dX3_commonDivisor_31 rfl ?_
        refine x_lstore [(4, .long v6), (9, .long (v4 - v4 / v6 * v6)), (6, .long v6), (8, .int v8)] dX3_commonDivisor_33 (by decide) rfl ?_
        refine x_lload 1 dX3_commonDivisor_35 rfl ?_
        refine x_lstore [(6, .long (v4 - v4 / v6 * v6)), (4, .long v6), (9, .long (v4 - v4 / v6 * v6)), (8, .int v8)] dX3_commonDivisor_37 (by decide) rfl ?_
        refine x_iinc 3 [(8, .int (v8 + (1 : Int32))), (6, .long (v4 - v4 / v6 * v6)), (4, .long v6), (9, .long (v4 - v4 / v6 * v6))] dX3_commonDivisor_39 rfl rfl (by decide) rfl ?_
        refine x_goto 9 dX3_commonDivisor_42 (by decide) ?_
        refine x_lv [(4, .long v6), (6, .long (v4 - v4 / v6 * v6)), (8, .int (v8 + (1 : Int32)))] [2, 1, 0] rfl ?_
        exact ih _ _ _ hf
set_option maxRecDepth 100000 in
set_option maxHeartbeats 4000000 in
theorem c_X3_commonDivisor {I : z_I} {L : z_L} {p0 : Int64} {p1 : Int64}  {r : Int64} (hf : f_X3_commonDivisor p0 p1 = some r) : z_C layX yX3_commonDivisor cX3_commonDivisor 11 (some .long) ({ frames := 0, cells := 0, slots := 0, locals := 0 } : Room) [.long p0, .long p1] I L (some (.long r), I, L) := by
  refine z_C.of (by decide) (Nat.le_of_ble_eq_true rfl) ?_
  show z_X layX RX3 cX3_commonDivisor 11 (some .long) ({ frames := 0, cells := 0, slots := 0, locals := 0 } : Room) 0 [(0, .long p0), (2, .long p1)] [] I L (some (.long r), I, L)
  unfold f_X3_commonDivisor at hf
  refine x_lload_n 0 dX3_commonDivisor_0 rfl rfl ?_
  refine x_lstore [(4, .long p0), (0, .long p0), (2, .long p1)] dX3_commonDivisor_1 (by decide) rfl ?_
  refine x_lload_n 2 dX3_commonDivisor_3 rfl rfl ?_
  refine x_lstore [(6, .long p1), (4, .long p0), (0, .long p0), (2, .long p1)] dX3_commonDivisor_4 (by decide) rfl ?_
  refine x_iconst (v := (0)) dX3_commonDivisor_6 (by decide) ?_
  refine x_istore [(8, .int (0 : Int32)), (6, .long p1), (4, .long p0), (0, .long p0), (2, .long p1)] dX3_commonDivisor_7 (by decide) rfl ?_
  refine x_lv [(4, .long p0), (6, .long p1), (8, .int (0 : Int32))] [2, 1, 0] rfl ?_
  refine l_X3_commonDivisor_9 (I) (L)   _ _ _ _ hf
set_option maxRecDepth 100000 in
set_option maxHeartbeats 4000000 in
theorem c_X3_tell {I : z_I} {L : z_L} {p0 : Int64} {p1 : Int64}  {r : z_L} (hf : f_X3_tell L p0 p1 = some r) : z_C layX yX3_tell cX3_tell 7 (none) ({ frames := 1, cells := 0, slots := 0, locals := 30 } : Room) [.ref 54, .long p0, .long p1] I L (none, I, r) := by
  refine z_C.of (by decide) (Nat.le_of_ble_eq_true rfl) ?_
  show z_X layX RX3 cX3_tell 7 (none) ({ frames := 1, cells := 0, slots := 0, locals := 30 } : Room) 0 [(0, .ref 54), (1, .long p0), (3, .long p1)] [] I L (none, I, r)
  unfold f_X3_tell at hf
  refine x_lload_n 1 dX3_tell_0 rfl rfl ?_
  refine x_lload_n 2 dX3_tell_1 rfl rfl ?_
  obtain ⟨q1, hq2, hf⟩ := f_bd hf
  refine x_callSl [.long p0, .long p1] (c_X3_commonDivisor (I := I) (L := L)  hq2) dX3_tell_2 lk_X3_13 cd_X3_commonDivisor rfl rfl (Nat.le_of_ble_eq_true rfl) ⟨rfl, rfl, Nat.le_of_ble_eq_true rfl, Nat.le_of_ble_eq_true rfl⟩ ?_
  refine x_lstore [(5, .long q1), (0, .ref 54), (1, .long p0), (3, .long p1)] dX3_tell_5 (by decide) rfl ?_
  refine x_lload 0 dX3_tell_7 rfl ?_
  refine x_lconst (v := (0)) dX3_tell_9 (by decide) ?_
  refine x_lcmp_le 30 dX3_tell_10 dX3_tell_11 (by decide) (fun hB => ?_) (fun hB => ?_)
  · replace hf := f_if hB hf
    cases hf
    exact x_vret dX3_tell_30 rfl rfl
  · replace hf := f_el hB hf
    refine x_aload_n 1 dX3_tell_14 rfl rfl ?_
    refine x_lload_n 2 dX3_tell_15 rfl rfl ?_
    refine x_lload 0 dX3_tell_16 rfl ?_
    obtain ⟨h3, hf⟩ := f_gd hf
    refine x_ldiv dX3_tell_18 h3 ?_
    obtain ⟨L4, hL4, hf⟩ := f_lt hf
    refine x_putL dX3_tell_19 lx_54 fl_X3_17 rfl rfl rfl hL4 ?_
    refine x_aload_n 1 dX3_tell_22 rfl rfl ?_
    refine x_lload_n 3 dX3_tell_23 rfl rfl ?_
    refine x_lload 0 dX3_tell_24 rfl ?_
    obtain ⟨h5, hf⟩ := f_gd hf
    refine x_ldiv dX3_tell_26 h5 ?_
    obtain ⟨L6, hL6, hf⟩ := f_lt hf
    refine x_putL dX3_tell_27 lx_54 fl_X3_7 rfl rfl rfl hL6 ?_
    cases hf
    exact x_vret dX3_tell_30 rfl rfl
set_option maxRecDepth 100000 in
set_option maxHeartbeats 4000000 in
theorem c_X5_clear {I : z_I} {L : z_L} (t : Nat) (ht : z_tm t) : z_C layX yX5_clear cX5_clear 1 (none) ({ frames := 0, cells := 0, slots := 0, locals := 0 } : Room) [.ref t] I L (none, (f_X5_clear I t), L) := by
  obtain ⟨r, hf⟩ : ∃ r, f_X5_clear I t = r := ⟨_, rfl⟩
  rw [hf]
  refine z_C.of (by decide) (Nat.le_of_ble_eq_true rfl) ?_
  show z_X layX RX5 cX5_clear 1 (none) ({ frames := 0, cells := 0, slots := 0, locals := 0 } : Room) 0 [(0, .ref t)] [] I L (none, r, L)
  unfold f_X5_clear at hf
  refine x_aload_n 0 dX5_clear_0 rfl rfl ?_
  refine x_iconst (v := (0)) dX5_clear_1 (by decide) ?_
  obtain ⟨I1, hI1, hf⟩ := f_lt hf
  refine x_putB (b := false) dX5_clear_2 ht.1 fl_X5_27 rfl rfl hI1 ?_
  refine x_aload_n 0 dX5_clear_5 rfl rfl ?_
  refine x_iconst (v := (0)) dX5_clear_6 (by decide) ?_
  obtain ⟨I2, hI2, hf⟩ := f_lt hf
  refine x_putI dX5_clear_7 ht.1 fl_X5_31 rfl rfl rfl hI2 ?_
  refine x_aload_n 0 dX5_clear_10 rfl rfl ?_
  refine x_iconst (v := (0)) dX5_clear_11 (by decide) ?_
  obtain ⟨I3, hI3, hf⟩ := f_lt hf
  refine x_putI dX5_clear_12 ht.1 fl_X5_35 rfl rfl rfl hI3 ?_
  subst hf
  exact x_vret dX5_clear_15 rfl rfl
set_option maxRecDepth 100000 in
set_option maxHeartbeats 4000000 in
theorem c_X5_copyFrom {I : z_I} {L : z_L} (t : Nat) (p0 : Nat) (ht : z_tm t) (hp0 : z_tm p0) : z_C layX yX5_copyFrom cX5_copyFrom 2 (none) ({ frames := 1, cells := 0, slots := 0, locals := 60 } : Room) [.ref t, .ref p0] I L (none, (f_X5_copyFrom I t p0), L) := by
  obtain ⟨r, hf⟩ : ∃ r, f_X5_copyFrom I t p0 = r := ⟨_, rfl⟩
  rw [hf]
  refine z_C.of (by decide) (Nat.le_of_ble_eq_true rfl) ?_
  show z_X layX RX5 cX5_copyFrom 2 (none) ({ frames := 1, cells := 0, slots := 0, locals := 60 } : Room) 0 [(0, .ref t), (1, .ref p0)] [] I L (none, r, L)
  unfold f_X5_copyFrom at hf
  refine x_aload_n 1 dX5_copyFrom_0 rfl rfl ?_
  refine x_getR dX5_copyFrom_1 hp0.1 fl_X5_11 rfl ?_
  refine x_iconst (v := (0)) dX5_copyFrom_4 (by decide) ?_
  refine x_aload_n 0 dX5_copyFrom_5 rfl rfl ?_
  refine x_getR dX5_copyFrom_6 ht.1 fl_X5_11 rfl ?_
  refine x_iconst (v := (0)) dX5_copyFrom_9 (by decide) ?_
  refine x_bipush (v := (60)) dX5_copyFrom_10 (by decide) ?_
  obtain ⟨I1, hI1, hf⟩ := f_lt hf
  refine x_cpyI dX5_copyFrom_12 ac_X5_38 hp0.2.1 ht.2.1 (by decide) (by decide) (by decide) (by decide) (by decide) ⟨Nat.le_of_ble_eq_true rfl, Nat.le_of_ble_eq_true rfl⟩ hI1 ?_
  refine x_aload_n 1 dX5_copyFrom_15 rfl rfl ?_
  refine x_getR dX5_copyFrom_16 hp0.1 fl_X5_15 rfl ?_
  refine x_iconst (v := (0)) dX5_copyFrom_19 (by decide) ?_
  refine x_aload_n 0 dX5_copyFrom_20 rfl rfl ?_
  refine x_getR dX5_copyFrom_21 ht.1 fl_X5_15 rfl ?_
  refine x_iconst (v := (0)) dX5_copyFrom_24 (by decide) ?_
  refine x_bipush (v := (60)) dX5_copyFrom_25 (by decide) ?_
  obtain ⟨I2, hI2, hf⟩ := f_lt hf
  refine x_cpyI dX5_copyFrom_27 ac_X5_38 hp0.2.2.1 ht.2.2.1 (by decide) (by decide) (by decide) (by decide) (by decide) ⟨Nat.le_of_ble_eq_true rfl, Nat.le_of_ble_eq_true rfl⟩ hI2 ?_
  refine x_aload_n 1 dX5_copyFrom_30 rfl rfl ?_
  refine x_getR dX5_copyFrom_31 hp0.1 fl_X5_18 rfl ?_
  refine x_iconst (v := (0)) dX5_copyFrom_34 (by decide) ?_
  refine x_aload_n 0 dX5_copyFrom_35 rfl rfl ?_
  refine x_getR dX5_copyFrom_36 ht.1 fl_X5_18 rfl ?_
  refine x_iconst (v := (0)) dX5_copyFrom_39 (by decide) ?_
  refine x_bipush (v := (60)) dX5_copyFrom_40 (by decide) ?_
  obtain ⟨I3, hI3, hf⟩ := f_lt hf
  refine x_cpyI dX5_copyFrom_42 ac_X5_38 hp0.2.2.2.1 ht.2.2.2.1 (by decide) (by decide) (by decide) (by decide) (by decide) ⟨Nat.le_of_ble_eq_true rfl, Nat.le_of_ble_eq_true rfl⟩ hI3 ?_
  refine x_aload_n 1 dX5_copyFrom_45 rfl rfl ?_
  refine x_getR dX5_copyFrom_46 hp0.1 fl_X5_21 rfl ?_
  refine x_iconst (v := (0)) dX5_copyFrom_49 (by decide) ?_
  refine x_aload_n 0 dX5_copyFrom_50 rfl rfl ?_
  refine x_getR dX5_copyFrom_51 ht.1 fl_X5_21 rfl ?_
  refine x_iconst (v := (0)) dX5_copyFrom_54 (by decide) ?_
  refine x_bipush (v := (60)) dX5_copyFrom_55 (by decide) ?_
  obtain ⟨I4, hI4, hf⟩ := f_lt hf
  refine x_cpyI dX5_copyFrom_57 ac_X5_38 hp0.2.2.2.2.1 ht.2.2.2.2.1 (by decide) (by decide) (by decide) (by decide) (by decide) ⟨Nat.le_of_ble_eq_true rfl, Nat.le_of_ble_eq_true rfl⟩ hI4 ?_
  refine x_aload_n 1 dX5_copyFrom_60 rfl rfl ?_
  refine x_getR dX5_copyFrom_61 hp0.1 fl_X5_24 rfl ?_
  refine x_iconst (v := (0)) dX5_copyFrom_64 (by decide) ?_
  refine x_aload_n 0 dX5_copyFrom_65 rfl rfl ?_
  refine x_getR dX5_copyFrom_66 ht.1 fl_X5_24 rfl ?_
  refine x_iconst (v := (0)) dX5_copyFrom_69 (by decide) ?_
  refine x_bipush (v := (60)) dX5_copyFrom_70 (by decide) ?_
  obtain ⟨I5, hI5, hf⟩ := f_lt hf
  refine x_cpyI dX5_copyFrom_72 ac_X5_38 hp0.2.2.2.2.2.1 ht.2.2.2.2.2.1 (by decide) (by decide) (by decide) (by decide) (by decide) ⟨Nat.le_of_ble_eq_true rfl, Nat.le_of_ble_eq_true rfl⟩ hI5 ?_
  refine x_aload_n 0 dX5_copyFrom_75 rfl rfl ?_
  refine x_aload_n 1 dX5_copyFrom_76 rfl rfl ?_
  refine x_getB (v := (zn (I5 p0 5))) dX5_copyFrom_77 hp0.1 fl_X5_27 rfl rfl ?_
  obtain ⟨I6, hI6, hf⟩ := f_lt hf
  refine x_putB (b := (zn (I5 p0 5))) dX5_copyFrom_80 ht.1 fl_X5_27 rfl rfl hI6 ?_
  refine x_aload_n 0 dX5_copyFrom_83 rfl rfl ?_
  refine x_aload_n 1 dX5_copyFrom_84 rfl rfl ?_
  refine x_getI (v := (I6 p0 6)) dX5_copyFrom_85 hp0.1 fl_X5_31 rfl rfl ?_
  obtain ⟨I7, hI7, hf⟩ := f_lt hf
  refine x_putI dX5_copyFrom_88 ht.1 fl_X5_31 rfl rfl rfl hI7 ?_
  refine x_aload_n 0 dX5_copyFrom_91 rfl rfl ?_
  refine x_aload_n 1 dX5_copyFrom_92 rfl rfl ?_
  refine x_getI (v := (I7 p0 7)) dX5_copyFrom_93 hp0.1 fl_X5_35 rfl rfl ?_
  obtain ⟨I8, hI8, hf⟩ := f_lt hf
  refine x_putI dX5_copyFrom_96 ht.1 fl_X5_35 rfl rfl rfl hI8 ?_
  subst hf
  exact x_vret dX5_copyFrom_99 rfl rfl
set_option maxRecDepth 100000 in
set_option maxHeartbeats 4000000 in
theorem l_J7_fill_d0a16_6 {lay : List z_Sh} (p0 p0n : Nat) (hp0 : lay[p0]? = some (.inl (.long, p0n, 1, []))) (v1 : Int64) (v4 : Int32) (I : z_I) {r : z_L}  : ∀ (n : Nat) (v3 : Int32) (L : z_L), g_J7_fill_d0a16_6 p0 p0n v1 v4  n v3 L = some r → z_X lay RJ7 cJ7_fill_d0a16 5 (none) ({ frames := 0, cells := 0, slots := 0, locals := 0 } : Room) 6 [(0, .ref p0), (1, .long v1), (3, .int v3), (4, .int v4)] [] I L (none, I, r) := by
  intro n
  induction n with
  | zero => intro v3 L hf; cases hf
  | succ n ih =>
    intro v3 L hf
    rw [g_J7_fill_d0a16_6] at hf
    refine x_iload_n 2 dJ7_fill_d0a16_6 rfl rfl ?_
    refine x_iload 3 dJ7_fill_d0a16_7 rfl ?_
    refine x_icmp_ge 22 dJ7_fill_d0a16_9 (by decide) (fun hB => ?_) (fun hB => ?_)
    · replace hf := f_if hB hf
      cases hf
      exact x_vret dJ7_fill_d0a16_22 rfl rfl
    · replace hf := f_el hB hf
      refine x_aload_n 0 dJ7_fill_d0a16_12 rfl rfl ?_
      refine x_iload_n 2 dJ7_fill_d0a16_13 rfl rfl ?_
      refine x_lload_n 1 dJ7_fill_d0a16_14 rfl rfl ?_
      obtain ⟨h1, hf⟩ := f_gd hf
      obtain ⟨L2, hL2, hf⟩ := f_lt hf
      refine x_last (j0 := (v3).toNatClampNeg) dJ7_fill_d0a16_15 hp0 h1 rfl hL2 ?_
      refine x_iinc 2 [(3, .int (v3 + (1 : Int32))), (0, .ref p0), (1, .long v1), (4, .int v4)] dJ7_fill_d0a16_16 rfl rfl (by decide) rfl ?_
      refine x_goto 6 dJ7_fill_d0a16_19 (by decide) ?_
      refine x_lv [(0, .ref p0), (1, .long v1), (3, .int (v3 + (1 : Int32))), (4, .int v4)] [1, 2, 0, 3] rfl ?_
      exact ih _ _ hf
set_option maxRecDepth 100000 in
set_option maxHeartbeats 4000000 in
theorem c_J7_fill_d0a16 {lay : List z_Sh} {I : z_I} {L : z_L} {p0 p0n : Nat} {p1 : Int64} (hp0 : lay[p0]? = some (.inl (.long, p0n, 1, []))) {r : z_L} (hf : f_J7_fill_d0a16 L p0 p0n p1 = some r) : z_C lay yJ7_fill_d0a16 cJ7_fill_d0a16 5 (none) ({ frames := 0, cells := 0, slots := 0, locals := 0 } : Room) [.ref p0, .long p1] I L (none, I, r) := by
  refine z_C.of (by decide) (Nat.le_of_ble_eq_true rfl) ?_
  show z_X lay RJ7 cJ7_fill_d0a16 5 (none) ({ frames := 0, cells := 0, slots := 0, locals := 0 } : Room) 0 [(0, .ref p0), (1, .long p1)] [] I L (none, I, r)
  unfold f_J7_fill_d0a16 at hf
  refine x_iconst (v := (0)) dJ7_fill_d0a16_0 (by decide) ?_
  refine x_istore_n [(3, .int (0 : Int32)), (0, .ref p0), (1, .long p1)] dJ7_fill_d0a16_1 rfl (by decide) rfl ?_
  refine x_aload_n 1 dJ7_fill_d0a16_2 rfl rfl ?_
  refine x_alenL (v := (Int32.ofNat p0n)) dJ7_fill_d0a16_3 hp0 rfl ?_
  refine x_istore [(4, .int (Int32.ofNat p0n)), (3, .int (0 : Int32)), (0, .ref p0), (1, .long p1)] dJ7_fill_d0a16_4 (by decide) rfl ?_
  refine x_lv [(0, .ref p0), (1, .long p1), (3, .int (0 : Int32)), (4, .int (Int32.ofNat p0n))] [2, 3, 1, 0] rfl ?_
  refine l_J7_fill_d0a16_6 p0 p0n hp0 p1 (Int32.ofNat p0n) (I)   _ _ _ hf
set_option maxRecDepth 100000 in
set_option maxHeartbeats 4000000 in
theorem c_X8_lay {I : z_I} {L : z_L} {y : Nat} {p0 : Int32} {p1 : Int32} (hy : z_tr y) {r : z_I × z_L} (hf : f_X8_lay I L y p0 p1 = some r) : z_C layX yX8_lay cX8_lay 3 (none) ({ frames := 1, cells := 0, slots := 0, locals := 24 } : Room) [.ref y, .int p0, .int p1] I L (none, r.1, r.2) := by
  refine z_C.of (by decide) (Nat.le_of_ble_eq_true rfl) ?_
  show z_X layX RX8 cX8_lay 3 (none) ({ frames := 1, cells := 0, slots := 0, locals := 24 } : Room) 0 [(0, .ref y), (1, .int p0), (2, .int p1)] [] I L (none, r.1, r.2)
  unfold f_X8_lay at hf
  refine x_aload_n 0 dX8_lay_0 rfl rfl ?_
  refine x_iconst (v := (1)) dX8_lay_1 (by decide) ?_
  obtain ⟨I1, hI1, hf⟩ := f_lt hf
  refine x_putB (b := true) dX8_lay_2 hy.1 fl_X8_15 rfl rfl hI1 ?_
  refine x_aload_n 0 dX8_lay_5 rfl rfl ?_
  refine x_iload_n 1 dX8_lay_6 rfl rfl ?_
  obtain ⟨I2, hI2, hf⟩ := f_lt hf
  refine x_putI dX8_lay_7 hy.1 fl_X8_19 rfl rfl rfl hI2 ?_
  refine x_aload_n 0 dX8_lay_10 rfl rfl ?_
  refine x_iload_n 2 dX8_lay_11 rfl rfl ?_
  obtain ⟨I3, hI3, hf⟩ := f_lt hf
  refine x_putI dX8_lay_12 hy.1 fl_X8_23 rfl rfl rfl hI3 ?_
  refine x_aload_n 0 dX8_lay_15 rfl rfl ?_
  refine x_getR dX8_lay_16 hy.1 fl_X8_9 rfl ?_
  refine x_lconst (v := (0)) dX8_lay_19 (by decide) ?_
  obtain ⟨q4, hq5, hf⟩ := f_bd hf
  refine x_callSv [.ref (y + 1), .long (0 : Int64)] (c_J7_fill_d0a16 (lay := layX) (I := I3) (L := L) hy.2.1 hq5) dX8_lay_20 lk_X8_26 cd_J7_fill_d0a16 rfl rfl (Nat.le_of_ble_eq_true rfl) ⟨rfl, rfl, Nat.le_of_ble_eq_true rfl, Nat.le_of_ble_eq_true rfl⟩ ?_
  cases hf
  exact x_vret dX8_lay_23 rfl rfl
set_option maxRecDepth 100000 in
set_option maxHeartbeats 4000000 in
theorem c_X8_spans {I : z_I} {L : z_L} (y : Nat) (p0 : Int32) (p1 : Int32) (hy : z_tr y) : z_C layX yX8_spans cX8_spans 3 (some .boolean) ({ frames := 0, cells := 0, slots := 0, locals := 0 } : Room) [.ref y, .int p0, .int p1] I L (some (.int (zb (f_X8_spans I y p0 p1))), I, L) := by
  obtain ⟨r, hf⟩ : ∃ r, f_X8_spans I y p0 p1 = r := ⟨_, rfl⟩
  rw [hf]
  refine z_C.of (by decide) (Nat.le_of_ble_eq_true rfl) ?_
  show z_X layX RX8 cX8_spans 3 (some .boolean) ({ frames := 0, cells := 0, slots := 0, locals := 0 } : Room) 0 [(0, .ref y), (1, .int p0), (2, .int p1)] [] I L (some (.int (zb r)), I, L)
  unfold f_X8_spans at hf
  refine x_iload_n 1 dX8_spans_0 rfl rfl ?_
  refine x_if_lt 22 dX8_spans_1 (by decide) (fun hB => ?_) (fun hB => ?_)
  · replace hf := t_if hB hf
    refine x_iconst (v := (0)) dX8_spans_22 (by decide) ?_
    subst hf
    exact x_zret (b := false) dX8_spans_23 rfl rfl
  · replace hf := t_el hB hf
    refine x_iload_n 2 dX8_spans_4 rfl rfl ?_
    refine x_if_lt 22 dX8_spans_5 (by decide) (fun hB => ?_) (fun hB => ?_)
    · replace hf := t_if hB hf
      refine x_iconst (v := (0)) dX8_spans_22 (by decide) ?_
      subst hf
      exact x_zret (b := false) dX8_spans_23 rfl rfl
    · replace hf := t_el hB hf
      refine x_iload_n 1 dX8_spans_8 rfl rfl ?_
      refine x_aload_n 0 dX8_spans_9 rfl rfl ?_
      refine x_getI (v := (I y 3)) dX8_spans_10 hy.1 fl_X8_23 rfl rfl ?_
      refine x_iload_n 2 dX8_spans_13 rfl rfl ?_
      refine x_isub dX8_spans_14 ?_
      refine x_icmp_gt 22 dX8_spans_15 (by decide) (fun hB => ?_) (fun hB => ?_)
      · replace hf := t_if hB hf
        refine x_iconst (v := (0)) dX8_spans_22 (by decide) ?_
        subst hf
        exact x_zret (b := false) dX8_spans_23 rfl rfl
      · replace hf := t_el hB hf
        refine x_iconst (v := (1)) dX8_spans_18 (by decide) ?_
        refine x_goto 23 dX8_spans_19 (by decide) ?_
        subst hf
        exact x_zret (b := true) dX8_spans_23 rfl rfl
set_option maxRecDepth 100000 in
set_option maxHeartbeats 4000000 in
theorem c_X8_put {I : z_I} {L : z_L} {y : Nat} {p0 : Int32} {p1 : Int64} (hy : z_tr y) {r : z_L} (hf : f_X8_put I L y p0 p1 = some r) : z_C layX yX8_put cX8_put 4 (none) ({ frames := 0, cells := 0, slots := 0, locals := 0 } : Room) [.ref y, .int p0, .long p1] I L (none, I, r) := by
  refine z_C.of (by decide) (Nat.le_of_ble_eq_true rfl) ?_
  show z_X layX RX8 cX8_put 4 (none) ({ frames := 0, cells := 0, slots := 0, locals := 0 } : Room) 0 [(0, .ref y), (1, .int p0), (2, .long p1)] [] I L (none, I, r)
  unfold f_X8_put at hf
  refine x_aload_n 0 dX8_put_0 rfl rfl ?_
  refine x_getI (v := (I y 2)) dX8_put_1 hy.1 fl_X8_19 rfl rfl ?_
  by_cases hs3 : (I y 2) = (0)
  · replace hf := f_if hs3 hf
    refine x_tabIn (0) 32 dX8_put_4 hs3 (by decide) (by decide) rfl (by decide) ?_
    refine x_aload_n 0 dX8_put_32 rfl rfl ?_
    refine x_getR dX8_put_33 hy.1 fl_X8_9 rfl ?_
    refine x_iload_n 1 dX8_put_36 rfl rfl ?_
    refine x_lload_n 2 dX8_put_37 rfl rfl ?_
    refine x_l2i dX8_put_38 ?_
    refine x_i2b dX8_put_39 ?_
    refine x_i2l dX8_put_40 ?_
    obtain ⟨h1, hf⟩ := f_gd hf
    obtain ⟨L2, hL2, hf⟩ := f_lt hf
    refine x_last (j0 := (p0).toNatClampNeg) dX8_put_41 hy.2.1 h1 rfl hL2 ?_
    refine x_goto 77 dX8_put_42 (by decide) ?_
    cases hf
    exact x_vret dX8_put_77 rfl rfl
  replace hf := f_el hs3 hf
  by_cases hs6 : (I y 2) = (1)
  · replace hf := f_if hs6 hf
    refine x_tabIn (1) 45 dX8_put_4 hs6 (by decide) (by decide) rfl (by decide) ?_
    refine x_aload_n 0 dX8_put_45 rfl rfl ?_
    refine x_getR dX8_put_46 hy.1 fl_X8_9 rfl ?_
    refine x_iload_n 1 dX8_put_49 rfl rfl ?_
    refine x_lload_n 2 dX8_put_50 rfl rfl ?_
    refine x_l2i dX8_put_51 ?_
    refine x_i2s dX8_put_52 ?_
    refine x_i2l dX8_put_53 ?_
    obtain ⟨h4, hf⟩ := f_gd hf
    obtain ⟨L5, hL5, hf⟩ := f_lt hf
    refine x_last (j0 := (p0).toNatClampNeg) dX8_put_54 hy.2.1 h4 rfl hL5 ?_
    refine x_goto 77 dX8_put_55 (by decide) ?_
    cases hf
    exact x_vret dX8_put_77 rfl rfl
  replace hf := f_el hs6 hf
  by_cases hs9 : (I y 2) = (2)
  · replace hf := f_if hs9 hf
    refine x_tabIn (2) 58 dX8_put_4 hs9 (by decide) (by decide) rfl (by decide) ?_
    refine x_aload_n 0 dX8_put_58 rfl rfl ?_
    refine x_getR dX8_put_59 hy.1 fl_X8_9 rfl ?_
    refine x_iload_n 1 dX8_put_62 rfl rfl ?_
    refine x_lload_n 2 dX8_put_63 rfl rfl ?_
    refine x_l2i dX8_put_64 ?_
    refine x_i2l dX8_put_65 ?_
    obtain ⟨h7, hf⟩ := f_gd hf
    obtain ⟨L8, hL8, hf⟩ := f_lt hf
    refine x_last (j0 := (p0).toNatClampNeg) dX8_put_66 hy.2.1 h7 rfl hL8 ?_
    refine x_goto 77 dX8_put_67 (by decide) ?_
    cases hf
    exact x_vret dX8_put_77 rfl rfl
  replace hf := f_el hs9 hf
  refine x_tabOut 70 dX8_put_4 (by have := lv_neT (a := 0) hs3 (by decide); have := lv_neT (a := 1) hs6 (by decide); have := lv_neT (a := 2) hs9 (by decide); omega) (by decide) ?_
  refine x_aload_n 0 dX8_put_70 rfl rfl ?_
  refine x_getR dX8_put_71 hy.1 fl_X8_9 rfl ?_
  refine x_iload_n 1 dX8_put_74 rfl rfl ?_
  refine x_lload_n 2 dX8_put_75 rfl rfl ?_
  obtain ⟨h10, hf⟩ := f_gd hf
  obtain ⟨L11, hL11, hf⟩ := f_lt hf
  refine x_last (j0 := (p0).toNatClampNeg) dX8_put_76 hy.2.1 h10 rfl hL11 ?_
  cases hf
  exact x_vret dX8_put_77 rfl rfl
