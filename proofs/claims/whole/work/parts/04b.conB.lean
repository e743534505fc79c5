set_option maxRecDepth 100000 in
set_option maxHeartbeats 4000000 in
theorem l_X7_scanWord_5     {r : z_I × z_L} (k85 : z_I → z_L → Option (z_I × z_L)) (hk85 : ∀ (I : z_I) (L : z_L), k85 I L = some r → z_X layX RX7 cX7_scanWord 2 (none) ({ frames := 0, cells := 0, slots := 0, locals := 0 } : Room) 85 [(0, .ref 39)] [] I L (none, r.1, r.2)) : ∀ (n : Nat) (I : z_I) (L : z_L), g_X7_scanWord_5  k85 n I L = some r → z_X layX RX7 cX7_scanWord 2 (none) ({ frames := 0, cells := 0, slots := 0, locals := 0 } : Room) 5 [(0, .ref 39)] [] I L (none, r.1, r.2) := by
  intro n
  induction n with
  | zero => intro I L hf; cases hf
  | succ n ih =>
    intro I L hf
    rw [g_X7_scanWord_5] at hf
    refine x_aload_n 0 dX7_scanWord_5 rfl rfl ?_
    refine x_getI (v := (I 39 4)) dX7_scanWord_6 lx_39 fl_X7_42 rfl rfl ?_
    refine x_aload_n 0 dX7_scanWord_9 rfl rfl ?_
    refine x_getI (v := (I 39 2)) dX7_scanWord_10 lx_39 fl_X7_39 rfl rfl ?_
    refine x_icmp_ge 85 dX7_scanWord_13 (by decide) (fun hB => ?_) (fun hB => ?_)
    · replace hf := f_if hB hf
      refine x_lv [(0, .ref 39)] [0] rfl ?_
      exact hk85 _ _ hf
    · replace hf := f_el hB hf
      refine x_aload_n 0 dX7_scanWord_16 rfl rfl ?_
      refine x_getR dX7_scanWord_17 lx_39 fl_X7_15 rfl ?_
      refine x_aload_n 0 dX7_scanWord_20 rfl rfl ?_
      refine x_getI (v := (I 39 4)) dX7_scanWord_21 lx_39 fl_X7_42 rfl rfl ?_
      obtain ⟨h2, hf⟩ := f_gd hf
      refine x_bald (j := ((I 39 4)).toNatClampNeg) (v := (I 2 ((I 39 4)).toNatClampNeg)) dX7_scanWord_24 lx_2 h2 rfl rfl ?_
      refine x_bipush (v := (97)) dX7_scanWord_25 (by decide) ?_
      refine x_icmp_lt 85 dX7_scanWord_27 (by decide) (fun hB => ?_) (fun hB => ?_)
      · replace hf := f_if hB hf
        refine x_lv [(0, .ref 39)] [0] rfl ?_
        exact hk85 _ _ hf
      · replace hf := f_el hB hf
        refine x_aload_n 0 dX7_scanWord_30 rfl rfl ?_
        refine x_getR dX7_scanWord_31 lx_39 fl_X7_15 rfl ?_
        refine x_aload_n 0 dX7_scanWord_34 rfl rfl ?_
        refine x_getI (v := (I 39 4)) dX7_scanWord_35 lx_39 fl_X7_42 rfl rfl ?_
        refine x_bald (j := ((I 39 4)).toNatClampNeg) (v := (I 2 ((I 39 4)).toNatClampNeg)) dX7_scanWord_38 lx_2 h2 rfl rfl ?_
        refine x_bipush (v := (122)) dX7_scanWord_39 (by decide) ?_
        refine x_icmp_gt 85 dX7_scanWord_41 (by decide) (fun hB => ?_) (fun hB => ?_)
        · replace hf := f_if hB hf
          refine x_lv [(0, .ref 39)] [0] rfl ?_
          exact hk85 _ _ hf
        · replace hf := f_el hB hf
          refine x_aload_n 0 dX7_scanWord_44 rfl rfl ?_
          refine x_aload_n 0 dX7_scanWord_45 rfl rfl ?_
          refine x_getL (v := (L 39 8)) dX7_scanWord_46 lx_39 fl_X7_70 rfl rfl ?_
          refine x_ldc2 (v := (27)) dX7_scanWord_49 kc_X7_31 ?_
          refine x_lmul dX7_scanWord_52 ?_
          refine x_aload_n 0 dX7_scanWord_53 rfl rfl ?_
          refine x_getR dX7_scanWord_54 lx_39 fl_X7_15 rfl ?_
          refine x_aload_n 0 dX7_scanWord_57 rfl rfl ?_
          refine x_getI (v := (I 39 4)) dX7_scanWord_58 lx_39 fl_X7_42 rfl rfl ?_
          refine x_bald (j := ((I 39 4)).toNatClampNeg) (v := (I 2 ((I 39 4)).toNatClampNeg)) dX7_scanWord_61 lx_2 h2 rfl rfl ?_
          refine x_bipush (v := (97)) dX7_scanWord_62 (by decide) ?_
          refine x_isub dX7_scanWord_64 ?_
          refine x_iconst (v := (1)) dX7_scanWord_65 (by decide) ?_
          refine x_iadd dX7_scanWord_66 ?_
          refine x_i2l dX7_scanWord_67 ?_
          refine x_ladd dX7_scanWord_68 ?_
          obtain ⟨L5, hL5, hf⟩ := f_lt hf
          refine x_putL dX7_scanWord_69 lx_39 fl_X7_70 rfl rfl rfl hL5 ?_
          refine x_aload_n 0 dX7_scanWord_72 rfl rfl ?_
          refine x_dup dX7_scanWord_73 rfl ?_
          refine x_getI (v := (I 39 4)) dX7_scanWord_74 lx_39 fl_X7_42 rfl rfl ?_
          refine x_iconst (v := (1)) dX7_scanWord_77 (by decide) ?_
          refine x_iadd dX7_scanWord_78 ?_
          obtain ⟨I6, hI6, hf⟩ := f_lt hf
          refine x_putI dX7_scanWord_79 lx_39 fl_X7_42 rfl rfl rfl hI6 ?_
          refine x_goto 5 dX7_scanWord_82 (by decide) ?_
          refine x_lv [(0, .ref 39)] [0] rfl ?_
          exact ih _ _ hf
set_option maxRecDepth 100000 in
set_option maxHeartbeats 4000000 in
theorem l_X7_scanWord_112    (L : z_L) {r : z_I × z_L}  : ∀ (n : Nat) (v1 : Int32) (I : z_I), g_X7_scanWord_112 L  n v1 I = some r → z_X layX RX7 cX7_scanWord 2 (none) ({ frames := 0, cells := 0, slots := 0, locals := 0 } : Room) 112 [(0, .ref 39), (1, .int v1)] [] I L (none, r.1, r.2) := by
  intro n
  induction n with
  | zero => intro v1 I hf; cases hf
  | succ n ih =>
    intro v1 I hf
    rw [g_X7_scanWord_112] at hf
    refine x_iload_n 1 dX7_scanWord_112 rfl rfl ?_
    refine x_bipush (v := (23)) dX7_scanWord_113 (by decide) ?_
    refine x_icmp_ge 148 dX7_scanWord_115 (by decide) (fun hB => ?_) (fun hB => ?_)
    · replace hf := f_if hB hf
      cases hf
      exact x_vret dX7_scanWord_148 rfl rfl
    · replace hf := f_el hB hf
      refine x_aload_n 0 dX7_scanWord_118 rfl rfl ?_
      refine x_getR dX7_scanWord_119 lx_39 fl_X7_9 rfl ?_
      refine x_iload_n 1 dX7_scanWord_122 rfl rfl ?_
      obtain ⟨h10, hf⟩ := f_gd hf
      refine x_lald (j := (v1).toNatClampNeg) (v := (L 40 (v1).toNatClampNeg)) dX7_scanWord_123 lx_40 h10 rfl rfl ?_
      refine x_aload_n 0 dX7_scanWord_124 rfl rfl ?_
      refine x_getL (v := (L 39 8)) dX7_scanWord_125 lx_39 fl_X7_70 rfl rfl ?_
      refine x_lcmp_ne 142 dX7_scanWord_128 dX7_scanWord_129 (by decide) (fun hB => ?_) (fun hB => ?_)
      · replace hf := f_el hB hf
        refine x_iinc 1 [(1, .int (v1 + (1 : Int32))), (0, .ref 39)] dX7_scanWord_142 rfl rfl (by decide) rfl ?_
        refine x_goto 112 dX7_scanWord_145 (by decide) ?_
        refine x_lv [(0, .ref 39), (1, .int (v1 + (1 : Int32)))] [1, 0] rfl ?_
        exact ih _ _ hf
      · replace hf := f_if hB hf
        refine x_aload_n 0 dX7_scanWord_132 rfl rfl ?_
        refine x_iconst (v := (2)) dX7_scanWord_133 (by decide) ?_
        obtain ⟨I11, hI11, hf⟩ := f_lt hf
        refine x_putI dX7_scanWord_134 lx_39 fl_X7_57 rfl rfl rfl hI11 ?_
        refine x_aload_n 0 dX7_scanWord_137 rfl rfl ?_
        refine x_iload_n 1 dX7_scanWord_138 rfl rfl ?_
        obtain ⟨I12, hI12, hf⟩ := f_lt hf
        refine x_putI dX7_scanWord_139 lx_39 fl_X7_74 rfl rfl rfl hI12 ?_
        refine x_iinc 1 [(1, .int (v1 + (1 : Int32))), (0, .ref 39)] dX7_scanWord_142 rfl rfl (by decide) rfl ?_
        refine x_goto 112 dX7_scanWord_145 (by decide) ?_
        refine x_lv [(0, .ref 39), (1, .int (v1 + (1 : Int32)))] [1, 0] rfl ?_
        exact ih _ _ hf
set_option maxRecDepth 100000 in
set_option maxHeartbeats 4000000 in
theorem c_X7_scanWord {I : z_I} {L : z_L}   {r : z_I × z_L} (hf : f_X7_scanWord I L = some r) : z_C layX yX7_scanWord cX7_scanWord 2 (none) ({ frames := 0, cells := 0, slots := 0, locals := 0 } : Room) [.ref 39] I L (none, r.1, r.2) := by
  refine z_C.of (by decide) (Nat.le_of_ble_eq_true rfl) ?_
  show z_X layX RX7 cX7_scanWord 2 (none) ({ frames := 0, cells := 0, slots := 0, locals := 0 } : Room) 0 [(0, .ref 39)] [] I L (none, r.1, r.2)
  unfold f_X7_scanWord at hf
  refine x_aload_n 0 dX7_scanWord_0 rfl rfl ?_
  refine x_lconst (v := (0)) dX7_scanWord_1 (by decide) ?_
  obtain ⟨L1, hL1, hf⟩ := f_lt hf
  refine x_putL dX7_scanWord_2 lx_39 fl_X7_70 rfl rfl rfl hL1 ?_
  refine x_lv [(0, .ref 39)] [0] rfl ?_
  refine l_X7_scanWord_5  _ ?_ _ _ _ hf
  · intro I_7 L_8 hf
    refine x_aload_n 0 dX7_scanWord_85 rfl rfl ?_
    refine x_getI (v := (I_7 39 4)) dX7_scanWord_86 lx_39 fl_X7_42 rfl rfl ?_
    refine x_aload_n 0 dX7_scanWord_89 rfl rfl ?_
    refine x_getI (v := (I_7 39 3)) dX7_scanWord_90 lx_39 fl_X7_54 rfl rfl ?_
    refine x_isub dX7_scanWord_93 ?_
    refine x_bipush (v := (8)) dX7_scanWord_94 (by decide) ?_
    refine x_icmp_le 105 dX7_scanWord_96 (by decide) (fun hB => ?_) (fun hB => ?_)
    · replace hf := f_if hB hf
      refine x_aload_n 0 dX7_scanWord_105 rfl rfl ?_
      refine x_iconst (v := (3)) dX7_scanWord_106 (by decide) ?_
      obtain ⟨I9, hI9, hf⟩ := f_lt hf
      refine x_putI dX7_scanWord_107 lx_39 fl_X7_57 rfl rfl rfl hI9 ?_
      refine x_iconst (v := (0)) dX7_scanWord_110 (by decide) ?_
      refine x_istore_n [(1, .int (0 : Int32)), (0, .ref 39)] dX7_scanWord_111 rfl (by decide) rfl ?_
      refine x_lv [(0, .ref 39), (1, .int (0 : Int32))] [1, 0] rfl ?_
      refine l_X7_scanWord_112 (L_8)   _ _ _ hf
    · replace hf := f_el hB hf
      refine x_aload_n 0 dX7_scanWord_99 rfl rfl ?_
      refine x_iconst (v := (4)) dX7_scanWord_100 (by decide) ?_
      obtain ⟨I13, hI13, hf⟩ := f_lt hf
      refine x_putI dX7_scanWord_101 lx_39 fl_X7_57 rfl rfl rfl hI13 ?_
      cases hf
      exact x_vret dX7_scanWord_104 rfl rfl
set_option maxRecDepth 100000 in
set_option maxHeartbeats 4000000 in
theorem l_X7_scanNumber_5    (L : z_L) {r : z_I} (k81 : z_I → Option (z_I)) (hk81 : ∀ (I : z_I), k81 I = some r → z_X layX RX7 cX7_scanNumber 1 (none) ({ frames := 0, cells := 0, slots := 0, locals := 0 } : Room) 81 [(0, .ref 39)] [] I L (none, r, L)) : ∀ (n : Nat) (I : z_I), g_X7_scanNumber_5  k81 n I = some r → z_X layX RX7 cX7_scanNumber 1 (none) ({ frames := 0, cells := 0, slots := 0, locals := 0 } : Room) 5 [(0, .ref 39)] [] I L (none, r, L) := by
  intro n
  induction n with
  | zero => intro I hf; cases hf
  | succ n ih =>
    intro I hf
    rw [g_X7_scanNumber_5] at hf
    refine x_aload_n 0 dX7_scanNumber_5 rfl rfl ?_
    refine x_getI (v := (I 39 4)) dX7_scanNumber_6 lx_39 fl_X7_42 rfl rfl ?_
    refine x_aload_n 0 dX7_scanNumber_9 rfl rfl ?_
    refine x_getI (v := (I 39 2)) dX7_scanNumber_10 lx_39 fl_X7_39 rfl rfl ?_
    refine x_icmp_ge 81 dX7_scanNumber_13 (by decide) (fun hB => ?_) (fun hB => ?_)
    · replace hf := f_if hB hf
      refine x_lv [(0, .ref 39)] [0] rfl ?_
      exact hk81 _ hf
    · replace hf := f_el hB hf
      refine x_aload_n 0 dX7_scanNumber_16 rfl rfl ?_
      refine x_getR dX7_scanNumber_17 lx_39 fl_X7_15 rfl ?_
      refine x_aload_n 0 dX7_scanNumber_20 rfl rfl ?_
      refine x_getI (v := (I 39 4)) dX7_scanNumber_21 lx_39 fl_X7_42 rfl rfl ?_
      obtain ⟨h2, hf⟩ := f_gd hf
      refine x_bald (j := ((I 39 4)).toNatClampNeg) (v := (I 2 ((I 39 4)).toNatClampNeg)) dX7_scanNumber_24 lx_2 h2 rfl rfl ?_
      refine x_bipush (v := (48)) dX7_scanNumber_25 (by decide) ?_
      refine x_icmp_lt 81 dX7_scanNumber_27 (by decide) (fun hB => ?_) (fun hB => ?_)
      · replace hf := f_if hB hf
        refine x_lv [(0, .ref 39)] [0] rfl ?_
        exact hk81 _ hf
      · replace hf := f_el hB hf
        refine x_aload_n 0 dX7_scanNumber_30 rfl rfl ?_
        refine x_getR dX7_scanNumber_31 lx_39 fl_X7_15 rfl ?_
        refine x_aload_n 0 dX7_scanNumber_34 rfl rfl ?_
        refine x_getI (v := (I 39 4)) dX7_scanNumber_35 lx_39 fl_X7_42 rfl rfl ?_
        refine x_bald (j := ((I 39 4)).toNatClampNeg) (v := (I 2 ((I 39 4)).toNatClampNeg)) dX7_scanNumber_38 lx_2 h2 rfl rfl ?_
        refine x_bipush (v := (57)) dX7_scanNumber_39 (by decide) ?_
        refine x_icmp_gt 81 dX7_scanNumber_41 (by decide) (fun hB => ?_) (fun hB => ?_)
        · replace hf := f_if hB hf
          refine x_lv [(0, .ref 39)] [0] rfl ?_
          exact hk81 _ hf
        · replace hf := f_el hB hf
          refine x_aload_n 0 dX7_scanNumber_44 rfl rfl ?_
          refine x_aload_n 0 dX7_scanNumber_45 rfl rfl ?_
          refine x_getI (v := (I 39 7)) dX7_scanNumber_46 lx_39 fl_X7_77 rfl rfl ?_
          refine x_bipush (v := (10)) dX7_scanNumber_49 (by decide) ?_
          refine x_imul dX7_scanNumber_51 ?_
          refine x_aload_n 0 dX7_scanNumber_52 rfl rfl ?_
          refine x_getR dX7_scanNumber_53 lx_39 fl_X7_15 rfl ?_
          refine x_aload_n 0 dX7_scanNumber_56 rfl rfl ?_
          refine x_getI (v := (I 39 4)) dX7_scanNumber_57 lx_39 fl_X7_42 rfl rfl ?_
          refine x_bald (j := ((I 39 4)).toNatClampNeg) (v := (I 2 ((I 39 4)).toNatClampNeg)) dX7_scanNumber_60 lx_2 h2 rfl rfl ?_
          refine x_iadd dX7_scanNumber_61 ?_
          refine x_bipush (v := (48)) dX7_scanNumber_62 (by decide) ?_
          refine x_isub dX7_scanNumber_64 ?_
          obtain ⟨I5, hI5, hf⟩ := f_lt hf
          refine x_putI dX7_scanNumber_65 lx_39 fl_X7_77 rfl rfl rfl hI5 ?_
          refine x_aload_n 0 dX7_scanNumber_68 rfl rfl ?_
          refine x_dup dX7_scanNumber_69 rfl ?_
          refine x_getI (v := (I 39 4)) dX7_scanNumber_70 lx_39 fl_X7_42 rfl (by rw [hI5, z2_s, z1_o (by decide)]) ?_
          refine x_iconst (v := (1)) dX7_scanNumber_73 (by decide) ?_
          refine x_iadd dX7_scanNumber_74 ?_
          obtain ⟨I6, hI6, hf⟩ := f_lt hf
          refine x_putI dX7_scanNumber_75 lx_39 fl_X7_42 rfl rfl rfl hI6 ?_
          refine x_goto 5 dX7_scanNumber_78 (by decide) ?_
          refine x_lv [(0, .ref 39)] [0] rfl ?_
          exact ih _ hf
set_option maxRecDepth 100000 in
set_option maxHeartbeats 4000000 in
theorem c_X7_scanNumber {I : z_I} {L : z_L}   {r : z_I} (hf : f_X7_scanNumber I = some r) : z_C layX yX7_scanNumber cX7_scanNumber 1 (none) ({ frames := 0, cells := 0, slots := 0, locals := 0 } : Room) [.ref 39] I L (none, r, L) := by
  refine z_C.of (by decide) (Nat.le_of_ble_eq_true rfl) ?_
  show z_X layX RX7 cX7_scanNumber 1 (none) ({ frames := 0, cells := 0, slots := 0, locals := 0 } : Room) 0 [(0, .ref 39)] [] I L (none, r, L)
  unfold f_X7_scanNumber at hf
  refine x_aload_n 0 dX7_scanNumber_0 rfl rfl ?_
  refine x_iconst (v := (0)) dX7_scanNumber_1 (by decide) ?_
  obtain ⟨I1, hI1, hf⟩ := f_lt hf
  refine x_putI dX7_scanNumber_2 lx_39 fl_X7_77 rfl rfl rfl hI1 ?_
  refine x_lv [(0, .ref 39)] [0] rfl ?_
  refine l_X7_scanNumber_5 (L) _ ?_ _ _ hf
  · intro I_7 hf
    refine x_aload_n 0 dX7_scanNumber_81 rfl rfl ?_
    refine x_aload_n 0 dX7_scanNumber_82 rfl rfl ?_
    refine x_getI (v := (I_7 39 4)) dX7_scanNumber_83 lx_39 fl_X7_42 rfl rfl ?_
    refine x_aload_n 0 dX7_scanNumber_86 rfl rfl ?_
    refine x_getI (v := (I_7 39 3)) dX7_scanNumber_87 lx_39 fl_X7_54 rfl rfl ?_
    refine x_isub dX7_scanNumber_90 ?_
    refine x_iconst (v := (4)) dX7_scanNumber_91 (by decide) ?_
    refine x_icmp_le 99 dX7_scanNumber_92 (by decide) (fun hB => ?_) (fun hB => ?_)
    · replace hf := f_if hB hf
      refine x_iconst (v := (5)) dX7_scanNumber_99 (by decide) ?_
      obtain ⟨I8, hI8, hf⟩ := f_lt hf
      refine x_putI dX7_scanNumber_100 lx_39 fl_X7_57 rfl rfl rfl hI8 ?_
      cases hf
      exact x_vret dX7_scanNumber_103 rfl rfl
    · replace hf := f_el hB hf
      refine x_iconst (v := (1)) dX7_scanNumber_95 (by decide) ?_
      refine x_goto 100 dX7_scanNumber_96 (by decide) ?_
      obtain ⟨I9, hI9, hf⟩ := f_lt hf
      refine x_putI dX7_scanNumber_100 lx_39 fl_X7_57 rfl rfl rfl hI9 ?_
      cases hf
      exact x_vret dX7_scanNumber_103 rfl rfl
set_option maxRecDepth 100000 in
set_option maxHeartbeats 4000000 in
theorem c_X7_scanSign {I : z_I} {L : z_L} (p0 : Int32)  : z_C layX yX7_scanSign cX7_scanSign 3 (none) ({ frames := 0, cells := 0, slots := 0, locals := 0 } : Room) [.ref 39, .int p0] I L (none, (f_X7_scanSign I p0), L) := by
  obtain ⟨r, hf⟩ : ∃ r, f_X7_scanSign I p0 = r := ⟨_, rfl⟩
  rw [hf]
  refine z_C.of (by decide) (Nat.le_of_ble_eq_true rfl) ?_
  show z_X layX RX7 cX7_scanSign 3 (none) ({ frames := 0, cells := 0, slots := 0, locals := 0 } : Room) 0 [(0, .ref 39), (1, .int p0)] [] I L (none, r, L)
  unfold f_X7_scanSign at hf
  refine x_aload_n 0 dX7_scanSign_0 rfl rfl ?_
  refine x_iload_n 1 dX7_scanSign_1 rfl rfl ?_
  obtain ⟨I1, hI1, hf⟩ := f_lt hf
  refine x_putI dX7_scanSign_2 lx_39 fl_X7_77 rfl rfl rfl hI1 ?_
  refine x_iload_n 1 dX7_scanSign_5 rfl rfl ?_
  refine x_bipush (v := (59)) dX7_scanSign_6 (by decide) ?_
  refine x_icmp_eq 29 dX7_scanSign_8 (by decide) (fun hB => ?_) (fun hB => ?_)
  · replace hf := t_if hB hf
    refine x_iconst (v := (1)) dX7_scanSign_29 (by decide) ?_
    refine x_goto 34 dX7_scanSign_30 (by decide) ?_
    refine x_istore_n [(2, .int (1 : Int32)), (0, .ref 39), (1, .int p0)] dX7_scanSign_34 rfl (by decide) rfl ?_
    refine x_aload_n 1 dX7_scanSign_35 rfl rfl ?_
    refine x_iload_n 0 dX7_scanSign_36 rfl rfl ?_
    refine x_if_eq 45 dX7_scanSign_37 (by decide) (fun h => absurd h (by decide)) (fun _ => ?_)
    refine x_bipush (v := (6)) dX7_scanSign_40 (by decide) ?_
    refine x_goto 46 dX7_scanSign_42 (by decide) ?_
    obtain ⟨I2, hI2, hf⟩ := f_lt hf
    refine x_putI dX7_scanSign_46 lx_39 fl_X7_57 rfl rfl rfl hI2 ?_
    refine x_aload_n 1 dX7_scanSign_49 rfl rfl ?_
    refine x_aload_n 1 dX7_scanSign_50 rfl rfl ?_
    refine x_getI (v := (I 39 3)) dX7_scanSign_51 lx_39 fl_X7_54 rfl (by rw [hI2, z2_s, z1_o (by decide), hI1, z2_s, z1_o (by decide)]) ?_
    refine x_iconst (v := (1)) dX7_scanSign_54 (by decide) ?_
    refine x_iadd dX7_scanSign_55 ?_
    obtain ⟨I3, hI3, hf⟩ := f_lt hf
    refine x_putI dX7_scanSign_56 lx_39 fl_X7_42 rfl rfl rfl hI3 ?_
    subst hf
    exact x_vret dX7_scanSign_59 rfl rfl
  · replace hf := t_el hB hf
    refine x_iload_n 1 dX7_scanSign_11 rfl rfl ?_
    refine x_bipush (v := (60)) dX7_scanSign_12 (by decide) ?_
    refine x_icmp_eq 29 dX7_scanSign_14 (by decide) (fun hB => ?_) (fun hB => ?_)
    · replace hf := t_if hB hf
      refine x_iconst (v := (1)) dX7_scanSign_29 (by decide) ?_
      refine x_goto 34 dX7_scanSign_30 (by decide) ?_
      refine x_istore_n [(2, .int (1 : Int32)), (0, .ref 39), (1, .int p0)] dX7_scanSign_34 rfl (by decide) rfl ?_
      refine x_aload_n 1 dX7_scanSign_35 rfl rfl ?_
      refine x_iload_n 0 dX7_scanSign_36 rfl rfl ?_
      refine x_if_eq 45 dX7_scanSign_37 (by decide) (fun h => absurd h (by decide)) (fun _ => ?_)
      refine x_bipush (v := (6)) dX7_scanSign_40 (by decide) ?_
      refine x_goto 46 dX7_scanSign_42 (by decide) ?_
      obtain ⟨I4, hI4, hf⟩ := f_lt hf
      refine x_putI dX7_scanSign_46 lx_39 fl_X7_57 rfl rfl rfl hI4 ?_
      refine x_aload_n 1 dX7_scanSign_49 rfl rfl ?_
      refine x_aload_n 1 dX7_scanSign_50 rfl rfl ?_
      refine x_getI (v := (I 39 3)) dX7_scanSign_51 lx_39 fl_X7_54 rfl (by rw [hI4, z2_s, z1_o (by decide), hI1, z2_s, z1_o (by decide)]) ?_
      refine x_iconst (v := (1)) dX7_scanSign_54 (by decide) ?_
      refine x_iadd dX7_scanSign_55 ?_
      obtain ⟨I5, hI5, hf⟩ := f_lt hf
      refine x_putI dX7_scanSign_56 lx_39 fl_X7_42 rfl rfl rfl hI5 ?_
      subst hf
      exact x_vret dX7_scanSign_59 rfl rfl
    · replace hf := t_el hB hf
      refine x_iload_n 1 dX7_scanSign_17 rfl rfl ?_
      refine x_bipush (v := (62)) dX7_scanSign_18 (by decide) ?_
      refine x_icmp_eq 29 dX7_scanSign_20 (by decide) (fun hB => ?_) (fun hB => ?_)
      · replace hf := t_if hB hf
        refine x_iconst (v := (1)) dX7_scanSign_29 (by decide) ?_
        refine x_goto 34 dX7_scanSign_30 (by decide) ?_
        refine x_istore_n [(2, .int (1 : Int32)), (0, .ref 39), (1, .int p0)] dX7_scanSign_34 rfl (by decide) rfl ?_
        refine x_aload_n 1 dX7_scanSign_35 rfl rfl ?_
        refine x_iload_n 0 dX7_scanSign_36 rfl rfl ?_
        refine x_if_eq 45 dX7_scanSign_37 (by decide) (fun h => absurd h (by decide)) (fun _ => ?_)
        refine x_bipush (v := (6)) dX7_scanSign_40 (by decide) ?_
        refine x_goto 46 dX7_scanSign_42 (by decide) ?_
        obtain ⟨I6, hI6, hf⟩ := f_lt hf
        refine x_putI dX7_scanSign_46 lx_39 fl_X7_57 rfl rfl rfl hI6 ?_
        refine x_aload_n 1 dX7_scanSign_49 rfl rfl ?_
        refine x_aload_n 1 dX7_scanSign_50 rfl rfl ?_
        refine x_getI (v := (I 39 3)) dX7_scanSign_51 lx_39 fl_X7_54 rfl (by rw [hI6, z2_s, z1_o (by decide), hI1, z2_s, z1_o (by decide)]) ?_
        refine x_iconst (v := (1)) dX7_scanSign_54 (by decide) ?_
        refine x_iadd dX7_scanSign_55 ?_
        obtain ⟨I7, hI7, hf⟩ := f_lt hf
        refine x_putI dX7_scanSign_56 lx_39 fl_X7_42 rfl rfl rfl hI7 ?_
        subst hf
        exact x_vret dX7_scanSign_59 rfl rfl
      · replace hf := t_el hB hf
        refine x_iload_n 1 dX7_scanSign_23 rfl rfl ?_
        refine x_bipush (v := (61)) dX7_scanSign_24 (by decide) ?_
        refine x_icmp_ne 33 dX7_scanSign_26 (by decide) (fun hB => ?_) (fun hB => ?_)
        · replace hf := t_el hB hf
          refine x_iconst (v := (0)) dX7_scanSign_33 (by decide) ?_
          refine x_istore_n [(2, .int (0 : Int32)), (0, .ref 39), (1, .int p0)] dX7_scanSign_34 rfl (by decide) rfl ?_
          refine x_aload_n 1 dX7_scanSign_35 rfl rfl ?_
          refine x_iload_n 0 dX7_scanSign_36 rfl rfl ?_
          refine x_if_eq 45 dX7_scanSign_37 (by decide) (fun _ => ?_) (fun h => absurd h (by decide))
          refine x_iconst (v := (1)) dX7_scanSign_45 (by decide) ?_
          obtain ⟨I10, hI10, hf⟩ := f_lt hf
          refine x_putI dX7_scanSign_46 lx_39 fl_X7_57 rfl rfl rfl hI10 ?_
          refine x_aload_n 1 dX7_scanSign_49 rfl rfl ?_
          refine x_aload_n 1 dX7_scanSign_50 rfl rfl ?_
          refine x_getI (v := (I 39 3)) dX7_scanSign_51 lx_39 fl_X7_54 rfl (by rw [hI10, z2_s, z1_o (by decide), hI1, z2_s, z1_o (by decide)]) ?_
          refine x_iconst (v := (1)) dX7_scanSign_54 (by decide) ?_
          refine x_iadd dX7_scanSign_55 ?_
          obtain ⟨I11, hI11, hf⟩ := f_lt hf
          refine x_putI dX7_scanSign_56 lx_39 fl_X7_42 rfl rfl rfl hI11 ?_
          subst hf
          exact x_vret dX7_scanSign_59 rfl rfl
        · replace hf := t_if hB hf
          refine x_iconst (v := (1)) dX7_scanSign_29 (by decide) ?_
          refine x_goto 34 dX7_scanSign_30 (by decide) ?_
          refine x_istore_n [(2, .int (1 : Int32)), (0, .ref 39), (1, .int p0)] dX7_scanSign_34 rfl (by decide) rfl ?_
          refine x_aload_n 1 dX7_scanSign_35 rfl rfl ?_
          refine x_iload_n 0 dX7_scanSign_36 rfl rfl ?_
          refine x_if_eq 45 dX7_scanSign_37 (by decide) (fun h => absurd h (by decide)) (fun _ => ?_)
          refine x_bipush (v := (6)) dX7_scanSign_40 (by decide) ?_
          refine x_goto 46 dX7_scanSign_42 (by decide) ?_
          obtain ⟨I8, hI8, hf⟩ := f_lt hf
          refine x_putI dX7_scanSign_46 lx_39 fl_X7_57 rfl rfl rfl hI8 ?_
          refine x_aload_n 1 dX7_scanSign_49 rfl rfl ?_
          refine x_aload_n 1 dX7_scanSign_50 rfl rfl ?_
          refine x_getI (v := (I 39 3)) dX7_scanSign_51 lx_39 fl_X7_54 rfl (by rw [hI8, z2_s, z1_o (by decide), hI1, z2_s, z1_o (by decide)]) ?_
          refine x_iconst (v := (1)) dX7_scanSign_54 (by decide) ?_
          refine x_iadd dX7_scanSign_55 ?_
          obtain ⟨I9, hI9, hf⟩ := f_lt hf
          refine x_putI dX7_scanSign_56 lx_39 fl_X7_42 rfl rfl rfl hI9 ?_
          subst hf
          exact x_vret dX7_scanSign_59 rfl rfl
set_option maxRecDepth 100000 in
set_option maxHeartbeats 4000000 in
theorem l_X7_move_8    (L : z_L) {r : z_I × z_L} (k60 : z_I → Option (z_I × z_L)) (hk60 : ∀ (I : z_I), k60 I = some r → z_X layX RX7 cX7_move 2 (none) ({ frames := 1, cells := 0, slots := 0, locals := 22 } : Room) 60 [(0, .ref 39)] [] I L (none, r.1, r.2)) : ∀ (n : Nat) (I : z_I), g_X7_move_8 L k60 n I = some r → z_X layX RX7 cX7_move 2 (none) ({ frames := 1, cells := 0, slots := 0, locals := 22 } : Room) 8 [(0, .ref 39)] [] I L (none, r.1, r.2) := by
  intro n
  induction n with
  | zero => intro I hf; cases hf
  | succ n ih =>
    intro I hf
    rw [g_X7_move_8] at hf
    refine x_aload_n 0 dX7_move_8 rfl rfl ?_
    refine x_getI (v := (I 39 3)) dX7_move_9 lx_39 fl_X7_54 rfl rfl ?_
    refine x_aload_n 0 dX7_move_12 rfl rfl ?_
    refine x_getI (v := (I 39 2)) dX7_move_13 lx_39 fl_X7_39 rfl rfl ?_
    refine x_icmp_ge 60 dX7_move_16 (by decide) (fun hB => ?_) (fun hB => ?_)
    · replace hf := f_if hB hf
      refine x_lv [(0, .ref 39)] [0] rfl ?_
      exact hk60 _ hf
    · replace hf := f_el hB hf
      refine x_aload_n 0 dX7_move_19 rfl rfl ?_
      refine x_getR dX7_move_20 lx_39 fl_X7_15 rfl ?_
      refine x_aload_n 0 dX7_move_23 rfl rfl ?_
      refine x_getI (v := (I 39 3)) dX7_move_24 lx_39 fl_X7_54 rfl rfl ?_
      obtain ⟨h2, hf⟩ := f_gd hf
      refine x_bald (j := ((I 39 3)).toNatClampNeg) (v := (I 2 ((I 39 3)).toNatClampNeg)) dX7_move_27 lx_2 h2 rfl rfl ?_
      refine x_bipush (v := (10)) dX7_move_28 (by decide) ?_
      refine x_icmp_eq 47 dX7_move_30 (by decide) (fun hB => ?_) (fun hB => ?_)
      · replace hf := f_if hB hf
        refine x_aload_n 0 dX7_move_47 rfl rfl ?_
        refine x_dup dX7_move_48 rfl ?_
        refine x_getI (v := (I 39 3)) dX7_move_49 lx_39 fl_X7_54 rfl rfl ?_
        refine x_iconst (v := (1)) dX7_move_52 (by decide) ?_
        refine x_iadd dX7_move_53 ?_
        obtain ⟨I3, hI3, hf⟩ := f_lt hf
        refine x_putI dX7_move_54 lx_39 fl_X7_54 rfl rfl rfl hI3 ?_
        refine x_goto 8 dX7_move_57 (by decide) ?_
        refine x_lv [(0, .ref 39)] [0] rfl ?_
        exact ih _ hf
      · replace hf := f_el hB hf
        refine x_aload_n 0 dX7_move_33 rfl rfl ?_
        refine x_getR dX7_move_34 lx_39 fl_X7_15 rfl ?_
        refine x_aload_n 0 dX7_move_37 rfl rfl ?_
        refine x_getI (v := (I 39 3)) dX7_move_38 lx_39 fl_X7_54 rfl rfl ?_
        refine x_bald (j := ((I 39 3)).toNatClampNeg) (v := (I 2 ((I 39 3)).toNatClampNeg)) dX7_move_41 lx_2 h2 rfl rfl ?_
        refine x_bipush (v := (32)) dX7_move_42 (by decide) ?_
        refine x_icmp_ne 60 dX7_move_44 (by decide) (fun hB => ?_) (fun hB => ?_)
        · replace hf := f_el hB hf
          refine x_lv [(0, .ref 39)] [0] rfl ?_
          exact hk60 _ hf
        · replace hf := f_if hB hf
          refine x_aload_n 0 dX7_move_47 rfl rfl ?_
          refine x_dup dX7_move_48 rfl ?_
          refine x_getI (v := (I 39 3)) dX7_move_49 lx_39 fl_X7_54 rfl rfl ?_
          refine x_iconst (v := (1)) dX7_move_52 (by decide) ?_
          refine x_iadd dX7_move_53 ?_
          obtain ⟨I5, hI5, hf⟩ := f_lt hf
          refine x_putI dX7_move_54 lx_39 fl_X7_54 rfl rfl rfl hI5 ?_
          refine x_goto 8 dX7_move_57 (by decide) ?_
          refine x_lv [(0, .ref 39)] [0] rfl ?_
          exact ih _ hf
set_option maxRecDepth 100000 in
set_option maxHeartbeats 4000000 in
theorem c_X7_move {I : z_I} {L : z_L}   {r : z_I × z_L} (hf : f_X7_move I L = some r) : z_C layX yX7_move cX7_move 2 (none) ({ frames := 1, cells := 0, slots := 0, locals := 22 } : Room) [.ref 39] I L (none, r.1, r.2) := by
  refine z_C.of (by decide) (Nat.le_of_ble_eq_true rfl) ?_
  show z_X layX RX7 cX7_move 2 (none) ({ frames := 1, cells := 0, slots := 0, locals := 22 } : Room) 0 [(0, .ref 39)] [] I L (none, r.1, r.2)
  unfold f_X7_move at hf
  refine x_aload_n 0 dX7_move_0 rfl rfl ?_
  refine x_aload_n 0 dX7_move_1 rfl rfl ?_
  refine x_getI (v := (I 39 4)) dX7_move_2 lx_39 fl_X7_42 rfl rfl ?_
  obtain ⟨I1, hI1, hf⟩ := f_lt hf
  refine x_putI dX7_move_5 lx_39 fl_X7_54 rfl rfl rfl hI1 ?_
  refine x_lv [(0, .ref 39)] [0] rfl ?_
  refine l_X7_move_8 (L) _ ?_ _ _ hf
  · intro I_6 hf
    refine x_aload_n 0 dX7_move_60 rfl rfl ?_
    refine x_aload_n 0 dX7_move_61 rfl rfl ?_
    refine x_getI (v := (I_6 39 3)) dX7_move_62 lx_39 fl_X7_54 rfl rfl ?_
    obtain ⟨I7, hI7, hf⟩ := f_lt hf
    refine x_putI dX7_move_65 lx_39 fl_X7_42 rfl rfl rfl hI7 ?_
    refine x_aload_n 0 dX7_move_68 rfl rfl ?_
    refine x_getI (v := (I_6 39 3)) dX7_move_69 lx_39 fl_X7_54 rfl (by rw [hI7, z2_s, z1_o (by decide)]) ?_
    refine x_aload_n 0 dX7_move_72 rfl rfl ?_
    refine x_getI (v := (I_6 39 2)) dX7_move_73 lx_39 fl_X7_39 rfl (by rw [hI7, z2_s, z1_o (by decide)]) ?_
    refine x_icmp_ge 91 dX7_move_76 (by decide) (fun hB => ?_) (fun hB => ?_)
    · replace hf := f_if hB hf
      refine x_iconst (v := (0)) dX7_move_91 (by decide) ?_
      refine x_istore_n [(1, .int (0 : Int32)), (0, .ref 39)] dX7_move_92 rfl (by decide) rfl ?_
      refine x_aload_n 1 dX7_move_93 rfl rfl ?_
      refine x_getI (v := (I_6 39 3)) dX7_move_94 lx_39 fl_X7_54 rfl (by rw [hI7, z2_s, z1_o (by decide)]) ?_
      refine x_aload_n 1 dX7_move_97 rfl rfl ?_
      refine x_getI (v := (I_6 39 2)) dX7_move_98 lx_39 fl_X7_39 rfl (by rw [hI7, z2_s, z1_o (by decide)]) ?_
      refine x_icmp_lt 112 dX7_move_101 (by decide) (fun hB => ?_) (fun hB => ?_)
      · replace hf := f_if hB hf
        refine x_iload_n 0 dX7_move_112 rfl rfl ?_
        refine x_bipush (v := (97)) dX7_move_113 (by decide) ?_
        refine x_icmp_lt 131 dX7_move_115 (by decide) (fun _ => ?_) (fun h => absurd h (by decide))
        refine x_iload_n 0 dX7_move_131 rfl rfl ?_
        refine x_bipush (v := (48)) dX7_move_132 (by decide) ?_
        refine x_icmp_lt 150 dX7_move_134 (by decide) (fun _ => ?_) (fun h => absurd h (by decide))
        refine x_aload_n 1 dX7_move_150 rfl rfl ?_
        refine x_iload_n 0 dX7_move_151 rfl rfl ?_
        refine x_callVv [.int (0 : Int32)] (c_X7_scanSign (I := I7) (L := L) (0 : Int32)) dX7_move_152 lk_X7_66 lx_39 rfl cd_X7_scanSign rfl rfl (Nat.le_of_ble_eq_true rfl) ⟨rfl, rfl, Nat.le_of_ble_eq_true rfl, Nat.le_of_ble_eq_true rfl⟩ ?_
        cases hf
        exact x_vret dX7_move_155 rfl rfl
      · replace hf := f_el hB hf
        refine x_aload_n 1 dX7_move_104 rfl rfl ?_
        refine x_iconst (v := (0)) dX7_move_105 (by decide) ?_
        obtain ⟨I8, hI8, hf⟩ := f_lt hf
        refine x_putI dX7_move_106 lx_39 fl_X7_57 rfl rfl rfl hI8 ?_
        refine x_goto 155 dX7_move_109 (by decide) ?_
        cases hf
        exact x_vret dX7_move_155 rfl rfl
    · replace hf := f_el hB hf
      refine x_aload_n 0 dX7_move_79 rfl rfl ?_
      refine x_getR dX7_move_80 lx_39 fl_X7_15 rfl ?_
      refine x_aload_n 0 dX7_move_83 rfl rfl ?_
      refine x_getI (v := (I_6 39 3)) dX7_move_84 lx_39 fl_X7_54 rfl (by rw [hI7, z2_s, z1_o (by decide)]) ?_
      obtain ⟨h9, hf⟩ := f_gd hf
      refine x_bald (j := ((I_6 39 3)).toNatClampNeg) (v := (I_6 2 ((I_6 39 3)).toNatClampNeg)) dX7_move_87 lx_2 h9 rfl (by rw [hI7, z2_o (by decide)]) ?_
      refine x_goto 92 dX7_move_88 (by decide) ?_
      refine x_istore_n [(1, .int (I_6 2 ((I_6 39 3)).toNatClampNeg)), (0, .ref 39)] dX7_move_92 rfl (by decide) rfl ?_
      refine x_aload_n 1 dX7_move_93 rfl rfl ?_
      refine x_getI (v := (I_6 39 3)) dX7_move_94 lx_39 fl_X7_54 rfl (by rw [hI7, z2_s, z1_o (by decide)]) ?_
      refine x_aload_n 1 dX7_move_97 rfl rfl ?_
      refine x_getI (v := (I_6 39 2)) dX7_move_98 lx_39 fl_X7_39 rfl (by rw [hI7, z2_s, z1_o (by decide)]) ?_
      refine x_icmp_lt 112 dX7_move_101 (by decide) (fun hB => ?_) (fun hB => ?_)
      · replace hf := f_if hB hf
        refine x_iload_n 0 dX7_move_112 rfl rfl ?_
        refine x_bipush (v := (97)) dX7_move_113 (by decide) ?_
        refine x_icmp_lt 131 dX7_move_115 (by decide) (fun hB => ?_) (fun hB => ?_)
        · replace hf := f_if hB hf
          refine x_iload_n 0 dX7_move_131 rfl rfl ?_
          refine x_bipush (v := (48)) dX7_move_132 (by decide) ?_
          refine x_icmp_lt 150 dX7_move_134 (by decide) (fun hB => ?_) (fun hB => ?_)
          · replace hf := f_if hB hf
            refine x_aload_n 1 dX7_move_150 rfl rfl ?_
            refine x_iload_n 0 dX7_move_151 rfl rfl ?_
            refine x_callVv [.int (I_6 2 ((I_6 39 3)).toNatClampNeg)] (c_X7_scanSign (I := I7) (L := L) (I_6 2 ((I_6 39 3)).toNatClampNeg)) dX7_move_152 lk_X7_66 lx_39 rfl cd_X7_scanSign rfl rfl (Nat.le_of_ble_eq_true rfl) ⟨rfl, rfl, Nat.le_of_ble_eq_true rfl, Nat.le_of_ble_eq_true rfl⟩ ?_
            cases hf
            exact x_vret dX7_move_155 rfl rfl
          · replace hf := f_el hB hf
            refine x_iload_n 0 dX7_move_137 rfl rfl ?_
            refine x_bipush (v := (57)) dX7_move_138 (by decide) ?_
            refine x_icmp_gt 150 dX7_move_140 (by decide) (fun hB => ?_) (fun hB => ?_)
            · replace hf := f_if hB hf
              refine x_aload_n 1 dX7_move_150 rfl rfl ?_
              refine x_iload_n 0 dX7_move_151 rfl rfl ?_
              refine x_callVv [.int (I_6 2 ((I_6 39 3)).toNatClampNeg)] (c_X7_scanSign (I := I7) (L := L) (I_6 2 ((I_6 39 3)).toNatClampNeg)) dX7_move_152 lk_X7_66 lx_39 rfl cd_X7_scanSign rfl rfl (Nat.le_of_ble_eq_true rfl) ⟨rfl, rfl, Nat.le_of_ble_eq_true rfl, Nat.le_of_ble_eq_true rfl⟩ ?_
              cases hf
              exact x_vret dX7_move_155 rfl rfl
            · replace hf := f_el hB hf
              refine x_aload_n 1 dX7_move_143 rfl rfl ?_
              obtain ⟨q10, hq11, hf⟩ := f_bd hf
              refine x_callVv [] (c_X7_scanNumber (I := I7) (L := L)  hq11) dX7_move_144 lk_X7_63 lx_39 rfl cd_X7_scanNumber rfl rfl (Nat.le_of_ble_eq_true rfl) ⟨rfl, rfl, Nat.le_of_ble_eq_true rfl, Nat.le_of_ble_eq_true rfl⟩ ?_
              refine x_goto 155 dX7_move_147 (by decide) ?_
              cases hf
              exact x_vret dX7_move_155 rfl rfl
        · replace hf := f_el hB hf
          refine x_iload_n 0 dX7_move_118 rfl rfl ?_
          refine x_bipush (v := (122)) dX7_move_119 (by decide) ?_
          refine x_icmp_gt 131 dX7_move_121 (by decide) (fun hB => ?_) (fun hB => ?_)
          · replace hf := f_if hB hf
            refine x_iload_n 0 dX7_move_131 rfl rfl ?_
            refine x_bipush (v := (48)) dX7_move_132 (by decide) ?_
            refine x_icmp_lt 150 dX7_move_134 (by decide) (fun hB => ?_) (fun hB => ?_)
            · replace hf := f_if hB hf
              refine x_aload_n 1 dX7_move_150 rfl rfl ?_
              refine x_iload_n 0 dX7_move_151 rfl rfl ?_
              refine x_callVv [.int (I_6 2 ((I_6 39 3)).toNatClampNeg)] (c_X7_scanSign (I := I7) (L := L) (I_6 2 ((I_6 39 3)).toNatClampNeg)) dX7_move_152 lk_X7_66 lx_39 rfl cd_X7_scanSign rfl rfl (Nat.le_of_ble_eq_true rfl) ⟨rfl, rfl, Nat.le_of_ble_eq_true rfl, Nat.le_of_ble_eq_true rfl⟩ ?_
              cases hf
              exact x_vret dX7_move_155 rfl rfl
            · replace hf := f_el hB hf
              refine x_iload_n 0 dX7_move_137 rfl rfl ?_
              refine x_bipush (v := (57)) dX7_move_138 (by decide) ?_
              refine x_icmp_gt 150 dX7_move_140 (by decide) (fun hB => ?_) (fun hB => ?_)
              · replace hf := f_if hB hf
                refine x_aload_n 1 dX7_move_150 rfl rfl ?_
                refine x_iload_n 0 dX7_move_151 rfl rfl ?_
                refine x_callVv [.int (I_6 2 ((I_6 39 3)).toNatClampNeg)] (c_X7_scanSign (I := I7) (L := L) (I_6 2 ((I_6 39 3)).toNatClampNeg)) dX7_move_152 lk_X7_66 lx_39 rfl cd_X7_scanSign rfl rfl (Nat.le_of_ble_eq_true rfl) ⟨rfl, rfl, Nat.le_of_ble_eq_true rfl, Nat.le_of_ble_eq_true rfl⟩ ?_
                cases hf
                exact x_vret dX7_move_155 rfl rfl
              · replace hf := f_el hB hf
                refine x_aload_n 1 dX7_move_143 rfl rfl ?_
                obtain ⟨q12, hq13, hf⟩ := f_bd hf
                refine x_callVv [] (c_X7_scanNumber (I := I7) (L := L)  hq13) dX7_move_144 lk_X7_63 lx_39 rfl cd_X7_scanNumber rfl rfl (Nat.le_of_ble_eq_true rfl) ⟨rfl, rfl, Nat.le_of_ble_eq_true rfl, Nat.le_of_ble_eq_true rfl⟩ ?_
                refine x_goto 155 dX7_move_147 (by decide) ?_
                cases hf
                exact x_vret dX7_move_155 rfl rfl
          · replace hf := f_el hB hf
            refine x_aload_n 1 dX7_move_124 rfl rfl ?_
            obtain ⟨q14, hq15, hf⟩ := f_bd hf
            refine x_callVv [] (c_X7_scanWord (I := I7) (L := L)  hq15) dX7_move_125 lk_X7_60 lx_39 rfl cd_X7_scanWord rfl rfl (Nat.le_of_ble_eq_true rfl) ⟨rfl, rfl, Nat.le_of_ble_eq_true rfl, Nat.le_of_ble_eq_true rfl⟩ ?_
            refine x_goto 155 dX7_move_128 (by decide) ?_
            cases hf
            exact x_vret dX7_move_155 rfl rfl
      · replace hf := f_el hB hf
        refine x_aload_n 1 dX7_move_104 rfl rfl ?_
        refine x_iconst (v := (0)) dX7_move_105 (by decide) ?_
        obtain ⟨I16, hI16, hf⟩ := f_lt hf
        refine x_putI dX7_move_106 lx_39 fl_X7_57 rfl rfl rfl hI16 ?_
        refine x_goto 155 dX7_move_109 (by decide) ?_
        cases hf
        exact x_vret dX7_move_155 rfl rfl
set_option maxRecDepth 100000 in
set_option maxHeartbeats 4000000 in
theorem c_X7_open {I : z_I} {L : z_L} {p0 : Int32}  {r : z_I × z_L} (hf : f_X7_open I L p0 = some r) : z_C layX yX7_open cX7_open 2 (none) ({ frames := 2, cells := 0, slots := 0, locals := 43 } : Room) [.ref 39, .int p0] I L (none, r.1, r.2) := by
  refine z_C.of (by decide) (Nat.le_of_ble_eq_true rfl) ?_
  show z_X layX RX7 cX7_open 2 (none) ({ frames := 2, cells := 0, slots := 0, locals := 43 } : Room) 0 [(0, .ref 39), (1, .int p0)] [] I L (none, r.1, r.2)
  unfold f_X7_open at hf
  refine x_aload_n 0 dX7_open_0 rfl rfl ?_
  refine x_iload_n 1 dX7_open_1 rfl rfl ?_
  refine x_aload_n 0 dX7_open_2 rfl rfl ?_
  refine x_getR dX7_open_3 lx_39 fl_X7_15 rfl ?_
  refine x_alenB (v := (900 : Int32)) dX7_open_6 lx_2 (by decide) ?_
  refine x_mmin dX7_open_7 lk_X7_33 ⟨Nat.le_of_ble_eq_true rfl, Nat.le_of_ble_eq_true rfl⟩ ?_
  obtain ⟨I1, hI1, hf⟩ := f_lt hf
  refine x_putI dX7_open_10 lx_39 fl_X7_39 rfl rfl rfl hI1 ?_
  refine x_aload_n 0 dX7_open_13 rfl rfl ?_
  refine x_iconst (v := (0)) dX7_open_14 (by decide) ?_
  obtain ⟨I2, hI2, hf⟩ := f_lt hf
  refine x_putI dX7_open_15 lx_39 fl_X7_42 rfl rfl rfl hI2 ?_
  refine x_aload_n 0 dX7_open_18 rfl rfl ?_
  refine x_iconst (v := (0)) dX7_open_19 (by decide) ?_
  obtain ⟨I3, hI3, hf⟩ := f_lt hf
  refine x_putI dX7_open_20 lx_39 fl_X7_45 rfl rfl rfl hI3 ?_
  refine x_aload_n 0 dX7_open_23 rfl rfl ?_
  refine x_iconst (v := (-1)) dX7_open_24 (by decide) ?_
  obtain ⟨I4, hI4, hf⟩ := f_lt hf
  refine x_putI dX7_open_25 lx_39 fl_X7_48 rfl rfl rfl hI4 ?_
  refine x_aload_n 0 dX7_open_28 rfl rfl ?_
  obtain ⟨q5, hq6, hf⟩ := f_bd hf
  refine x_callVv [] (c_X7_move (I := I4) (L := L)  hq6) dX7_open_29 lk_X7_51 lx_39 rfl cd_X7_move rfl rfl (Nat.le_of_ble_eq_true rfl) ⟨rfl, rfl, Nat.le_of_ble_eq_true rfl, Nat.le_of_ble_eq_true rfl⟩ ?_
  cases hf
  exact x_vret dX7_open_32 rfl rfl
set_option maxRecDepth 100000 in
set_option maxHeartbeats 4000000 in
theorem c_X7_isOver {I : z_I} {L : z_L}   : z_C layX yX7_isOver cX7_isOver 1 (some .boolean) ({ frames := 0, cells := 0, slots := 0, locals := 0 } : Room) [.ref 39] I L (some (.int (zb (f_X7_isOver I))), I, L) := by
  obtain ⟨r, hf⟩ : ∃ r, f_X7_isOver I = r := ⟨_, rfl⟩
  rw [hf]
  refine z_C.of (by decide) (Nat.le_of_ble_eq_true rfl) ?_
  show z_X layX RX7 cX7_isOver 1 (some .boolean) ({ frames := 0, cells := 0, slots := 0, locals := 0 } : Room) 0 [(0, .ref 39)] [] I L (some (.int (zb r)), I, L)
  unfold f_X7_isOver at hf
  refine x_aload_n 0 dX7_isOver_0 rfl rfl ?_
  refine x_getI (v := (I 39 5)) dX7_isOver_1 lx_39 fl_X7_57 rfl rfl ?_
  refine x_if_ne 11 dX7_isOver_4 (by decide) (fun hB => ?_) (fun hB => ?_)
  · replace hf := t_el hB hf
    refine x_iconst (v := (0)) dX7_isOver_11 (by decide) ?_
    subst hf
    exact x_zret (b := false) dX7_isOver_12 rfl rfl
  · replace hf := t_if hB hf
    refine x_iconst (v := (1)) dX7_isOver_7 (by decide) ?_
    refine x_goto 12 dX7_isOver_8 (by decide) ?_
    subst hf
    exact x_zret (b := true) dX7_isOver_12 rfl rfl
set_option maxRecDepth 100000 in
set_option maxHeartbeats 4000000 in
theorem c_X7_keywordHere {I : z_I} {L : z_L}   : z_C layX yX7_keywordHere cX7_keywordHere 1 (some .int) ({ frames := 0, cells := 0, slots := 0, locals := 0 } : Room) [.ref 39] I L (some (.int (f_X7_keywordHere I)), I, L) := by
  obtain ⟨r, hf⟩ : ∃ r, f_X7_keywordHere I = r := ⟨_, rfl⟩
  rw [hf]
  refine z_C.of (by decide) (Nat.le_of_ble_eq_true rfl) ?_
  show z_X layX RX7 cX7_keywordHere 1 (some .int) ({ frames := 0, cells := 0, slots := 0, locals := 0 } : Room) 0 [(0, .ref 39)] [] I L (some (.int r), I, L)
  unfold f_X7_keywordHere at hf
  refine x_aload_n 0 dX7_keywordHere_0 rfl rfl ?_
  refine x_getI (v := (I 39 5)) dX7_keywordHere_1 lx_39 fl_X7_57 rfl rfl ?_
  refine x_iconst (v := (2)) dX7_keywordHere_4 (by decide) ?_
  refine x_icmp_ne 15 dX7_keywordHere_5 (by decide) (fun hB => ?_) (fun hB => ?_)
  · replace hf := t_el hB hf
    refine x_iconst (v := (-1)) dX7_keywordHere_15 (by decide) ?_
    subst hf
    exact x_iret dX7_keywordHere_16 rfl rfl
  · replace hf := t_if hB hf
    refine x_aload_n 0 dX7_keywordHere_8 rfl rfl ?_
    refine x_getI (v := (I 39 6)) dX7_keywordHere_9 lx_39 fl_X7_74 rfl rfl ?_
    refine x_goto 16 dX7_keywordHere_12 (by decide) ?_
    subst hf
    exact x_iret dX7_keywordHere_16 rfl rfl
set_option maxRecDepth 100000 in
set_option maxHeartbeats 4000000 in
theorem c_X7_fail {I : z_I} {L : z_L} (p0 : Int32)  : z_C layX yX7_fail cX7_fail 2 (some .boolean) ({ frames := 0, cells := 0, slots := 0, locals := 0 } : Room) [.ref 39, .int p0] I L (some (.int (zb (f_X7_fail I p0).1)), (f_X7_fail I p0).2, L) := by
  obtain ⟨r, hf⟩ : ∃ r, f_X7_fail I p0 = r := ⟨_, rfl⟩
  rw [hf]
  refine z_C.of (by decide) (Nat.le_of_ble_eq_true rfl) ?_
  show z_X layX RX7 cX7_fail 2 (some .boolean) ({ frames := 0, cells := 0, slots := 0, locals := 0 } : Room) 0 [(0, .ref 39), (1, .int p0)] [] I L (some (.int (zb r.1)), r.2, L)
  unfold f_X7_fail at hf
  refine x_aload_n 0 dX7_fail_0 rfl rfl ?_
  refine x_aload_n 0 dX7_fail_1 rfl rfl ?_
  refine x_getI (v := (I 39 5)) dX7_fail_2 lx_39 fl_X7_57 rfl rfl ?_
  refine x_iconst (v := (1)) dX7_fail_5 (by decide) ?_
  refine x_icmp_ne 13 dX7_fail_6 (by decide) (fun hB => ?_) (fun hB => ?_)
  · replace hf := t_el hB hf
    refine x_iload_n 1 dX7_fail_13 rfl rfl ?_
    obtain ⟨I3, hI3, hf⟩ := f_lt hf
    refine x_putI dX7_fail_14 lx_39 fl_X7_45 rfl rfl rfl hI3 ?_
    refine x_aload_n 0 dX7_fail_17 rfl rfl ?_
    refine x_aload_n 0 dX7_fail_18 rfl rfl ?_
    refine x_getI (v := (I 39 3)) dX7_fail_19 lx_39 fl_X7_54 rfl (by rw [hI3, z2_s, z1_o (by decide)]) ?_
    obtain ⟨I4, hI4, hf⟩ := f_lt hf
    refine x_putI dX7_fail_22 lx_39 fl_X7_48 rfl rfl rfl hI4 ?_
    refine x_iconst (v := (0)) dX7_fail_25 (by decide) ?_
    subst hf
    exact x_zret (b := false) dX7_fail_26 rfl rfl
  · replace hf := t_if hB hf
    refine x_iconst (v := (1)) dX7_fail_9 (by decide) ?_
    refine x_goto 14 dX7_fail_10 (by decide) ?_
    obtain ⟨I1, hI1, hf⟩ := f_lt hf
    refine x_putI dX7_fail_14 lx_39 fl_X7_45 rfl rfl rfl hI1 ?_
    refine x_aload_n 0 dX7_fail_17 rfl rfl ?_
    refine x_aload_n 0 dX7_fail_18 rfl rfl ?_
    refine x_getI (v := (I 39 3)) dX7_fail_19 lx_39 fl_X7_54 rfl (by rw [hI1, z2_s, z1_o (by decide)]) ?_
    obtain ⟨I2, hI2, hf⟩ := f_lt hf
    refine x_putI dX7_fail_22 lx_39 fl_X7_48 rfl rfl rfl hI2 ?_
    refine x_iconst (v := (0)) dX7_fail_25 (by decide) ?_
    subst hf
    exact x_zret (b := false) dX7_fail_26 rfl rfl
set_option maxRecDepth 100000 in
set_option maxHeartbeats 4000000 in
theorem c_X7_takeNumber {I : z_I} {L : z_L} {p0 : Int32} {p1 : Int32}  {r : Bool × z_I × z_L} (hf : f_X7_takeNumber I L p0 p1 = some r) : z_C layX yX7_takeNumber cX7_takeNumber 3 (some .boolean) ({ frames := 2, cells := 0, slots := 0, locals := 43 } : Room) [.ref 39, .int p0, .int p1] I L (some (.int (zb r.1)), r.2.1, r.2.2) := by
  refine z_C.of (by decide) (Nat.le_of_ble_eq_true rfl) ?_
  show z_X layX RX7 cX7_takeNumber 3 (some .boolean) ({ frames := 2, cells := 0, slots := 0, locals := 43 } : Room) 0 [(0, .ref 39), (1, .int p0), (2, .int p1)] [] I L (some (.int (zb r.1)), r.2.1, r.2.2)
  unfold f_X7_takeNumber at hf
  refine x_aload_n 0 dX7_takeNumber_0 rfl rfl ?_
  refine x_getI (v := (I 39 5)) dX7_takeNumber_1 lx_39 fl_X7_57 rfl rfl ?_
  refine x_iconst (v := (5)) dX7_takeNumber_4 (by decide) ?_
  refine x_icmp_eq 14 dX7_takeNumber_5 (by decide) (fun hB => ?_) (fun hB => ?_)
  · replace hf := f_if hB hf
    refine x_aload_n 0 dX7_takeNumber_14 rfl rfl ?_
    refine x_getI (v := (I 39 7)) dX7_takeNumber_15 lx_39 fl_X7_77 rfl rfl ?_
    refine x_iload_n 1 dX7_takeNumber_18 rfl rfl ?_
    refine x_icmp_lt 30 dX7_takeNumber_19 (by decide) (fun hB => ?_) (fun hB => ?_)
    · replace hf := f_if hB hf
      refine x_aload_n 0 dX7_takeNumber_30 rfl rfl ?_
      refine x_iconst (v := (4)) dX7_takeNumber_31 (by decide) ?_
      refine x_callVi [.int (4 : Int32)] (c_X7_fail (I := I) (L := L) (4 : Int32)) dX7_takeNumber_32 lk_X7_84 lx_39 rfl cd_X7_fail rfl rfl (Nat.le_of_ble_eq_true rfl) ⟨rfl, rfl, Nat.le_of_ble_eq_true rfl, Nat.le_of_ble_eq_true rfl⟩ ?_
      cases hf
      exact x_zret dX7_takeNumber_35 rfl rfl
    · replace hf := f_el hB hf
      refine x_aload_n 0 dX7_takeNumber_22 rfl rfl ?_
      refine x_getI (v := (I 39 7)) dX7_takeNumber_23 lx_39 fl_X7_77 rfl rfl ?_
      refine x_iload_n 2 dX7_takeNumber_26 rfl rfl ?_
      refine x_icmp_le 36 dX7_takeNumber_27 (by decide) (fun hB => ?_) (fun hB => ?_)
      · replace hf := f_if hB hf
        refine x_aload_n 0 dX7_takeNumber_36 rfl rfl ?_
        refine x_aload_n 0 dX7_takeNumber_37 rfl rfl ?_
        refine x_getI (v := (I 39 7)) dX7_takeNumber_38 lx_39 fl_X7_77 rfl rfl ?_
        obtain ⟨I1, hI1, hf⟩ := f_lt hf
        refine x_putI dX7_takeNumber_41 lx_39 fl_X7_90 rfl rfl rfl hI1 ?_
        refine x_aload_n 0 dX7_takeNumber_44 rfl rfl ?_
        obtain ⟨q2, hq3, hf⟩ := f_bd hf
        refine x_callVv [] (c_X7_move (I := I1) (L := L)  hq3) dX7_takeNumber_45 lk_X7_51 lx_39 rfl cd_X7_move rfl rfl (Nat.le_of_ble_eq_true rfl) ⟨rfl, rfl, Nat.le_of_ble_eq_true rfl, Nat.le_of_ble_eq_true rfl⟩ ?_
        refine x_iconst (v := (1)) dX7_takeNumber_48 (by decide) ?_
        cases hf
        exact x_zret (b := true) dX7_takeNumber_49 rfl rfl
      · replace hf := f_el hB hf
        refine x_aload_n 0 dX7_takeNumber_30 rfl rfl ?_
        refine x_iconst (v := (4)) dX7_takeNumber_31 (by decide) ?_
        refine x_callVi [.int (4 : Int32)] (c_X7_fail (I := I) (L := L) (4 : Int32)) dX7_takeNumber_32 lk_X7_84 lx_39 rfl cd_X7_fail rfl rfl (Nat.le_of_ble_eq_true rfl) ⟨rfl, rfl, Nat.le_of_ble_eq_true rfl, Nat.le_of_ble_eq_true rfl⟩ ?_
        cases hf
        exact x_zret dX7_takeNumber_35 rfl rfl
  · replace hf := f_el hB hf
    refine x_aload_n 0 dX7_takeNumber_8 rfl rfl ?_
    refine x_iconst (v := (2)) dX7_takeNumber_9 (by decide) ?_
    refine x_callVi [.int (2 : Int32)] (c_X7_fail (I := I) (L := L) (2 : Int32)) dX7_takeNumber_10 lk_X7_84 lx_39 rfl cd_X7_fail rfl rfl (Nat.le_of_ble_eq_true rfl) ⟨rfl, rfl, Nat.le_of_ble_eq_true rfl, Nat.le_of_ble_eq_true rfl⟩ ?_
    cases hf
    exact x_zret dX7_takeNumber_13 rfl rfl
set_option maxRecDepth 100000 in
set_option maxHeartbeats 4000000 in
theorem c_X7_takeSemicolon {I : z_I} {L : z_L}   {r : Bool × z_I × z_L} (hf : f_X7_takeSemicolon I L = some r) : z_C layX yX7_takeSemicolon cX7_takeSemicolon 1 (some .boolean) ({ frames := 2, cells := 0, slots := 0, locals := 43 } : Room) [.ref 39] I L (some (.int (zb r.1)), r.2.1, r.2.2) := by
  refine z_C.of (by decide) (Nat.le_of_ble_eq_true rfl) ?_
  show z_X layX RX7 cX7_takeSemicolon 1 (some .boolean) ({ frames := 2, cells := 0, slots := 0, locals := 43 } : Room) 0 [(0, .ref 39)] [] I L (some (.int (zb r.1)), r.2.1, r.2.2)
  unfold f_X7_takeSemicolon at hf
  refine x_aload_n 0 dX7_takeSemicolon_0 rfl rfl ?_
  refine x_getI (v := (I 39 5)) dX7_takeSemicolon_1 lx_39 fl_X7_57 rfl rfl ?_
  refine x_bipush (v := (6)) dX7_takeSemicolon_4 (by decide) ?_
  refine x_icmp_ne 18 dX7_takeSemicolon_6 (by decide) (fun hB => ?_) (fun hB => ?_)
  · replace hf := f_el hB hf
    refine x_aload_n 0 dX7_takeSemicolon_18 rfl rfl ?_
    refine x_iconst (v := (2)) dX7_takeSemicolon_19 (by decide) ?_
    refine x_callVi [.int (2 : Int32)] (c_X7_fail (I := I) (L := L) (2 : Int32)) dX7_takeSemicolon_20 lk_X7_84 lx_39 rfl cd_X7_fail rfl rfl (Nat.le_of_ble_eq_true rfl) ⟨rfl, rfl, Nat.le_of_ble_eq_true rfl, Nat.le_of_ble_eq_true rfl⟩ ?_
    cases hf
    exact x_zret dX7_takeSemicolon_23 rfl rfl
  · replace hf := f_if hB hf
    refine x_aload_n 0 dX7_takeSemicolon_9 rfl rfl ?_
    refine x_getI (v := (I 39 7)) dX7_takeSemicolon_10 lx_39 fl_X7_77 rfl rfl ?_
    refine x_bipush (v := (59)) dX7_takeSemicolon_13 (by decide) ?_
    refine x_icmp_eq 24 dX7_takeSemicolon_15 (by decide) (fun hB => ?_) (fun hB => ?_)
    · replace hf := f_if hB hf
      refine x_aload_n 0 dX7_takeSemicolon_24 rfl rfl ?_
      obtain ⟨q1, hq2, hf⟩ := f_bd hf
      refine x_callVv [] (c_X7_move (I := I) (L := L)  hq2) dX7_takeSemicolon_25 lk_X7_51 lx_39 rfl cd_X7_move rfl rfl (Nat.le_of_ble_eq_true rfl) ⟨rfl, rfl, Nat.le_of_ble_eq_true rfl, Nat.le_of_ble_eq_true rfl⟩ ?_
      refine x_iconst (v := (1)) dX7_takeSemicolon_28 (by decide) ?_
      cases hf
      exact x_zret (b := true) dX7_takeSemicolon_29 rfl rfl
    · replace hf := f_el hB hf
      refine x_aload_n 0 dX7_takeSemicolon_18 rfl rfl ?_
      refine x_iconst (v := (2)) dX7_takeSemicolon_19 (by decide) ?_
      refine x_callVi [.int (2 : Int32)] (c_X7_fail (I := I) (L := L) (2 : Int32)) dX7_takeSemicolon_20 lk_X7_84 lx_39 rfl cd_X7_fail rfl rfl (Nat.le_of_ble_eq_true rfl) ⟨rfl, rfl, Nat.le_of_ble_eq_true rfl, Nat.le_of_ble_eq_true rfl⟩ ?_
      cases hf
      exact x_zret dX7_takeSemicolon_23 rfl rfl
set_option maxRecDepth 100000 in
set_option maxHeartbeats 4000000 in
theorem c_X1_takeOdds {I : z_I} {L : z_L}   {r : Bool × z_I × z_L} (hf : f_X1_takeOdds I L = some r) : z_C layX yX1_takeOdds cX1_takeOdds 1 (some .boolean) ({ frames := 3, cells := 0, slots := 0, locals := 65 } : Room) [.ref 41] I L (some (.int (zb r.1)), r.2.1, r.2.2) := by
  refine z_C.of (by decide) (Nat.le_of_ble_eq_true rfl) ?_
  show z_X layX RX1 cX1_takeOdds 1 (some .boolean) ({ frames := 3, cells := 0, slots := 0, locals := 65 } : Room) 0 [(0, .ref 41)] [] I L (some (.int (zb r.1)), r.2.1, r.2.2)
  unfold f_X1_takeOdds at hf
  refine x_aload_n 0 dX1_takeOdds_0 rfl rfl ?_
  refine x_getB (v := (zn (I 41 3))) dX1_takeOdds_1 lx_41 fl_X1_28 rfl rfl ?_
  refine x_if_eqB 16 dX1_takeOdds_4 (by decide) (fun hB => ?_) (fun hB => ?_)
  · replace hf := f_el hB hf
    refine x_aload_n 0 dX1_takeOdds_16 rfl rfl ?_
    refine x_iconst (v := (1)) dX1_takeOdds_17 (by decide) ?_
    obtain ⟨I1, hI1, hf⟩ := f_lt hf
    refine x_putB (b := true) dX1_takeOdds_18 lx_41 fl_X1_28 rfl rfl hI1 ?_
    refine x_aload_n 0 dX1_takeOdds_21 rfl rfl ?_
    refine x_getR dX1_takeOdds_22 lx_41 fl_X1_15 rfl ?_
    obtain ⟨q2, hq3, hf⟩ := f_bd hf
    refine x_callVv [] (c_X7_move (I := I1) (L := L)  hq3) dX1_takeOdds_25 lk_X1_65 lx_39 rfl cd_X7_move rfl rfl (Nat.le_of_ble_eq_true rfl) ⟨rfl, rfl, Nat.le_of_ble_eq_true rfl, Nat.le_of_ble_eq_true rfl⟩ ?_
    refine x_aload_n 0 dX1_takeOdds_28 rfl rfl ?_
    refine x_getR dX1_takeOdds_29 lx_41 fl_X1_15 rfl ?_
    refine x_iconst (v := (0)) dX1_takeOdds_32 (by decide) ?_
    refine x_bipush (v := (16)) dX1_takeOdds_33 (by decide) ?_
    obtain ⟨q4, hq5, hf⟩ := f_bd hf
    refine x_callVi [.int (0 : Int32), .int (16 : Int32)] (c_X7_takeNumber (I := q2.1) (L := q2.2)  hq5) dX1_takeOdds_35 lk_X1_68 lx_39 rfl cd_X7_takeNumber rfl rfl (Nat.le_of_ble_eq_true rfl) ⟨rfl, rfl, Nat.le_of_ble_eq_true rfl, Nat.le_of_ble_eq_true rfl⟩ ?_
    refine x_if_neB 43 dX1_takeOdds_38 (by decide) (fun hB => ?_) (fun hB => ?_)
    · replace hf := f_if hB hf
      refine x_aload_n 0 dX1_takeOdds_43 rfl rfl ?_
      refine x_getR dX1_takeOdds_44 lx_41 fl_X1_19 rfl ?_
      refine x_aload_n 0 dX1_takeOdds_47 rfl rfl ?_
      refine x_getR dX1_takeOdds_48 lx_41 fl_X1_15 rfl ?_
      refine x_getI (v := (q4.2.1 39 9)) dX1_takeOdds_51 lx_39 fl_X1_72 rfl rfl ?_
      obtain ⟨I6, hI6, hf⟩ := f_lt hf
      refine x_putI dX1_takeOdds_54 lx_22 fl_X1_76 rfl rfl rfl hI6 ?_
      refine x_aload_n 0 dX1_takeOdds_57 rfl rfl ?_
      refine x_getR dX1_takeOdds_58 lx_41 fl_X1_15 rfl ?_
      obtain ⟨q7, hq8, hf⟩ := f_bd hf
      refine x_callVi [] (c_X7_takeSemicolon (I := I6) (L := q4.2.2)  hq8) dX1_takeOdds_61 lk_X1_79 lx_39 rfl cd_X7_takeSemicolon rfl rfl (Nat.le_of_ble_eq_true rfl) ⟨rfl, rfl, Nat.le_of_ble_eq_true rfl, Nat.le_of_ble_eq_true rfl⟩ ?_
      cases hf
      exact x_zret dX1_takeOdds_64 rfl rfl
    · replace hf := f_el hB hf
      refine x_iconst (v := (0)) dX1_takeOdds_41 (by decide) ?_
      cases hf
      exact x_zret (b := false) dX1_takeOdds_42 rfl rfl
  · replace hf := f_if hB hf
    refine x_aload_n 0 dX1_takeOdds_7 rfl rfl ?_
    refine x_getR dX1_takeOdds_8 lx_41 fl_X1_15 rfl ?_
    refine x_iconst (v := (5)) dX1_takeOdds_11 (by decide) ?_
    refine x_callVi [.int (5 : Int32)] (c_X7_fail (I := I) (L := L) (5 : Int32)) dX1_takeOdds_12 lk_X1_61 lx_39 rfl cd_X7_fail rfl rfl (Nat.le_of_ble_eq_true rfl) ⟨rfl, rfl, Nat.le_of_ble_eq_true rfl, Nat.le_of_ble_eq_true rfl⟩ ?_
    cases hf
    exact x_zret dX1_takeOdds_15 rfl rfl
set_option maxRecDepth 100000 in
set_option maxHeartbeats 4000000 in
theorem c_X7_isAt {I : z_I} {L : z_L} (p0 : Int32)  : z_C layX yX7_isAt cX7_isAt 2 (some .boolean) ({ frames := 0, cells := 0, slots := 0, locals := 0 } : Room) [.ref 39, .int p0] I L (some (.int (zb (f_X7_isAt I p0))), I, L) := by
  obtain ⟨r, hf⟩ : ∃ r, f_X7_isAt I p0 = r := ⟨_, rfl⟩
  rw [hf]
  refine z_C.of (by decide) (Nat.le_of_ble_eq_true rfl) ?_
  show z_X layX RX7 cX7_isAt 2 (some .boolean) ({ frames := 0, cells := 0, slots := 0, locals := 0 } : Room) 0 [(0, .ref 39), (1, .int p0)] [] I L (some (.int (zb r)), I, L)
  unfold f_X7_isAt at hf
  refine x_aload_n 0 dX7_isAt_0 rfl rfl ?_
  refine x_getI (v := (I 39 5)) dX7_isAt_1 lx_39 fl_X7_57 rfl rfl ?_
  refine x_iconst (v := (2)) dX7_isAt_4 (by decide) ?_
  refine x_icmp_ne 20 dX7_isAt_5 (by decide) (fun hB => ?_) (fun hB => ?_)
  · replace hf := t_el hB hf
    refine x_iconst (v := (0)) dX7_isAt_20 (by decide) ?_
    subst hf
    exact x_zret (b := false) dX7_isAt_21 rfl rfl
  · replace hf := t_if hB hf
    refine x_aload_n 0 dX7_isAt_8 rfl rfl ?_
    refine x_getI (v := (I 39 6)) dX7_isAt_9 lx_39 fl_X7_74 rfl rfl ?_
    refine x_iload_n 1 dX7_isAt_12 rfl rfl ?_
    refine x_icmp_ne 20 dX7_isAt_13 (by decide) (fun hB => ?_) (fun hB => ?_)
    · replace hf := t_el hB hf
      refine x_iconst (v := (0)) dX7_isAt_20 (by decide) ?_
      subst hf
      exact x_zret (b := false) dX7_isAt_21 rfl rfl
    · replace hf := t_if hB hf
      refine x_iconst (v := (1)) dX7_isAt_16 (by decide) ?_
      refine x_goto 21 dX7_isAt_17 (by decide) ?_
      subst hf
      exact x_zret (b := true) dX7_isAt_21 rfl rfl
set_option maxRecDepth 100000 in
set_option maxHeartbeats 4000000 in
theorem c_X7_takeNumberBehind {I : z_I} {L : z_L} {p0 : Int32} {p1 : Int32} {p2 : Int32} {p3 : Int32}  {r : Bool × z_I × z_L} (hf : f_X7_takeNumberBehind I L p0 p1 p2 p3 = some r) : z_C layX yX7_takeNumberBehind cX7_takeNumberBehind 5 (some .boolean) ({ frames := 3, cells := 0, slots := 0, locals := 65 } : Room) [.ref 39, .int p0, .int p1, .int p2, .int p3] I L (some (.int (zb r.1)), r.2.1, r.2.2) := by
  refine z_C.of (by decide) (Nat.le_of_ble_eq_true rfl) ?_
  show z_X layX RX7 cX7_takeNumberBehind 5 (some .boolean) ({ frames := 3, cells := 0, slots := 0, locals := 65 } : Room) 0 [(0, .ref 39), (1, .int p0), (2, .int p1), (3, .int p2), (4, .int p3)] [] I L (some (.int (zb r.1)), r.2.1, r.2.2)
  unfold f_X7_takeNumberBehind at hf
  refine x_aload_n 0 dX7_takeNumberBehind_0 rfl rfl ?_
  refine x_iload_n 1 dX7_takeNumberBehind_1 rfl rfl ?_
  refine x_callVi [.int p0] (c_X7_isAt (I := I) (L := L) p0) dX7_takeNumberBehind_2 lk_X7_80 lx_39 rfl cd_X7_isAt rfl rfl (Nat.le_of_ble_eq_true rfl) ⟨rfl, rfl, Nat.le_of_ble_eq_true rfl, Nat.le_of_ble_eq_true rfl⟩ ?_
  refine x_if_eqB 19 dX7_takeNumberBehind_5 (by decide) (fun hB => ?_) (fun hB => ?_)
  · replace hf := f_el hB hf
    refine x_aload_n 0 dX7_takeNumberBehind_19 rfl rfl ?_
    refine x_iload 4 dX7_takeNumberBehind_20 rfl ?_
    obtain ⟨I5, hI5, hf⟩ := f_lt hf
    refine x_putI dX7_takeNumberBehind_22 lx_39 fl_X7_90 rfl rfl rfl hI5 ?_
    refine x_iconst (v := (1)) dX7_takeNumberBehind_25 (by decide) ?_
    cases hf
    exact x_zret (b := true) dX7_takeNumberBehind_26 rfl rfl
  · replace hf := f_if hB hf
    refine x_aload_n 0 dX7_takeNumberBehind_8 rfl rfl ?_
    obtain ⟨q1, hq2, hf⟩ := f_bd hf
    refine x_callVv [] (c_X7_move (I := I) (L := L)  hq2) dX7_takeNumberBehind_9 lk_X7_51 lx_39 rfl cd_X7_move rfl rfl (Nat.le_of_ble_eq_true rfl) ⟨rfl, rfl, Nat.le_of_ble_eq_true rfl, Nat.le_of_ble_eq_true rfl⟩ ?_
    refine x_aload_n 0 dX7_takeNumberBehind_12 rfl rfl ?_
    refine x_iload_n 2 dX7_takeNumberBehind_13 rfl rfl ?_
    refine x_iload_n 3 dX7_takeNumberBehind_14 rfl rfl ?_
    obtain ⟨q3, hq4, hf⟩ := f_bd hf
    refine x_callVi [.int p1, .int p2] (c_X7_takeNumber (I := q1.1) (L := q1.2)  hq4) dX7_takeNumberBehind_15 lk_X7_93 lx_39 rfl cd_X7_takeNumber rfl rfl (Nat.le_of_ble_eq_true rfl) ⟨rfl, rfl, Nat.le_of_ble_eq_true rfl, Nat.le_of_ble_eq_true rfl⟩ ?_
    cases hf
    exact x_zret dX7_takeNumberBehind_18 rfl rfl
set_option maxRecDepth 100000 in
set_option maxHeartbeats 4000000 in
theorem c_X1_takeBed {I : z_I} {L : z_L}   {r : Bool × z_I × z_L} (hf : f_X1_takeBed I L = some r) : z_C layX yX1_takeBed cX1_takeBed 2 (some .boolean) ({ frames := 4, cells := 0, slots := 0, locals := 89 } : Room) [.ref 41] I L (some (.int (zb r.1)), r.2.1, r.2.2) := by
  refine z_C.of (by decide) (Nat.le_of_ble_eq_true rfl) ?_
  show z_X layX RX1 cX1_takeBed 2 (some .boolean) ({ frames := 4, cells := 0, slots := 0, locals := 89 } : Room) 0 [(0, .ref 41)] [] I L (some (.int (zb r.1)), r.2.1, r.2.2)
  unfold f_X1_takeBed at hf
  refine x_aload_n 0 dX1_takeBed_0 rfl rfl ?_
  refine x_getR dX1_takeBed_1 lx_41 fl_X1_19 rfl ?_
  refine x_getI (v := (I 22 10)) dX1_takeBed_4 lx_22 fl_X1_82 rfl rfl ?_
  refine x_bipush (v := (6)) dX1_takeBed_7 (by decide) ?_
  refine x_icmp_lt 22 dX1_takeBed_9 (by decide) (fun hB => ?_) (fun hB => ?_)
  · replace hf := f_if hB hf
    refine x_aload_n 0 dX1_takeBed_22 rfl rfl ?_
    refine x_getR dX1_takeBed_23 lx_41 fl_X1_15 rfl ?_
    obtain ⟨q1, hq2, hf⟩ := f_bd hf
    refine x_callVv [] (c_X7_move (I := I) (L := L)  hq2) dX1_takeBed_26 lk_X1_65 lx_39 rfl cd_X7_move rfl rfl (Nat.le_of_ble_eq_true rfl) ⟨rfl, rfl, Nat.le_of_ble_eq_true rfl, Nat.le_of_ble_eq_true rfl⟩ ?_
    refine x_aload_n 0 dX1_takeBed_29 rfl rfl ?_
    refine x_getR dX1_takeBed_30 lx_41 fl_X1_15 rfl ?_
    refine x_iconst (v := (2)) dX1_takeBed_33 (by decide) ?_
    refine x_iconst (v := (0)) dX1_takeBed_34 (by decide) ?_
    refine x_bipush (v := (99)) dX1_takeBed_35 (by decide) ?_
    refine x_iconst (v := (0)) dX1_takeBed_37 (by decide) ?_
    obtain ⟨q3, hq4, hf⟩ := f_bd hf
    refine x_callVi [.int (2 : Int32), .int (0 : Int32), .int (99 : Int32), .int (0 : Int32)] (c_X7_takeNumberBehind (I := q1.1) (L := q1.2)  hq4) dX1_takeBed_38 lk_X1_85 lx_39 rfl cd_X7_takeNumberBehind rfl rfl (Nat.le_of_ble_eq_true rfl) ⟨rfl, rfl, Nat.le_of_ble_eq_true rfl, Nat.le_of_ble_eq_true rfl⟩ ?_
    refine x_if_neB 46 dX1_takeBed_41 (by decide) (fun hB => ?_) (fun hB => ?_)
    · replace hf := f_if hB hf
      refine x_aload_n 0 dX1_takeBed_46 rfl rfl ?_
      refine x_getR dX1_takeBed_47 lx_41 fl_X1_15 rfl ?_
      refine x_getI (v := (q3.2.1 39 9)) dX1_takeBed_50 lx_39 fl_X1_72 rfl rfl ?_
      refine x_istore_n [(1, .int (q3.2.1 39 9)), (0, .ref 41)] dX1_takeBed_53 rfl (by decide) rfl ?_
      refine x_aload_n 1 dX1_takeBed_54 rfl rfl ?_
      refine x_getR dX1_takeBed_55 lx_41 fl_X1_15 rfl ?_
      refine x_iconst (v := (3)) dX1_takeBed_58 (by decide) ?_
      refine x_iconst (v := (0)) dX1_takeBed_59 (by decide) ?_
      refine x_bipush (v := (99)) dX1_takeBed_60 (by decide) ?_
      refine x_iconst (v := (0)) dX1_takeBed_62 (by decide) ?_
      obtain ⟨q5, hq6, hf⟩ := f_bd hf
      refine x_callVi [.int (3 : Int32), .int (0 : Int32), .int (99 : Int32), .int (0 : Int32)] (c_X7_takeNumberBehind (I := q3.2.1) (L := q3.2.2)  hq6) dX1_takeBed_63 lk_X1_85 lx_39 rfl cd_X7_takeNumberBehind rfl rfl (Nat.le_of_ble_eq_true rfl) ⟨rfl, rfl, Nat.le_of_ble_eq_true rfl, Nat.le_of_ble_eq_true rfl⟩ ?_
      refine x_if_neB 71 dX1_takeBed_66 (by decide) (fun hB => ?_) (fun hB => ?_)
      · replace hf := f_if hB hf
        refine x_aload_n 1 dX1_takeBed_71 rfl rfl ?_
        refine x_getR dX1_takeBed_72 lx_41 fl_X1_19 rfl ?_
        refine x_iload_n 0 dX1_takeBed_75 rfl rfl ?_
        refine x_aload_n 1 dX1_takeBed_76 rfl rfl ?_
        refine x_getR dX1_takeBed_77 lx_41 fl_X1_15 rfl ?_
        refine x_getI (v := (q5.2.1 39 9)) dX1_takeBed_80 lx_39 fl_X1_72 rfl rfl ?_
        obtain ⟨q7, hq8, hf⟩ := f_bd hf
        refine x_callVv [.int (q3.2.1 39 9), .int (q5.2.1 39 9)] (c_X0_addBed (I := q5.2.1) (L := q5.2.2) zt_22 hq8) dX1_takeBed_83 lk_X1_89 lx_22 rfl cd_X0_addBed rfl rfl (Nat.le_of_ble_eq_true rfl) ⟨rfl, rfl, Nat.le_of_ble_eq_true rfl, Nat.le_of_ble_eq_true rfl⟩ ?_
        refine x_aload_n 1 dX1_takeBed_86 rfl rfl ?_
        refine x_getR dX1_takeBed_87 lx_41 fl_X1_15 rfl ?_
        obtain ⟨q9, hq10, hf⟩ := f_bd hf
        refine x_callVi [] (c_X7_takeSemicolon (I := q7) (L := q5.2.2)  hq10) dX1_takeBed_90 lk_X1_79 lx_39 rfl cd_X7_takeSemicolon rfl rfl (Nat.le_of_ble_eq_true rfl) ⟨rfl, rfl, Nat.le_of_ble_eq_true rfl, Nat.le_of_ble_eq_true rfl⟩ ?_
        cases hf
        exact x_zret dX1_takeBed_93 rfl rfl
      · replace hf := f_el hB hf
        refine x_iconst (v := (0)) dX1_takeBed_69 (by decide) ?_
        cases hf
        exact x_zret (b := false) dX1_takeBed_70 rfl rfl
    · replace hf := f_el hB hf
      refine x_iconst (v := (0)) dX1_takeBed_44 (by decide) ?_
      cases hf
      exact x_zret (b := false) dX1_takeBed_45 rfl rfl
  · replace hf := f_el hB hf
    refine x_aload_n 0 dX1_takeBed_12 rfl rfl ?_
    refine x_getR dX1_takeBed_13 lx_41 fl_X1_15 rfl ?_
    refine x_bipush (v := (6)) dX1_takeBed_16 (by decide) ?_
    refine x_callVi [.int (6 : Int32)] (c_X7_fail (I := I) (L := L) (6 : Int32)) dX1_takeBed_18 lk_X1_61 lx_39 rfl cd_X7_fail rfl rfl (Nat.le_of_ble_eq_true rfl) ⟨rfl, rfl, Nat.le_of_ble_eq_true rfl, Nat.le_of_ble_eq_true rfl⟩ ?_
    cases hf
    exact x_zret dX1_takeBed_21 rfl rfl
set_option maxRecDepth 100000 in
set_option maxHeartbeats 4000000 in
theorem c_X7_isName {I : z_I} {L : z_L}   : z_C layX yX7_isName cX7_isName 1 (some .boolean) ({ frames := 0, cells := 0, slots := 0, locals := 0 } : Room) [.ref 39] I L (some (.int (zb (f_X7_isName I))), I, L) := by
  obtain ⟨r, hf⟩ : ∃ r, f_X7_isName I = r := ⟨_, rfl⟩
  rw [hf]
  refine z_C.of (by decide) (Nat.le_of_ble_eq_true rfl) ?_
  show z_X layX RX7 cX7_isName 1 (some .boolean) ({ frames := 0, cells := 0, slots := 0, locals := 0 } : Room) 0 [(0, .ref 39)] [] I L (some (.int (zb r)), I, L)
  unfold f_X7_isName at hf
  refine x_aload_n 0 dX7_isName_0 rfl rfl ?_
  refine x_getI (v := (I 39 5)) dX7_isName_1 lx_39 fl_X7_57 rfl rfl ?_
  refine x_iconst (v := (3)) dX7_isName_4 (by decide) ?_
  refine x_icmp_ne 12 dX7_isName_5 (by decide) (fun hB => ?_) (fun hB => ?_)
  · replace hf := t_el hB hf
    refine x_iconst (v := (0)) dX7_isName_12 (by decide) ?_
    subst hf
    exact x_zret (b := false) dX7_isName_13 rfl rfl
  · replace hf := t_if hB hf
    refine x_iconst (v := (1)) dX7_isName_8 (by decide) ?_
    refine x_goto 13 dX7_isName_9 (by decide) ?_
    subst hf
    exact x_zret (b := true) dX7_isName_13 rfl rfl
set_option maxRecDepth 100000 in
set_option maxHeartbeats 4000000 in
theorem c_X1_takeNewName {I : z_I} {L : z_L}   {r : Bool × z_I × z_L} (hf : f_X1_takeNewName I L = some r) : z_C layX yX1_takeNewName cX1_takeNewName 1 (some .boolean) ({ frames := 2, cells := 0, slots := 0, locals := 43 } : Room) [.ref 41] I L (some (.int (zb r.1)), r.2.1, r.2.2) := by
  refine z_C.of (by decide) (Nat.le_of_ble_eq_true rfl) ?_
  show z_X layX RX1 cX1_takeNewName 1 (some .boolean) ({ frames := 2, cells := 0, slots := 0, locals := 43 } : Room) 0 [(0, .ref 41)] [] I L (some (.int (zb r.1)), r.2.1, r.2.2)
  unfold f_X1_takeNewName at hf
  refine x_aload_n 0 dX1_takeNewName_0 rfl rfl ?_
  refine x_getR dX1_takeNewName_1 lx_41 fl_X1_15 rfl ?_
  refine x_callVi [] (c_X7_isName (I := I) (L := L) ) dX1_takeNewName_4 lk_X1_119 lx_39 rfl cd_X7_isName rfl rfl (Nat.le_of_ble_eq_true rfl) ⟨rfl, rfl, Nat.le_of_ble_eq_true rfl, Nat.le_of_ble_eq_true rfl⟩ ?_
  refine x_if_neB 19 dX1_takeNewName_7 (by decide) (fun hB => ?_) (fun hB => ?_)
  · replace hf := f_if hB hf
    refine x_aload_n 0 dX1_takeNewName_19 rfl rfl ?_
    refine x_aload_n 0 dX1_takeNewName_20 rfl rfl ?_
    refine x_getR dX1_takeNewName_21 lx_41 fl_X1_15 rfl ?_
    refine x_getL (v := (L 39 8)) dX1_takeNewName_24 lx_39 fl_X1_122 rfl rfl ?_
    obtain ⟨L1, hL1, hf⟩ := f_lt hf
    refine x_putL dX1_takeNewName_27 lx_41 fl_X1_102 rfl rfl rfl hL1 ?_
    refine x_aload_n 0 dX1_takeNewName_30 rfl rfl ?_
    refine x_getR dX1_takeNewName_31 lx_41 fl_X1_9 rfl ?_
    refine x_aload_n 0 dX1_takeNewName_34 rfl rfl ?_
    refine x_getR dX1_takeNewName_35 lx_41 fl_X1_19 rfl ?_
    refine x_getI (v := (I 22 11)) dX1_takeNewName_38 lx_22 fl_X1_93 rfl rfl ?_
    refine x_aload_n 0 dX1_takeNewName_41 rfl rfl ?_
    refine x_getL (v := (L 39 8)) dX1_takeNewName_42 lx_41 fl_X1_102 rfl (by rw [hL1, z2_s, z1_s]) ?_
    obtain ⟨q2, hq3, hf⟩ := f_bd hf
    refine x_callNi [.ref 42, .int (I 22 11), .long (L 39 8)] (c_X10_indexOfName (I := I) (L := L1) lx_42 hq3) dX1_takeNewName_45 lk_X1_125 cd_X10_indexOfName rfl rfl (Nat.le_of_ble_eq_true rfl) ⟨rfl, rfl, Nat.le_of_ble_eq_true rfl, Nat.le_of_ble_eq_true rfl⟩ ?_
    refine x_iconst (v := (-1)) dX1_takeNewName_48 (by decide) ?_
    refine x_icmp_ne 102 dX1_takeNewName_49 (by decide) (fun hB => ?_) (fun hB => ?_)
    · replace hf := f_el hB hf
      refine x_aload_n 0 dX1_takeNewName_102 rfl rfl ?_
      refine x_getR dX1_takeNewName_103 lx_41 fl_X1_15 rfl ?_
      refine x_iconst (v := (3)) dX1_takeNewName_106 (by decide) ?_
      refine x_callVi [.int (3 : Int32)] (c_X7_fail (I := I) (L := L1) (3 : Int32)) dX1_takeNewName_107 lk_X1_61 lx_39 rfl cd_X7_fail rfl rfl (Nat.le_of_ble_eq_true rfl) ⟨rfl, rfl, Nat.le_of_ble_eq_true rfl, Nat.le_of_ble_eq_true rfl⟩ ?_
      cases hf
      exact x_zret dX1_takeNewName_110 rfl rfl
    · replace hf := f_if hB hf
      refine x_aload_n 0 dX1_takeNewName_52 rfl rfl ?_
      refine x_getR dX1_takeNewName_53 lx_41 fl_X1_19 rfl ?_
      refine x_getR dX1_takeNewName_56 lx_22 fl_X1_140 rfl ?_
      refine x_aload_n 0 dX1_takeNewName_59 rfl rfl ?_
      refine x_getR dX1_takeNewName_60 lx_41 fl_X1_19 rfl ?_
      refine x_getI (v := (I 22 12)) dX1_takeNewName_63 lx_22 fl_X1_109 rfl rfl ?_
      refine x_aload_n 0 dX1_takeNewName_66 rfl rfl ?_
      refine x_getL (v := (L 39 8)) dX1_takeNewName_67 lx_41 fl_X1_102 rfl (by rw [hL1, z2_s, z1_s]) ?_
      obtain ⟨q4, hq5, hf⟩ := f_bd hf
      refine x_callNi [.ref 29, .int (I 22 12), .long (L 39 8)] (c_X10_indexOfName (I := I) (L := L1) lx_29 hq5) dX1_takeNewName_70 lk_X1_125 cd_X10_indexOfName rfl rfl (Nat.le_of_ble_eq_true rfl) ⟨rfl, rfl, Nat.le_of_ble_eq_true rfl, Nat.le_of_ble_eq_true rfl⟩ ?_
      refine x_iconst (v := (-1)) dX1_takeNewName_73 (by decide) ?_
      refine x_icmp_ne 102 dX1_takeNewName_74 (by decide) (fun hB => ?_) (fun hB => ?_)
      · replace hf := f_el hB hf
        refine x_aload_n 0 dX1_takeNewName_102 rfl rfl ?_
        refine x_getR dX1_takeNewName_103 lx_41 fl_X1_15 rfl ?_
        refine x_iconst (v := (3)) dX1_takeNewName_106 (by decide) ?_
        refine x_callVi [.int (3 : Int32)] (c_X7_fail (I := I) (L := L1) (3 : Int32)) dX1_takeNewName_107 lk_X1_61 lx_39 rfl cd_X7_fail rfl rfl (Nat.le_of_ble_eq_true rfl) ⟨rfl, rfl, Nat.le_of_ble_eq_true rfl, Nat.le_of_ble_eq_true rfl⟩ ?_
        cases hf
        exact x_zret dX1_takeNewName_110 rfl rfl
      · replace hf := f_if hB hf
        refine x_aload_n 0 dX1_takeNewName_77 rfl rfl ?_
        refine x_getR dX1_takeNewName_78 lx_41 fl_X1_19 rfl ?_
        refine x_getR dX1_takeNewName_81 lx_22 fl_X1_143 rfl ?_
        refine x_aload_n 0 dX1_takeNewName_84 rfl rfl ?_
        refine x_getR dX1_takeNewName_85 lx_41 fl_X1_19 rfl ?_
        refine x_getI (v := (I 22 13)) dX1_takeNewName_88 lx_22 fl_X1_133 rfl rfl ?_
        refine x_aload_n 0 dX1_takeNewName_91 rfl rfl ?_
        refine x_getL (v := (L 39 8)) dX1_takeNewName_92 lx_41 fl_X1_102 rfl (by rw [hL1, z2_s, z1_s]) ?_
        obtain ⟨q6, hq7, hf⟩ := f_bd hf
        refine x_callNi [.ref 32, .int (I 22 13), .long (L 39 8)] (c_X10_indexOfName (I := I) (L := L1) lx_32 hq7) dX1_takeNewName_95 lk_X1_125 cd_X10_indexOfName rfl rfl (Nat.le_of_ble_eq_true rfl) ⟨rfl, rfl, Nat.le_of_ble_eq_true rfl, Nat.le_of_ble_eq_true rfl⟩ ?_
        refine x_iconst (v := (-1)) dX1_takeNewName_98 (by decide) ?_
        refine x_icmp_eq 111 dX1_takeNewName_99 (by decide) (fun hB => ?_) (fun hB => ?_)
        · replace hf := f_if hB hf
          refine x_aload_n 0 dX1_takeNewName_111 rfl rfl ?_
          refine x_getR dX1_takeNewName_112 lx_41 fl_X1_15 rfl ?_
          obtain ⟨q8, hq9, hf⟩ := f_bd hf
          refine x_callVv [] (c_X7_move (I := I) (L := L1)  hq9) dX1_takeNewName_115 lk_X1_65 lx_39 rfl cd_X7_move rfl rfl (Nat.le_of_ble_eq_true rfl) ⟨rfl, rfl, Nat.le_of_ble_eq_true rfl, Nat.le_of_ble_eq_true rfl⟩ ?_
          refine x_iconst (v := (1)) dX1_takeNewName_118 (by decide) ?_
          cases hf
          exact x_zret (b := true) dX1_takeNewName_119 rfl rfl
        · replace hf := f_el hB hf
          refine x_aload_n 0 dX1_takeNewName_102 rfl rfl ?_
          refine x_getR dX1_takeNewName_103 lx_41 fl_X1_15 rfl ?_
          refine x_iconst (v := (3)) dX1_takeNewName_106 (by decide) ?_
          refine x_callVi [.int (3 : Int32)] (c_X7_fail (I := I) (L := L1) (3 : Int32)) dX1_takeNewName_107 lk_X1_61 lx_39 rfl cd_X7_fail rfl rfl (Nat.le_of_ble_eq_true rfl) ⟨rfl, rfl, Nat.le_of_ble_eq_true rfl, Nat.le_of_ble_eq_true rfl⟩ ?_
          cases hf
          exact x_zret dX1_takeNewName_110 rfl rfl
  · replace hf := f_el hB hf
    refine x_aload_n 0 dX1_takeNewName_10 rfl rfl ?_
    refine x_getR dX1_takeNewName_11 lx_41 fl_X1_15 rfl ?_
    refine x_iconst (v := (2)) dX1_takeNewName_14 (by decide) ?_
    refine x_callVi [.int (2 : Int32)] (c_X7_fail (I := I) (L := L) (2 : Int32)) dX1_takeNewName_15 lk_X1_61 lx_39 rfl cd_X7_fail rfl rfl (Nat.le_of_ble_eq_true rfl) ⟨rfl, rfl, Nat.le_of_ble_eq_true rfl, Nat.le_of_ble_eq_true rfl⟩ ?_
    cases hf
    exact x_zret dX1_takeNewName_18 rfl rfl
set_option maxRecDepth 100000 in
set_option maxHeartbeats 4000000 in
theorem c_X7_takeKeyword {I : z_I} {L : z_L} {p0 : Int32}  {r : Bool × z_I × z_L} (hf : f_X7_takeKeyword I L p0 = some r) : z_C layX yX7_takeKeyword cX7_takeKeyword 2 (some .boolean) ({ frames := 2, cells := 0, slots := 0, locals := 43 } : Room) [.ref 39, .int p0] I L (some (.int (zb r.1)), r.2.1, r.2.2) := by
  refine z_C.of (by decide) (Nat.le_of_ble_eq_true rfl) ?_
  show z_X layX RX7 cX7_takeKeyword 2 (some .boolean) ({ frames := 2, cells := 0, slots := 0, locals := 43 } : Room) 0 [(0, .ref 39), (1, .int p0)] [] I L (some (.int (zb r.1)), r.2.1, r.2.2)
  unfold f_X7_takeKeyword at hf
  refine x_aload_n 0 dX7_takeKeyword_0 rfl rfl ?_
  refine x_iload_n 1 dX7_takeKeyword_1 rfl rfl ?_
  refine x_callVi [.int p0] (c_X7_isAt (I := I) (L := L) p0) dX7_takeKeyword_2 lk_X7_80 lx_39 rfl cd_X7_isAt rfl rfl (Nat.le_of_ble_eq_true rfl) ⟨rfl, rfl, Nat.le_of_ble_eq_true rfl, Nat.le_of_ble_eq_true rfl⟩ ?_
  refine x_if_neB 14 dX7_takeKeyword_5 (by decide) (fun hB => ?_) (fun hB => ?_)
  · replace hf := f_if hB hf
    refine x_aload_n 0 dX7_takeKeyword_14 rfl rfl ?_
    obtain ⟨q1, hq2, hf⟩ := f_bd hf
    refine x_callVv [] (c_X7_move (I := I) (L := L)  hq2) dX7_takeKeyword_15 lk_X7_51 lx_39 rfl cd_X7_move rfl rfl (Nat.le_of_ble_eq_true rfl) ⟨rfl, rfl, Nat.le_of_ble_eq_true rfl, Nat.le_of_ble_eq_true rfl⟩ ?_
    refine x_iconst (v := (1)) dX7_takeKeyword_18 (by decide) ?_
    cases hf
    exact x_zret (b := true) dX7_takeKeyword_19 rfl rfl
  · replace hf := f_el hB hf
    refine x_aload_n 0 dX7_takeKeyword_8 rfl rfl ?_
    refine x_iconst (v := (2)) dX7_takeKeyword_9 (by decide) ?_
    refine x_callVi [.int (2 : Int32)] (c_X7_fail (I := I) (L := L) (2 : Int32)) dX7_takeKeyword_10 lk_X7_84 lx_39 rfl cd_X7_fail rfl rfl (Nat.le_of_ble_eq_true rfl) ⟨rfl, rfl, Nat.le_of_ble_eq_true rfl, Nat.le_of_ble_eq_true rfl⟩ ?_
    cases hf
    exact x_zret dX7_takeKeyword_13 rfl rfl
set_option maxRecDepth 100000 in
set_option maxHeartbeats 4000000 in
theorem c_X1_takeCase {I : z_I} {L : z_L}   {r : Bool × z_I × z_L} (hf : f_X1_takeCase I L = some r) : z_C layX yX1_takeCase cX1_takeCase 1 (some .boolean) ({ frames := 3, cells := 0, slots := 0, locals := 65 } : Room) [.ref 41] I L (some (.int (zb r.1)), r.2.1, r.2.2) := by
  refine z_C.of (by decide) (Nat.le_of_ble_eq_true rfl) ?_
  show z_X layX RX1 cX1_takeCase 1 (some .boolean) ({ frames := 3, cells := 0, slots := 0, locals := 65 } : Room) 0 [(0, .ref 41)] [] I L (some (.int (zb r.1)), r.2.1, r.2.2)
  unfold f_X1_takeCase at hf
  refine x_aload_n 0 dX1_takeCase_0 rfl rfl ?_
  refine x_getR dX1_takeCase_1 lx_41 fl_X1_19 rfl ?_
  refine x_getI (v := (I 22 11)) dX1_takeCase_4 lx_22 fl_X1_93 rfl rfl ?_
  refine x_bipush (v := (8)) dX1_takeCase_7 (by decide) ?_
  refine x_icmp_lt 22 dX1_takeCase_9 (by decide) (fun hB => ?_) (fun hB => ?_)
  · replace hf := f_if hB hf
    refine x_aload_n 0 dX1_takeCase_22 rfl rfl ?_
    refine x_getR dX1_takeCase_23 lx_41 fl_X1_15 rfl ?_
    obtain ⟨q1, hq2, hf⟩ := f_bd hf
    refine x_callVv [] (c_X7_move (I := I) (L := L)  hq2) dX1_takeCase_26 lk_X1_65 lx_39 rfl cd_X7_move rfl rfl (Nat.le_of_ble_eq_true rfl) ⟨rfl, rfl, Nat.le_of_ble_eq_true rfl, Nat.le_of_ble_eq_true rfl⟩ ?_
    refine x_aload_n 0 dX1_takeCase_29 rfl rfl ?_
    obtain ⟨q3, hq4, hf⟩ := f_bd hf
    refine x_callVi [] (c_X1_takeNewName (I := q1.1) (L := q1.2)  hq4) dX1_takeCase_30 lk_X1_96 lx_41 rfl cd_X1_takeNewName rfl rfl (Nat.le_of_ble_eq_true rfl) ⟨rfl, rfl, Nat.le_of_ble_eq_true rfl, Nat.le_of_ble_eq_true rfl⟩ ?_
    refine x_if_eqB 60 dX1_takeCase_33 (by decide) (fun hB => ?_) (fun hB => ?_)
    · replace hf := f_el hB hf
      refine x_iconst (v := (0)) dX1_takeCase_60 (by decide) ?_
      cases hf
      exact x_zret (b := false) dX1_takeCase_61 rfl rfl
    · replace hf := f_if hB hf
      refine x_aload_n 0 dX1_takeCase_36 rfl rfl ?_
      refine x_getR dX1_takeCase_37 lx_41 fl_X1_15 rfl ?_
      refine x_iconst (v := (5)) dX1_takeCase_40 (by decide) ?_
      obtain ⟨q5, hq6, hf⟩ := f_bd hf
      refine x_callVi [.int (5 : Int32)] (c_X7_takeKeyword (I := q3.2.1) (L := q3.2.2)  hq6) dX1_takeCase_41 lk_X1_99 lx_39 rfl cd_X7_takeKeyword rfl rfl (Nat.le_of_ble_eq_true rfl) ⟨rfl, rfl, Nat.le_of_ble_eq_true rfl, Nat.le_of_ble_eq_true rfl⟩ ?_
      refine x_if_eqB 60 dX1_takeCase_44 (by decide) (fun hB => ?_) (fun hB => ?_)
      · replace hf := f_el hB hf
        refine x_iconst (v := (0)) dX1_takeCase_60 (by decide) ?_
        cases hf
        exact x_zret (b := false) dX1_takeCase_61 rfl rfl
      · replace hf := f_if hB hf
        refine x_aload_n 0 dX1_takeCase_47 rfl rfl ?_
        refine x_getR dX1_takeCase_48 lx_41 fl_X1_15 rfl ?_
        refine x_iconst (v := (1)) dX1_takeCase_51 (by decide) ?_
        refine x_bipush (v := (20)) dX1_takeCase_52 (by decide) ?_
        obtain ⟨q7, hq8, hf⟩ := f_bd hf
        refine x_callVi [.int (1 : Int32), .int (20 : Int32)] (c_X7_takeNumber (I := q5.2.1) (L := q5.2.2)  hq8) dX1_takeCase_54 lk_X1_68 lx_39 rfl cd_X7_takeNumber rfl rfl (Nat.le_of_ble_eq_true rfl) ⟨rfl, rfl, Nat.le_of_ble_eq_true rfl, Nat.le_of_ble_eq_true rfl⟩ ?_
        refine x_if_neB 62 dX1_takeCase_57 (by decide) (fun hB => ?_) (fun hB => ?_)
        · replace hf := f_if hB hf
          refine x_aload_n 0 dX1_takeCase_62 rfl rfl ?_
          refine x_getR dX1_takeCase_63 lx_41 fl_X1_9 rfl ?_
          refine x_aload_n 0 dX1_takeCase_66 rfl rfl ?_
          refine x_getR dX1_takeCase_67 lx_41 fl_X1_19 rfl ?_
          refine x_getI (v := (q7.2.1 22 11)) dX1_takeCase_70 lx_22 fl_X1_93 rfl rfl ?_
          refine x_aload_n 0 dX1_takeCase_73 rfl rfl ?_
          refine x_getL (v := (q7.2.2 41 4)) dX1_takeCase_74 lx_41 fl_X1_102 rfl rfl ?_
          obtain ⟨h9, hf⟩ := f_gd hf
          obtain ⟨L10, hL10, hf⟩ := f_lt hf
          refine x_last (j0 := ((q7.2.1 22 11)).toNatClampNeg) dX1_takeCase_77 lx_42 h9 rfl hL10 ?_
          refine x_aload_n 0 dX1_takeCase_78 rfl rfl ?_
          refine x_getR dX1_takeCase_79 lx_41 fl_X1_19 rfl ?_
          refine x_aload_n 0 dX1_takeCase_82 rfl rfl ?_
          refine x_getR dX1_takeCase_83 lx_41 fl_X1_15 rfl ?_
          refine x_getI (v := (q7.2.1 39 9)) dX1_takeCase_86 lx_39 fl_X1_72 rfl rfl ?_
          obtain ⟨q11, hq12, hf⟩ := f_bd hf
          refine x_callVv [.int (q7.2.1 39 9)] (c_X0_addCase (I := q7.2.1) (L := L10) zt_22 hq12) dX1_takeCase_89 lk_X1_106 lx_22 rfl cd_X0_addCase rfl rfl (Nat.le_of_ble_eq_true rfl) ⟨rfl, rfl, Nat.le_of_ble_eq_true rfl, Nat.le_of_ble_eq_true rfl⟩ ?_
          refine x_aload_n 0 dX1_takeCase_92 rfl rfl ?_
          refine x_getR dX1_takeCase_93 lx_41 fl_X1_15 rfl ?_
          obtain ⟨q13, hq14, hf⟩ := f_bd hf
          refine x_callVi [] (c_X7_takeSemicolon (I := q11) (L := L10)  hq14) dX1_takeCase_96 lk_X1_79 lx_39 rfl cd_X7_takeSemicolon rfl rfl (Nat.le_of_ble_eq_true rfl) ⟨rfl, rfl, Nat.le_of_ble_eq_true rfl, Nat.le_of_ble_eq_true rfl⟩ ?_
          cases hf
          exact x_zret dX1_takeCase_99 rfl rfl
        · replace hf := f_el hB hf
          refine x_iconst (v := (0)) dX1_takeCase_60 (by decide) ?_
          cases hf
          exact x_zret (b := false) dX1_takeCase_61 rfl rfl
  · replace hf := f_el hB hf
    refine x_aload_n 0 dX1_takeCase_12 rfl rfl ?_
    refine x_getR dX1_takeCase_13 lx_41 fl_X1_15 rfl ?_
    refine x_bipush (v := (6)) dX1_takeCase_16 (by decide) ?_
    refine x_callVi [.int (6 : Int32)] (c_X7_fail (I := I) (L := L) (6 : Int32)) dX1_takeCase_18 lk_X1_61 lx_39 rfl cd_X7_fail rfl rfl (Nat.le_of_ble_eq_true rfl) ⟨rfl, rfl, Nat.le_of_ble_eq_true rfl, Nat.le_of_ble_eq_true rfl⟩ ?_
    cases hf
    exact x_zret dX1_takeCase_21 rfl rfl
set_option maxRecDepth 100000 in
set_option maxHeartbeats 4000000 in
theorem l_X1_takeTruths_2   (v1 : Int32)  {r : Bool × z_I × z_L}  : ∀ (n : Nat) (v2 : Int32) (I : z_I) (L : z_L), g_X1_takeTruths_2 v1  n v2 I L = some r → z_X layX RX1 cX1_takeTruths 4 (some .boolean) ({ frames := 3, cells := 0, slots := 0, locals := 63 } : Room) 2 [(0, .ref 41), (1, .int v1), (2, .int v2)] [] I L (some (.int (zb r.1)), r.2.1, r.2.2) := by
  intro n
  induction n with
  | zero => intro v2 I L hf; cases hf
  | succ n ih =>
    intro v2 I L hf
    rw [g_X1_takeTruths_2] at hf
    refine x_iload_n 2 dX1_takeTruths_2 rfl rfl ?_
    refine x_bipush (v := (8)) dX1_takeTruths_3 (by decide) ?_
    refine x_icmp_gt 115 dX1_takeTruths_5 (by decide) (fun hB => ?_) (fun hB => ?_)
    · replace hf := f_if hB hf
      refine x_aload_n 0 dX1_takeTruths_115 rfl rfl ?_
      refine x_getR dX1_takeTruths_116 lx_41 fl_X1_15 rfl ?_
      refine x_iconst (v := (2)) dX1_takeTruths_119 (by decide) ?_
      refine x_callVi [.int (2 : Int32)] (c_X7_fail (I := I) (L := L) (2 : Int32)) dX1_takeTruths_120 lk_X1_61 lx_39 rfl cd_X7_fail rfl rfl (Nat.le_of_ble_eq_true rfl) ⟨rfl, rfl, Nat.le_of_ble_eq_true rfl, Nat.le_of_ble_eq_true rfl⟩ ?_
      cases hf
      exact x_zret dX1_takeTruths_123 rfl rfl
    · replace hf := f_el hB hf
      refine x_aload_n 0 dX1_takeTruths_8 rfl rfl ?_
      refine x_getR dX1_takeTruths_9 lx_41 fl_X1_15 rfl ?_
      refine x_callVi [] (c_X7_isName (I := I) (L := L) ) dX1_takeTruths_12 lk_X1_119 lx_39 rfl cd_X7_isName rfl rfl (Nat.le_of_ble_eq_true rfl) ⟨rfl, rfl, Nat.le_of_ble_eq_true rfl, Nat.le_of_ble_eq_true rfl⟩ ?_
      refine x_if_neB 26 dX1_takeTruths_15 (by decide) (fun hB => ?_) (fun hB => ?_)
      · replace hf := f_if hB hf
        refine x_aload_n 0 dX1_takeTruths_26 rfl rfl ?_
        refine x_getR dX1_takeTruths_27 lx_41 fl_X1_9 rfl ?_
        refine x_aload_n 0 dX1_takeTruths_30 rfl rfl ?_
        refine x_getR dX1_takeTruths_31 lx_41 fl_X1_19 rfl ?_
        refine x_getI (v := (I 22 11)) dX1_takeTruths_34 lx_22 fl_X1_93 rfl rfl ?_
        refine x_aload_n 0 dX1_takeTruths_37 rfl rfl ?_
        refine x_getR dX1_takeTruths_38 lx_41 fl_X1_15 rfl ?_
        refine x_getL (v := (L 39 8)) dX1_takeTruths_41 lx_39 fl_X1_122 rfl rfl ?_
        obtain ⟨q1, hq2, hf⟩ := f_bd hf
        refine x_callNi [.ref 42, .int (I 22 11), .long (L 39 8)] (c_X10_indexOfName (I := I) (L := L) lx_42 hq2) dX1_takeTruths_44 lk_X1_125 cd_X10_indexOfName rfl rfl (Nat.le_of_ble_eq_true rfl) ⟨rfl, rfl, Nat.le_of_ble_eq_true rfl, Nat.le_of_ble_eq_true rfl⟩ ?_
        refine x_istore_n [(3, .int q1), (0, .ref 41), (1, .int v1), (2, .int v2)] dX1_takeTruths_47 rfl (by decide) rfl ?_
        refine x_iload_n 0 dX1_takeTruths_48 rfl rfl ?_
        refine x_iconst (v := (-1)) dX1_takeTruths_49 (by decide) ?_
        refine x_icmp_ne 62 dX1_takeTruths_50 (by decide) (fun hB => ?_) (fun hB => ?_)
        · replace hf := f_el hB hf
          refine x_aload_n 1 dX1_takeTruths_62 rfl rfl ?_
          refine x_getR dX1_takeTruths_63 lx_41 fl_X1_19 rfl ?_
          refine x_getR dX1_takeTruths_66 lx_22 fl_X1_129 rfl ?_
          refine x_iload_n 2 dX1_takeTruths_69 rfl rfl ?_
          obtain ⟨h3, hf⟩ := f_gd hf
          refine x_iald (j := (v1).toNatClampNeg) (v := (I 28 (v1).toNatClampNeg)) dX1_takeTruths_70 lx_28 h3 rfl rfl ?_
          refine x_iconst (v := (1)) dX1_takeTruths_71 (by decide) ?_
          refine x_iload_n 0 dX1_takeTruths_72 rfl rfl ?_
          refine x_ishl dX1_takeTruths_73 ?_
          refine x_iand dX1_takeTruths_74 ?_
          refine x_if_eq 87 dX1_takeTruths_75 (by decide) (fun hB => ?_) (fun hB => ?_)
          · replace hf := f_if hB hf
            refine x_aload_n 1 dX1_takeTruths_87 rfl rfl ?_
            refine x_getR dX1_takeTruths_88 lx_41 fl_X1_19 rfl ?_
            refine x_getR dX1_takeTruths_91 lx_22 fl_X1_129 rfl ?_
            refine x_iload_n 2 dX1_takeTruths_94 rfl rfl ?_
            refine x_dup2 dX1_takeTruths_95 rfl rfl ?_
            refine x_iald (j := (v1).toNatClampNeg) (v := (I 28 (v1).toNatClampNeg)) dX1_takeTruths_96 lx_28 h3 rfl rfl ?_
            refine x_iconst (v := (1)) dX1_takeTruths_97 (by decide) ?_
            refine x_iload_n 0 dX1_takeTruths_98 rfl rfl ?_
            refine x_ishl dX1_takeTruths_99 ?_
            refine x_ior dX1_takeTruths_100 ?_
            obtain ⟨I6, hI6, hf⟩ := f_lt hf
            refine x_iast (j0 := (v1).toNatClampNeg) dX1_takeTruths_101 lx_28 h3 rfl hI6 ?_
            refine x_aload_n 1 dX1_takeTruths_102 rfl rfl ?_
            refine x_getR dX1_takeTruths_103 lx_41 fl_X1_15 rfl ?_
            obtain ⟨q7, hq8, hf⟩ := f_bd hf
            refine x_callVv [] (c_X7_move (I := I6) (L := L)  hq8) dX1_takeTruths_106 lk_X1_65 lx_39 rfl cd_X7_move rfl rfl (Nat.le_of_ble_eq_true rfl) ⟨rfl, rfl, Nat.le_of_ble_eq_true rfl, Nat.le_of_ble_eq_true rfl⟩ ?_
            refine x_iinc 3 [(2, .int (v2 + (1 : Int32))), (3, .int q1), (0, .ref 41), (1, .int v1)] dX1_takeTruths_109 rfl rfl (by decide) rfl ?_
            refine x_goto 2 dX1_takeTruths_112 (by decide) ?_
            refine x_lv [(0, .ref 41), (1, .int v1), (2, .int (v2 + (1 : Int32)))] [2, 3, 0] rfl ?_
            exact ih _ _ _ hf
          · replace hf := f_el hB hf
            refine x_aload_n 1 dX1_takeTruths_78 rfl rfl ?_
            refine x_getR dX1_takeTruths_79 lx_41 fl_X1_15 rfl ?_
            refine x_iconst (v := (5)) dX1_takeTruths_82 (by decide) ?_
            refine x_callVi [.int (5 : Int32)] (c_X7_fail (I := I) (L := L) (5 : Int32)) dX1_takeTruths_83 lk_X1_61 lx_39 rfl cd_X7_fail rfl rfl (Nat.le_of_ble_eq_true rfl) ⟨rfl, rfl, Nat.le_of_ble_eq_true rfl, Nat.le_of_ble_eq_true rfl⟩ ?_
            cases hf
            exact x_zret dX1_takeTruths_86 rfl rfl
        · replace hf := f_if hB hf
          refine x_aload_n 1 dX1_takeTruths_53 rfl rfl ?_
          refine x_getR dX1_takeTruths_54 lx_41 fl_X1_15 rfl ?_
          refine x_iconst (v := (3)) dX1_takeTruths_57 (by decide) ?_
          refine x_callVi [.int (3 : Int32)] (c_X7_fail (I := I) (L := L) (3 : Int32)) dX1_takeTruths_58 lk_X1_61 lx_39 rfl cd_X7_fail rfl rfl (Nat.le_of_ble_eq_true rfl) ⟨rfl, rfl, Nat.le_of_ble_eq_true rfl, Nat.le_of_ble_eq_true rfl⟩ ?_
          cases hf
          exact x_zret dX1_takeTruths_61 rfl rfl
      · replace hf := f_el hB hf
        refine x_aload_n 0 dX1_takeTruths_18 rfl rfl ?_
        refine x_getR dX1_takeTruths_19 lx_41 fl_X1_15 rfl ?_
        obtain ⟨q9, hq10, hf⟩ := f_bd hf
        refine x_callVi [] (c_X7_takeSemicolon (I := I) (L := L)  hq10) dX1_takeTruths_22 lk_X1_79 lx_39 rfl cd_X7_takeSemicolon rfl rfl (Nat.le_of_ble_eq_true rfl) ⟨rfl, rfl, Nat.le_of_ble_eq_true rfl, Nat.le_of_ble_eq_true rfl⟩ ?_
        cases hf
        exact x_zret dX1_takeTruths_25 rfl rfl
set_option maxRecDepth 100000 in
set_option maxHeartbeats 4000000 in
theorem c_X1_takeTruths {I : z_I} {L : z_L} {p0 : Int32}  {r : Bool × z_I × z_L} (hf : f_X1_takeTruths I L p0 = some r) : z_C layX yX1_takeTruths cX1_takeTruths 4 (some .boolean) ({ frames := 3, cells := 0, slots := 0, locals := 63 } : Room) [.ref 41, .int p0] I L (some (.int (zb r.1)), r.2.1, r.2.2) := by
  refine z_C.of (by decide) (Nat.le_of_ble_eq_true rfl) ?_
  show z_X layX RX1 cX1_takeTruths 4 (some .boolean) ({ frames := 3, cells := 0, slots := 0, locals := 63 } : Room) 0 [(0, .ref 41), (1, .int p0)] [] I L (some (.int (zb r.1)), r.2.1, r.2.2)
  unfold f_X1_takeTruths at hf
  refine x_iconst (v := (0)) dX1_takeTruths_0 (by decide) ?_
  refine x_istore_n [(2, .int (0 : Int32)), (0, .ref 41), (1, .int p0)] dX1_takeTruths_1 rfl (by decide) rfl ?_
  refine x_lv [(0, .ref 41), (1, .int p0), (2, .int (0 : Int32))] [1, 2, 0] rfl ?_
  refine l_X1_takeTruths_2 p0   _ _ _ _ hf
set_option maxRecDepth 100000 in
set_option maxHeartbeats 4000000 in
theorem c_X1_takeClaim {I : z_I} {L : z_L}   {r : Bool × z_I × z_L} (hf : f_X1_takeClaim I L = some r) : z_C layX yX1_takeClaim cX1_takeClaim 2 (some .boolean) ({ frames := 4, cells := 0, slots := 0, locals := 89 } : Room) [.ref 41] I L (some (.int (zb r.1)), r.2.1, r.2.2) := by
  refine z_C.of (by decide) (Nat.le_of_ble_eq_true rfl) ?_
  show z_X layX RX1 cX1_takeClaim 2 (some .boolean) ({ frames := 4, cells := 0, slots := 0, locals := 89 } : Room) 0 [(0, .ref 41)] [] I L (some (.int (zb r.1)), r.2.1, r.2.2)
  unfold f_X1_takeClaim at hf
  refine x_aload_n 0 dX1_takeClaim_0 rfl rfl ?_
  refine x_getR dX1_takeClaim_1 lx_41 fl_X1_19 rfl ?_
  refine x_getI (v := (I 22 12)) dX1_takeClaim_4 lx_22 fl_X1_109 rfl rfl ?_
  refine x_bipush (v := (7)) dX1_takeClaim_7 (by decide) ?_
  refine x_icmp_lt 22 dX1_takeClaim_9 (by decide) (fun hB => ?_) (fun hB => ?_)
  · replace hf := f_if hB hf
    refine x_aload_n 0 dX1_takeClaim_22 rfl rfl ?_
    refine x_getR dX1_takeClaim_23 lx_41 fl_X1_15 rfl ?_
    obtain ⟨q1, hq2, hf⟩ := f_bd hf
    refine x_callVv [] (c_X7_move (I := I) (L := L)  hq2) dX1_takeClaim_26 lk_X1_65 lx_39 rfl cd_X7_move rfl rfl (Nat.le_of_ble_eq_true rfl) ⟨rfl, rfl, Nat.le_of_ble_eq_true rfl, Nat.le_of_ble_eq_true rfl⟩ ?_
    refine x_aload_n 0 dX1_takeClaim_29 rfl rfl ?_
    obtain ⟨q3, hq4, hf⟩ := f_bd hf
    refine x_callVi [] (c_X1_takeNewName (I := q1.1) (L := q1.2)  hq4) dX1_takeClaim_30 lk_X1_96 lx_41 rfl cd_X1_takeNewName rfl rfl (Nat.le_of_ble_eq_true rfl) ⟨rfl, rfl, Nat.le_of_ble_eq_true rfl, Nat.le_of_ble_eq_true rfl⟩ ?_
    refine x_if_eqB 68 dX1_takeClaim_33 (by decide) (fun hB => ?_) (fun hB => ?_)
    · replace hf := f_el hB hf
      refine x_iconst (v := (0)) dX1_takeClaim_68 (by decide) ?_
      cases hf
      exact x_zret (b := false) dX1_takeClaim_69 rfl rfl
    · replace hf := f_if hB hf
      refine x_aload_n 0 dX1_takeClaim_36 rfl rfl ?_
      refine x_getR dX1_takeClaim_37 lx_41 fl_X1_15 rfl ?_
      refine x_bipush (v := (7)) dX1_takeClaim_40 (by decide) ?_
      obtain ⟨q5, hq6, hf⟩ := f_bd hf
      refine x_callVi [.int (7 : Int32)] (c_X7_takeKeyword (I := q3.2.1) (L := q3.2.2)  hq6) dX1_takeClaim_42 lk_X1_99 lx_39 rfl cd_X7_takeKeyword rfl rfl (Nat.le_of_ble_eq_true rfl) ⟨rfl, rfl, Nat.le_of_ble_eq_true rfl, Nat.le_of_ble_eq_true rfl⟩ ?_
      refine x_if_eqB 68 dX1_takeClaim_45 (by decide) (fun hB => ?_) (fun hB => ?_)
      · replace hf := f_el hB hf
        refine x_iconst (v := (0)) dX1_takeClaim_68 (by decide) ?_
        cases hf
        exact x_zret (b := false) dX1_takeClaim_69 rfl rfl
      · replace hf := f_if hB hf
        refine x_aload_n 0 dX1_takeClaim_48 rfl rfl ?_
        refine x_getR dX1_takeClaim_49 lx_41 fl_X1_15 rfl ?_
        refine x_iconst (v := (0)) dX1_takeClaim_52 (by decide) ?_
        refine x_aload_n 0 dX1_takeClaim_53 rfl rfl ?_
        refine x_getR dX1_takeClaim_54 lx_41 fl_X1_19 rfl ?_
        refine x_getI (v := (q5.2.1 22 10)) dX1_takeClaim_57 lx_22 fl_X1_82 rfl rfl ?_
        refine x_iconst (v := (1)) dX1_takeClaim_60 (by decide) ?_
        refine x_isub dX1_takeClaim_61 ?_
        obtain ⟨q7, hq8, hf⟩ := f_bd hf
        refine x_callVi [.int (0 : Int32), .int ((q5.2.1 22 10) - (1 : Int32))] (c_X7_takeNumber (I := q5.2.1) (L := q5.2.2)  hq8) dX1_takeClaim_62 lk_X1_68 lx_39 rfl cd_X7_takeNumber rfl rfl (Nat.le_of_ble_eq_true rfl) ⟨rfl, rfl, Nat.le_of_ble_eq_true rfl, Nat.le_of_ble_eq_true rfl⟩ ?_
        refine x_if_neB 70 dX1_takeClaim_65 (by decide) (fun hB => ?_) (fun hB => ?_)
        · replace hf := f_if hB hf
          refine x_aload_n 0 dX1_takeClaim_70 rfl rfl ?_
          refine x_getR dX1_takeClaim_71 lx_41 fl_X1_15 rfl ?_
          refine x_getI (v := (q7.2.1 39 9)) dX1_takeClaim_74 lx_39 fl_X1_72 rfl rfl ?_
          refine x_istore_n [(1, .int (q7.2.1 39 9)), (0, .ref 41)] dX1_takeClaim_77 rfl (by decide) rfl ?_
          refine x_aload_n 1 dX1_takeClaim_78 rfl rfl ?_
          refine x_getR dX1_takeClaim_79 lx_41 fl_X1_15 rfl ?_
          refine x_bipush (v := (8)) dX1_takeClaim_82 (by decide) ?_
          refine x_iconst (v := (1)) dX1_takeClaim_84 (by decide) ?_
          refine x_bipush (v := (9)) dX1_takeClaim_85 (by decide) ?_
          refine x_iconst (v := (1)) dX1_takeClaim_87 (by decide) ?_
          obtain ⟨q9, hq10, hf⟩ := f_bd hf
          refine x_callVi [.int (8 : Int32), .int (1 : Int32), .int (9 : Int32), .int (1 : Int32)] (c_X7_takeNumberBehind (I := q7.2.1) (L := q7.2.2)  hq10) dX1_takeClaim_88 lk_X1_85 lx_39 rfl cd_X7_takeNumberBehind rfl rfl (Nat.le_of_ble_eq_true rfl) ⟨rfl, rfl, Nat.le_of_ble_eq_true rfl, Nat.le_of_ble_eq_true rfl⟩ ?_
          refine x_if_neB 96 dX1_takeClaim_91 (by decide) (fun hB => ?_) (fun hB => ?_)
          · replace hf := f_if hB hf
            refine x_aload_n 1 dX1_takeClaim_96 rfl rfl ?_
            refine x_getR dX1_takeClaim_97 lx_41 fl_X1_19 rfl ?_
            refine x_aload_n 1 dX1_takeClaim_100 rfl rfl ?_
            refine x_getL (v := (q9.2.2 41 4)) dX1_takeClaim_101 lx_41 fl_X1_102 rfl rfl ?_
            refine x_iload_n 0 dX1_takeClaim_104 rfl rfl ?_
            refine x_aload_n 1 dX1_takeClaim_105 rfl rfl ?_
            refine x_getR dX1_takeClaim_106 lx_41 fl_X1_15 rfl ?_
            refine x_getI (v := (q9.2.1 39 9)) dX1_takeClaim_109 lx_39 fl_X1_72 rfl rfl ?_
            refine x_iconst (v := (0)) dX1_takeClaim_112 (by decide) ?_
            obtain ⟨q11, hq12, hf⟩ := f_bd hf
            refine x_callVv [.long (q9.2.2 41 4), .int (q7.2.1 39 9), .int (q9.2.1 39 9), .int (0 : Int32)] (c_X0_addClaim (I := q9.2.1) (L := q9.2.2) zt_22 hq12) dX1_takeClaim_113 lk_X1_112 lx_22 rfl cd_X0_addClaim rfl rfl (Nat.le_of_ble_eq_true rfl) ⟨rfl, rfl, Nat.le_of_ble_eq_true rfl, Nat.le_of_ble_eq_true rfl⟩ ?_
            refine x_aload_n 1 dX1_takeClaim_116 rfl rfl ?_
            refine x_getR dX1_takeClaim_117 lx_41 fl_X1_15 rfl ?_
            refine x_bipush (v := (9)) dX1_takeClaim_120 (by decide) ?_
            obtain ⟨q13, hq14, hf⟩ := f_bd hf
            refine x_callVi [.int (9 : Int32)] (c_X7_takeKeyword (I := q11.1) (L := q11.2)  hq14) dX1_takeClaim_122 lk_X1_99 lx_39 rfl cd_X7_takeKeyword rfl rfl (Nat.le_of_ble_eq_true rfl) ⟨rfl, rfl, Nat.le_of_ble_eq_true rfl, Nat.le_of_ble_eq_true rfl⟩ ?_
            refine x_if_eqB 148 dX1_takeClaim_125 (by decide) (fun hB => ?_) (fun hB => ?_)
            · replace hf := f_el hB hf
              refine x_iconst (v := (0)) dX1_takeClaim_148 (by decide) ?_
              cases hf
              exact x_zret (b := false) dX1_takeClaim_149 rfl rfl
            · replace hf := f_if hB hf
              refine x_aload_n 1 dX1_takeClaim_128 rfl rfl ?_
              refine x_aload_n 1 dX1_takeClaim_129 rfl rfl ?_
              refine x_getR dX1_takeClaim_130 lx_41 fl_X1_19 rfl ?_
              refine x_getI (v := (q13.2.1 22 12)) dX1_takeClaim_133 lx_22 fl_X1_109 rfl rfl ?_
              refine x_iconst (v := (1)) dX1_takeClaim_136 (by decide) ?_
              refine x_isub dX1_takeClaim_137 ?_
              obtain ⟨q15, hq16, hf⟩ := f_bd hf
              refine x_callVi [.int ((q13.2.1 22 12) - (1 : Int32))] (c_X1_takeTruths (I := q13.2.1) (L := q13.2.2)  hq16) dX1_takeClaim_138 lk_X1_116 lx_41 rfl cd_X1_takeTruths rfl rfl (Nat.le_of_ble_eq_true rfl) ⟨rfl, rfl, Nat.le_of_ble_eq_true rfl, Nat.le_of_ble_eq_true rfl⟩ ?_
              refine x_if_eqB 148 dX1_takeClaim_141 (by decide) (fun hB => ?_) (fun hB => ?_)
              · replace hf := f_el hB hf
                refine x_iconst (v := (0)) dX1_takeClaim_148 (by decide) ?_
                cases hf
                exact x_zret (b := false) dX1_takeClaim_149 rfl rfl
              · replace hf := f_if hB hf
                refine x_iconst (v := (1)) dX1_takeClaim_144 (by decide) ?_
                refine x_goto 149 dX1_takeClaim_145 (by decide) ?_
                cases hf
                exact x_zret (b := true) dX1_takeClaim_149 rfl rfl
          · replace hf := f_el hB hf
            refine x_iconst (v := (0)) dX1_takeClaim_94 (by decide) ?_
            cases hf
            exact x_zret (b := false) dX1_takeClaim_95 rfl rfl
        · replace hf := f_el hB hf
          refine x_iconst (v := (0)) dX1_takeClaim_68 (by decide) ?_
          cases hf
          exact x_zret (b := false) dX1_takeClaim_69 rfl rfl
  · replace hf := f_el hB hf
    refine x_aload_n 0 dX1_takeClaim_12 rfl rfl ?_
    refine x_getR dX1_takeClaim_13 lx_41 fl_X1_15 rfl ?_
    refine x_bipush (v := (6)) dX1_takeClaim_16 (by decide) ?_
    refine x_callVi [.int (6 : Int32)] (c_X7_fail (I := I) (L := L) (6 : Int32)) dX1_takeClaim_18 lk_X1_61 lx_39 rfl cd_X7_fail rfl rfl (Nat.le_of_ble_eq_true rfl) ⟨rfl, rfl, Nat.le_of_ble_eq_true rfl, Nat.le_of_ble_eq_true rfl⟩ ?_
    cases hf
    exact x_zret dX1_takeClaim_21 rfl rfl
set_option maxRecDepth 100000 in
set_option maxHeartbeats 4000000 in
theorem c_X1_takeScholar {I : z_I} {L : z_L}   {r : Bool × z_I × z_L} (hf : f_X1_takeScholar I L = some r) : z_C layX yX1_takeScholar cX1_takeScholar 2 (some .boolean) ({ frames := 4, cells := 0, slots := 0, locals := 89 } : Room) [.ref 41] I L (some (.int (zb r.1)), r.2.1, r.2.2) := by
  refine z_C.of (by decide) (Nat.le_of_ble_eq_true rfl) ?_
  show z_X layX RX1 cX1_takeScholar 2 (some .boolean) ({ frames := 4, cells := 0, slots := 0, locals := 89 } : Room) 0 [(0, .ref 41)] [] I L (some (.int (zb r.1)), r.2.1, r.2.2)
  unfold f_X1_takeScholar at hf
  refine x_aload_n 0 dX1_takeScholar_0 rfl rfl ?_
  refine x_getR dX1_takeScholar_1 lx_41 fl_X1_19 rfl ?_
  refine x_getI (v := (I 22 13)) dX1_takeScholar_4 lx_22 fl_X1_133 rfl rfl ?_
  refine x_iconst (v := (4)) dX1_takeScholar_7 (by decide) ?_
  refine x_icmp_lt 21 dX1_takeScholar_8 (by decide) (fun hB => ?_) (fun hB => ?_)
  · replace hf := f_if hB hf
    refine x_aload_n 0 dX1_takeScholar_21 rfl rfl ?_
    refine x_getR dX1_takeScholar_22 lx_41 fl_X1_15 rfl ?_
    obtain ⟨q1, hq2, hf⟩ := f_bd hf
    refine x_callVv [] (c_X7_move (I := I) (L := L)  hq2) dX1_takeScholar_25 lk_X1_65 lx_39 rfl cd_X7_move rfl rfl (Nat.le_of_ble_eq_true rfl) ⟨rfl, rfl, Nat.le_of_ble_eq_true rfl, Nat.le_of_ble_eq_true rfl⟩ ?_
    refine x_aload_n 0 dX1_takeScholar_28 rfl rfl ?_
    obtain ⟨q3, hq4, hf⟩ := f_bd hf
    refine x_callVi [] (c_X1_takeNewName (I := q1.1) (L := q1.2)  hq4) dX1_takeScholar_29 lk_X1_96 lx_41 rfl cd_X1_takeNewName rfl rfl (Nat.le_of_ble_eq_true rfl) ⟨rfl, rfl, Nat.le_of_ble_eq_true rfl, Nat.le_of_ble_eq_true rfl⟩ ?_
    refine x_if_eqB 67 dX1_takeScholar_32 (by decide) (fun hB => ?_) (fun hB => ?_)
    · replace hf := f_el hB hf
      refine x_iconst (v := (0)) dX1_takeScholar_67 (by decide) ?_
      cases hf
      exact x_zret (b := false) dX1_takeScholar_68 rfl rfl
    · replace hf := f_if hB hf
      refine x_aload_n 0 dX1_takeScholar_35 rfl rfl ?_
      refine x_getR dX1_takeScholar_36 lx_41 fl_X1_15 rfl ?_
      refine x_bipush (v := (7)) dX1_takeScholar_39 (by decide) ?_
      obtain ⟨q5, hq6, hf⟩ := f_bd hf
      refine x_callVi [.int (7 : Int32)] (c_X7_takeKeyword (I := q3.2.1) (L := q3.2.2)  hq6) dX1_takeScholar_41 lk_X1_99 lx_39 rfl cd_X7_takeKeyword rfl rfl (Nat.le_of_ble_eq_true rfl) ⟨rfl, rfl, Nat.le_of_ble_eq_true rfl, Nat.le_of_ble_eq_true rfl⟩ ?_
      refine x_if_eqB 67 dX1_takeScholar_44 (by decide) (fun hB => ?_) (fun hB => ?_)
      · replace hf := f_el hB hf
        refine x_iconst (v := (0)) dX1_takeScholar_67 (by decide) ?_
        cases hf
        exact x_zret (b := false) dX1_takeScholar_68 rfl rfl
      · replace hf := f_if hB hf
        refine x_aload_n 0 dX1_takeScholar_47 rfl rfl ?_
        refine x_getR dX1_takeScholar_48 lx_41 fl_X1_15 rfl ?_
        refine x_iconst (v := (0)) dX1_takeScholar_51 (by decide) ?_
        refine x_aload_n 0 dX1_takeScholar_52 rfl rfl ?_
        refine x_getR dX1_takeScholar_53 lx_41 fl_X1_19 rfl ?_
        refine x_getI (v := (q5.2.1 22 10)) dX1_takeScholar_56 lx_22 fl_X1_82 rfl rfl ?_
        refine x_iconst (v := (1)) dX1_takeScholar_59 (by decide) ?_
        refine x_isub dX1_takeScholar_60 ?_
        obtain ⟨q7, hq8, hf⟩ := f_bd hf
        refine x_callVi [.int (0 : Int32), .int ((q5.2.1 22 10) - (1 : Int32))] (c_X7_takeNumber (I := q5.2.1) (L := q5.2.2)  hq8) dX1_takeScholar_61 lk_X1_68 lx_39 rfl cd_X7_takeNumber rfl rfl (Nat.le_of_ble_eq_true rfl) ⟨rfl, rfl, Nat.le_of_ble_eq_true rfl, Nat.le_of_ble_eq_true rfl⟩ ?_
        refine x_if_neB 69 dX1_takeScholar_64 (by decide) (fun hB => ?_) (fun hB => ?_)
        · replace hf := f_if hB hf
          refine x_aload_n 0 dX1_takeScholar_69 rfl rfl ?_
          refine x_getR dX1_takeScholar_70 lx_41 fl_X1_15 rfl ?_
          refine x_getI (v := (q7.2.1 39 9)) dX1_takeScholar_73 lx_39 fl_X1_72 rfl rfl ?_
          refine x_istore_n [(1, .int (q7.2.1 39 9)), (0, .ref 41)] dX1_takeScholar_76 rfl (by decide) rfl ?_
          refine x_aload_n 1 dX1_takeScholar_77 rfl rfl ?_
          refine x_getR dX1_takeScholar_78 lx_41 fl_X1_15 rfl ?_
          refine x_bipush (v := (11)) dX1_takeScholar_81 (by decide) ?_
          refine x_iconst (v := (0)) dX1_takeScholar_83 (by decide) ?_
          refine x_sipush (v := (999)) dX1_takeScholar_84 (by decide) ?_
          refine x_iconst (v := (0)) dX1_takeScholar_87 (by decide) ?_
          obtain ⟨q9, hq10, hf⟩ := f_bd hf
          refine x_callVi [.int (11 : Int32), .int (0 : Int32), .int (999 : Int32), .int (0 : Int32)] (c_X7_takeNumberBehind (I := q7.2.1) (L := q7.2.2)  hq10) dX1_takeScholar_88 lk_X1_85 lx_39 rfl cd_X7_takeNumberBehind rfl rfl (Nat.le_of_ble_eq_true rfl) ⟨rfl, rfl, Nat.le_of_ble_eq_true rfl, Nat.le_of_ble_eq_true rfl⟩ ?_
          refine x_if_neB 96 dX1_takeScholar_91 (by decide) (fun hB => ?_) (fun hB => ?_)
          · replace hf := f_if hB hf
            refine x_aload_n 1 dX1_takeScholar_96 rfl rfl ?_
            refine x_getR dX1_takeScholar_97 lx_41 fl_X1_19 rfl ?_
            refine x_aload_n 1 dX1_takeScholar_100 rfl rfl ?_
            refine x_getL (v := (q9.2.2 41 4)) dX1_takeScholar_101 lx_41 fl_X1_102 rfl rfl ?_
            refine x_iload_n 0 dX1_takeScholar_104 rfl rfl ?_
            refine x_aload_n 1 dX1_takeScholar_105 rfl rfl ?_
            refine x_getR dX1_takeScholar_106 lx_41 fl_X1_15 rfl ?_
            refine x_getI (v := (q9.2.1 39 9)) dX1_takeScholar_109 lx_39 fl_X1_72 rfl rfl ?_
            obtain ⟨q11, hq12, hf⟩ := f_bd hf
            refine x_callVv [.long (q9.2.2 41 4), .int (q7.2.1 39 9), .int (q9.2.1 39 9)] (c_X0_addScholar (I := q9.2.1) (L := q9.2.2) zt_22 hq12) dX1_takeScholar_112 lk_X1_136 lx_22 rfl cd_X0_addScholar rfl rfl (Nat.le_of_ble_eq_true rfl) ⟨rfl, rfl, Nat.le_of_ble_eq_true rfl, Nat.le_of_ble_eq_true rfl⟩ ?_
            refine x_aload_n 1 dX1_takeScholar_115 rfl rfl ?_
            refine x_getR dX1_takeScholar_116 lx_41 fl_X1_15 rfl ?_
            obtain ⟨q13, hq14, hf⟩ := f_bd hf
            refine x_callVi [] (c_X7_takeSemicolon (I := q11.1) (L := q11.2)  hq14) dX1_takeScholar_119 lk_X1_79 lx_39 rfl cd_X7_takeSemicolon rfl rfl (Nat.le_of_ble_eq_true rfl) ⟨rfl, rfl, Nat.le_of_ble_eq_true rfl, Nat.le_of_ble_eq_true rfl⟩ ?_
            cases hf
            exact x_zret dX1_takeScholar_122 rfl rfl
          · replace hf := f_el hB hf
            refine x_iconst (v := (0)) dX1_takeScholar_94 (by decide) ?_
            cases hf
            exact x_zret (b := false) dX1_takeScholar_95 rfl rfl
        · replace hf := f_el hB hf
          refine x_iconst (v := (0)) dX1_takeScholar_67 (by decide) ?_
          cases hf
          exact x_zret (b := false) dX1_takeScholar_68 rfl rfl
  · replace hf := f_el hB hf
    refine x_aload_n 0 dX1_takeScholar_11 rfl rfl ?_
    refine x_getR dX1_takeScholar_12 lx_41 fl_X1_15 rfl ?_
    refine x_bipush (v := (6)) dX1_takeScholar_15 (by decide) ?_
    refine x_callVi [.int (6 : Int32)] (c_X7_fail (I := I) (L := L) (6 : Int32)) dX1_takeScholar_17 lk_X1_61 lx_39 rfl cd_X7_fail rfl rfl (Nat.le_of_ble_eq_true rfl) ⟨rfl, rfl, Nat.le_of_ble_eq_true rfl, Nat.le_of_ble_eq_true rfl⟩ ?_
    cases hf
    exact x_zret dX1_takeScholar_20 rfl rfl
set_option maxRecDepth 100000 in
set_option maxHeartbeats 4000000 in
theorem l_X1_takeText_22   (v1 : Int32)  {r : Bool × z_I × z_L}  : ∀ (n : Nat) (v2 : Int32) (I : z_I) (L : z_L), g_X1_takeText_22 v1  n v2 I L = some r → z_X layX RX1 cX1_takeText 4 (some .boolean) ({ frames := 5, cells := 0, slots := 0, locals := 110 } : Room) 22 [(0, .ref 41), (1, .int v1), (2, .int v2)] [] I L (some (.int (zb r.1)), r.2.1, r.2.2) := by
  intro n
  induction n with
  | zero => intro v2 I L hf; cases hf
  | succ n ih =>
    intro v2 I L hf
    rw [g_X1_takeText_22] at hf
    refine x_iload_n 2 dX1_takeText_22 rfl rfl ?_
    refine x_iload_n 1 dX1_takeText_23 rfl rfl ?_
    refine x_icmp_gt 165 dX1_takeText_24 (by decide) (fun hB => ?_) (fun hB => ?_)
    · replace hf := f_if hB hf
      refine x_aload_n 0 dX1_takeText_165 rfl rfl ?_
      refine x_getR dX1_takeText_166 lx_41 fl_X1_15 rfl ?_
      refine x_iconst (v := (2)) dX1_takeText_169 (by decide) ?_
      refine x_callVi [.int (2 : Int32)] (c_X7_fail (I := I) (L := L) (2 : Int32)) dX1_takeText_170 lk_X1_61 lx_39 rfl cd_X7_fail rfl rfl (Nat.le_of_ble_eq_true rfl) ⟨rfl, rfl, Nat.le_of_ble_eq_true rfl, Nat.le_of_ble_eq_true rfl⟩ ?_
      cases hf
      exact x_zret dX1_takeText_173 rfl rfl
    · replace hf := f_el hB hf
      refine x_aload_n 0 dX1_takeText_27 rfl rfl ?_
      refine x_getR dX1_takeText_28 lx_41 fl_X1_15 rfl ?_
      refine x_callVi [] (c_X7_isOver (I := I) (L := L) ) dX1_takeText_31 lk_X1_38 lx_39 rfl cd_X7_isOver rfl rfl (Nat.le_of_ble_eq_true rfl) ⟨rfl, rfl, Nat.le_of_ble_eq_true rfl, Nat.le_of_ble_eq_true rfl⟩ ?_
      refine x_if_eqB 39 dX1_takeText_34 (by decide) (fun hB => ?_) (fun hB => ?_)
      · replace hf := f_el hB hf
        refine x_aload_n 0 dX1_takeText_39 rfl rfl ?_
        refine x_getR dX1_takeText_40 lx_41 fl_X1_15 rfl ?_
        refine x_callVi [] (c_X7_keywordHere (I := I) (L := L) ) dX1_takeText_43 lk_X1_42 lx_39 rfl cd_X7_keywordHere rfl rfl (Nat.le_of_ble_eq_true rfl) ⟨rfl, rfl, Nat.le_of_ble_eq_true rfl, Nat.le_of_ble_eq_true rfl⟩ ?_
        by_cases hs6 : (f_X7_keywordHere I) = (0)
        · replace hf := f_if hs6 hf
          refine x_tabIn (0) 104 dX1_takeText_46 hs6 (by decide) (by decide) rfl (by decide) ?_
          refine x_aload_n 0 dX1_takeText_104 rfl rfl ?_
          obtain ⟨q4, hq5, hf⟩ := f_bd hf
          refine x_callVi [] (c_X1_takeOdds (I := I) (L := L)  hq5) dX1_takeText_105 lk_X1_46 lx_41 rfl cd_X1_takeOdds rfl rfl (Nat.le_of_ble_eq_true rfl) ⟨rfl, rfl, Nat.le_of_ble_eq_true rfl, Nat.le_of_ble_eq_true rfl⟩ ?_
          refine x_istore_n [(3, .int (zb q4.1)), (0, .ref 41), (1, .int v1), (2, .int v2)] dX1_takeText_108 rfl (by decide) rfl ?_
          refine x_goto 153 dX1_takeText_109 (by decide) ?_
          refine x_iload_n 0 dX1_takeText_153 rfl rfl ?_
          refine x_if_neB 159 dX1_takeText_154 (by decide) (fun hB => ?_) (fun hB => ?_)
          · replace hf := f_if hB hf
            refine x_iinc 3 [(2, .int (v2 + (1 : Int32))), (3, .int (zb q4.1)), (0, .ref 41), (1, .int v1)] dX1_takeText_159 rfl rfl (by decide) rfl ?_
            refine x_goto 22 dX1_takeText_162 (by decide) ?_
            refine x_lv [(0, .ref 41), (1, .int v1), (2, .int (v2 + (1 : Int32)))] [2, 3, 0] rfl ?_
            exact ih _ _ _ hf
          · replace hf := f_el hB hf
            refine x_iconst (v := (0)) dX1_takeText_157 (by decide) ?_
            cases hf
            exact x_zret (b := false) dX1_takeText_158 rfl rfl
        replace hf := f_el hs6 hf
        by_cases hs9 : (f_X7_keywordHere I) = (1)
        · replace hf := f_if hs9 hf
          refine x_tabIn (1) 112 dX1_takeText_46 hs9 (by decide) (by decide) rfl (by decide) ?_
          refine x_aload_n 0 dX1_takeText_112 rfl rfl ?_
          obtain ⟨q7, hq8, hf⟩ := f_bd hf
          refine x_callVi [] (c_X1_takeBed (I := I) (L := L)  hq8) dX1_takeText_113 lk_X1_49 lx_41 rfl cd_X1_takeBed rfl rfl (Nat.le_of_ble_eq_true rfl) ⟨rfl, rfl, Nat.le_of_ble_eq_true rfl, Nat.le_of_ble_eq_true rfl⟩ ?_
          refine x_istore_n [(3, .int (zb q7.1)), (0, .ref 41), (1, .int v1), (2, .int v2)] dX1_takeText_116 rfl (by decide) rfl ?_
          refine x_goto 153 dX1_takeText_117 (by decide) ?_
          refine x_iload_n 0 dX1_takeText_153 rfl rfl ?_
          refine x_if_neB 159 dX1_takeText_154 (by decide) (fun hB => ?_) (fun hB => ?_)
          · replace hf := f_if hB hf
            refine x_iinc 3 [(2, .int (v2 + (1 : Int32))), (3, .int (zb q7.1)), (0, .ref 41), (1, .int v1)] dX1_takeText_159 rfl rfl (by decide) rfl ?_
            refine x_goto 22 dX1_takeText_162 (by decide) ?_
            refine x_lv [(0, .ref 41), (1, .int v1), (2, .int (v2 + (1 : Int32)))] [2, 3, 0] rfl ?_
            exact ih _ _ _ hf
          · replace hf := f_el hB hf
            refine x_iconst (v := (0)) dX1_takeText_157 (by decide) ?_
            cases hf
            exact x_zret (b := false) dX1_takeText_158 rfl rfl
        replace hf := f_el hs9 hf
        by_cases hs10 : (f_X7_keywordHere I) = (2)
        · replace hf := f_if hs10 hf
          refine x_tabIn (2) 144 dX1_takeText_46 hs10 (by decide) (by decide) rfl (by decide) ?_
          refine x_aload_n 0 dX1_takeText_144 rfl rfl ?_
          refine x_getR dX1_takeText_145 lx_41 fl_X1_15 rfl ?_
          refine x_iconst (v := (2)) dX1_takeText_148 (by decide) ?_
          refine x_callVi [.int (2 : Int32)] (c_X7_fail (I := I) (L := L) (2 : Int32)) dX1_takeText_149 lk_X1_61 lx_39 rfl cd_X7_fail rfl rfl (Nat.le_of_ble_eq_true rfl) ⟨rfl, rfl, Nat.le_of_ble_eq_true rfl, Nat.le_of_ble_eq_true rfl⟩ ?_
          refine x_istore_n [(3, .int (zb (f_X7_fail I (2 : Int32)).1)), (0, .ref 41), (1, .int v1), (2, .int v2)] dX1_takeText_152 rfl (by decide) rfl ?_
          refine x_iload_n 0 dX1_takeText_153 rfl rfl ?_
          refine x_if_neB 159 dX1_takeText_154 (by decide) (fun hB => ?_) (fun hB => ?_)
          · replace hf := f_if hB hf
            refine x_iinc 3 [(2, .int (v2 + (1 : Int32))), (3, .int (zb (f_X7_fail I (2 : Int32)).1)), (0, .ref 41), (1, .int v1)] dX1_takeText_159 rfl rfl (by decide) rfl ?_
            refine x_goto 22 dX1_takeText_162 (by decide) ?_
            refine x_lv [(0, .ref 41), (1, .int v1), (2, .int (v2 + (1 : Int32)))] [2, 3, 0] rfl ?_
            exact ih _ _ _ hf
          · replace hf := f_el hB hf
            refine x_iconst (v := (0)) dX1_takeText_157 (by decide) ?_
            cases hf
            exact x_zret (b := false) dX1_takeText_158 rfl rfl
        replace hf := f_el hs10 hf
        by_cases hs11 : (f_X7_keywordHere I) = (3)
        · replace hf := f_if hs11 hf
          refine x_tabIn (3) 144 dX1_takeText_46 hs11 (by decide) (by decide) rfl (by decide) ?_
          refine x_aload_n 0 dX1_takeText_144 rfl rfl ?_
          refine x_getR dX1_takeText_145 lx_41 fl_X1_15 rfl ?_
          refine x_iconst (v := (2)) dX1_takeText_148 (by decide) ?_
          refine x_callVi [.int (2 : Int32)] (c_X7_fail (I := I) (L := L) (2 : Int32)) dX1_takeText_149 lk_X1_61 lx_39 rfl cd_X7_fail rfl rfl (Nat.le_of_ble_eq_true rfl) ⟨rfl, rfl, Nat.le_of_ble_eq_true rfl, Nat.le_of_ble_eq_true rfl⟩ ?_
          refine x_istore_n [(3, .int (zb (f_X7_fail I (2 : Int32)).1)), (0, .ref 41), (1, .int v1), (2, .int v2)] dX1_takeText_152 rfl (by decide) rfl ?_
          refine x_iload_n 0 dX1_takeText_153 rfl rfl ?_
          refine x_if_neB 159 dX1_takeText_154 (by decide) (fun hB => ?_) (fun hB => ?_)
          · replace hf := f_if hB hf
            refine x_iinc 3 [(2, .int (v2 + (1 : Int32))), (3, .int (zb (f_X7_fail I (2 : Int32)).1)), (0, .ref 41), (1, .int v1)] dX1_takeText_159 rfl rfl (by decide) rfl ?_
            refine x_goto 22 dX1_takeText_162 (by decide) ?_
            refine x_lv [(0, .ref 41), (1, .int v1), (2, .int (v2 + (1 : Int32)))] [2, 3, 0] rfl ?_
            exact ih _ _ _ hf
          · replace hf := f_el hB hf
            refine x_iconst (v := (0)) dX1_takeText_157 (by decide) ?_
            cases hf
            exact x_zret (b := false) dX1_takeText_158 rfl rfl
        replace hf := f_el hs11 hf
        by_cases hs14 : (f_X7_keywordHere I) = (4)
        · replace hf := f_if hs14 hf
          refine x_tabIn (4) 120 dX1_takeText_46 hs14 (by decide) (by decide) rfl (by decide) ?_
          refine x_aload_n 0 dX1_takeText_120 rfl rfl ?_
          obtain ⟨q12, hq13, hf⟩ := f_bd hf
          refine x_callVi [] (c_X1_takeCase (I := I) (L := L)  hq13) dX1_takeText_121 lk_X1_52 lx_41 rfl cd_X1_takeCase rfl rfl (Nat.le_of_ble_eq_true rfl) ⟨rfl, rfl, Nat.le_of_ble_eq_true rfl, Nat.le_of_ble_eq_true rfl⟩ ?_
          refine x_istore_n [(3, .int (zb q12.1)), (0, .ref 41), (1, .int v1), (2, .int v2)] dX1_takeText_124 rfl (by decide) rfl ?_
          refine x_goto 153 dX1_takeText_125 (by decide) ?_
          refine x_iload_n 0 dX1_takeText_153 rfl rfl ?_
          refine x_if_neB 159 dX1_takeText_154 (by decide) (fun hB => ?_) (fun hB => ?_)
          · replace hf := f_if hB hf
            refine x_iinc 3 [(2, .int (v2 + (1 : Int32))), (3, .int (zb q12.1)), (0, .ref 41), (1, .int v1)] dX1_takeText_159 rfl rfl (by decide) rfl ?_
            refine x_goto 22 dX1_takeText_162 (by decide) ?_
            refine x_lv [(0, .ref 41), (1, .int v1), (2, .int (v2 + (1 : Int32)))] [2, 3, 0] rfl ?_
            exact ih _ _ _ hf
          · replace hf := f_el hB hf
            refine x_iconst (v := (0)) dX1_takeText_157 (by decide) ?_
            cases hf
            exact x_zret (b := false) dX1_takeText_158 rfl rfl
        replace hf := f_el hs14 hf
        by_cases hs15 : (f_X7_keywordHere I) = (5)
        · replace hf := f_if hs15 hf
          refine x_tabIn (5) 144 dX1_takeText_46 hs15 (by decide) (by decide) rfl (by decide) ?_
          refine x_aload_n 0 dX1_takeText_144 rfl rfl ?_
          refine x_getR dX1_takeText_145 lx_41 fl_X1_15 rfl ?_
          refine x_iconst (v := (2)) dX1_takeText_148 (by decide) ?_
          refine x_callVi [.int (2 : Int32)] (c_X7_fail (I := I) (L := L) (2 : Int32)) dX1_takeText_149 lk_X1_61 lx_39 rfl cd_X7_fail rfl rfl (Nat.le_of_ble_eq_true rfl) ⟨rfl, rfl, Nat.le_of_ble_eq_true rfl, Nat.le_of_ble_eq_true rfl⟩ ?_
          refine x_istore_n [(3, .int (zb (f_X7_fail I (2 : Int32)).1)), (0, .ref 41), (1, .int v1), (2, .int v2)] dX1_takeText_152 rfl (by decide) rfl ?_
          refine x_iload_n 0 dX1_takeText_153 rfl rfl ?_
          refine x_if_neB 159 dX1_takeText_154 (by decide) (fun hB => ?_) (fun hB => ?_)
          · replace hf := f_if hB hf
            refine x_iinc 3 [(2, .int (v2 + (1 : Int32))), (3, .int (zb (f_X7_fail I (2 : Int32)).1)), (0, .ref 41), (1, .int v1)] dX1_takeText_159 rfl rfl (by decide) rfl ?_
            refine x_goto 22 dX1_takeText_162 (by decide) ?_
            refine x_lv [(0, .ref 41), (1, .int v1), (2, .int (v2 + (1 : Int32)))] [2, 3, 0] rfl ?_
            exact ih _ _ _ hf
          · replace hf := f_el hB hf
            refine x_iconst (v := (0)) dX1_takeText_157 (by decide) ?_
            cases hf
            exact x_zret (b := false) dX1_takeText_158 rfl rfl
        replace hf := f_el hs15 hf
        by_cases hs18 : (f_X7_keywordHere I) = (6)
        · replace hf := f_if hs18 hf
          refine x_tabIn (6) 128 dX1_takeText_46 hs18 (by decide) (by decide) rfl (by decide) ?_
          refine x_aload_n 0 dX1_takeText_128 rfl rfl ?_
          obtain ⟨q16, hq17, hf⟩ := f_bd hf
          refine x_callVi [] (c_X1_takeClaim (I := I) (L := L)  hq17) dX1_takeText_129 lk_X1_55 lx_41 rfl cd_X1_takeClaim rfl rfl (Nat.le_of_ble_eq_true rfl) ⟨rfl, rfl, Nat.le_of_ble_eq_true rfl, Nat.le_of_ble_eq_true rfl⟩ ?_
          refine x_istore_n [(3, .int (zb q16.1)), (0, .ref 41), (1, .int v1), (2, .int v2)] dX1_takeText_132 rfl (by decide) rfl ?_
          refine x_goto 153 dX1_takeText_133 (by decide) ?_
          refine x_iload_n 0 dX1_takeText_153 rfl rfl ?_
          refine x_if_neB 159 dX1_takeText_154 (by decide) (fun hB => ?_) (fun hB => ?_)
          · replace hf := f_if hB hf
            refine x_iinc 3 [(2, .int (v2 + (1 : Int32))), (3, .int (zb q16.1)), (0, .ref 41), (1, .int v1)] dX1_takeText_159 rfl rfl (by decide) rfl ?_
            refine x_goto 22 dX1_takeText_162 (by decide) ?_
            refine x_lv [(0, .ref 41), (1, .int v1), (2, .int (v2 + (1 : Int32)))] [2, 3, 0] rfl ?_
            exact ih _ _ _ hf
          · replace hf := f_el hB hf
            refine x_iconst (v := (0)) dX1_takeText_157 (by decide) ?_
            cases hf
            exact x_zret (b := false) dX1_takeText_158 rfl rfl
        replace hf := f_el hs18 hf
        by_cases hs19 : (f_X7_keywordHere I) = (7)
        · replace hf := f_if hs19 hf
          refine x_tabIn (7) 144 dX1_takeText_46 hs19 (by decide) (by decide) rfl (by decide) ?_
          refine x_aload_n 0 dX1_takeText_144 rfl rfl ?_
          refine x_getR dX1_takeText_145 lx_41 fl_X1_15 rfl ?_
          refine x_iconst (v := (2)) dX1_takeText_148 (by decide) ?_
          refine x_callVi [.int (2 : Int32)] (c_X7_fail (I := I) (L := L) (2 : Int32)) dX1_takeText_149 lk_X1_61 lx_39 rfl cd_X7_fail rfl rfl (Nat.le_of_ble_eq_true rfl) ⟨rfl, rfl, Nat.le_of_ble_eq_true rfl, Nat.le_of_ble_eq_true rfl⟩ ?_
          refine x_istore_n [(3, .int (zb (f_X7_fail I (2 : Int32)).1)), (0, .ref 41), (1, .int v1), (2, .int v2)] dX1_takeText_152 rfl (by decide) rfl ?_
          refine x_iload_n 0 dX1_takeText_153 rfl rfl ?_
          refine x_if_neB 159 dX1_takeText_154 (by decide) (fun hB => ?_) (fun hB => ?_)
          · replace hf := f_if hB hf
            refine x_iinc 3 [(2, .int (v2 + (1 : Int32))), (3, .int (zb (f_X7_fail I (2 : Int32)).1)), (0, .ref 41), (1, .int v1)] dX1_takeText_159 rfl rfl (by decide) rfl ?_
            refine x_goto 22 dX1_takeText_162 (by decide) ?_
            refine x_lv [(0, .ref 41), (1, .int v1), (2, .int (v2 + (1 : Int32)))] [2, 3, 0] rfl ?_
            exact ih _ _ _ hf
          · replace hf := f_el hB hf
            refine x_iconst (v := (0)) dX1_takeText_157 (by decide) ?_
            cases hf
            exact x_zret (b := false) dX1_takeText_158 rfl rfl
        replace hf := f_el hs19 hf
        by_cases hs20 : (f_X7_keywordHere I) = (8)
        · replace hf := f_if hs20 hf
          refine x_tabIn (8) 144 dX1_takeText_46 hs20 (by decide) (by decide) rfl (by decide) ?_
          refine x_aload_n 0 dX1_takeText_144 rfl rfl ?_
          refine x_getR dX1_takeText_145 lx_41 fl_X1_15 rfl ?_
          refine x_iconst (v := (2)) dX1_takeText_148 (by decide) ?_
          refine x_callVi [.int (2 : Int32)] (c_X7_fail (I := I) (L := L) (2 : Int32)) dX1_takeText_149 lk_X1_61 lx_39 rfl cd_X7_fail rfl rfl (Nat.le_of_ble_eq_true rfl) ⟨rfl, rfl, Nat.le_of_ble_eq_true rfl, Nat.le_of_ble_eq_true rfl⟩ ?_
          refine x_istore_n [(3, .int (zb (f_X7_fail I (2 : Int32)).1)), (0, .ref 41), (1, .int v1), (2, .int v2)] dX1_takeText_152 rfl (by decide) rfl ?_
          refine x_iload_n 0 dX1_takeText_153 rfl rfl ?_
          refine x_if_neB 159 dX1_takeText_154 (by decide) (fun hB => ?_) (fun hB => ?_)
          · replace hf := f_if hB hf
            refine x_iinc 3 [(2, .int (v2 + (1 : Int32))), (3, .int (zb (f_X7_fail I (2 : Int32)).1)), (0, .ref 41), (1, .int v1)] dX1_takeText_159 rfl rfl (by decide) rfl ?_
            refine x_goto 22 dX1_takeText_162 (by decide) ?_
            refine x_lv [(0, .ref 41), (1, .int v1), (2, .int (v2 + (1 : Int32)))] [2, 3, 0] rfl ?_
            exact ih _ _ _ hf
          · replace hf := f_el hB hf
            refine x_iconst (v := (0)) dX1_takeText_157 (by decide) ?_
            cases hf
            exact x_zret (b := false) dX1_takeText_158 rfl rfl
        replace hf := f_el hs20 hf
        by_cases hs21 : (f_X7_keywordHere I) = (9)
        · replace hf := f_if hs21 hf
          refine x_tabIn (9) 144 dX1_takeText_46 hs21 (by decide) (by decide) rfl (by decide) ?_
          refine x_aload_n 0 dX1_takeText_144 rfl rfl ?_
          refine x_getR dX1_takeText_145 lx_41 fl_X1_15 rfl ?_
          refine x_iconst (v := (2)) dX1_takeText_148 (by decide) ?_
          refine x_callVi [.int (2 : Int32)] (c_X7_fail (I := I) (L := L) (2 : Int32)) dX1_takeText_149 lk_X1_61 lx_39 rfl cd_X7_fail rfl rfl (Nat.le_of_ble_eq_true rfl) ⟨rfl, rfl, Nat.le_of_ble_eq_true rfl, Nat.le_of_ble_eq_true rfl⟩ ?_
          refine x_istore_n [(3, .int (zb (f_X7_fail I (2 : Int32)).1)), (0, .ref 41), (1, .int v1), (2, .int v2)] dX1_takeText_152 rfl (by decide) rfl ?_
          refine x_iload_n 0 dX1_takeText_153 rfl rfl ?_
          refine x_if_neB 159 dX1_takeText_154 (by decide) (fun hB => ?_) (fun hB => ?_)
          · replace hf := f_if hB hf
            refine x_iinc 3 [(2, .int (v2 + (1 : Int32))), (3, .int (zb (f_X7_fail I (2 : Int32)).1)), (0, .ref 41), (1, .int v1)] dX1_takeText_159 rfl rfl (by decide) rfl ?_
            refine x_goto 22 dX1_takeText_162 (by decide) ?_
            refine x_lv [(0, .ref 41), (1, .int v1), (2, .int (v2 + (1 : Int32)))] [2, 3, 0] rfl ?_
            exact ih _ _ _ hf
          · replace hf := f_el hB hf
            refine x_iconst (v := (0)) dX1_takeText_157 (by decide) ?_
            cases hf
            exact x_zret (b := false) dX1_takeText_158 rfl rfl
        replace hf := f_el hs21 hf
        by_cases hs24 : (f_X7_keywordHere I) = (10)
        · replace hf := f_if hs24 hf
          refine x_tabIn (10) 136 dX1_takeText_46 hs24 (by decide) (by decide) rfl (by decide) ?_
          refine x_aload_n 0 dX1_takeText_136 rfl rfl ?_
          obtain ⟨q22, hq23, hf⟩ := f_bd hf
          refine x_callVi [] (c_X1_takeScholar (I := I) (L := L)  hq23) dX1_takeText_137 lk_X1_58 lx_41 rfl cd_X1_takeScholar rfl rfl (Nat.le_of_ble_eq_true rfl) ⟨rfl, rfl, Nat.le_of_ble_eq_true rfl, Nat.le_of_ble_eq_true rfl⟩ ?_
          refine x_istore_n [(3, .int (zb q22.1)), (0, .ref 41), (1, .int v1), (2, .int v2)] dX1_takeText_140 rfl (by decide) rfl ?_
          refine x_goto 153 dX1_takeText_141 (by decide) ?_
          refine x_iload_n 0 dX1_takeText_153 rfl rfl ?_
          refine x_if_neB 159 dX1_takeText_154 (by decide) (fun hB => ?_) (fun hB => ?_)
          · replace hf := f_if hB hf
            refine x_iinc 3 [(2, .int (v2 + (1 : Int32))), (3, .int (zb q22.1)), (0, .ref 41), (1, .int v1)] dX1_takeText_159 rfl rfl (by decide) rfl ?_
            refine x_goto 22 dX1_takeText_162 (by decide) ?_
            refine x_lv [(0, .ref 41), (1, .int v1), (2, .int (v2 + (1 : Int32)))] [2, 3, 0] rfl ?_
            exact ih _ _ _ hf
          · replace hf := f_el hB hf
            refine x_iconst (v := (0)) dX1_takeText_157 (by decide) ?_
            cases hf
            exact x_zret (b := false) dX1_takeText_158 rfl rfl
        replace hf := f_el hs24 hf
        refine x_tabOut 144 dX1_takeText_46 (by have := lv_neT (a := 0) hs6 (by decide); have := lv_neT (a := 1) hs9 (by decide); have := lv_neT (a := 2) hs10 (by decide); have := lv_neT (a := 3) hs11 (by decide); have := lv_neT (a := 4) hs14 (by decide); have := lv_neT (a := 5) hs15 (by decide); have := lv_neT (a := 6) hs18 (by decide); have := lv_neT (a := 7) hs19 (by decide); have := lv_neT (a := 8) hs20 (by decide); have := lv_neT (a := 9) hs21 (by decide); have := lv_neT (a := 10) hs24 (by decide); omega) (by decide) ?_
        refine x_aload_n 0 dX1_takeText_144 rfl rfl ?_
        refine x_getR dX1_takeText_145 lx_41 fl_X1_15 rfl ?_
        refine x_iconst (v := (2)) dX1_takeText_148 (by decide) ?_
        refine x_callVi [.int (2 : Int32)] (c_X7_fail (I := I) (L := L) (2 : Int32)) dX1_takeText_149 lk_X1_61 lx_39 rfl cd_X7_fail rfl rfl (Nat.le_of_ble_eq_true rfl) ⟨rfl, rfl, Nat.le_of_ble_eq_true rfl, Nat.le_of_ble_eq_true rfl⟩ ?_
        refine x_istore_n [(3, .int (zb (f_X7_fail I (2 : Int32)).1)), (0, .ref 41), (1, .int v1), (2, .int v2)] dX1_takeText_152 rfl (by decide) rfl ?_
        refine x_iload_n 0 dX1_takeText_153 rfl rfl ?_
        refine x_if_neB 159 dX1_takeText_154 (by decide) (fun hB => ?_) (fun hB => ?_)
        · replace hf := f_if hB hf
          refine x_iinc 3 [(2, .int (v2 + (1 : Int32))), (3, .int (zb (f_X7_fail I (2 : Int32)).1)), (0, .ref 41), (1, .int v1)] dX1_takeText_159 rfl rfl (by decide) rfl ?_
          refine x_goto 22 dX1_takeText_162 (by decide) ?_
          refine x_lv [(0, .ref 41), (1, .int v1), (2, .int (v2 + (1 : Int32)))] [2, 3, 0] rfl ?_
          exact ih _ _ _ hf
        · replace hf := f_el hB hf
          refine x_iconst (v := (0)) dX1_takeText_157 (by decide) ?_
          cases hf
          exact x_zret (b := false) dX1_takeText_158 rfl rfl
      · replace hf := f_if hB hf
        refine x_iconst (v := (1)) dX1_takeText_37 (by decide) ?_
        cases hf
        exact x_zret (b := true) dX1_takeText_38 rfl rfl
set_option maxRecDepth 100000 in
set_option maxHeartbeats 4000000 in
theorem c_X1_takeText {I : z_I} {L : z_L} {p0 : Int32}  {r : Bool × z_I × z_L} (hf : f_X1_takeText I L p0 = some r) : z_C layX yX1_takeText cX1_takeText 4 (some .boolean) ({ frames := 5, cells := 0, slots := 0, locals := 110 } : Room) [.ref 41, .int p0] I L (some (.int (zb r.1)), r.2.1, r.2.2) := by
  refine z_C.of (by decide) (Nat.le_of_ble_eq_true rfl) ?_
  show z_X layX RX1 cX1_takeText 4 (some .boolean) ({ frames := 5, cells := 0, slots := 0, locals := 110 } : Room) 0 [(0, .ref 41), (1, .int p0)] [] I L (some (.int (zb r.1)), r.2.1, r.2.2)
  unfold f_X1_takeText at hf
  refine x_aload_n 0 dX1_takeText_0 rfl rfl ?_
  refine x_getR dX1_takeText_1 lx_41 fl_X1_19 rfl ?_
  refine x_callVv [] (c_X0_clear (I := I) (L := L) 22 zt_22) dX1_takeText_4 lk_X1_23 lx_22 rfl cd_X0_clear rfl rfl (Nat.le_of_ble_eq_true rfl) ⟨rfl, rfl, Nat.le_of_ble_eq_true rfl, Nat.le_of_ble_eq_true rfl⟩ ?_
  refine x_aload_n 0 dX1_takeText_7 rfl rfl ?_
  refine x_iconst (v := (0)) dX1_takeText_8 (by decide) ?_
  obtain ⟨I1, hI1, hf⟩ := f_lt hf
  refine x_putB (b := false) dX1_takeText_9 lx_41 fl_X1_28 rfl rfl hI1 ?_
  refine x_aload_n 0 dX1_takeText_12 rfl rfl ?_
  refine x_getR dX1_takeText_13 lx_41 fl_X1_15 rfl ?_
  refine x_iload_n 1 dX1_takeText_16 rfl rfl ?_
  obtain ⟨q2, hq3, hf⟩ := f_bd hf
  refine x_callVv [.int p0] (c_X7_open (I := I1) (L := L)  hq3) dX1_takeText_17 lk_X1_32 lx_39 rfl cd_X7_open rfl rfl (Nat.le_of_ble_eq_true rfl) ⟨rfl, rfl, Nat.le_of_ble_eq_true rfl, Nat.le_of_ble_eq_true rfl⟩ ?_
  refine x_iconst (v := (0)) dX1_takeText_20 (by decide) ?_
  refine x_istore_n [(2, .int (0 : Int32)), (0, .ref 41), (1, .int p0)] dX1_takeText_21 rfl (by decide) rfl ?_
  refine x_lv [(0, .ref 41), (1, .int p0), (2, .int (0 : Int32))] [1, 2, 0] rfl ?_
  refine l_X1_takeText_22 p0   _ _ _ _ hf
set_option maxRecDepth 100000 in
set_option maxHeartbeats 4000000 in
theorem c_X6_addEntry {I : z_I} {L : z_L} {p0 : Int32}  {r : Int32 × z_I} (hf : f_X6_addEntry I p0 = some r) : z_C layX yX6_addEntry cX6_addEntry 3 (some .int) ({ frames := 0, cells := 0, slots := 0, locals := 0 } : Room) [.ref 43, .int p0] I L (some (.int r.1), r.2, L) := by
  refine z_C.of (by decide) (Nat.le_of_ble_eq_true rfl) ?_
  show z_X layX RX6 cX6_addEntry 3 (some .int) ({ frames := 0, cells := 0, slots := 0, locals := 0 } : Room) 0 [(0, .ref 43), (1, .int p0)] [] I L (some (.int r.1), r.2, L)
  unfold f_X6_addEntry at hf
  refine x_aload_n 0 dX6_addEntry_0 rfl rfl ?_
  refine x_getR dX6_addEntry_1 lx_43 fl_X6_19 rfl ?_
  refine x_getI (v := (I 33 6)) dX6_addEntry_4 lx_33 fl_X6_132 rfl rfl ?_
  refine x_istore_n [(2, .int (I 33 6)), (0, .ref 43), (1, .int p0)] dX6_addEntry_7 rfl (by decide) rfl ?_
  refine x_aload_n 1 dX6_addEntry_8 rfl rfl ?_
  refine x_getR dX6_addEntry_9 lx_43 fl_X6_19 rfl ?_
  refine x_getR dX6_addEntry_12 lx_33 fl_X6_114 rfl ?_
  refine x_iload_n 0 dX6_addEntry_15 rfl rfl ?_
  refine x_iload_n 2 dX6_addEntry_16 rfl rfl ?_
  obtain ⟨h1, hf⟩ := f_gd hf
  obtain ⟨I2, hI2, hf⟩ := f_lt hf
  refine x_iast (j0 := ((I 33 6)).toNatClampNeg) dX6_addEntry_17 lx_34 h1 rfl hI2 ?_
  refine x_aload_n 1 dX6_addEntry_18 rfl rfl ?_
  refine x_getR dX6_addEntry_19 lx_43 fl_X6_19 rfl ?_
  refine x_dup dX6_addEntry_22 rfl ?_
  refine x_getI (v := (I 33 6)) dX6_addEntry_23 lx_33 fl_X6_132 rfl (by rw [hI2, z2_o (by decide)]) ?_
  refine x_iconst (v := (1)) dX6_addEntry_26 (by decide) ?_
  refine x_iadd dX6_addEntry_27 ?_
  obtain ⟨I3, hI3, hf⟩ := f_lt hf
  refine x_putI dX6_addEntry_28 lx_33 fl_X6_132 rfl rfl rfl hI3 ?_
  refine x_iload_n 0 dX6_addEntry_31 rfl rfl ?_
  cases hf
  exact x_iret dX6_addEntry_32 rfl rfl
set_option maxRecDepth 100000 in
set_option maxHeartbeats 4000000 in
theorem c_X6_takeEnd {I : z_I} {L : z_L}   {r : Bool × z_I × z_L} (hf : f_X6_takeEnd I L = some r) : z_C layX yX6_takeEnd cX6_takeEnd 3 (some .boolean) ({ frames := 3, cells := 0, slots := 0, locals := 63 } : Room) [.ref 43] I L (some (.int (zb r.1)), r.2.1, r.2.2) := by
  refine z_C.of (by decide) (Nat.le_of_ble_eq_true rfl) ?_
  show z_X layX RX6 cX6_takeEnd 3 (some .boolean) ({ frames := 3, cells := 0, slots := 0, locals := 63 } : Room) 0 [(0, .ref 43)] [] I L (some (.int (zb r.1)), r.2.1, r.2.2)
  unfold f_X6_takeEnd at hf
  refine x_aload_n 0 dX6_takeEnd_0 rfl rfl ?_
  refine x_getI (v := (I 43 4)) dX6_takeEnd_1 lx_43 fl_X6_36 rfl rfl ?_
  refine x_if_ne 16 dX6_takeEnd_4 (by decide) (fun hB => ?_) (fun hB => ?_)
  · replace hf := f_el hB hf
    refine x_aload_n 0 dX6_takeEnd_16 rfl rfl ?_
    refine x_dup dX6_takeEnd_17 rfl ?_
    refine x_getI (v := (I 43 4)) dX6_takeEnd_18 lx_43 fl_X6_36 rfl rfl ?_
    refine x_iconst (v := (1)) dX6_takeEnd_21 (by decide) ?_
    refine x_isub dX6_takeEnd_22 ?_
    obtain ⟨I1, hI1, hf⟩ := f_lt hf
    refine x_putI dX6_takeEnd_23 lx_43 fl_X6_36 rfl rfl rfl hI1 ?_
    refine x_aload_n 0 dX6_takeEnd_26 rfl rfl ?_
    refine x_getR dX6_takeEnd_27 lx_43 fl_X6_9 rfl ?_
    refine x_aload_n 0 dX6_takeEnd_30 rfl rfl ?_
    refine x_getI (v := ((I 43 4) - (1 : Int32))) dX6_takeEnd_31 lx_43 fl_X6_36 rfl (by rw [hI1, z2_s, z1_s]) ?_
    obtain ⟨h2, hf⟩ := f_gd hf
    refine x_iald (j := (((I 43 4) - (1 : Int32))).toNatClampNeg) (v := (I 44 (((I 43 4) - (1 : Int32))).toNatClampNeg)) dX6_takeEnd_34 lx_44 h2 rfl (by rw [hI1, z2_o (by decide)]) ?_
    obtain ⟨w3, hw3, hf⟩ := f_lt hf
    refine x_topI hw3 ?_
    refine x_istore_n [(1, .int w3), (0, .ref 43)] dX6_takeEnd_35 rfl (by decide) rfl ?_
    refine x_aload_n 1 dX6_takeEnd_36 rfl rfl ?_
    refine x_bipush (v := (21)) dX6_takeEnd_37 (by decide) ?_
    obtain ⟨q4, hq5, hf⟩ := f_bd hf
    refine x_callVi [.int (21 : Int32)] (c_X6_addEntry (I := I1) (L := L)  hq5) dX6_takeEnd_39 lk_X6_108 lx_43 rfl cd_X6_addEntry rfl rfl (Nat.le_of_ble_eq_true rfl) ⟨rfl, rfl, Nat.le_of_ble_eq_true rfl, Nat.le_of_ble_eq_true rfl⟩ ?_
    refine x_istore_n [(2, .int q4.1), (1, .int w3), (0, .ref 43)] dX6_takeEnd_42 rfl (by decide) rfl ?_
    refine x_aload_n 2 dX6_takeEnd_43 rfl rfl ?_
    refine x_getR dX6_takeEnd_44 lx_43 fl_X6_19 rfl ?_
    refine x_getR dX6_takeEnd_47 lx_33 fl_X6_129 rfl ?_
    refine x_iload_n 1 dX6_takeEnd_50 rfl rfl ?_
    refine x_iload_n 0 dX6_takeEnd_51 rfl rfl ?_
    obtain ⟨h6, hf⟩ := f_gd hf
    obtain ⟨I7, hI7, hf⟩ := f_lt hf
    refine x_iast (j0 := (w3).toNatClampNeg) dX6_takeEnd_52 lx_38 h6 rfl hI7 ?_
    refine x_aload_n 2 dX6_takeEnd_53 rfl rfl ?_
    refine x_getR dX6_takeEnd_54 lx_43 fl_X6_19 rfl ?_
    refine x_getR dX6_takeEnd_57 lx_33 fl_X6_129 rfl ?_
    refine x_iload_n 0 dX6_takeEnd_60 rfl rfl ?_
    refine x_iload_n 1 dX6_takeEnd_61 rfl rfl ?_
    obtain ⟨h8, hf⟩ := f_gd hf
    obtain ⟨I9, hI9, hf⟩ := f_lt hf
    refine x_iast (j0 := (q4.1).toNatClampNeg) dX6_takeEnd_62 lx_38 h8 rfl hI9 ?_
    refine x_aload_n 2 dX6_takeEnd_63 rfl rfl ?_
    refine x_getR dX6_takeEnd_64 lx_43 fl_X6_15 rfl ?_
    obtain ⟨q10, hq11, hf⟩ := f_bd hf
    refine x_callVv [] (c_X7_move (I := I9) (L := L)  hq11) dX6_takeEnd_67 lk_X6_111 lx_39 rfl cd_X7_move rfl rfl (Nat.le_of_ble_eq_true rfl) ⟨rfl, rfl, Nat.le_of_ble_eq_true rfl, Nat.le_of_ble_eq_true rfl⟩ ?_
    refine x_aload_n 2 dX6_takeEnd_70 rfl rfl ?_
    refine x_getR dX6_takeEnd_71 lx_43 fl_X6_15 rfl ?_
    obtain ⟨q12, hq13, hf⟩ := f_bd hf
    refine x_callVi [] (c_X7_takeSemicolon (I := q10.1) (L := q10.2)  hq13) dX6_takeEnd_74 lk_X6_102 lx_39 rfl cd_X7_takeSemicolon rfl rfl (Nat.le_of_ble_eq_true rfl) ⟨rfl, rfl, Nat.le_of_ble_eq_true rfl, Nat.le_of_ble_eq_true rfl⟩ ?_
    cases hf
    exact x_zret dX6_takeEnd_77 rfl rfl
  · replace hf := f_if hB hf
    refine x_aload_n 0 dX6_takeEnd_7 rfl rfl ?_
    refine x_getR dX6_takeEnd_8 lx_43 fl_X6_15 rfl ?_
    refine x_iconst (v := (2)) dX6_takeEnd_11 (by decide) ?_
    refine x_callVi [.int (2 : Int32)] (c_X7_fail (I := I) (L := L) (2 : Int32)) dX6_takeEnd_12 lk_X6_59 lx_39 rfl cd_X7_fail rfl rfl (Nat.le_of_ble_eq_true rfl) ⟨rfl, rfl, Nat.le_of_ble_eq_true rfl, Nat.le_of_ble_eq_true rfl⟩ ?_
    cases hf
    exact x_zret dX6_takeEnd_15 rfl rfl
set_option maxRecDepth 100000 in
set_option maxHeartbeats 4000000 in
theorem c_X6_canBegin {I : z_I} {L : z_L} (p0 : Int32)  : z_C layX yX6_canBegin cX6_canBegin 2 (some .boolean) ({ frames := 1, cells := 0, slots := 0, locals := 21 } : Room) [.ref 43, .int p0] I L (some (.int (zb (f_X6_canBegin I p0).1)), (f_X6_canBegin I p0).2, L) := by
  obtain ⟨r, hf⟩ : ∃ r, f_X6_canBegin I p0 = r := ⟨_, rfl⟩
  rw [hf]
  refine z_C.of (by decide) (Nat.le_of_ble_eq_true rfl) ?_
  show z_X layX RX6 cX6_canBegin 2 (some .boolean) ({ frames := 1, cells := 0, slots := 0, locals := 21 } : Room) 0 [(0, .ref 43), (1, .int p0)] [] I L (some (.int (zb r.1)), r.2, L)
  unfold f_X6_canBegin at hf
  refine x_iload_n 1 dX6_canBegin_0 rfl rfl ?_
  refine x_bipush (v := (12)) dX6_canBegin_1 (by decide) ?_
  refine x_icmp_lt 18 dX6_canBegin_3 (by decide) (fun hB => ?_) (fun hB => ?_)
  · replace hf := t_if hB hf
    refine x_aload_n 0 dX6_canBegin_18 rfl rfl ?_
    refine x_getR dX6_canBegin_19 lx_43 fl_X6_15 rfl ?_
    refine x_iconst (v := (2)) dX6_canBegin_22 (by decide) ?_
    refine x_callVi [.int (2 : Int32)] (c_X7_fail (I := I) (L := L) (2 : Int32)) dX6_canBegin_23 lk_X6_59 lx_39 rfl cd_X7_fail rfl rfl (Nat.le_of_ble_eq_true rfl) ⟨rfl, rfl, Nat.le_of_ble_eq_true rfl, Nat.le_of_ble_eq_true rfl⟩ ?_
    subst hf
    exact x_zret dX6_canBegin_26 rfl rfl
  · replace hf := t_el hB hf
    refine x_iload_n 1 dX6_canBegin_6 rfl rfl ?_
    refine x_bipush (v := (22)) dX6_canBegin_7 (by decide) ?_
    refine x_icmp_gt 18 dX6_canBegin_9 (by decide) (fun hB => ?_) (fun hB => ?_)
    · replace hf := t_if hB hf
      refine x_aload_n 0 dX6_canBegin_18 rfl rfl ?_
      refine x_getR dX6_canBegin_19 lx_43 fl_X6_15 rfl ?_
      refine x_iconst (v := (2)) dX6_canBegin_22 (by decide) ?_
      refine x_callVi [.int (2 : Int32)] (c_X7_fail (I := I) (L := L) (2 : Int32)) dX6_canBegin_23 lk_X6_59 lx_39 rfl cd_X7_fail rfl rfl (Nat.le_of_ble_eq_true rfl) ⟨rfl, rfl, Nat.le_of_ble_eq_true rfl, Nat.le_of_ble_eq_true rfl⟩ ?_
      subst hf
      exact x_zret dX6_canBegin_26 rfl rfl
    · replace hf := t_el hB hf
      refine x_iload_n 1 dX6_canBegin_12 rfl rfl ?_
      refine x_bipush (v := (19)) dX6_canBegin_13 (by decide) ?_
      refine x_icmp_ne 27 dX6_canBegin_15 (by decide) (fun hB => ?_) (fun hB => ?_)
      · replace hf := t_el hB hf
        refine x_aload_n 0 dX6_canBegin_27 rfl rfl ?_
        refine x_getR dX6_canBegin_28 lx_43 fl_X6_19 rfl ?_
        refine x_getI (v := (I 33 7)) dX6_canBegin_31 lx_33 fl_X6_105 rfl rfl ?_
        refine x_bipush (v := (30)) dX6_canBegin_34 (by decide) ?_
        refine x_icmp_lt 49 dX6_canBegin_36 (by decide) (fun hB => ?_) (fun hB => ?_)
        · replace hf := t_if hB hf
          refine x_iload_n 1 dX6_canBegin_49 rfl rfl ?_
          refine x_bipush (v := (18)) dX6_canBegin_50 (by decide) ?_
          refine x_icmp_eq 61 dX6_canBegin_52 (by decide) (fun hB => ?_) (fun hB => ?_)
          · replace hf := t_if hB hf
            refine x_aload_n 0 dX6_canBegin_61 rfl rfl ?_
            refine x_getI (v := (I 43 4)) dX6_canBegin_62 lx_43 fl_X6_36 rfl rfl ?_
            refine x_iconst (v := (3)) dX6_canBegin_65 (by decide) ?_
            refine x_icmp_lt 79 dX6_canBegin_66 (by decide) (fun hB => ?_) (fun hB => ?_)
            · replace hf := t_if hB hf
              refine x_iconst (v := (1)) dX6_canBegin_79 (by decide) ?_
              subst hf
              exact x_zret (b := true) dX6_canBegin_80 rfl rfl
            · replace hf := t_el hB hf
              refine x_aload_n 0 dX6_canBegin_69 rfl rfl ?_
              refine x_getR dX6_canBegin_70 lx_43 fl_X6_15 rfl ?_
              refine x_bipush (v := (7)) dX6_canBegin_73 (by decide) ?_
              refine x_callVi [.int (7 : Int32)] (c_X7_fail (I := I) (L := L) (7 : Int32)) dX6_canBegin_75 lk_X6_59 lx_39 rfl cd_X7_fail rfl rfl (Nat.le_of_ble_eq_true rfl) ⟨rfl, rfl, Nat.le_of_ble_eq_true rfl, Nat.le_of_ble_eq_true rfl⟩ ?_
              subst hf
              exact x_zret dX6_canBegin_78 rfl rfl
          · replace hf := t_el hB hf
            refine x_iload_n 1 dX6_canBegin_55 rfl rfl ?_
            refine x_bipush (v := (20)) dX6_canBegin_56 (by decide) ?_
            refine x_icmp_ne 79 dX6_canBegin_58 (by decide) (fun hB => ?_) (fun hB => ?_)
            · replace hf := t_el hB hf
              refine x_iconst (v := (1)) dX6_canBegin_79 (by decide) ?_
              subst hf
              exact x_zret (b := true) dX6_canBegin_80 rfl rfl
            · replace hf := t_if hB hf
              refine x_aload_n 0 dX6_canBegin_61 rfl rfl ?_
              refine x_getI (v := (I 43 4)) dX6_canBegin_62 lx_43 fl_X6_36 rfl rfl ?_
              refine x_iconst (v := (3)) dX6_canBegin_65 (by decide) ?_
              refine x_icmp_lt 79 dX6_canBegin_66 (by decide) (fun hB => ?_) (fun hB => ?_)
              · replace hf := t_if hB hf
                refine x_iconst (v := (1)) dX6_canBegin_79 (by decide) ?_
                subst hf
                exact x_zret (b := true) dX6_canBegin_80 rfl rfl
              · replace hf := t_el hB hf
                refine x_aload_n 0 dX6_canBegin_69 rfl rfl ?_
                refine x_getR dX6_canBegin_70 lx_43 fl_X6_15 rfl ?_
                refine x_bipush (v := (7)) dX6_canBegin_73 (by decide) ?_
                refine x_callVi [.int (7 : Int32)] (c_X7_fail (I := I) (L := L) (7 : Int32)) dX6_canBegin_75 lk_X6_59 lx_39 rfl cd_X7_fail rfl rfl (Nat.le_of_ble_eq_true rfl) ⟨rfl, rfl, Nat.le_of_ble_eq_true rfl, Nat.le_of_ble_eq_true rfl⟩ ?_
                subst hf
                exact x_zret dX6_canBegin_78 rfl rfl
        · replace hf := t_el hB hf
          refine x_aload_n 0 dX6_canBegin_39 rfl rfl ?_
          refine x_getR dX6_canBegin_40 lx_43 fl_X6_15 rfl ?_
          refine x_bipush (v := (6)) dX6_canBegin_43 (by decide) ?_
          refine x_callVi [.int (6 : Int32)] (c_X7_fail (I := I) (L := L) (6 : Int32)) dX6_canBegin_45 lk_X6_59 lx_39 rfl cd_X7_fail rfl rfl (Nat.le_of_ble_eq_true rfl) ⟨rfl, rfl, Nat.le_of_ble_eq_true rfl, Nat.le_of_ble_eq_true rfl⟩ ?_
          subst hf
          exact x_zret dX6_canBegin_48 rfl rfl
      · replace hf := t_if hB hf
        refine x_aload_n 0 dX6_canBegin_18 rfl rfl ?_
        refine x_getR dX6_canBegin_19 lx_43 fl_X6_15 rfl ?_
        refine x_iconst (v := (2)) dX6_canBegin_22 (by decide) ?_
        refine x_callVi [.int (2 : Int32)] (c_X7_fail (I := I) (L := L) (2 : Int32)) dX6_canBegin_23 lk_X6_59 lx_39 rfl cd_X7_fail rfl rfl (Nat.le_of_ble_eq_true rfl) ⟨rfl, rfl, Nat.le_of_ble_eq_true rfl, Nat.le_of_ble_eq_true rfl⟩ ?_
        subst hf
        exact x_zret dX6_canBegin_26 rfl rfl
set_option maxRecDepth 100000 in
set_option maxHeartbeats 4000000 in
theorem c_X6_begin {I : z_I} {L : z_L} {p0 : Int32}  {r : Int32 × z_I × z_L} (hf : f_X6_begin I L p0 = some r) : z_C layX yX6_begin cX6_begin 3 (some .int) ({ frames := 2, cells := 0, slots := 0, locals := 43 } : Room) [.ref 43, .int p0] I L (some (.int r.1), r.2.1, r.2.2) := by
  refine z_C.of (by decide) (Nat.le_of_ble_eq_true rfl) ?_
  show z_X layX RX6 cX6_begin 3 (some .int) ({ frames := 2, cells := 0, slots := 0, locals := 43 } : Room) 0 [(0, .ref 43), (1, .int p0)] [] I L (some (.int r.1), r.2.1, r.2.2)
  unfold f_X6_begin at hf
  refine x_aload_n 0 dX6_begin_0 rfl rfl ?_
  refine x_iload_n 1 dX6_begin_1 rfl rfl ?_
  obtain ⟨q1, hq2, hf⟩ := f_bd hf
  refine x_callVi [.int p0] (c_X6_addEntry (I := I) (L := L)  hq2) dX6_begin_2 lk_X6_108 lx_43 rfl cd_X6_addEntry rfl rfl (Nat.le_of_ble_eq_true rfl) ⟨rfl, rfl, Nat.le_of_ble_eq_true rfl, Nat.le_of_ble_eq_true rfl⟩ ?_
  refine x_istore_n [(2, .int q1.1), (0, .ref 43), (1, .int p0)] dX6_begin_5 rfl (by decide) rfl ?_
  refine x_aload_n 1 dX6_begin_6 rfl rfl ?_
  refine x_getR dX6_begin_7 lx_43 fl_X6_19 rfl ?_
  refine x_dup dX6_begin_10 rfl ?_
  refine x_getI (v := (q1.2 33 7)) dX6_begin_11 lx_33 fl_X6_105 rfl rfl ?_
  refine x_iconst (v := (1)) dX6_begin_14 (by decide) ?_
  refine x_iadd dX6_begin_15 ?_
  obtain ⟨I3, hI3, hf⟩ := f_lt hf
  refine x_putI dX6_begin_16 lx_33 fl_X6_105 rfl rfl rfl hI3 ?_
  refine x_iload_n 2 dX6_begin_19 rfl rfl ?_
  refine x_bipush (v := (18)) dX6_begin_20 (by decide) ?_
  refine x_icmp_eq 31 dX6_begin_22 (by decide) (fun hB => ?_) (fun hB => ?_)
  · replace hf := f_if hB hf
    refine x_aload_n 1 dX6_begin_31 rfl rfl ?_
    refine x_getR dX6_begin_32 lx_43 fl_X6_9 rfl ?_
    refine x_aload_n 1 dX6_begin_35 rfl rfl ?_
    refine x_getI (v := (q1.2 43 4)) dX6_begin_36 lx_43 fl_X6_36 rfl (by rw [hI3, z2_o (by decide)]) ?_
    refine x_iload_n 0 dX6_begin_39 rfl rfl ?_
    obtain ⟨h4, hf⟩ := f_gd hf
    obtain ⟨I5, hI5, hf⟩ := f_lt hf
    refine x_iast (j0 := ((q1.2 43 4)).toNatClampNeg) dX6_begin_40 lx_44 h4 rfl hI5 ?_
    refine x_aload_n 1 dX6_begin_41 rfl rfl ?_
    refine x_dup dX6_begin_42 rfl ?_
    refine x_getI (v := (q1.2 43 4)) dX6_begin_43 lx_43 fl_X6_36 rfl (by rw [hI5, z2_o (by decide), hI3, z2_o (by decide)]) ?_
    refine x_iconst (v := (1)) dX6_begin_46 (by decide) ?_
    refine x_iadd dX6_begin_47 ?_
    obtain ⟨I6, hI6, hf⟩ := f_lt hf
    refine x_putI dX6_begin_48 lx_43 fl_X6_36 rfl rfl rfl hI6 ?_
    refine x_aload_n 1 dX6_begin_51 rfl rfl ?_
    refine x_getR dX6_begin_52 lx_43 fl_X6_15 rfl ?_
    obtain ⟨q7, hq8, hf⟩ := f_bd hf
    refine x_callVv [] (c_X7_move (I := I6) (L := L)  hq8) dX6_begin_55 lk_X6_111 lx_39 rfl cd_X7_move rfl rfl (Nat.le_of_ble_eq_true rfl) ⟨rfl, rfl, Nat.le_of_ble_eq_true rfl, Nat.le_of_ble_eq_true rfl⟩ ?_
    refine x_iload_n 0 dX6_begin_58 rfl rfl ?_
    cases hf
    exact x_iret dX6_begin_59 rfl rfl
  · replace hf := f_el hB hf
    refine x_iload_n 2 dX6_begin_25 rfl rfl ?_
    refine x_bipush (v := (20)) dX6_begin_26 (by decide) ?_
    refine x_icmp_ne 51 dX6_begin_28 (by decide) (fun hB => ?_) (fun hB => ?_)
    · replace hf := f_el hB hf
      refine x_aload_n 1 dX6_begin_51 rfl rfl ?_
      refine x_getR dX6_begin_52 lx_43 fl_X6_15 rfl ?_
      obtain ⟨q14, hq15, hf⟩ := f_bd hf
      refine x_callVv [] (c_X7_move (I := I3) (L := L)  hq15) dX6_begin_55 lk_X6_111 lx_39 rfl cd_X7_move rfl rfl (Nat.le_of_ble_eq_true rfl) ⟨rfl, rfl, Nat.le_of_ble_eq_true rfl, Nat.le_of_ble_eq_true rfl⟩ ?_
      refine x_iload_n 0 dX6_begin_58 rfl rfl ?_
      cases hf
      exact x_iret dX6_begin_59 rfl rfl
    · replace hf := f_if hB hf
      refine x_aload_n 1 dX6_begin_31 rfl rfl ?_
      refine x_getR dX6_begin_32 lx_43 fl_X6_9 rfl ?_
      refine x_aload_n 1 dX6_begin_35 rfl rfl ?_
      refine x_getI (v := (q1.2 43 4)) dX6_begin_36 lx_43 fl_X6_36 rfl (by rw [hI3, z2_o (by decide)]) ?_
      refine x_iload_n 0 dX6_begin_39 rfl rfl ?_
      obtain ⟨h9, hf⟩ := f_gd hf
      obtain ⟨I10, hI10, hf⟩ := f_lt hf
      refine x_iast (j0 := ((q1.2 43 4)).toNatClampNeg) dX6_begin_40 lx_44 h9 rfl hI10 ?_
      refine x_aload_n 1 dX6_begin_41 rfl rfl ?_
      refine x_dup dX6_begin_42 rfl ?_
      refine x_getI (v := (q1.2 43 4)) dX6_begin_43 lx_43 fl_X6_36 rfl (by rw [hI10, z2_o (by decide), hI3, z2_o (by decide)]) ?_
      refine x_iconst (v := (1)) dX6_begin_46 (by decide) ?_
      refine x_iadd dX6_begin_47 ?_
      obtain ⟨I11, hI11, hf⟩ := f_lt hf
      refine x_putI dX6_begin_48 lx_43 fl_X6_36 rfl rfl rfl hI11 ?_
      refine x_aload_n 1 dX6_begin_51 rfl rfl ?_
      refine x_getR dX6_begin_52 lx_43 fl_X6_15 rfl ?_
      obtain ⟨q12, hq13, hf⟩ := f_bd hf
      refine x_callVv [] (c_X7_move (I := I11) (L := L)  hq13) dX6_begin_55 lk_X6_111 lx_39 rfl cd_X7_move rfl rfl (Nat.le_of_ble_eq_true rfl) ⟨rfl, rfl, Nat.le_of_ble_eq_true rfl, Nat.le_of_ble_eq_true rfl⟩ ?_
      refine x_iload_n 0 dX6_begin_58 rfl rfl ?_
      cases hf
      exact x_iret dX6_begin_59 rfl rfl
set_option maxRecDepth 100000 in
set_option maxHeartbeats 4000000 in
theorem c_X6_takeName {I : z_I} {L : z_L} {p0 : Int32} {p1 p1n : Nat} {p2 : Int32} (hp1 : layX[p1]? = some (.inl (.long, p1n, 1, []))) {r : Bool × z_I × z_L} (hf : f_X6_takeName I L p0 p1 p1n p2 = some r) : z_C layX yX6_takeName cX6_takeName 5 (some .boolean) ({ frames := 2, cells := 0, slots := 0, locals := 43 } : Room) [.ref 43, .int p0, .ref p1, .int p2] I L (some (.int (zb r.1)), r.2.1, r.2.2) := by
  refine z_C.of (by decide) (Nat.le_of_ble_eq_true rfl) ?_
  show z_X layX RX6 cX6_takeName 5 (some .boolean) ({ frames := 2, cells := 0, slots := 0, locals := 43 } : Room) 0 [(0, .ref 43), (1, .int p0), (2, .ref p1), (3, .int p2)] [] I L (some (.int (zb r.1)), r.2.1, r.2.2)
  unfold f_X6_takeName at hf
  refine x_aload_n 0 dX6_takeName_0 rfl rfl ?_
  refine x_getR dX6_takeName_1 lx_43 fl_X6_15 rfl ?_
  refine x_callVi [] (c_X7_isName (I := I) (L := L) ) dX6_takeName_4 lk_X6_135 lx_39 rfl cd_X7_isName rfl rfl (Nat.le_of_ble_eq_true rfl) ⟨rfl, rfl, Nat.le_of_ble_eq_true rfl, Nat.le_of_ble_eq_true rfl⟩ ?_
  refine x_if_neB 19 dX6_takeName_7 (by decide) (fun hB => ?_) (fun hB => ?_)
  · replace hf := f_if hB hf
    refine x_aload_n 2 dX6_takeName_19 rfl rfl ?_
    refine x_iload_n 3 dX6_takeName_20 rfl rfl ?_
    refine x_aload_n 0 dX6_takeName_21 rfl rfl ?_
    refine x_getR dX6_takeName_22 lx_43 fl_X6_15 rfl ?_
    refine x_getL (v := (L 39 8)) dX6_takeName_25 lx_39 fl_X6_138 rfl rfl ?_
    obtain ⟨q1, hq2, hf⟩ := f_bd hf
    refine x_callNi [.ref p1, .int p2, .long (L 39 8)] (c_X10_indexOfName (I := I) (L := L) hp1 hq2) dX6_takeName_28 lk_X6_142 cd_X10_indexOfName rfl rfl (Nat.le_of_ble_eq_true rfl) ⟨rfl, rfl, Nat.le_of_ble_eq_true rfl, Nat.le_of_ble_eq_true rfl⟩ ?_
    refine x_istore [(4, .int q1), (0, .ref 43), (1, .int p0), (2, .ref p1), (3, .int p2)] dX6_takeName_31 (by decide) rfl ?_
    refine x_iload 0 dX6_takeName_33 rfl ?_
    refine x_iconst (v := (-1)) dX6_takeName_35 (by decide) ?_
    refine x_icmp_ne 48 dX6_takeName_36 (by decide) (fun hB => ?_) (fun hB => ?_)
    · replace hf := f_el hB hf
      refine x_aload_n 1 dX6_takeName_48 rfl rfl ?_
      refine x_getR dX6_takeName_49 lx_43 fl_X6_19 rfl ?_
      refine x_getR dX6_takeName_52 lx_33 fl_X6_146 rfl ?_
      refine x_iload_n 2 dX6_takeName_55 rfl rfl ?_
      refine x_iload 0 dX6_takeName_56 rfl ?_
      obtain ⟨h3, hf⟩ := f_gd hf
      obtain ⟨I4, hI4, hf⟩ := f_lt hf
      refine x_iast (j0 := (p0).toNatClampNeg) dX6_takeName_58 lx_35 h3 rfl hI4 ?_
      refine x_aload_n 1 dX6_takeName_59 rfl rfl ?_
      refine x_getR dX6_takeName_60 lx_43 fl_X6_15 rfl ?_
      obtain ⟨q5, hq6, hf⟩ := f_bd hf
      refine x_callVv [] (c_X7_move (I := I4) (L := L)  hq6) dX6_takeName_63 lk_X6_111 lx_39 rfl cd_X7_move rfl rfl (Nat.le_of_ble_eq_true rfl) ⟨rfl, rfl, Nat.le_of_ble_eq_true rfl, Nat.le_of_ble_eq_true rfl⟩ ?_
      refine x_iconst (v := (1)) dX6_takeName_66 (by decide) ?_
      cases hf
      exact x_zret (b := true) dX6_takeName_67 rfl rfl
    · replace hf := f_if hB hf
      refine x_aload_n 1 dX6_takeName_39 rfl rfl ?_
      refine x_getR dX6_takeName_40 lx_43 fl_X6_15 rfl ?_
      refine x_iconst (v := (3)) dX6_takeName_43 (by decide) ?_
      refine x_callVi [.int (3 : Int32)] (c_X7_fail (I := I) (L := L) (3 : Int32)) dX6_takeName_44 lk_X6_59 lx_39 rfl cd_X7_fail rfl rfl (Nat.le_of_ble_eq_true rfl) ⟨rfl, rfl, Nat.le_of_ble_eq_true rfl, Nat.le_of_ble_eq_true rfl⟩ ?_
      cases hf
      exact x_zret dX6_takeName_47 rfl rfl
  · replace hf := f_el hB hf
    refine x_aload_n 0 dX6_takeName_10 rfl rfl ?_
    refine x_getR dX6_takeName_11 lx_43 fl_X6_15 rfl ?_
    refine x_iconst (v := (2)) dX6_takeName_14 (by decide) ?_
    refine x_callVi [.int (2 : Int32)] (c_X7_fail (I := I) (L := L) (2 : Int32)) dX6_takeName_15 lk_X6_59 lx_39 rfl cd_X7_fail rfl rfl (Nat.le_of_ble_eq_true rfl) ⟨rfl, rfl, Nat.le_of_ble_eq_true rfl, Nat.le_of_ble_eq_true rfl⟩ ?_
    cases hf
    exact x_zret dX6_takeName_18 rfl rfl
set_option maxRecDepth 100000 in
set_option maxHeartbeats 4000000 in
theorem c_X6_takeNumber {I : z_I} {L : z_L} {p0 : Int32} {p1 : Int32} {p2 : Int32}  {r : Bool × z_I × z_L} (hf : f_X6_takeNumber I L p0 p1 p2 = some r) : z_C layX yX6_takeNumber cX6_takeNumber 5 (some .boolean) ({ frames := 3, cells := 0, slots := 0, locals := 65 } : Room) [.ref 43, .int p0, .int p1, .int p2] I L (some (.int (zb r.1)), r.2.1, r.2.2) := by
  refine z_C.of (by decide) (Nat.le_of_ble_eq_true rfl) ?_
  show z_X layX RX6 cX6_takeNumber 5 (some .boolean) ({ frames := 3, cells := 0, slots := 0, locals := 65 } : Room) 0 [(0, .ref 43), (1, .int p0), (2, .int p1), (3, .int p2)] [] I L (some (.int (zb r.1)), r.2.1, r.2.2)
  unfold f_X6_takeNumber at hf
  refine x_aload_n 0 dX6_takeNumber_0 rfl rfl ?_
  refine x_getR dX6_takeNumber_1 lx_43 fl_X6_15 rfl ?_
  refine x_iload_n 2 dX6_takeNumber_4 rfl rfl ?_
  refine x_iload_n 3 dX6_takeNumber_5 rfl rfl ?_
  obtain ⟨q1, hq2, hf⟩ := f_bd hf
  refine x_callVi [.int p1, .int p2] (c_X7_takeNumber (I := I) (L := L)  hq2) dX6_takeNumber_6 lk_X6_149 lx_39 rfl cd_X7_takeNumber rfl rfl (Nat.le_of_ble_eq_true rfl) ⟨rfl, rfl, Nat.le_of_ble_eq_true rfl, Nat.le_of_ble_eq_true rfl⟩ ?_
  refine x_istore [(4, .int (zb q1.1)), (0, .ref 43), (1, .int p0), (2, .int p1), (3, .int p2)] dX6_takeNumber_9 (by decide) rfl ?_
  refine x_aload_n 1 dX6_takeNumber_11 rfl rfl ?_
  refine x_getR dX6_takeNumber_12 lx_43 fl_X6_19 rfl ?_
  refine x_getR dX6_takeNumber_15 lx_33 fl_X6_155 rfl ?_
  refine x_iload_n 2 dX6_takeNumber_18 rfl rfl ?_
  refine x_iload 0 dX6_takeNumber_19 rfl ?_
  refine x_if_eqB 34 dX6_takeNumber_21 (by decide) (fun hB => ?_) (fun hB => ?_)
  · replace hf := f_el hB hf
    refine x_iconst (v := (0)) dX6_takeNumber_34 (by decide) ?_
    obtain ⟨h5, hf⟩ := f_gd hf
    obtain ⟨I6, hI6, hf⟩ := f_lt hf
    refine x_iast (j0 := (p0).toNatClampNeg) dX6_takeNumber_35 lx_37 h5 rfl hI6 ?_
    refine x_iload 0 dX6_takeNumber_36 rfl ?_
    cases hf
    exact x_zret dX6_takeNumber_38 rfl rfl
  · replace hf := f_if hB hf
    refine x_aload_n 1 dX6_takeNumber_24 rfl rfl ?_
    refine x_getR dX6_takeNumber_25 lx_43 fl_X6_15 rfl ?_
    refine x_getI (v := (q1.2.1 39 9)) dX6_takeNumber_28 lx_39 fl_X6_152 rfl rfl ?_
    refine x_goto 35 dX6_takeNumber_31 (by decide) ?_
    obtain ⟨h3, hf⟩ := f_gd hf
    obtain ⟨I4, hI4, hf⟩ := f_lt hf
    refine x_iast (j0 := (p0).toNatClampNeg) dX6_takeNumber_35 lx_37 h3 rfl hI4 ?_
    refine x_iload 0 dX6_takeNumber_36 rfl ?_
    cases hf
    exact x_zret dX6_takeNumber_38 rfl rfl
set_option maxRecDepth 100000 in
set_option maxHeartbeats 4000000 in
theorem c_X6_takeBedNumber {I : z_I} {L : z_L} {p0 : Int32}  {r : Bool × z_I × z_L} (hf : f_X6_takeBedNumber I L p0 = some r) : z_C layX yX6_takeBedNumber cX6_takeBedNumber 3 (some .boolean) ({ frames := 3, cells := 0, slots := 0, locals := 65 } : Room) [.ref 43, .int p0] I L (some (.int (zb r.1)), r.2.1, r.2.2) := by
  refine z_C.of (by decide) (Nat.le_of_ble_eq_true rfl) ?_
  show z_X layX RX6 cX6_takeBedNumber 3 (some .boolean) ({ frames := 3, cells := 0, slots := 0, locals := 65 } : Room) 0 [(0, .ref 43), (1, .int p0)] [] I L (some (.int (zb r.1)), r.2.1, r.2.2)
  unfold f_X6_takeBedNumber at hf
  refine x_aload_n 0 dX6_takeBedNumber_0 rfl rfl ?_
  refine x_getR dX6_takeBedNumber_1 lx_43 fl_X6_15 rfl ?_
  refine x_iconst (v := (0)) dX6_takeBedNumber_4 (by decide) ?_
  refine x_aload_n 0 dX6_takeBedNumber_5 rfl rfl ?_
  refine x_getR dX6_takeBedNumber_6 lx_43 fl_X6_23 rfl ?_
  refine x_getI (v := (I 3 10)) dX6_takeBedNumber_9 lx_3 fl_X6_92 rfl rfl ?_
  refine x_iconst (v := (1)) dX6_takeBedNumber_12 (by decide) ?_
  refine x_isub dX6_takeBedNumber_13 ?_
  obtain ⟨q1, hq2, hf⟩ := f_bd hf
  refine x_callVi [.int (0 : Int32), .int ((I 3 10) - (1 : Int32))] (c_X7_takeNumber (I := I) (L := L)  hq2) dX6_takeBedNumber_14 lk_X6_149 lx_39 rfl cd_X7_takeNumber rfl rfl (Nat.le_of_ble_eq_true rfl) ⟨rfl, rfl, Nat.le_of_ble_eq_true rfl, Nat.le_of_ble_eq_true rfl⟩ ?_
  refine x_istore_n [(2, .int (zb q1.1)), (0, .ref 43), (1, .int p0)] dX6_takeBedNumber_17 rfl (by decide) rfl ?_
  refine x_aload_n 1 dX6_takeBedNumber_18 rfl rfl ?_
  refine x_getR dX6_takeBedNumber_19 lx_43 fl_X6_19 rfl ?_
  refine x_getR dX6_takeBedNumber_22 lx_33 fl_X6_146 rfl ?_
  refine x_iload_n 2 dX6_takeBedNumber_25 rfl rfl ?_
  refine x_iload_n 0 dX6_takeBedNumber_26 rfl rfl ?_
  refine x_if_eqB 40 dX6_takeBedNumber_27 (by decide) (fun hB => ?_) (fun hB => ?_)
  · replace hf := f_el hB hf
    refine x_iconst (v := (0)) dX6_takeBedNumber_40 (by decide) ?_
    obtain ⟨h5, hf⟩ := f_gd hf
    obtain ⟨I6, hI6, hf⟩ := f_lt hf
    refine x_iast (j0 := (p0).toNatClampNeg) dX6_takeBedNumber_41 lx_35 h5 rfl hI6 ?_
    refine x_iload_n 0 dX6_takeBedNumber_42 rfl rfl ?_
    cases hf
    exact x_zret dX6_takeBedNumber_43 rfl rfl
  · replace hf := f_if hB hf
    refine x_aload_n 1 dX6_takeBedNumber_30 rfl rfl ?_
    refine x_getR dX6_takeBedNumber_31 lx_43 fl_X6_15 rfl ?_
    refine x_getI (v := (q1.2.1 39 9)) dX6_takeBedNumber_34 lx_39 fl_X6_152 rfl rfl ?_
    refine x_goto 41 dX6_takeBedNumber_37 (by decide) ?_
    obtain ⟨h3, hf⟩ := f_gd hf
    obtain ⟨I4, hI4, hf⟩ := f_lt hf
    refine x_iast (j0 := (p0).toNatClampNeg) dX6_takeBedNumber_41 lx_35 h3 rfl hI4 ?_
    refine x_iload_n 0 dX6_takeBedNumber_42 rfl rfl ?_
    cases hf
    exact x_zret dX6_takeBedNumber_43 rfl rfl
set_option maxRecDepth 100000 in
set_option maxHeartbeats 4000000 in
theorem c_X7_takeComparing {I : z_I} {L : z_L}   {r : Bool × z_I × z_L} (hf : f_X7_takeComparing I L = some r) : z_C layX yX7_takeComparing cX7_takeComparing 1 (some .boolean) ({ frames := 2, cells := 0, slots := 0, locals := 43 } : Room) [.ref 39] I L (some (.int (zb r.1)), r.2.1, r.2.2) := by
  refine z_C.of (by decide) (Nat.le_of_ble_eq_true rfl) ?_
  show z_X layX RX7 cX7_takeComparing 1 (some .boolean) ({ frames := 2, cells := 0, slots := 0, locals := 43 } : Room) 0 [(0, .ref 39)] [] I L (some (.int (zb r.1)), r.2.1, r.2.2)
  unfold f_X7_takeComparing at hf
  refine x_aload_n 0 dX7_takeComparing_0 rfl rfl ?_
  refine x_getI (v := (I 39 5)) dX7_takeComparing_1 lx_39 fl_X7_57 rfl rfl ?_
  refine x_bipush (v := (6)) dX7_takeComparing_4 (by decide) ?_
  refine x_icmp_ne 18 dX7_takeComparing_6 (by decide) (fun hB => ?_) (fun hB => ?_)
  · replace hf := f_el hB hf
    refine x_aload_n 0 dX7_takeComparing_18 rfl rfl ?_
    refine x_iconst (v := (2)) dX7_takeComparing_19 (by decide) ?_
    refine x_callVi [.int (2 : Int32)] (c_X7_fail (I := I) (L := L) (2 : Int32)) dX7_takeComparing_20 lk_X7_84 lx_39 rfl cd_X7_fail rfl rfl (Nat.le_of_ble_eq_true rfl) ⟨rfl, rfl, Nat.le_of_ble_eq_true rfl, Nat.le_of_ble_eq_true rfl⟩ ?_
    cases hf
    exact x_zret dX7_takeComparing_23 rfl rfl
  · replace hf := f_if hB hf
    refine x_aload_n 0 dX7_takeComparing_9 rfl rfl ?_
    refine x_getI (v := (I 39 7)) dX7_takeComparing_10 lx_39 fl_X7_77 rfl rfl ?_
    refine x_bipush (v := (59)) dX7_takeComparing_13 (by decide) ?_
    refine x_icmp_ne 24 dX7_takeComparing_15 (by decide) (fun hB => ?_) (fun hB => ?_)
    · replace hf := f_el hB hf
      refine x_aload_n 0 dX7_takeComparing_24 rfl rfl ?_
      refine x_aload_n 0 dX7_takeComparing_25 rfl rfl ?_
      refine x_getI (v := (I 39 7)) dX7_takeComparing_26 lx_39 fl_X7_77 rfl rfl ?_
      obtain ⟨I1, hI1, hf⟩ := f_lt hf
      refine x_putI dX7_takeComparing_29 lx_39 fl_X7_87 rfl rfl rfl hI1 ?_
      refine x_aload_n 0 dX7_takeComparing_32 rfl rfl ?_
      obtain ⟨q2, hq3, hf⟩ := f_bd hf
      refine x_callVv [] (c_X7_move (I := I1) (L := L)  hq3) dX7_takeComparing_33 lk_X7_51 lx_39 rfl cd_X7_move rfl rfl (Nat.le_of_ble_eq_true rfl) ⟨rfl, rfl, Nat.le_of_ble_eq_true rfl, Nat.le_of_ble_eq_true rfl⟩ ?_
      refine x_iconst (v := (1)) dX7_takeComparing_36 (by decide) ?_
      cases hf
      exact x_zret (b := true) dX7_takeComparing_37 rfl rfl
    · replace hf := f_if hB hf
      refine x_aload_n 0 dX7_takeComparing_18 rfl rfl ?_
      refine x_iconst (v := (2)) dX7_takeComparing_19 (by decide) ?_
      refine x_callVi [.int (2 : Int32)] (c_X7_fail (I := I) (L := L) (2 : Int32)) dX7_takeComparing_20 lk_X7_84 lx_39 rfl cd_X7_fail rfl rfl (Nat.le_of_ble_eq_true rfl) ⟨rfl, rfl, Nat.le_of_ble_eq_true rfl, Nat.le_of_ble_eq_true rfl⟩ ?_
      cases hf
      exact x_zret dX7_takeComparing_23 rfl rfl
set_option maxRecDepth 100000 in
set_option maxHeartbeats 4000000 in
theorem c_X6_takeTest {I : z_I} {L : z_L} {p0 : Int32}  {r : Bool × z_I × z_L} (hf : f_X6_takeTest I L p0 = some r) : z_C layX yX6_takeTest cX6_takeTest 4 (some .boolean) ({ frames := 4, cells := 0, slots := 0, locals := 89 } : Room) [.ref 43, .int p0] I L (some (.int (zb r.1)), r.2.1, r.2.2) := by
  refine z_C.of (by decide) (Nat.le_of_ble_eq_true rfl) ?_
  show z_X layX RX6 cX6_takeTest 4 (some .boolean) ({ frames := 4, cells := 0, slots := 0, locals := 89 } : Room) 0 [(0, .ref 43), (1, .int p0)] [] I L (some (.int (zb r.1)), r.2.1, r.2.2)
  unfold f_X6_takeTest at hf
  refine x_aload_n 0 dX6_takeTest_0 rfl rfl ?_
  refine x_getR dX6_takeTest_1 lx_43 fl_X6_15 rfl ?_
  refine x_callVi [] (c_X7_keywordHere (I := I) (L := L) ) dX6_takeTest_4 lk_X6_62 lx_39 rfl cd_X7_keywordHere rfl rfl (Nat.le_of_ble_eq_true rfl) ⟨rfl, rfl, Nat.le_of_ble_eq_true rfl, Nat.le_of_ble_eq_true rfl⟩ ?_
  refine x_istore_n [(2, .int (f_X7_keywordHere I)), (0, .ref 43), (1, .int p0)] dX6_takeTest_7 rfl (by decide) rfl ?_
  refine x_iload_n 0 dX6_takeTest_8 rfl rfl ?_
  refine x_bipush (v := (19)) dX6_takeTest_9 (by decide) ?_
  refine x_icmp_eq 34 dX6_takeTest_11 (by decide) (fun hB => ?_) (fun hB => ?_)
  · replace hf := f_if hB hf
    refine x_aload_n 1 dX6_takeTest_34 rfl rfl ?_
    refine x_getR dX6_takeTest_35 lx_43 fl_X6_19 rfl ?_
    refine x_getR dX6_takeTest_38 lx_33 fl_X6_114 rfl ?_
    refine x_iload_n 2 dX6_takeTest_41 rfl rfl ?_
    refine x_iload_n 0 dX6_takeTest_42 rfl rfl ?_
    obtain ⟨h1, hf⟩ := f_gd hf
    obtain ⟨I2, hI2, hf⟩ := f_lt hf
    refine x_iast (j0 := (p0).toNatClampNeg) dX6_takeTest_43 lx_34 h1 rfl hI2 ?_
    refine x_aload_n 1 dX6_takeTest_44 rfl rfl ?_
    refine x_getR dX6_takeTest_45 lx_43 fl_X6_15 rfl ?_
    obtain ⟨q3, hq4, hf⟩ := f_bd hf
    refine x_callVv [] (c_X7_move (I := I2) (L := L)  hq4) dX6_takeTest_48 lk_X6_111 lx_39 rfl cd_X7_move rfl rfl (Nat.le_of_ble_eq_true rfl) ⟨rfl, rfl, Nat.le_of_ble_eq_true rfl, Nat.le_of_ble_eq_true rfl⟩ ?_
    refine x_iload_n 0 dX6_takeTest_51 rfl rfl ?_
    refine x_bipush (v := (19)) dX6_takeTest_52 (by decide) ?_
    refine x_icmp_ne 77 dX6_takeTest_54 (by decide) (fun hB => ?_) (fun hB => ?_)
    · replace hf := f_el hB hf
      refine x_iload_n 0 dX6_takeTest_77 rfl rfl ?_
      refine x_iconst (v := (2)) dX6_takeTest_78 (by decide) ?_
      refine x_icmp_ne 90 dX6_takeTest_79 (by decide) (fun hB => ?_) (fun hB => ?_)
      · replace hf := f_el hB hf
        refine x_aload_n 1 dX6_takeTest_90 rfl rfl ?_
        refine x_iload_n 2 dX6_takeTest_91 rfl rfl ?_
        refine x_aload_n 1 dX6_takeTest_92 rfl rfl ?_
        refine x_getR dX6_takeTest_93 lx_43 fl_X6_23 rfl ?_
        refine x_getR dX6_takeTest_96 lx_3 fl_X6_86 rfl ?_
        refine x_aload_n 1 dX6_takeTest_99 rfl rfl ?_
        refine x_getR dX6_takeTest_100 lx_43 fl_X6_23 rfl ?_
        refine x_getI (v := (q3.1 3 13)) dX6_takeTest_103 lx_3 fl_X6_89 rfl rfl ?_
        obtain ⟨q15, hq16, hf⟩ := f_bd hf
        refine x_callVi [.int p0, .ref 13, .int (q3.1 3 13)] (c_X6_takeName (I := q3.1) (L := q3.2) lx_13 hq16) dX6_takeTest_106 lk_X6_82 lx_43 rfl cd_X6_takeName rfl rfl (Nat.le_of_ble_eq_true rfl) ⟨rfl, rfl, Nat.le_of_ble_eq_true rfl, Nat.le_of_ble_eq_true rfl⟩ ?_
        refine x_istore_n [(3, .int (zb q15.1)), (2, .int (f_X7_keywordHere I)), (0, .ref 43), (1, .int p0)] dX6_takeTest_109 rfl (by decide) rfl ?_
        refine x_iload_n 0 dX6_takeTest_110 rfl rfl ?_
        refine x_if_eqB 124 dX6_takeTest_111 (by decide) (fun hB => ?_) (fun hB => ?_)
        · replace hf := f_el hB hf
          refine x_iconst (v := (0)) dX6_takeTest_124 (by decide) ?_
          cases hf
          exact x_zret (b := false) dX6_takeTest_125 rfl rfl
        · replace hf := f_if hB hf
          refine x_aload_n 2 dX6_takeTest_114 rfl rfl ?_
          refine x_getR dX6_takeTest_115 lx_43 fl_X6_15 rfl ?_
          obtain ⟨q17, hq18, hf⟩ := f_bd hf
          refine x_callVi [] (c_X7_takeComparing (I := q15.2.1) (L := q15.2.2)  hq18) dX6_takeTest_118 lk_X6_120 lx_39 rfl cd_X7_takeComparing rfl rfl (Nat.le_of_ble_eq_true rfl) ⟨rfl, rfl, Nat.le_of_ble_eq_true rfl, Nat.le_of_ble_eq_true rfl⟩ ?_
          refine x_if_neB 126 dX6_takeTest_121 (by decide) (fun hB => ?_) (fun hB => ?_)
          · replace hf := f_if hB hf
            refine x_aload_n 2 dX6_takeTest_126 rfl rfl ?_
            refine x_getR dX6_takeTest_127 lx_43 fl_X6_19 rfl ?_
            refine x_getR dX6_takeTest_130 lx_33 fl_X6_123 rfl ?_
            refine x_iload_n 3 dX6_takeTest_133 rfl rfl ?_
            refine x_aload_n 2 dX6_takeTest_134 rfl rfl ?_
            refine x_getR dX6_takeTest_135 lx_43 fl_X6_15 rfl ?_
            refine x_getI (v := (q17.2.1 39 10)) dX6_takeTest_138 lx_39 fl_X6_126 rfl rfl ?_
            obtain ⟨I20, hI20, hf⟩ := f_lt hf
            refine x_iast (j0 := (p0).toNatClampNeg) dX6_takeTest_141 lx_36 h1 rfl hI20 ?_
            refine x_aload_n 2 dX6_takeTest_142 rfl rfl ?_
            refine x_iload_n 3 dX6_takeTest_143 rfl rfl ?_
            refine x_iconst (v := (0)) dX6_takeTest_144 (by decide) ?_
            refine x_sipush (v := (9999)) dX6_takeTest_145 (by decide) ?_
            obtain ⟨q21, hq22, hf⟩ := f_bd hf
            refine x_callVi [.int p0, .int (0 : Int32), .int (9999 : Int32)] (c_X6_takeNumber (I := I20) (L := q17.2.2)  hq22) dX6_takeTest_148 lk_X6_95 lx_43 rfl cd_X6_takeNumber rfl rfl (Nat.le_of_ble_eq_true rfl) ⟨rfl, rfl, Nat.le_of_ble_eq_true rfl, Nat.le_of_ble_eq_true rfl⟩ ?_
            cases hf
            exact x_zret dX6_takeTest_151 rfl rfl
          · replace hf := f_el hB hf
            refine x_iconst (v := (0)) dX6_takeTest_124 (by decide) ?_
            cases hf
            exact x_zret (b := false) dX6_takeTest_125 rfl rfl
      · replace hf := f_if hB hf
        refine x_aload_n 1 dX6_takeTest_82 rfl rfl ?_
        refine x_iload_n 2 dX6_takeTest_83 rfl rfl ?_
        obtain ⟨q7, hq8, hf⟩ := f_bd hf
        refine x_callVi [.int p0] (c_X6_takeBedNumber (I := q3.1) (L := q3.2)  hq8) dX6_takeTest_84 lk_X6_117 lx_43 rfl cd_X6_takeBedNumber rfl rfl (Nat.le_of_ble_eq_true rfl) ⟨rfl, rfl, Nat.le_of_ble_eq_true rfl, Nat.le_of_ble_eq_true rfl⟩ ?_
        refine x_goto 109 dX6_takeTest_87 (by decide) ?_
        refine x_istore_n [(3, .int (zb q7.1)), (2, .int (f_X7_keywordHere I)), (0, .ref 43), (1, .int p0)] dX6_takeTest_109 rfl (by decide) rfl ?_
        refine x_iload_n 0 dX6_takeTest_110 rfl rfl ?_
        refine x_if_eqB 124 dX6_takeTest_111 (by decide) (fun hB => ?_) (fun hB => ?_)
        · replace hf := f_el hB hf
          refine x_iconst (v := (0)) dX6_takeTest_124 (by decide) ?_
          cases hf
          exact x_zret (b := false) dX6_takeTest_125 rfl rfl
        · replace hf := f_if hB hf
          refine x_aload_n 2 dX6_takeTest_114 rfl rfl ?_
          refine x_getR dX6_takeTest_115 lx_43 fl_X6_15 rfl ?_
          obtain ⟨q9, hq10, hf⟩ := f_bd hf
          refine x_callVi [] (c_X7_takeComparing (I := q7.2.1) (L := q7.2.2)  hq10) dX6_takeTest_118 lk_X6_120 lx_39 rfl cd_X7_takeComparing rfl rfl (Nat.le_of_ble_eq_true rfl) ⟨rfl, rfl, Nat.le_of_ble_eq_true rfl, Nat.le_of_ble_eq_true rfl⟩ ?_
          refine x_if_neB 126 dX6_takeTest_121 (by decide) (fun hB => ?_) (fun hB => ?_)
          · replace hf := f_if hB hf
            refine x_aload_n 2 dX6_takeTest_126 rfl rfl ?_
            refine x_getR dX6_takeTest_127 lx_43 fl_X6_19 rfl ?_
            refine x_getR dX6_takeTest_130 lx_33 fl_X6_123 rfl ?_
            refine x_iload_n 3 dX6_takeTest_133 rfl rfl ?_
            refine x_aload_n 2 dX6_takeTest_134 rfl rfl ?_
            refine x_getR dX6_takeTest_135 lx_43 fl_X6_15 rfl ?_
            refine x_getI (v := (q9.2.1 39 10)) dX6_takeTest_138 lx_39 fl_X6_126 rfl rfl ?_
            obtain ⟨I12, hI12, hf⟩ := f_lt hf
            refine x_iast (j0 := (p0).toNatClampNeg) dX6_takeTest_141 lx_36 h1 rfl hI12 ?_
            refine x_aload_n 2 dX6_takeTest_142 rfl rfl ?_
            refine x_iload_n 3 dX6_takeTest_143 rfl rfl ?_
            refine x_iconst (v := (0)) dX6_takeTest_144 (by decide) ?_
            refine x_sipush (v := (9999)) dX6_takeTest_145 (by decide) ?_
            obtain ⟨q13, hq14, hf⟩ := f_bd hf
            refine x_callVi [.int p0, .int (0 : Int32), .int (9999 : Int32)] (c_X6_takeNumber (I := I12) (L := q9.2.2)  hq14) dX6_takeTest_148 lk_X6_95 lx_43 rfl cd_X6_takeNumber rfl rfl (Nat.le_of_ble_eq_true rfl) ⟨rfl, rfl, Nat.le_of_ble_eq_true rfl, Nat.le_of_ble_eq_true rfl⟩ ?_
            cases hf
            exact x_zret dX6_takeTest_151 rfl rfl
          · replace hf := f_el hB hf
            refine x_iconst (v := (0)) dX6_takeTest_124 (by decide) ?_
            cases hf
            exact x_zret (b := false) dX6_takeTest_125 rfl rfl
    · replace hf := f_if hB hf
      refine x_aload_n 1 dX6_takeTest_57 rfl rfl ?_
      refine x_iload_n 2 dX6_takeTest_58 rfl rfl ?_
      refine x_aload_n 1 dX6_takeTest_59 rfl rfl ?_
      refine x_getR dX6_takeTest_60 lx_43 fl_X6_23 rfl ?_
      refine x_getR dX6_takeTest_63 lx_3 fl_X6_73 rfl ?_
      refine x_aload_n 1 dX6_takeTest_66 rfl rfl ?_
      refine x_getR dX6_takeTest_67 lx_43 fl_X6_23 rfl ?_
      refine x_getI (v := (q3.1 3 12)) dX6_takeTest_70 lx_3 fl_X6_79 rfl rfl ?_
      obtain ⟨q5, hq6, hf⟩ := f_bd hf
      refine x_callVi [.int p0, .ref 10, .int (q3.1 3 12)] (c_X6_takeName (I := q3.1) (L := q3.2) lx_10 hq6) dX6_takeTest_73 lk_X6_82 lx_43 rfl cd_X6_takeName rfl rfl (Nat.le_of_ble_eq_true rfl) ⟨rfl, rfl, Nat.le_of_ble_eq_true rfl, Nat.le_of_ble_eq_true rfl⟩ ?_
      cases hf
      exact x_zret dX6_takeTest_76 rfl rfl
  · replace hf := f_el hB hf
    refine x_iload_n 0 dX6_takeTest_14 rfl rfl ?_
    refine x_iconst (v := (2)) dX6_takeTest_15 (by decide) ?_
    refine x_icmp_eq 34 dX6_takeTest_16 (by decide) (fun hB => ?_) (fun hB => ?_)
    · replace hf := f_if hB hf
      refine x_aload_n 1 dX6_takeTest_34 rfl rfl ?_
      refine x_getR dX6_takeTest_35 lx_43 fl_X6_19 rfl ?_
      refine x_getR dX6_takeTest_38 lx_33 fl_X6_114 rfl ?_
      refine x_iload_n 2 dX6_takeTest_41 rfl rfl ?_
      refine x_iload_n 0 dX6_takeTest_42 rfl rfl ?_
      obtain ⟨h23, hf⟩ := f_gd hf
      obtain ⟨I24, hI24, hf⟩ := f_lt hf
      refine x_iast (j0 := (p0).toNatClampNeg) dX6_takeTest_43 lx_34 h23 rfl hI24 ?_
      refine x_aload_n 1 dX6_takeTest_44 rfl rfl ?_
      refine x_getR dX6_takeTest_45 lx_43 fl_X6_15 rfl ?_
      obtain ⟨q25, hq26, hf⟩ := f_bd hf
      refine x_callVv [] (c_X7_move (I := I24) (L := L)  hq26) dX6_takeTest_48 lk_X6_111 lx_39 rfl cd_X7_move rfl rfl (Nat.le_of_ble_eq_true rfl) ⟨rfl, rfl, Nat.le_of_ble_eq_true rfl, Nat.le_of_ble_eq_true rfl⟩ ?_
      refine x_iload_n 0 dX6_takeTest_51 rfl rfl ?_
      refine x_bipush (v := (19)) dX6_takeTest_52 (by decide) ?_
      refine x_icmp_ne 77 dX6_takeTest_54 (by decide) (fun hB => ?_) (fun hB => ?_)
      · replace hf := f_el hB hf
        refine x_iload_n 0 dX6_takeTest_77 rfl rfl ?_
        refine x_iconst (v := (2)) dX6_takeTest_78 (by decide) ?_
        refine x_icmp_ne 90 dX6_takeTest_79 (by decide) (fun hB => ?_) (fun hB => ?_)
        · replace hf := f_el hB hf
          refine x_aload_n 1 dX6_takeTest_90 rfl rfl ?_
          refine x_iload_n 2 dX6_takeTest_91 rfl rfl ?_
          refine x_aload_n 1 dX6_takeTest_92 rfl rfl ?_
          refine x_getR dX6_takeTest_93 lx_43 fl_X6_23 rfl ?_
          refine x_getR dX6_takeTest_96 lx_3 fl_X6_86 rfl ?_
          refine x_aload_n 1 dX6_takeTest_99 rfl rfl ?_
          refine x_getR dX6_takeTest_100 lx_43 fl_X6_23 rfl ?_
          refine x_getI (v := (q25.1 3 13)) dX6_takeTest_103 lx_3 fl_X6_89 rfl rfl ?_
          obtain ⟨q37, hq38, hf⟩ := f_bd hf
          refine x_callVi [.int p0, .ref 13, .int (q25.1 3 13)] (c_X6_takeName (I := q25.1) (L := q25.2) lx_13 hq38) dX6_takeTest_106 lk_X6_82 lx_43 rfl cd_X6_takeName rfl rfl (Nat.le_of_ble_eq_true rfl) ⟨rfl, rfl, Nat.le_of_ble_eq_true rfl, Nat.le_of_ble_eq_true rfl⟩ ?_
          refine x_istore_n [(3, .int (zb q37.1)), (2, .int (f_X7_keywordHere I)), (0, .ref 43), (1, .int p0)] dX6_takeTest_109 rfl (by decide) rfl ?_
          refine x_iload_n 0 dX6_takeTest_110 rfl rfl ?_
          refine x_if_eqB 124 dX6_takeTest_111 (by decide) (fun hB => ?_) (fun hB => ?_)
          · replace hf := f_el hB hf
            refine x_iconst (v := (0)) dX6_takeTest_124 (by decide) ?_
            cases hf
            exact x_zret (b := false) dX6_takeTest_125 rfl rfl
          · replace hf := f_if hB hf
            refine x_aload_n 2 dX6_takeTest_114 rfl rfl ?_
            refine x_getR dX6_takeTest_115 lx_43 fl_X6_15 rfl ?_
            obtain ⟨q39, hq40, hf⟩ := f_bd hf
            refine x_callVi [] (c_X7_takeComparing (I := q37.2.1) (L := q37.2.2)  hq40) dX6_takeTest_118 lk_X6_120 lx_39 rfl cd_X7_takeComparing rfl rfl (Nat.le_of_ble_eq_true rfl) ⟨rfl, rfl, Nat.le_of_ble_eq_true rfl, Nat.le_of_ble_eq_true rfl⟩ ?_
            refine x_if_neB 126 dX6_takeTest_121 (by decide) (fun hB => ?_) (fun hB => ?_)
            · replace hf := f_if hB hf
              refine x_aload_n 2 dX6_takeTest_126 rfl rfl ?_
              refine x_getR dX6_takeTest_127 lx_43 fl_X6_19 rfl ?_
              refine x_getR dX6_takeTest_130 lx_33 fl_X6_123 rfl ?_
              refine x_iload_n 3 dX6_takeTest_133 rfl rfl ?_
              refine x_aload_n 2 dX6_takeTest_134 rfl rfl ?_
              refine x_getR dX6_takeTest_135 lx_43 fl_X6_15 rfl ?_
              refine x_getI (v := (q39.2.1 39 10)) dX6_takeTest_138 lx_39 fl_X6_126 rfl rfl ?_
              obtain ⟨I42, hI42, hf⟩ := f_lt hf
              refine x_iast (j0 := (p0).toNatClampNeg) dX6_takeTest_141 lx_36 h23 rfl hI42 ?_
              refine x_aload_n 2 dX6_takeTest_142 rfl rfl ?_
              refine x_iload_n 3 dX6_takeTest_143 rfl rfl ?_
              refine x_iconst (v := (0)) dX6_takeTest_144 (by decide) ?_
              refine x_sipush (v := (9999)) dX6_takeTest_145 (by decide) ?_
              obtain ⟨q43, hq44, hf⟩ := f_bd hf
              refine x_callVi [.int p0, .int (0 : Int32), .int (9999 : Int32)] (c_X6_takeNumber (I := I42) (L := q39.2.2)  hq44) dX6_takeTest_148 lk_X6_95 lx_43 rfl cd_X6_takeNumber rfl rfl (Nat.le_of_ble_eq_true rfl) ⟨rfl, rfl, Nat.le_of_ble_eq_true rfl, Nat.le_of_ble_eq_true rfl⟩ ?_
              cases hf
              exact x_zret dX6_takeTest_151 rfl rfl
            · replace hf := f_el hB hf
              refine x_iconst (v := (0)) dX6_takeTest_124 (by decide) ?_
              cases hf
              exact x_zret (b := false) dX6_takeTest_125 rfl rfl
        · replace hf := f_if hB hf
          refine x_aload_n 1 dX6_takeTest_82 rfl rfl ?_
          refine x_iload_n 2 dX6_takeTest_83 rfl rfl ?_
          obtain ⟨q29, hq30, hf⟩ := f_bd hf
          refine x_callVi [.int p0] (c_X6_takeBedNumber (I := q25.1) (L := q25.2)  hq30) dX6_takeTest_84 lk_X6_117 lx_43 rfl cd_X6_takeBedNumber rfl rfl (Nat.le_of_ble_eq_true rfl) ⟨rfl, rfl, Nat.le_of_ble_eq_true rfl, Nat.le_of_ble_eq_true rfl⟩ ?_
          refine x_goto 109 dX6_takeTest_87 (by decide) ?_
          refine x_istore_n [(3, .int (zb q29.1)), (2, .int (f_X7_keywordHere I)), (0, .ref 43), (1, .int p0)] dX6_takeTest_109 rfl (by decide) rfl ?_
          refine x_iload_n 0 dX6_takeTest_110 rfl rfl ?_
          refine x_if_eqB 124 dX6_takeTest_111 (by decide) (fun hB => ?_) (fun hB => ?_)
          · replace hf := f_el hB hf
            refine x_iconst (v := (0)) dX6_takeTest_124 (by decide) ?_
            cases hf
            exact x_zret (b := false) dX6_takeTest_125 rfl rfl
          · replace hf := f_if hB hf
            refine x_aload_n 2 dX6_takeTest_114 rfl rfl ?_
            refine x_getR dX6_takeTest_115 lx_43 fl_X6_15 rfl ?_
            obtain ⟨q31, hq32, hf⟩ := f_bd hf
            refine x_callVi [] (c_X7_takeComparing (I := q29.2.1) (L := q29.2.2)  hq32) dX6_takeTest_118 lk_X6_120 lx_39 rfl cd_X7_takeComparing rfl rfl (Nat.le_of_ble_eq_true rfl) ⟨rfl, rfl, Nat.le_of_ble_eq_true rfl, Nat.le_of_ble_eq_true rfl⟩ ?_
            refine x_if_neB 126 dX6_takeTest_121 (by decide) (fun hB => ?_) (fun hB => ?_)
            · replace hf := f_if hB hf
              refine x_aload_n 2 dX6_takeTest_126 rfl rfl ?_
              refine x_getR dX6_takeTest_127 lx_43 fl_X6_19 rfl ?_
              refine x_getR dX6_takeTest_130 lx_33 fl_X6_123 rfl ?_
              refine x_iload_n 3 dX6_takeTest_133 rfl rfl ?_
              refine x_aload_n 2 dX6_takeTest_134 rfl rfl ?_
              refine x_getR dX6_takeTest_135 lx_43 fl_X6_15 rfl ?_
              refine x_getI (v := (q31.2.1 39 10)) dX6_takeTest_138 lx_39 fl_X6_126 rfl rfl ?_
              obtain ⟨I34, hI34, hf⟩ := f_lt hf
              refine x_iast (j0 := (p0).toNatClampNeg) dX6_takeTest_141 lx_36 h23 rfl hI34 ?_
              refine x_aload_n 2 dX6_takeTest_142 rfl rfl ?_
              refine x_iload_n 3 dX6_takeTest_143 rfl rfl ?_
              refine x_iconst (v := (0)) dX6_takeTest_144 (by decide) ?_
              refine x_sipush (v := (9999)) dX6_takeTest_145 (by decide) ?_
              obtain ⟨q35, hq36, hf⟩ := f_bd hf
              refine x_callVi [.int p0, .int (0 : Int32), .int (9999 : Int32)] (c_X6_takeNumber (I := I34) (L := q31.2.2)  hq36) dX6_takeTest_148 lk_X6_95 lx_43 rfl cd_X6_takeNumber rfl rfl (Nat.le_of_ble_eq_true rfl) ⟨rfl, rfl, Nat.le_of_ble_eq_true rfl, Nat.le_of_ble_eq_true rfl⟩ ?_
              cases hf
              exact x_zret dX6_takeTest_151 rfl rfl
            · replace hf := f_el hB hf
              refine x_iconst (v := (0)) dX6_takeTest_124 (by decide) ?_
              cases hf
              exact x_zret (b := false) dX6_takeTest_125 rfl rfl
      · replace hf := f_if hB hf
        refine x_aload_n 1 dX6_takeTest_57 rfl rfl ?_
        refine x_iload_n 2 dX6_takeTest_58 rfl rfl ?_
        refine x_aload_n 1 dX6_takeTest_59 rfl rfl ?_
        refine x_getR dX6_takeTest_60 lx_43 fl_X6_23 rfl ?_
        refine x_getR dX6_takeTest_63 lx_3 fl_X6_73 rfl ?_
        refine x_aload_n 1 dX6_takeTest_66 rfl rfl ?_
        refine x_getR dX6_takeTest_67 lx_43 fl_X6_23 rfl ?_
        refine x_getI (v := (q25.1 3 12)) dX6_takeTest_70 lx_3 fl_X6_79 rfl rfl ?_
        obtain ⟨q27, hq28, hf⟩ := f_bd hf
        refine x_callVi [.int p0, .ref 10, .int (q25.1 3 12)] (c_X6_takeName (I := q25.1) (L := q25.2) lx_10 hq28) dX6_takeTest_73 lk_X6_82 lx_43 rfl cd_X6_takeName rfl rfl (Nat.le_of_ble_eq_true rfl) ⟨rfl, rfl, Nat.le_of_ble_eq_true rfl, Nat.le_of_ble_eq_true rfl⟩ ?_
        cases hf
        exact x_zret dX6_takeTest_76 rfl rfl
    · replace hf := f_el hB hf
      refine x_iload_n 0 dX6_takeTest_19 rfl rfl ?_
      refine x_bipush (v := (11)) dX6_takeTest_20 (by decide) ?_
      refine x_icmp_eq 34 dX6_takeTest_22 (by decide) (fun hB => ?_) (fun hB => ?_)
      · replace hf := f_if hB hf
        refine x_aload_n 1 dX6_takeTest_34 rfl rfl ?_
        refine x_getR dX6_takeTest_35 lx_43 fl_X6_19 rfl ?_
        refine x_getR dX6_takeTest_38 lx_33 fl_X6_114 rfl ?_
        refine x_iload_n 2 dX6_takeTest_41 rfl rfl ?_
        refine x_iload_n 0 dX6_takeTest_42 rfl rfl ?_
        obtain ⟨h45, hf⟩ := f_gd hf
        obtain ⟨I46, hI46, hf⟩ := f_lt hf
        refine x_iast (j0 := (p0).toNatClampNeg) dX6_takeTest_43 lx_34 h45 rfl hI46 ?_
        refine x_aload_n 1 dX6_takeTest_44 rfl rfl ?_
        refine x_getR dX6_takeTest_45 lx_43 fl_X6_15 rfl ?_
        obtain ⟨q47, hq48, hf⟩ := f_bd hf
        refine x_callVv [] (c_X7_move (I := I46) (L := L)  hq48) dX6_takeTest_48 lk_X6_111 lx_39 rfl cd_X7_move rfl rfl (Nat.le_of_ble_eq_true rfl) ⟨rfl, rfl, Nat.le_of_ble_eq_true rfl, Nat.le_of_ble_eq_true rfl⟩ ?_
        refine x_iload_n 0 dX6_takeTest_51 rfl rfl ?_
        refine x_bipush (v := (19)) dX6_takeTest_52 (by decide) ?_
        refine x_icmp_ne 77 dX6_takeTest_54 (by decide) (fun hB => ?_) (fun hB => ?_)
        · replace hf := f_el hB hf
          refine x_iload_n 0 dX6_takeTest_77 rfl rfl ?_
          refine x_iconst (v := (2)) dX6_takeTest_78 (by decide) ?_
          refine x_icmp_ne 90 dX6_takeTest_79 (by decide) (fun hB => ?_) (fun hB => ?_)
          · replace hf := f_el hB hf
            refine x_aload_n 1 dX6_takeTest_90 rfl rfl ?_
            refine x_iload_n 2 dX6_takeTest_91 rfl rfl ?_
            refine x_aload_n 1 dX6_takeTest_92 rfl rfl ?_
            refine x_getR dX6_takeTest_93 lx_43 fl_X6_23 rfl ?_
            refine x_getR dX6_takeTest_96 lx_3 fl_X6_86 rfl ?_
            refine x_aload_n 1 dX6_takeTest_99 rfl rfl ?_
            refine x_getR dX6_takeTest_100 lx_43 fl_X6_23 rfl ?_
            refine x_getI (v := (q47.1 3 13)) dX6_takeTest_103 lx_3 fl_X6_89 rfl rfl ?_
            obtain ⟨q59, hq60, hf⟩ := f_bd hf
            refine x_callVi [.int p0, .ref 13, .int (q47.1 3 13)] (c_X6_takeName (I := q47.1) (L := q47.2) lx_13 hq60) dX6_takeTest_106 lk_X6_82 lx_43 rfl cd_X6_takeName rfl rfl (Nat.le_of_ble_eq_true rfl) ⟨rfl, rfl, Nat.le_of_ble_eq_true rfl, Nat.le_of_ble_eq_true rfl⟩ ?_
            refine x_istore_n [(3, .int (zb q59.1)), (2, .int (f_X7_keywordHere I)), (0, .ref 43), (1, .int p0)] dX6_takeTest_109 rfl (by decide) rfl ?_
            refine x_iload_n 0 dX6_takeTest_110 rfl rfl ?_
            refine x_if_eqB 124 dX6_takeTest_111 (by decide) (fun hB => ?_) (fun hB => ?_)
            · replace hf := f_el hB hf
              refine x_iconst (v := (0)) dX6_takeTest_124 (by decide) ?_
              cases hf
              exact x_zret (b := false) dX6_takeTest_125 rfl rfl
            · replace hf := f_if hB hf
              refine x_aload_n 2 dX6_takeTest_114 rfl rfl ?_
              refine x_getR dX6_takeTest_115 lx_43 fl_X6_15 rfl ?_
              obtain ⟨q61, hq62, hf⟩ := f_bd hf
              refine x_callVi [] (c_X7_takeComparing (I := q59.2.1) (L := q59.2.2)  hq62) dX6_takeTest_118 lk_X6_120 lx_39 rfl cd_X7_takeComparing rfl rfl (Nat.le_of_ble_eq_true rfl) ⟨rfl, rfl, Nat.le_of_ble_eq_true rfl, Nat.le_of_ble_eq_true rfl⟩ ?_
              refine x_if_neB 126 dX6_takeTest_121 (by decide) (fun hB => ?_) (fun hB => ?_)
              · replace hf := f_if hB hf
                refine x_aload_n 2 dX6_takeTest_126 rfl rfl ?_
                refine x_getR dX6_takeTest_127 lx_43 fl_X6_19 rfl ?_
                refine x_getR dX6_takeTest_130 lx_33 fl_X6_123 rfl ?_
                refine x_iload_n 3 dX6_takeTest_133 rfl rfl ?_
                refine x_aload_n 2 dX6_takeTest_134 rfl rfl ?_
                refine x_getR dX6_takeTest_135 lx_43 fl_X6_15 rfl ?_
                refine x_getI (v := (q61.2.1 39 10)) dX6_takeTest_138 lx_39 fl_X6_126 rfl rfl ?_
                obtain ⟨I64, hI64, hf⟩ := f_lt hf
                refine x_iast (j0 := (p0).toNatClampNeg) dX6_takeTest_141 lx_36 h45 rfl hI64 ?_
                refine x_aload_n 2 dX6_takeTest_142 rfl rfl ?_
                refine x_iload_n 3 dX6_takeTest_143 rfl rfl ?_
                refine x_iconst (v := (0)) dX6_takeTest_144 (by decide) ?_
                refine x_sipush (v := (9999)) dX6_takeTest_145 (by decide) ?_
                obtain ⟨q65, hq66, hf⟩ := f_bd hf
                refine x_callVi [.int p0, .int (0 : Int32), .int (9999 : Int32)] (c_X6_takeNumber (I := I64) (L := q61.2.2)  hq66) dX6_takeTest_148 lk_X6_95 lx_43 rfl cd_X6_takeNumber rfl rfl (Nat.le_of_ble_eq_true rfl) ⟨rfl, rfl, Nat.le_of_ble_eq_true rfl, Nat.le_of_ble_eq_true rfl⟩ ?_
                cases hf
                exact x_zret dX6_takeTest_151 rfl rfl
              · replace hf := f_el hB hf
                refine x_iconst (v := (0)) dX6_takeTest_124 (by decide) ?_
                cases hf
                exact x_zret (b := false) dX6_takeTest_125 rfl rfl
          · replace hf := f_if hB hf
            refine x_aload_n 1 dX6_takeTest_82 rfl rfl ?_
            refine x_iload_n 2 dX6_takeTest_83 rfl rfl ?_
            obtain ⟨q51, hq52, hf⟩ := f_bd hf
            refine x_callVi [.int p0] (c_X6_takeBedNumber (I := q47.1) (L := q47.2)  hq52) dX6_takeTest_84 lk_X6_117 lx_43 rfl cd_X6_takeBedNumber rfl rfl (Nat.le_of_ble_eq_true rfl) ⟨rfl, rfl, Nat.le_of_ble_eq_true rfl, Nat.le_of_ble_eq_true rfl⟩ ?_
            refine x_goto 109 dX6_takeTest_87 (by decide) ?_
            refine x_istore_n [(3, .int (zb q51.1)), (2, .int (f_X7_keywordHere I)), (0, .ref 43), (1, .int p0)] dX6_takeTest_109 rfl (by decide) rfl ?_
            refine x_iload_n 0 dX6_takeTest_110 rfl rfl ?_
            refine x_if_eqB 124 dX6_takeTest_111 (by decide) (fun hB => ?_) (fun hB => ?_)
            · replace hf := f_el hB hf
              refine x_iconst (v := (0)) dX6_takeTest_124 (by decide) ?_
              cases hf
              exact x_zret (b := false) dX6_takeTest_125 rfl rfl
            · replace hf := f_if hB hf
              refine x_aload_n 2 dX6_takeTest_114 rfl rfl ?_
              refine x_getR dX6_takeTest_115 lx_43 fl_X6_15 rfl ?_
              obtain ⟨q53, hq54, hf⟩ := f_bd hf
              refine x_callVi [] (c_X7_takeComparing (I := q51.2.1) (L := q51.2.2)  hq54) dX6_takeTest_118 lk_X6_120 lx_39 rfl cd_X7_takeComparing rfl rfl (Nat.le_of_ble_eq_true rfl) ⟨rfl, rfl, Nat.le_of_ble_eq_true rfl, Nat.le_of_ble_eq_true rfl⟩ ?_
              refine x_if_neB 126 dX6_takeTest_121 (by decide) (fun hB => ?_) (fun hB => ?_)
              · replace hf := f_if hB hf
                refine x_aload_n 2 dX6_takeTest_126 rfl rfl ?_
                refine x_getR dX6_takeTest_127 lx_43 fl_X6_19 rfl ?_
                refine x_getR dX6_takeTest_130 lx_33 fl_X6_123 rfl ?_
                refine x_iload_n 3 dX6_takeTest_133 rfl rfl ?_
                refine x_aload_n 2 dX6_takeTest_134 rfl rfl ?_
                refine x_getR dX6_takeTest_135 lx_43 fl_X6_15 rfl ?_
                refine x_getI (v := (q53.2.1 39 10)) dX6_takeTest_138 lx_39 fl_X6_126 rfl rfl ?_
                obtain ⟨I56, hI56, hf⟩ := f_lt hf
                refine x_iast (j0 := (p0).toNatClampNeg) dX6_takeTest_141 lx_36 h45 rfl hI56 ?_
                refine x_aload_n 2 dX6_takeTest_142 rfl rfl ?_
                refine x_iload_n 3 dX6_takeTest_143 rfl rfl ?_
                refine x_iconst (v := (0)) dX6_takeTest_144 (by decide) ?_
                refine x_sipush (v := (9999)) dX6_takeTest_145 (by decide) ?_
                obtain ⟨q57, hq58, hf⟩ := f_bd hf
                refine x_callVi [.int p0, .int (0 : Int32), .int (9999 : Int32)] (c_X6_takeNumber (I := I56) (L := q53.2.2)  hq58) dX6_takeTest_148 lk_X6_95 lx_43 rfl cd_X6_takeNumber rfl rfl (Nat.le_of_ble_eq_true rfl) ⟨rfl, rfl, Nat.le_of_ble_eq_true rfl, Nat.le_of_ble_eq_true rfl⟩ ?_
                cases hf
                exact x_zret dX6_takeTest_151 rfl rfl
              · replace hf := f_el hB hf
                refine x_iconst (v := (0)) dX6_takeTest_124 (by decide) ?_
                cases hf
                exact x_zret (b := false) dX6_takeTest_125 rfl rfl
        · replace hf := f_if hB hf
          refine x_aload_n 1 dX6_takeTest_57 rfl rfl ?_
          refine x_iload_n 2 dX6_takeTest_58 rfl rfl ?_
          refine x_aload_n 1 dX6_takeTest_59 rfl rfl ?_
          refine x_getR dX6_takeTest_60 lx_43 fl_X6_23 rfl ?_
          refine x_getR dX6_takeTest_63 lx_3 fl_X6_73 rfl ?_
          refine x_aload_n 1 dX6_takeTest_66 rfl rfl ?_
          refine x_getR dX6_takeTest_67 lx_43 fl_X6_23 rfl ?_
          refine x_getI (v := (q47.1 3 12)) dX6_takeTest_70 lx_3 fl_X6_79 rfl rfl ?_
          obtain ⟨q49, hq50, hf⟩ := f_bd hf
          refine x_callVi [.int p0, .ref 10, .int (q47.1 3 12)] (c_X6_takeName (I := q47.1) (L := q47.2) lx_10 hq50) dX6_takeTest_73 lk_X6_82 lx_43 rfl cd_X6_takeName rfl rfl (Nat.le_of_ble_eq_true rfl) ⟨rfl, rfl, Nat.le_of_ble_eq_true rfl, Nat.le_of_ble_eq_true rfl⟩ ?_
          cases hf
          exact x_zret dX6_takeTest_76 rfl rfl
      · replace hf := f_el hB hf
        refine x_aload_n 1 dX6_takeTest_25 rfl rfl ?_
        refine x_getR dX6_takeTest_26 lx_43 fl_X6_15 rfl ?_
        refine x_iconst (v := (2)) dX6_takeTest_29 (by decide) ?_
        refine x_callVi [.int (2 : Int32)] (c_X7_fail (I := I) (L := L) (2 : Int32)) dX6_takeTest_30 lk_X6_59 lx_39 rfl cd_X7_fail rfl rfl (Nat.le_of_ble_eq_true rfl) ⟨rfl, rfl, Nat.le_of_ble_eq_true rfl, Nat.le_of_ble_eq_true rfl⟩ ?_
        cases hf
        exact x_zret dX6_takeTest_33 rfl rfl
set_option maxRecDepth 100000 in
set_option maxHeartbeats 4000000 in
theorem c_X6_takeStep {I : z_I} {L : z_L}   {r : Bool × z_I × z_L} (hf : f_X6_takeStep I L = some r) : z_C layX yX6_takeStep cX6_takeStep 4 (some .boolean) ({ frames := 5, cells := 0, slots := 0, locals := 112 } : Room) [.ref 43] I L (some (.int (zb r.1)), r.2.1, r.2.2) := by
  refine z_C.of (by decide) (Nat.le_of_ble_eq_true rfl) ?_
  show z_X layX RX6 cX6_takeStep 4 (some .boolean) ({ frames := 5, cells := 0, slots := 0, locals := 112 } : Room) 0 [(0, .ref 43)] [] I L (some (.int (zb r.1)), r.2.1, r.2.2)
  unfold f_X6_takeStep at hf
  refine x_aload_n 0 dX6_takeStep_0 rfl rfl ?_
  refine x_getR dX6_takeStep_1 lx_43 fl_X6_15 rfl ?_
  refine x_callVi [] (c_X7_keywordHere (I := I) (L := L) ) dX6_takeStep_4 lk_X6_62 lx_39 rfl cd_X7_keywordHere rfl rfl (Nat.le_of_ble_eq_true rfl) ⟨rfl, rfl, Nat.le_of_ble_eq_true rfl, Nat.le_of_ble_eq_true rfl⟩ ?_
  refine x_istore_n [(1, .int (f_X7_keywordHere I)), (0, .ref 43)] dX6_takeStep_7 rfl (by decide) rfl ?_
  refine x_aload_n 1 dX6_takeStep_8 rfl rfl ?_
  refine x_iload_n 0 dX6_takeStep_9 rfl rfl ?_
  refine x_callVi [.int (f_X7_keywordHere I)] (c_X6_canBegin (I := I) (L := L) (f_X7_keywordHere I)) dX6_takeStep_10 lk_X6_66 lx_43 rfl cd_X6_canBegin rfl rfl (Nat.le_of_ble_eq_true rfl) ⟨rfl, rfl, Nat.le_of_ble_eq_true rfl, Nat.le_of_ble_eq_true rfl⟩ ?_
  refine x_if_neB 18 dX6_takeStep_13 (by decide) (fun hB => ?_) (fun hB => ?_)
  · replace hf := f_if hB hf
    refine x_aload_n 1 dX6_takeStep_18 rfl rfl ?_
    refine x_iload_n 0 dX6_takeStep_19 rfl rfl ?_
    obtain ⟨q1, hq2, hf⟩ := f_bd hf
    refine x_callVi [.int (f_X7_keywordHere I)] (c_X6_begin (I := (f_X6_canBegin I (f_X7_keywordHere I)).2) (L := L)  hq2) dX6_takeStep_20 lk_X6_69 lx_43 rfl cd_X6_begin rfl rfl (Nat.le_of_ble_eq_true rfl) ⟨rfl, rfl, Nat.le_of_ble_eq_true rfl, Nat.le_of_ble_eq_true rfl⟩ ?_
    refine x_istore_n [(2, .int q1.1), (1, .int (f_X7_keywordHere I)), (0, .ref 43)] dX6_takeStep_23 rfl (by decide) rfl ?_
    refine x_iconst (v := (1)) dX6_takeStep_24 (by decide) ?_
    refine x_istore_n [(3, .int (1 : Int32)), (2, .int q1.1), (1, .int (f_X7_keywordHere I)), (0, .ref 43)] dX6_takeStep_25 rfl (by decide) rfl ?_
    refine x_iload_n 2 dX6_takeStep_26 rfl rfl ?_
    by_cases hs7 : (f_X7_keywordHere I) = (12)
    · replace hf := f_if hs7 hf
      refine x_tabIn (12) 76 dX6_takeStep_27 hs7 (by decide) (by decide) rfl (by decide) ?_
      refine x_aload_n 3 dX6_takeStep_76 rfl rfl ?_
      refine x_iload_n 1 dX6_takeStep_77 rfl rfl ?_
      refine x_aload_n 3 dX6_takeStep_78 rfl rfl ?_
      refine x_getR dX6_takeStep_79 lx_43 fl_X6_23 rfl ?_
      refine x_getR dX6_takeStep_82 lx_3 fl_X6_73 rfl ?_
      refine x_aload_n 3 dX6_takeStep_85 rfl rfl ?_
      refine x_getR dX6_takeStep_86 lx_43 fl_X6_23 rfl ?_
      refine x_getI (v := (q1.2.1 3 12)) dX6_takeStep_89 lx_3 fl_X6_79 rfl rfl ?_
      obtain ⟨q3, hq4, hf⟩ := f_bd hf
      refine x_callVi [.int q1.1, .ref 10, .int (q1.2.1 3 12)] (c_X6_takeName (I := q1.2.1) (L := q1.2.2) lx_10 hq4) dX6_takeStep_92 lk_X6_82 lx_43 rfl cd_X6_takeName rfl rfl (Nat.le_of_ble_eq_true rfl) ⟨rfl, rfl, Nat.le_of_ble_eq_true rfl, Nat.le_of_ble_eq_true rfl⟩ ?_
      refine x_istore_n [(3, .int (zb q3.1)), (2, .int q1.1), (1, .int (f_X7_keywordHere I)), (0, .ref 43)] dX6_takeStep_95 rfl (by decide) rfl ?_
      refine x_goto 204 dX6_takeStep_96 (by decide) ?_
      refine x_iload_n 0 dX6_takeStep_204 rfl rfl ?_
      refine x_if_eqB 222 dX6_takeStep_205 (by decide) (fun hB => ?_) (fun hB => ?_)
      · replace hf := f_el hB hf
        refine x_iconst (v := (0)) dX6_takeStep_222 (by decide) ?_
        cases hf
        exact x_zret (b := false) dX6_takeStep_223 rfl rfl
      · replace hf := f_if hB hf
        refine x_aload_n 3 dX6_takeStep_208 rfl rfl ?_
        refine x_getR dX6_takeStep_209 lx_43 fl_X6_15 rfl ?_
        obtain ⟨q5, hq6, hf⟩ := f_bd hf
        refine x_callVi [] (c_X7_takeSemicolon (I := q3.2.1) (L := q3.2.2)  hq6) dX6_takeStep_212 lk_X6_102 lx_39 rfl cd_X7_takeSemicolon rfl rfl (Nat.le_of_ble_eq_true rfl) ⟨rfl, rfl, Nat.le_of_ble_eq_true rfl, Nat.le_of_ble_eq_true rfl⟩ ?_
        refine x_if_eqB 222 dX6_takeStep_215 (by decide) (fun hB => ?_) (fun hB => ?_)
        · replace hf := f_el hB hf
          refine x_iconst (v := (0)) dX6_takeStep_222 (by decide) ?_
          cases hf
          exact x_zret (b := false) dX6_takeStep_223 rfl rfl
        · replace hf := f_if hB hf
          refine x_iconst (v := (1)) dX6_takeStep_218 (by decide) ?_
          refine x_goto 223 dX6_takeStep_219 (by decide) ?_
          cases hf
          exact x_zret (b := true) dX6_takeStep_223 rfl rfl
    replace hf := f_el hs7 hf
    by_cases hs14 : (f_X7_keywordHere I) = (13)
    · replace hf := f_if hs14 hf
      refine x_tabIn (13) 99 dX6_takeStep_27 hs14 (by decide) (by decide) rfl (by decide) ?_
      refine x_aload_n 3 dX6_takeStep_99 rfl rfl ?_
      refine x_iload_n 1 dX6_takeStep_100 rfl rfl ?_
      refine x_aload_n 3 dX6_takeStep_101 rfl rfl ?_
      refine x_getR dX6_takeStep_102 lx_43 fl_X6_23 rfl ?_
      refine x_getR dX6_takeStep_105 lx_3 fl_X6_86 rfl ?_
      refine x_aload_n 3 dX6_takeStep_108 rfl rfl ?_
      refine x_getR dX6_takeStep_109 lx_43 fl_X6_23 rfl ?_
      refine x_getI (v := (q1.2.1 3 13)) dX6_takeStep_112 lx_3 fl_X6_89 rfl rfl ?_
      obtain ⟨q8, hq9, hf⟩ := f_bd hf
      refine x_callVi [.int q1.1, .ref 13, .int (q1.2.1 3 13)] (c_X6_takeName (I := q1.2.1) (L := q1.2.2) lx_13 hq9) dX6_takeStep_115 lk_X6_82 lx_43 rfl cd_X6_takeName rfl rfl (Nat.le_of_ble_eq_true rfl) ⟨rfl, rfl, Nat.le_of_ble_eq_true rfl, Nat.le_of_ble_eq_true rfl⟩ ?_
      refine x_if_eqB 143 dX6_takeStep_118 (by decide) (fun hB => ?_) (fun hB => ?_)
      · replace hf := f_el hB hf
        refine x_iconst (v := (0)) dX6_takeStep_143 (by decide) ?_
        refine x_istore_n [(3, .int (0 : Int32)), (2, .int q1.1), (1, .int (f_X7_keywordHere I)), (0, .ref 43)] dX6_takeStep_144 rfl (by decide) rfl ?_
        refine x_goto 204 dX6_takeStep_145 (by decide) ?_
        refine x_iload_n 0 dX6_takeStep_204 rfl rfl ?_
        refine x_if_eq 222 dX6_takeStep_205 (by decide) (fun _ => ?_) (fun h => absurd h (by decide))
        refine x_iconst (v := (0)) dX6_takeStep_222 (by decide) ?_
        cases hf
        exact x_zret (b := false) dX6_takeStep_223 rfl rfl
      · replace hf := f_if hB hf
        refine x_aload_n 3 dX6_takeStep_121 rfl rfl ?_
        refine x_iload_n 1 dX6_takeStep_122 rfl rfl ?_
        refine x_iconst (v := (0)) dX6_takeStep_123 (by decide) ?_
        refine x_aload_n 3 dX6_takeStep_124 rfl rfl ?_
        refine x_getR dX6_takeStep_125 lx_43 fl_X6_23 rfl ?_
        refine x_getI (v := (q8.2.1 3 10)) dX6_takeStep_128 lx_3 fl_X6_92 rfl rfl ?_
        refine x_iconst (v := (1)) dX6_takeStep_131 (by decide) ?_
        refine x_isub dX6_takeStep_132 ?_
        obtain ⟨q10, hq11, hf⟩ := f_bd hf
        refine x_callVi [.int q1.1, .int (0 : Int32), .int ((q8.2.1 3 10) - (1 : Int32))] (c_X6_takeNumber (I := q8.2.1) (L := q8.2.2)  hq11) dX6_takeStep_133 lk_X6_95 lx_43 rfl cd_X6_takeNumber rfl rfl (Nat.le_of_ble_eq_true rfl) ⟨rfl, rfl, Nat.le_of_ble_eq_true rfl, Nat.le_of_ble_eq_true rfl⟩ ?_
        refine x_if_eqB 143 dX6_takeStep_136 (by decide) (fun hB => ?_) (fun hB => ?_)
        · replace hf := f_el hB hf
          refine x_iconst (v := (0)) dX6_takeStep_143 (by decide) ?_
          refine x_istore_n [(3, .int (0 : Int32)), (2, .int q1.1), (1, .int (f_X7_keywordHere I)), (0, .ref 43)] dX6_takeStep_144 rfl (by decide) rfl ?_
          refine x_goto 204 dX6_takeStep_145 (by decide) ?_
          refine x_iload_n 0 dX6_takeStep_204 rfl rfl ?_
          refine x_if_eq 222 dX6_takeStep_205 (by decide) (fun _ => ?_) (fun h => absurd h (by decide))
          refine x_iconst (v := (0)) dX6_takeStep_222 (by decide) ?_
          cases hf
          exact x_zret (b := false) dX6_takeStep_223 rfl rfl
        · replace hf := f_if hB hf
          refine x_iconst (v := (1)) dX6_takeStep_139 (by decide) ?_
          refine x_goto 144 dX6_takeStep_140 (by decide) ?_
          refine x_istore_n [(3, .int (1 : Int32)), (2, .int q1.1), (1, .int (f_X7_keywordHere I)), (0, .ref 43)] dX6_takeStep_144 rfl (by decide) rfl ?_
          refine x_goto 204 dX6_takeStep_145 (by decide) ?_
          refine x_iload_n 0 dX6_takeStep_204 rfl rfl ?_
          refine x_if_eq 222 dX6_takeStep_205 (by decide) (fun h => absurd h (by decide)) (fun _ => ?_)
          refine x_aload_n 3 dX6_takeStep_208 rfl rfl ?_
          refine x_getR dX6_takeStep_209 lx_43 fl_X6_15 rfl ?_
          obtain ⟨q12, hq13, hf⟩ := f_bd hf
          refine x_callVi [] (c_X7_takeSemicolon (I := q10.2.1) (L := q10.2.2)  hq13) dX6_takeStep_212 lk_X6_102 lx_39 rfl cd_X7_takeSemicolon rfl rfl (Nat.le_of_ble_eq_true rfl) ⟨rfl, rfl, Nat.le_of_ble_eq_true rfl, Nat.le_of_ble_eq_true rfl⟩ ?_
          refine x_if_eqB 222 dX6_takeStep_215 (by decide) (fun hB => ?_) (fun hB => ?_)
          · replace hf := f_el hB hf
            refine x_iconst (v := (0)) dX6_takeStep_222 (by decide) ?_
            cases hf
            exact x_zret (b := false) dX6_takeStep_223 rfl rfl
          · replace hf := f_if hB hf
            refine x_iconst (v := (1)) dX6_takeStep_218 (by decide) ?_
            refine x_goto 223 dX6_takeStep_219 (by decide) ?_
            cases hf
            exact x_zret (b := true) dX6_takeStep_223 rfl rfl
    replace hf := f_el hs14 hf
    by_cases hs19 : (f_X7_keywordHere I) = (14)
    · replace hf := f_if hs19 hf
      refine x_tabIn (14) 148 dX6_takeStep_27 hs19 (by decide) (by decide) rfl (by decide) ?_
      refine x_aload_n 3 dX6_takeStep_148 rfl rfl ?_
      refine x_iload_n 1 dX6_takeStep_149 rfl rfl ?_
      refine x_aload_n 3 dX6_takeStep_150 rfl rfl ?_
      refine x_getR dX6_takeStep_151 lx_43 fl_X6_23 rfl ?_
      refine x_getR dX6_takeStep_154 lx_3 fl_X6_86 rfl ?_
      refine x_aload_n 3 dX6_takeStep_157 rfl rfl ?_
      refine x_getR dX6_takeStep_158 lx_43 fl_X6_23 rfl ?_
      refine x_getI (v := (q1.2.1 3 13)) dX6_takeStep_161 lx_3 fl_X6_89 rfl rfl ?_
      obtain ⟨q15, hq16, hf⟩ := f_bd hf
      refine x_callVi [.int q1.1, .ref 13, .int (q1.2.1 3 13)] (c_X6_takeName (I := q1.2.1) (L := q1.2.2) lx_13 hq16) dX6_takeStep_164 lk_X6_82 lx_43 rfl cd_X6_takeName rfl rfl (Nat.le_of_ble_eq_true rfl) ⟨rfl, rfl, Nat.le_of_ble_eq_true rfl, Nat.le_of_ble_eq_true rfl⟩ ?_
      refine x_istore_n [(3, .int (zb q15.1)), (2, .int q1.1), (1, .int (f_X7_keywordHere I)), (0, .ref 43)] dX6_takeStep_167 rfl (by decide) rfl ?_
      refine x_goto 204 dX6_takeStep_168 (by decide) ?_
      refine x_iload_n 0 dX6_takeStep_204 rfl rfl ?_
      refine x_if_eqB 222 dX6_takeStep_205 (by decide) (fun hB => ?_) (fun hB => ?_)
      · replace hf := f_el hB hf
        refine x_iconst (v := (0)) dX6_takeStep_222 (by decide) ?_
        cases hf
        exact x_zret (b := false) dX6_takeStep_223 rfl rfl
      · replace hf := f_if hB hf
        refine x_aload_n 3 dX6_takeStep_208 rfl rfl ?_
        refine x_getR dX6_takeStep_209 lx_43 fl_X6_15 rfl ?_
        obtain ⟨q17, hq18, hf⟩ := f_bd hf
        refine x_callVi [] (c_X7_takeSemicolon (I := q15.2.1) (L := q15.2.2)  hq18) dX6_takeStep_212 lk_X6_102 lx_39 rfl cd_X7_takeSemicolon rfl rfl (Nat.le_of_ble_eq_true rfl) ⟨rfl, rfl, Nat.le_of_ble_eq_true rfl, Nat.le_of_ble_eq_true rfl⟩ ?_
        refine x_if_eqB 222 dX6_takeStep_215 (by decide) (fun hB => ?_) (fun hB => ?_)
        · replace hf := f_el hB hf
          refine x_iconst (v := (0)) dX6_takeStep_222 (by decide) ?_
          cases hf
          exact x_zret (b := false) dX6_takeStep_223 rfl rfl
        · replace hf := f_if hB hf
          refine x_iconst (v := (1)) dX6_takeStep_218 (by decide) ?_
          refine x_goto 223 dX6_takeStep_219 (by decide) ?_
          cases hf
          exact x_zret (b := true) dX6_takeStep_223 rfl rfl
    replace hf := f_el hs19 hf
    by_cases hs24 : (f_X7_keywordHere I) = (15)
    · replace hf := f_if hs24 hf
      refine x_tabIn (15) 171 dX6_takeStep_27 hs24 (by decide) (by decide) rfl (by decide) ?_
      refine x_aload_n 3 dX6_takeStep_171 rfl rfl ?_
      refine x_iload_n 1 dX6_takeStep_172 rfl rfl ?_
      refine x_iconst (v := (1)) dX6_takeStep_173 (by decide) ?_
      refine x_bipush (v := (40)) dX6_takeStep_174 (by decide) ?_
      obtain ⟨q20, hq21, hf⟩ := f_bd hf
      refine x_callVi [.int q1.1, .int (1 : Int32), .int (40 : Int32)] (c_X6_takeNumber (I := q1.2.1) (L := q1.2.2)  hq21) dX6_takeStep_176 lk_X6_95 lx_43 rfl cd_X6_takeNumber rfl rfl (Nat.le_of_ble_eq_true rfl) ⟨rfl, rfl, Nat.le_of_ble_eq_true rfl, Nat.le_of_ble_eq_true rfl⟩ ?_
      refine x_istore_n [(3, .int (zb q20.1)), (2, .int q1.1), (1, .int (f_X7_keywordHere I)), (0, .ref 43)] dX6_takeStep_179 rfl (by decide) rfl ?_
      refine x_goto 204 dX6_takeStep_180 (by decide) ?_
      refine x_iload_n 0 dX6_takeStep_204 rfl rfl ?_
      refine x_if_eqB 222 dX6_takeStep_205 (by decide) (fun hB => ?_) (fun hB => ?_)
      · replace hf := f_el hB hf
        refine x_iconst (v := (0)) dX6_takeStep_222 (by decide) ?_
        cases hf
        exact x_zret (b := false) dX6_takeStep_223 rfl rfl
      · replace hf := f_if hB hf
        refine x_aload_n 3 dX6_takeStep_208 rfl rfl ?_
        refine x_getR dX6_takeStep_209 lx_43 fl_X6_15 rfl ?_
        obtain ⟨q22, hq23, hf⟩ := f_bd hf
        refine x_callVi [] (c_X7_takeSemicolon (I := q20.2.1) (L := q20.2.2)  hq23) dX6_takeStep_212 lk_X6_102 lx_39 rfl cd_X7_takeSemicolon rfl rfl (Nat.le_of_ble_eq_true rfl) ⟨rfl, rfl, Nat.le_of_ble_eq_true rfl, Nat.le_of_ble_eq_true rfl⟩ ?_
        refine x_if_eqB 222 dX6_takeStep_215 (by decide) (fun hB => ?_) (fun hB => ?_)
        · replace hf := f_el hB hf
          refine x_iconst (v := (0)) dX6_takeStep_222 (by decide) ?_
          cases hf
          exact x_zret (b := false) dX6_takeStep_223 rfl rfl
        · replace hf := f_if hB hf
          refine x_iconst (v := (1)) dX6_takeStep_218 (by decide) ?_
          refine x_goto 223 dX6_takeStep_219 (by decide) ?_
          cases hf
          exact x_zret (b := true) dX6_takeStep_223 rfl rfl
    replace hf := f_el hs24 hf
    by_cases hs27 : (f_X7_keywordHere I) = (16)
    · replace hf := f_if hs27 hf
      refine x_tabIn (16) 204 dX6_takeStep_27 hs27 (by decide) (by decide) rfl (by decide) ?_
      refine x_iload_n 0 dX6_takeStep_204 rfl rfl ?_
      refine x_if_eq 222 dX6_takeStep_205 (by decide) (fun h => absurd h (by decide)) (fun _ => ?_)
      refine x_aload_n 3 dX6_takeStep_208 rfl rfl ?_
      refine x_getR dX6_takeStep_209 lx_43 fl_X6_15 rfl ?_
      obtain ⟨q25, hq26, hf⟩ := f_bd hf
      refine x_callVi [] (c_X7_takeSemicolon (I := q1.2.1) (L := q1.2.2)  hq26) dX6_takeStep_212 lk_X6_102 lx_39 rfl cd_X7_takeSemicolon rfl rfl (Nat.le_of_ble_eq_true rfl) ⟨rfl, rfl, Nat.le_of_ble_eq_true rfl, Nat.le_of_ble_eq_true rfl⟩ ?_
      refine x_if_eqB 222 dX6_takeStep_215 (by decide) (fun hB => ?_) (fun hB => ?_)
      · replace hf := f_el hB hf
        refine x_iconst (v := (0)) dX6_takeStep_222 (by decide) ?_
        cases hf
        exact x_zret (b := false) dX6_takeStep_223 rfl rfl
      · replace hf := f_if hB hf
        refine x_iconst (v := (1)) dX6_takeStep_218 (by decide) ?_
        refine x_goto 223 dX6_takeStep_219 (by decide) ?_
        cases hf
        exact x_zret (b := true) dX6_takeStep_223 rfl rfl
    replace hf := f_el hs27 hf
    by_cases hs30 : (f_X7_keywordHere I) = (17)
    · replace hf := f_if hs30 hf
      refine x_tabIn (17) 204 dX6_takeStep_27 hs30 (by decide) (by decide) rfl (by decide) ?_
      refine x_iload_n 0 dX6_takeStep_204 rfl rfl ?_
      refine x_if_eq 222 dX6_takeStep_205 (by decide) (fun h => absurd h (by decide)) (fun _ => ?_)
      refine x_aload_n 3 dX6_takeStep_208 rfl rfl ?_
      refine x_getR dX6_takeStep_209 lx_43 fl_X6_15 rfl ?_
      obtain ⟨q28, hq29, hf⟩ := f_bd hf
      refine x_callVi [] (c_X7_takeSemicolon (I := q1.2.1) (L := q1.2.2)  hq29) dX6_takeStep_212 lk_X6_102 lx_39 rfl cd_X7_takeSemicolon rfl rfl (Nat.le_of_ble_eq_true rfl) ⟨rfl, rfl, Nat.le_of_ble_eq_true rfl, Nat.le_of_ble_eq_true rfl⟩ ?_
      refine x_if_eqB 222 dX6_takeStep_215 (by decide) (fun hB => ?_) (fun hB => ?_)
      · replace hf := f_el hB hf
        refine x_iconst (v := (0)) dX6_takeStep_222 (by decide) ?_
        cases hf
        exact x_zret (b := false) dX6_takeStep_223 rfl rfl
      · replace hf := f_if hB hf
        refine x_iconst (v := (1)) dX6_takeStep_218 (by decide) ?_
        refine x_goto 223 dX6_takeStep_219 (by decide) ?_
        cases hf
        exact x_zret (b := true) dX6_takeStep_223 rfl rfl
    replace hf := f_el hs30 hf
    by_cases hs35 : (f_X7_keywordHere I) = (18)
    · replace hf := f_if hs35 hf
      refine x_tabIn (18) 195 dX6_takeStep_27 hs35 (by decide) (by decide) rfl (by decide) ?_
      refine x_aload_n 3 dX6_takeStep_195 rfl rfl ?_
      refine x_iload_n 1 dX6_takeStep_196 rfl rfl ?_
      obtain ⟨q31, hq32, hf⟩ := f_bd hf
      refine x_callVi [.int q1.1] (c_X6_takeTest (I := q1.2.1) (L := q1.2.2)  hq32) dX6_takeStep_197 lk_X6_99 lx_43 rfl cd_X6_takeTest rfl rfl (Nat.le_of_ble_eq_true rfl) ⟨rfl, rfl, Nat.le_of_ble_eq_true rfl, Nat.le_of_ble_eq_true rfl⟩ ?_
      refine x_istore_n [(3, .int (zb q31.1)), (2, .int q1.1), (1, .int (f_X7_keywordHere I)), (0, .ref 43)] dX6_takeStep_200 rfl (by decide) rfl ?_
      refine x_goto 204 dX6_takeStep_201 (by decide) ?_
      refine x_iload_n 0 dX6_takeStep_204 rfl rfl ?_
      refine x_if_eqB 222 dX6_takeStep_205 (by decide) (fun hB => ?_) (fun hB => ?_)
      · replace hf := f_el hB hf
        refine x_iconst (v := (0)) dX6_takeStep_222 (by decide) ?_
        cases hf
        exact x_zret (b := false) dX6_takeStep_223 rfl rfl
      · replace hf := f_if hB hf
        refine x_aload_n 3 dX6_takeStep_208 rfl rfl ?_
        refine x_getR dX6_takeStep_209 lx_43 fl_X6_15 rfl ?_
        obtain ⟨q33, hq34, hf⟩ := f_bd hf
        refine x_callVi [] (c_X7_takeSemicolon (I := q31.2.1) (L := q31.2.2)  hq34) dX6_takeStep_212 lk_X6_102 lx_39 rfl cd_X7_takeSemicolon rfl rfl (Nat.le_of_ble_eq_true rfl) ⟨rfl, rfl, Nat.le_of_ble_eq_true rfl, Nat.le_of_ble_eq_true rfl⟩ ?_
        refine x_if_eqB 222 dX6_takeStep_215 (by decide) (fun hB => ?_) (fun hB => ?_)
        · replace hf := f_el hB hf
          refine x_iconst (v := (0)) dX6_takeStep_222 (by decide) ?_
          cases hf
          exact x_zret (b := false) dX6_takeStep_223 rfl rfl
        · replace hf := f_if hB hf
          refine x_iconst (v := (1)) dX6_takeStep_218 (by decide) ?_
          refine x_goto 223 dX6_takeStep_219 (by decide) ?_
          cases hf
          exact x_zret (b := true) dX6_takeStep_223 rfl rfl
    replace hf := f_el hs35 hf
    by_cases hs38 : (f_X7_keywordHere I) = (19)
    · replace hf := f_if hs38 hf
      refine x_tabIn (19) 204 dX6_takeStep_27 hs38 (by decide) (by decide) rfl (by decide) ?_
      refine x_iload_n 0 dX6_takeStep_204 rfl rfl ?_
      refine x_if_eq 222 dX6_takeStep_205 (by decide) (fun h => absurd h (by decide)) (fun _ => ?_)
      refine x_aload_n 3 dX6_takeStep_208 rfl rfl ?_
      refine x_getR dX6_takeStep_209 lx_43 fl_X6_15 rfl ?_
      obtain ⟨q36, hq37, hf⟩ := f_bd hf
      refine x_callVi [] (c_X7_takeSemicolon (I := q1.2.1) (L := q1.2.2)  hq37) dX6_takeStep_212 lk_X6_102 lx_39 rfl cd_X7_takeSemicolon rfl rfl (Nat.le_of_ble_eq_true rfl) ⟨rfl, rfl, Nat.le_of_ble_eq_true rfl, Nat.le_of_ble_eq_true rfl⟩ ?_
      refine x_if_eqB 222 dX6_takeStep_215 (by decide) (fun hB => ?_) (fun hB => ?_)
      · replace hf := f_el hB hf
        refine x_iconst (v := (0)) dX6_takeStep_222 (by decide) ?_
        cases hf
        exact x_zret (b := false) dX6_takeStep_223 rfl rfl
      · replace hf := f_if hB hf
        refine x_iconst (v := (1)) dX6_takeStep_218 (by decide) ?_
        refine x_goto 223 dX6_takeStep_219 (by decide) ?_
        cases hf
        exact x_zret (b := true) dX6_takeStep_223 rfl rfl
    replace hf := f_el hs38 hf
    by_cases hs43 : (f_X7_keywordHere I) = (20)
    · replace hf := f_if hs43 hf
      refine x_tabIn (20) 183 dX6_takeStep_27 hs43 (by decide) (by decide) rfl (by decide) ?_
      refine x_aload_n 3 dX6_takeStep_183 rfl rfl ?_
      refine x_iload_n 1 dX6_takeStep_184 rfl rfl ?_
      refine x_iconst (v := (1)) dX6_takeStep_185 (by decide) ?_
      refine x_bipush (v := (99)) dX6_takeStep_186 (by decide) ?_
      obtain ⟨q39, hq40, hf⟩ := f_bd hf
      refine x_callVi [.int q1.1, .int (1 : Int32), .int (99 : Int32)] (c_X6_takeNumber (I := q1.2.1) (L := q1.2.2)  hq40) dX6_takeStep_188 lk_X6_95 lx_43 rfl cd_X6_takeNumber rfl rfl (Nat.le_of_ble_eq_true rfl) ⟨rfl, rfl, Nat.le_of_ble_eq_true rfl, Nat.le_of_ble_eq_true rfl⟩ ?_
      refine x_istore_n [(3, .int (zb q39.1)), (2, .int q1.1), (1, .int (f_X7_keywordHere I)), (0, .ref 43)] dX6_takeStep_191 rfl (by decide) rfl ?_
      refine x_goto 204 dX6_takeStep_192 (by decide) ?_
      refine x_iload_n 0 dX6_takeStep_204 rfl rfl ?_
      refine x_if_eqB 222 dX6_takeStep_205 (by decide) (fun hB => ?_) (fun hB => ?_)
      · replace hf := f_el hB hf
        refine x_iconst (v := (0)) dX6_takeStep_222 (by decide) ?_
        cases hf
        exact x_zret (b := false) dX6_takeStep_223 rfl rfl
      · replace hf := f_if hB hf
        refine x_aload_n 3 dX6_takeStep_208 rfl rfl ?_
        refine x_getR dX6_takeStep_209 lx_43 fl_X6_15 rfl ?_
        obtain ⟨q41, hq42, hf⟩ := f_bd hf
        refine x_callVi [] (c_X7_takeSemicolon (I := q39.2.1) (L := q39.2.2)  hq42) dX6_takeStep_212 lk_X6_102 lx_39 rfl cd_X7_takeSemicolon rfl rfl (Nat.le_of_ble_eq_true rfl) ⟨rfl, rfl, Nat.le_of_ble_eq_true rfl, Nat.le_of_ble_eq_true rfl⟩ ?_
        refine x_if_eqB 222 dX6_takeStep_215 (by decide) (fun hB => ?_) (fun hB => ?_)
        · replace hf := f_el hB hf
          refine x_iconst (v := (0)) dX6_takeStep_222 (by decide) ?_
          cases hf
          exact x_zret (b := false) dX6_takeStep_223 rfl rfl
        · replace hf := f_if hB hf
          refine x_iconst (v := (1)) dX6_takeStep_218 (by decide) ?_
          refine x_goto 223 dX6_takeStep_219 (by decide) ?_
          cases hf
          exact x_zret (b := true) dX6_takeStep_223 rfl rfl
    replace hf := f_el hs43 hf
    refine x_tabOut 204 dX6_takeStep_27 (by have := lv_neT (a := 12) hs7 (by decide); have := lv_neT (a := 13) hs14 (by decide); have := lv_neT (a := 14) hs19 (by decide); have := lv_neT (a := 15) hs24 (by decide); have := lv_neT (a := 16) hs27 (by decide); have := lv_neT (a := 17) hs30 (by decide); have := lv_neT (a := 18) hs35 (by decide); have := lv_neT (a := 19) hs38 (by decide); have := lv_neT (a := 20) hs43 (by decide); omega) (by decide) ?_
    refine x_iload_n 0 dX6_takeStep_204 rfl rfl ?_
    refine x_if_eq 222 dX6_takeStep_205 (by decide) (fun h => absurd h (by decide)) (fun _ => ?_)
    refine x_aload_n 3 dX6_takeStep_208 rfl rfl ?_
    refine x_getR dX6_takeStep_209 lx_43 fl_X6_15 rfl ?_
    obtain ⟨q44, hq45, hf⟩ := f_bd hf
    refine x_callVi [] (c_X7_takeSemicolon (I := q1.2.1) (L := q1.2.2)  hq45) dX6_takeStep_212 lk_X6_102 lx_39 rfl cd_X7_takeSemicolon rfl rfl (Nat.le_of_ble_eq_true rfl) ⟨rfl, rfl, Nat.le_of_ble_eq_true rfl, Nat.le_of_ble_eq_true rfl⟩ ?_
    refine x_if_eqB 222 dX6_takeStep_215 (by decide) (fun hB => ?_) (fun hB => ?_)
    · replace hf := f_el hB hf
      refine x_iconst (v := (0)) dX6_takeStep_222 (by decide) ?_
      cases hf
      exact x_zret (b := false) dX6_takeStep_223 rfl rfl
    · replace hf := f_if hB hf
      refine x_iconst (v := (1)) dX6_takeStep_218 (by decide) ?_
      refine x_goto 223 dX6_takeStep_219 (by decide) ?_
      cases hf
      exact x_zret (b := true) dX6_takeStep_223 rfl rfl
  · replace hf := f_el hB hf
    refine x_iconst (v := (0)) dX6_takeStep_16 (by decide) ?_
    cases hf
    exact x_zret (b := false) dX6_takeStep_17 rfl rfl
set_option maxRecDepth 100000 in
set_option maxHeartbeats 4000000 in
theorem l_X6_takeText_30   (v1 : Int32)  {r : Bool × z_I × z_L} (k81 : z_I → z_L → Option (Bool × z_I × z_L)) (hk81 : ∀ (I : z_I) (L : z_L), k81 I L = some r → z_X layX RX6 cX6_takeText 4 (some .boolean) ({ frames := 6, cells := 0, slots := 0, locals := 135 } : Room) 81 [(0, .ref 43)] [] I L (some (.int (zb r.1)), r.2.1, r.2.2)) : ∀ (n : Nat) (v2 : Int32) (I : z_I) (L : z_L), g_X6_takeText_30 v1 k81 n v2 I L = some r → z_X layX RX6 cX6_takeText 4 (some .boolean) ({ frames := 6, cells := 0, slots := 0, locals := 135 } : Room) 30 [(0, .ref 43), (1, .int v1), (2, .int v2)] [] I L (some (.int (zb r.1)), r.2.1, r.2.2) := by
  intro n
  induction n with
  | zero => intro v2 I L hf; cases hf
  | succ n ih =>
    intro v2 I L hf
    rw [g_X6_takeText_30] at hf
    refine x_iload_n 2 dX6_takeText_30 rfl rfl ?_
    refine x_iload_n 1 dX6_takeText_31 rfl rfl ?_
    refine x_icmp_gt 81 dX6_takeText_32 (by decide) (fun hB => ?_) (fun hB => ?_)
    · replace hf := f_if hB hf
      refine x_lv [(0, .ref 43)] [0] rfl ?_
      exact hk81 _ _ hf
    · replace hf := f_el hB hf
      refine x_aload_n 0 dX6_takeText_35 rfl rfl ?_
      refine x_getR dX6_takeText_36 lx_43 fl_X6_15 rfl ?_
      refine x_callVi [] (c_X7_isOver (I := I) (L := L) ) dX6_takeText_39 lk_X6_45 lx_39 rfl cd_X7_isOver rfl rfl (Nat.le_of_ble_eq_true rfl) ⟨rfl, rfl, Nat.le_of_ble_eq_true rfl, Nat.le_of_ble_eq_true rfl⟩ ?_
      refine x_if_neB 81 dX6_takeText_42 (by decide) (fun hB => ?_) (fun hB => ?_)
      · replace hf := f_if hB hf
        refine x_lv [(0, .ref 43)] [0] rfl ?_
        exact hk81 _ _ hf
      · replace hf := f_el hB hf
        refine x_aload_n 0 dX6_takeText_45 rfl rfl ?_
        refine x_getR dX6_takeText_46 lx_43 fl_X6_15 rfl ?_
        refine x_bipush (v := (21)) dX6_takeText_49 (by decide) ?_
        refine x_callVi [.int (21 : Int32)] (c_X7_isAt (I := I) (L := L) (21 : Int32)) dX6_takeText_51 lk_X6_49 lx_39 rfl cd_X7_isAt rfl rfl (Nat.le_of_ble_eq_true rfl) ⟨rfl, rfl, Nat.le_of_ble_eq_true rfl, Nat.le_of_ble_eq_true rfl⟩ ?_
        refine x_if_eqB 64 dX6_takeText_54 (by decide) (fun hB => ?_) (fun hB => ?_)
        · replace hf := f_el hB hf
          refine x_aload_n 0 dX6_takeText_64 rfl rfl ?_
          obtain ⟨q7, hq8, hf⟩ := f_bd hf
          refine x_callVi [] (c_X6_takeStep (I := I) (L := L)  hq8) dX6_takeText_65 lk_X6_56 lx_43 rfl cd_X6_takeStep rfl rfl (Nat.le_of_ble_eq_true rfl) ⟨rfl, rfl, Nat.le_of_ble_eq_true rfl, Nat.le_of_ble_eq_true rfl⟩ ?_
          refine x_istore_n [(3, .int (zb q7.1)), (0, .ref 43), (1, .int v1), (2, .int v2)] dX6_takeText_68 rfl (by decide) rfl ?_
          refine x_iload_n 0 dX6_takeText_69 rfl rfl ?_
          refine x_if_neB 75 dX6_takeText_70 (by decide) (fun hB => ?_) (fun hB => ?_)
          · replace hf := f_if hB hf
            refine x_iinc 3 [(2, .int (v2 + (1 : Int32))), (3, .int (zb q7.1)), (0, .ref 43), (1, .int v1)] dX6_takeText_75 rfl rfl (by decide) rfl ?_
            refine x_goto 30 dX6_takeText_78 (by decide) ?_
            refine x_lv [(0, .ref 43), (1, .int v1), (2, .int (v2 + (1 : Int32)))] [2, 3, 0] rfl ?_
            exact ih _ _ _ hf
          · replace hf := f_el hB hf
            refine x_iconst (v := (0)) dX6_takeText_73 (by decide) ?_
            cases hf
            exact x_zret (b := false) dX6_takeText_74 rfl rfl
        · replace hf := f_if hB hf
          refine x_aload_n 0 dX6_takeText_57 rfl rfl ?_
          obtain ⟨q5, hq6, hf⟩ := f_bd hf
          refine x_callVi [] (c_X6_takeEnd (I := I) (L := L)  hq6) dX6_takeText_58 lk_X6_53 lx_43 rfl cd_X6_takeEnd rfl rfl (Nat.le_of_ble_eq_true rfl) ⟨rfl, rfl, Nat.le_of_ble_eq_true rfl, Nat.le_of_ble_eq_true rfl⟩ ?_
          refine x_goto 68 dX6_takeText_61 (by decide) ?_
          refine x_istore_n [(3, .int (zb q5.1)), (0, .ref 43), (1, .int v1), (2, .int v2)] dX6_takeText_68 rfl (by decide) rfl ?_
          refine x_iload_n 0 dX6_takeText_69 rfl rfl ?_
          refine x_if_neB 75 dX6_takeText_70 (by decide) (fun hB => ?_) (fun hB => ?_)
          · replace hf := f_if hB hf
            refine x_iinc 3 [(2, .int (v2 + (1 : Int32))), (3, .int (zb q5.1)), (0, .ref 43), (1, .int v1)] dX6_takeText_75 rfl rfl (by decide) rfl ?_
            refine x_goto 30 dX6_takeText_78 (by decide) ?_
            refine x_lv [(0, .ref 43), (1, .int v1), (2, .int (v2 + (1 : Int32)))] [2, 3, 0] rfl ?_
            exact ih _ _ _ hf
          · replace hf := f_el hB hf
            refine x_iconst (v := (0)) dX6_takeText_73 (by decide) ?_
            cases hf
            exact x_zret (b := false) dX6_takeText_74 rfl rfl
set_option maxRecDepth 100000 in
set_option maxHeartbeats 4000000 in
theorem c_X6_takeText {I : z_I} {L : z_L} {p0 : Int32}  {r : Bool × z_I × z_L} (hf : f_X6_takeText I L p0 = some r) : z_C layX yX6_takeText cX6_takeText 4 (some .boolean) ({ frames := 6, cells := 0, slots := 0, locals := 135 } : Room) [.ref 43, .int p0] I L (some (.int (zb r.1)), r.2.1, r.2.2) := by
  refine z_C.of (by decide) (Nat.le_of_ble_eq_true rfl) ?_
  show z_X layX RX6 cX6_takeText 4 (some .boolean) ({ frames := 6, cells := 0, slots := 0, locals := 135 } : Room) 0 [(0, .ref 43), (1, .int p0)] [] I L (some (.int (zb r.1)), r.2.1, r.2.2)
  unfold f_X6_takeText at hf
  refine x_aload_n 0 dX6_takeText_0 rfl rfl ?_
  refine x_getR dX6_takeText_1 lx_43 fl_X6_19 rfl ?_
  refine x_callVv [] (c_X5_clear (I := I) (L := L) 33 zt_33) dX6_takeText_4 lk_X6_27 lx_33 rfl cd_X5_clear rfl rfl (Nat.le_of_ble_eq_true rfl) ⟨rfl, rfl, Nat.le_of_ble_eq_true rfl, Nat.le_of_ble_eq_true rfl⟩ ?_
  refine x_aload_n 0 dX6_takeText_7 rfl rfl ?_
  refine x_getR dX6_takeText_8 lx_43 fl_X6_19 rfl ?_
  refine x_iconst (v := (1)) dX6_takeText_11 (by decide) ?_
  obtain ⟨I1, hI1, hf⟩ := f_lt hf
  refine x_putB (b := true) dX6_takeText_12 lx_33 fl_X6_32 rfl rfl hI1 ?_
  refine x_aload_n 0 dX6_takeText_15 rfl rfl ?_
  refine x_iconst (v := (0)) dX6_takeText_16 (by decide) ?_
  obtain ⟨I2, hI2, hf⟩ := f_lt hf
  refine x_putI dX6_takeText_17 lx_43 fl_X6_36 rfl rfl rfl hI2 ?_
  refine x_aload_n 0 dX6_takeText_20 rfl rfl ?_
  refine x_getR dX6_takeText_21 lx_43 fl_X6_15 rfl ?_
  refine x_iload_n 1 dX6_takeText_24 rfl rfl ?_
  obtain ⟨q3, hq4, hf⟩ := f_bd hf
  refine x_callVv [.int p0] (c_X7_open (I := I2) (L := L)  hq4) dX6_takeText_25 lk_X6_40 lx_39 rfl cd_X7_open rfl rfl (Nat.le_of_ble_eq_true rfl) ⟨rfl, rfl, Nat.le_of_ble_eq_true rfl, Nat.le_of_ble_eq_true rfl⟩ ?_
  refine x_iconst (v := (0)) dX6_takeText_28 (by decide) ?_
  refine x_istore_n [(2, .int (0 : Int32)), (0, .ref 43), (1, .int p0)] dX6_takeText_29 rfl (by decide) rfl ?_
  refine x_lv [(0, .ref 43), (1, .int p0), (2, .int (0 : Int32))] [1, 2, 0] rfl ?_
  refine l_X6_takeText_30 p0 _ ?_ _ _ _ _ hf
  · intro I_9 L_10 hf
    refine x_aload_n 0 dX6_takeText_81 rfl rfl ?_
    refine x_getI (v := (I_9 43 4)) dX6_takeText_82 lx_43 fl_X6_36 rfl rfl ?_
    refine x_if_ne 92 dX6_takeText_85 (by decide) (fun hB => ?_) (fun hB => ?_)
    · replace hf := f_el hB hf
      refine x_aload_n 0 dX6_takeText_92 rfl rfl ?_
      refine x_getR dX6_takeText_93 lx_43 fl_X6_15 rfl ?_
      refine x_iconst (v := (2)) dX6_takeText_96 (by decide) ?_
      refine x_callVi [.int (2 : Int32)] (c_X7_fail (I := I_9) (L := L_10) (2 : Int32)) dX6_takeText_97 lk_X6_59 lx_39 rfl cd_X7_fail rfl rfl (Nat.le_of_ble_eq_true rfl) ⟨rfl, rfl, Nat.le_of_ble_eq_true rfl, Nat.le_of_ble_eq_true rfl⟩ ?_
      cases hf
      exact x_zret dX6_takeText_100 rfl rfl
    · replace hf := f_if hB hf
      refine x_iconst (v := (1)) dX6_takeText_88 (by decide) ?_
      refine x_goto 100 dX6_takeText_89 (by decide) ?_
      cases hf
      exact x_zret (b := true) dX6_takeText_100 rfl rfl
