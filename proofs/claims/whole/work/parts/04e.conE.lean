set_option maxRecDepth 100000 in
set_option maxHeartbeats 4000000 in
theorem l_X11_plain_2   (v1 : Int32) (L : z_L) {r : z_I} (k24 : z_I → Option (z_I)) (hk24 : ∀ (I : z_I), k24 I = some r → z_X layM RX11 cX11_plain 3 (none) ({ frames := 0, cells := 0, slots := 0, locals := 0 } : Room) 24 [(0, .ref 0), (1, .int v1)] [] I L (none, r, L)) : ∀ (n : Nat) (v2 : Int32) (I : z_I), g_X11_plain_2 v1 k24 n v2 I = some r → z_X layM RX11 cX11_plain 3 (none) ({ frames := 0, cells := 0, slots := 0, locals := 0 } : Room) 2 [(0, .ref 0), (1, .int v1), (2, .int v2)] [] I L (none, r, L) := by
  intro n
  induction n with
  | zero => intro v2 I hf; cases hf
  | succ n ih =>
    intro v2 I hf
    rw [g_X11_plain_2] at hf
    refine x_iload_n 2 dX11_plain_2 rfl rfl ?_
    refine x_sipush (v := (428)) dX11_plain_3 (by decide) ?_
    refine x_icmp_ge 24 dX11_plain_6 (by decide) (fun hB => ?_) (fun hB => ?_)
    · replace hf := f_if hB hf
      refine x_lv [(0, .ref 0), (1, .int v1)] [0, 1] rfl ?_
      exact hk24 _ hf
    · replace hf := f_el hB hf
      refine x_aload_n 0 dX11_plain_9 rfl rfl ?_
      refine x_getR dX11_plain_10 lm_0 fl_X11_7 rfl ?_
      refine x_iload_n 1 dX11_plain_13 rfl rfl ?_
      refine x_iload_n 2 dX11_plain_14 rfl rfl ?_
      refine x_iadd dX11_plain_15 ?_
      refine x_iconst (v := (0)) dX11_plain_16 (by decide) ?_
      obtain ⟨h1, hf⟩ := f_gd hf
      obtain ⟨I2, hI2, hf⟩ := f_lt hf
      refine x_iast (j0 := ((v1 + v2)).toNatClampNeg) dX11_plain_17 lm_1 h1 rfl hI2 ?_
      refine x_iinc 2 [(2, .int (v2 + (1 : Int32))), (0, .ref 0), (1, .int v1)] dX11_plain_18 rfl rfl (by decide) rfl ?_
      refine x_goto 2 dX11_plain_21 (by decide) ?_
      refine x_lv [(0, .ref 0), (1, .int v1), (2, .int (v2 + (1 : Int32)))] [1, 2, 0] rfl ?_
      exact ih _ _ hf
set_option maxRecDepth 100000 in
set_option maxHeartbeats 4000000 in
theorem c_X11_plain {I : z_I} {L : z_L} {p0 : Int32}  {r : z_I} (hf : f_X11_plain I p0 = some r) : z_C layM yX11_plain cX11_plain 3 (none) ({ frames := 0, cells := 0, slots := 0, locals := 0 } : Room) [.ref 0, .int p0] I L (none, r, L) := by
  refine z_C.of (by decide) (Nat.le_of_ble_eq_true rfl) ?_
  show z_X layM RX11 cX11_plain 3 (none) ({ frames := 0, cells := 0, slots := 0, locals := 0 } : Room) 0 [(0, .ref 0), (1, .int p0)] [] I L (none, r, L)
  unfold f_X11_plain at hf
  refine x_iconst (v := (0)) dX11_plain_0 (by decide) ?_
  refine x_istore_n [(2, .int (0 : Int32)), (0, .ref 0), (1, .int p0)] dX11_plain_1 rfl (by decide) rfl ?_
  refine x_lv [(0, .ref 0), (1, .int p0), (2, .int (0 : Int32))] [1, 2, 0] rfl ?_
  refine l_X11_plain_2 p0 (L) _ ?_ _ _ _ hf
  · intro I_3 hf
    refine x_aload_n 0 dX11_plain_24 rfl rfl ?_
    refine x_getR dX11_plain_25 lm_0 fl_X11_7 rfl ?_
    refine x_iload_n 1 dX11_plain_28 rfl rfl ?_
    refine x_iconst (v := (4)) dX11_plain_29 (by decide) ?_
    refine x_iadd dX11_plain_30 ?_
    refine x_bipush (v := (8)) dX11_plain_31 (by decide) ?_
    obtain ⟨h4, hf⟩ := f_gd hf
    obtain ⟨I5, hI5, hf⟩ := f_lt hf
    refine x_iast (j0 := ((p0 + (4 : Int32))).toNatClampNeg) dX11_plain_33 lm_1 h4 rfl hI5 ?_
    refine x_aload_n 0 dX11_plain_34 rfl rfl ?_
    refine x_getR dX11_plain_35 lm_0 fl_X11_7 rfl ?_
    refine x_iload_n 1 dX11_plain_38 rfl rfl ?_
    refine x_bipush (v := (7)) dX11_plain_39 (by decide) ?_
    refine x_iadd dX11_plain_41 ?_
    refine x_iconst (v := (-1)) dX11_plain_42 (by decide) ?_
    obtain ⟨h6, hf⟩ := f_gd hf
    obtain ⟨I7, hI7, hf⟩ := f_lt hf
    refine x_iast (j0 := ((p0 + (7 : Int32))).toNatClampNeg) dX11_plain_43 lm_1 h6 rfl hI7 ?_
    cases hf
    exact x_vret dX11_plain_44 rfl rfl
set_option maxRecDepth 100000 in
set_option maxHeartbeats 4000000 in
theorem c_X11_status {I : z_I} {L : z_L}   : z_C layM yX11_status cX11_status 1 (some .int) ({ frames := 0, cells := 0, slots := 0, locals := 0 } : Room) [.ref 0] I L (some (.int (f_X11_status I)), I, L) := by
  obtain ⟨r, hf⟩ : ∃ r, f_X11_status I = r := ⟨_, rfl⟩
  rw [hf]
  refine z_C.of (by decide) (Nat.le_of_ble_eq_true rfl) ?_
  show z_X layM RX11 cX11_status 1 (some .int) ({ frames := 0, cells := 0, slots := 0, locals := 0 } : Room) 0 [(0, .ref 0)] [] I L (some (.int r), I, L)
  unfold f_X11_status at hf
  refine x_aload_n 0 dX11_status_0 rfl rfl ?_
  refine x_getI (v := (I 0 2)) dX11_status_1 lm_0 fl_X11_93 rfl rfl ?_
  subst hf
  exact x_iret dX11_status_4 rfl rfl
set_option maxRecDepth 100000 in
set_option maxHeartbeats 4000000 in
theorem c_X11_top {I : z_I} {L : z_L}   : z_C layM yX11_top cX11_top 1 (some .long) ({ frames := 0, cells := 0, slots := 0, locals := 0 } : Room) [.ref 0] I L (some (.long (f_X11_top L)), I, L) := by
  obtain ⟨r, hf⟩ : ∃ r, f_X11_top L = r := ⟨_, rfl⟩
  rw [hf]
  refine z_C.of (by decide) (Nat.le_of_ble_eq_true rfl) ?_
  show z_X layM RX11 cX11_top 1 (some .long) ({ frames := 0, cells := 0, slots := 0, locals := 0 } : Room) 0 [(0, .ref 0)] [] I L (some (.long r), I, L)
  unfold f_X11_top at hf
  refine x_aload_n 0 dX11_top_0 rfl rfl ?_
  refine x_getL (v := (L 0 3)) dX11_top_1 lm_0 fl_X11_96 rfl rfl ?_
  subst hf
  exact x_lret dX11_top_4 rfl rfl
set_option maxRecDepth 100000 in
set_option maxHeartbeats 4000000 in
theorem c_X11_bottom {I : z_I} {L : z_L}   : z_C layM yX11_bottom cX11_bottom 1 (some .long) ({ frames := 0, cells := 0, slots := 0, locals := 0 } : Room) [.ref 0] I L (some (.long (f_X11_bottom L)), I, L) := by
  obtain ⟨r, hf⟩ : ∃ r, f_X11_bottom L = r := ⟨_, rfl⟩
  rw [hf]
  refine z_C.of (by decide) (Nat.le_of_ble_eq_true rfl) ?_
  show z_X layM RX11 cX11_bottom 1 (some .long) ({ frames := 0, cells := 0, slots := 0, locals := 0 } : Room) 0 [(0, .ref 0)] [] I L (some (.long r), I, L)
  unfold f_X11_bottom at hf
  refine x_aload_n 0 dX11_bottom_0 rfl rfl ?_
  refine x_getL (v := (L 0 4)) dX11_bottom_1 lm_0 fl_X11_17 rfl rfl ?_
  subst hf
  exact x_lret dX11_bottom_4 rfl rfl
set_option maxRecDepth 100000 in
set_option maxHeartbeats 4000000 in
theorem c_X11_is {I : z_I} {L : z_L} (p0 : Int32)  : z_C layM yX11_is cX11_is 2 (some .boolean) ({ frames := 0, cells := 0, slots := 0, locals := 0 } : Room) [.ref 0, .int p0] I L (some (.int (zb (f_X11_is I p0).1)), (f_X11_is I p0).2, L) := by
  obtain ⟨r, hf⟩ : ∃ r, f_X11_is I p0 = r := ⟨_, rfl⟩
  rw [hf]
  refine z_C.of (by decide) (Nat.le_of_ble_eq_true rfl) ?_
  show z_X layM RX11 cX11_is 2 (some .boolean) ({ frames := 0, cells := 0, slots := 0, locals := 0 } : Room) 0 [(0, .ref 0), (1, .int p0)] [] I L (some (.int (zb r.1)), r.2, L)
  unfold f_X11_is at hf
  refine x_aload_n 0 dX11_is_0 rfl rfl ?_
  refine x_iload_n 1 dX11_is_1 rfl rfl ?_
  obtain ⟨I1, hI1, hf⟩ := f_lt hf
  refine x_putI dX11_is_2 lm_0 fl_X11_93 rfl rfl rfl hI1 ?_
  refine x_iload_n 1 dX11_is_5 rfl rfl ?_
  refine x_if_ne 13 dX11_is_6 (by decide) (fun hB => ?_) (fun hB => ?_)
  · replace hf := t_el hB hf
    refine x_iconst (v := (0)) dX11_is_13 (by decide) ?_
    subst hf
    exact x_zret (b := false) dX11_is_14 rfl rfl
  · replace hf := t_if hB hf
    refine x_iconst (v := (1)) dX11_is_9 (by decide) ?_
    refine x_goto 14 dX11_is_10 (by decide) ?_
    subst hf
    exact x_zret (b := true) dX11_is_14 rfl rfl
set_option maxRecDepth 100000 in
set_option maxHeartbeats 4000000 in
theorem c_X11_refuse {I : z_I} {L : z_L} (p0 : Int32)  : z_C layM yX11_refuse cX11_refuse 2 (some .int) ({ frames := 0, cells := 0, slots := 0, locals := 0 } : Room) [.ref 0, .int p0] I L (some (.int (f_X11_refuse I p0).1), (f_X11_refuse I p0).2, L) := by
  obtain ⟨r, hf⟩ : ∃ r, f_X11_refuse I p0 = r := ⟨_, rfl⟩
  rw [hf]
  refine z_C.of (by decide) (Nat.le_of_ble_eq_true rfl) ?_
  show z_X layM RX11 cX11_refuse 2 (some .int) ({ frames := 0, cells := 0, slots := 0, locals := 0 } : Room) 0 [(0, .ref 0), (1, .int p0)] [] I L (some (.int r.1), r.2, L)
  unfold f_X11_refuse at hf
  refine x_aload_n 0 dX11_refuse_0 rfl rfl ?_
  refine x_iload_n 1 dX11_refuse_1 rfl rfl ?_
  obtain ⟨I1, hI1, hf⟩ := f_lt hf
  refine x_putI dX11_refuse_2 lm_0 fl_X11_93 rfl rfl rfl hI1 ?_
  refine x_iconst (v := (-1)) dX11_refuse_5 (by decide) ?_
  subst hf
  exact x_iret dX11_refuse_6 rfl rfl
set_option maxRecDepth 100000 in
set_option maxHeartbeats 4000000 in
theorem c_X11_gives {I : z_I} {L : z_L} (p0 : Int32)  : z_C layM yX11_gives cX11_gives 2 (some .int) ({ frames := 0, cells := 0, slots := 0, locals := 0 } : Room) [.ref 0, .int p0] I L (some (.int (f_X11_gives I p0).1), (f_X11_gives I p0).2, L) := by
  obtain ⟨r, hf⟩ : ∃ r, f_X11_gives I p0 = r := ⟨_, rfl⟩
  rw [hf]
  refine z_C.of (by decide) (Nat.le_of_ble_eq_true rfl) ?_
  show z_X layM RX11 cX11_gives 2 (some .int) ({ frames := 0, cells := 0, slots := 0, locals := 0 } : Room) 0 [(0, .ref 0), (1, .int p0)] [] I L (some (.int r.1), r.2, L)
  unfold f_X11_gives at hf
  refine x_aload_n 0 dX11_gives_0 rfl rfl ?_
  refine x_iconst (v := (0)) dX11_gives_1 (by decide) ?_
  obtain ⟨I1, hI1, hf⟩ := f_lt hf
  refine x_putI dX11_gives_2 lm_0 fl_X11_93 rfl rfl rfl hI1 ?_
  refine x_iload_n 1 dX11_gives_5 rfl rfl ?_
  subst hf
  exact x_iret dX11_gives_6 rfl rfl
set_option maxRecDepth 100000 in
set_option maxHeartbeats 4000000 in
theorem c_X11_orNone {I : z_I} {L : z_L} (p0 : Int32)  : z_C layM yX11_orNone cX11_orNone 2 (some .int) ({ frames := 1, cells := 0, slots := 0, locals := 21 } : Room) [.ref 0, .int p0] I L (some (.int (f_X11_orNone I p0).1), (f_X11_orNone I p0).2, L) := by
  obtain ⟨r, hf⟩ : ∃ r, f_X11_orNone I p0 = r := ⟨_, rfl⟩
  rw [hf]
  refine z_C.of (by decide) (Nat.le_of_ble_eq_true rfl) ?_
  show z_X layM RX11 cX11_orNone 2 (some .int) ({ frames := 1, cells := 0, slots := 0, locals := 21 } : Room) 0 [(0, .ref 0), (1, .int p0)] [] I L (some (.int r.1), r.2, L)
  unfold f_X11_orNone at hf
  refine x_iload_n 1 dX11_orNone_0 rfl rfl ?_
  refine x_iconst (v := (-1)) dX11_orNone_1 (by decide) ?_
  refine x_icmp_ne 12 dX11_orNone_2 (by decide) (fun hB => ?_) (fun hB => ?_)
  · replace hf := t_el hB hf
    refine x_aload_n 0 dX11_orNone_12 rfl rfl ?_
    refine x_iload_n 1 dX11_orNone_13 rfl rfl ?_
    refine x_callVi [.int p0] (c_X11_gives (I := I) (L := L) p0) dX11_orNone_14 lk_X11_103 lm_0 rfl cd_X11_gives rfl rfl (Nat.le_of_ble_eq_true rfl) ⟨rfl, rfl, Nat.le_of_ble_eq_true rfl, Nat.le_of_ble_eq_true rfl⟩ ?_
    subst hf
    exact x_iret dX11_orNone_17 rfl rfl
  · replace hf := t_if hB hf
    refine x_aload_n 0 dX11_orNone_5 rfl rfl ?_
    refine x_bipush (v := (6)) dX11_orNone_6 (by decide) ?_
    refine x_callVi [.int (6 : Int32)] (c_X11_refuse (I := I) (L := L) (6 : Int32)) dX11_orNone_8 lk_X11_99 lm_0 rfl cd_X11_refuse rfl rfl (Nat.le_of_ble_eq_true rfl) ⟨rfl, rfl, Nat.le_of_ble_eq_true rfl, Nat.le_of_ble_eq_true rfl⟩ ?_
    subst hf
    exact x_iret dX11_orNone_11 rfl rfl
set_option maxRecDepth 100000 in
set_option maxHeartbeats 4000000 in
theorem l_X11_tellsBy_6   (v1 : Int64) (v3 : Int64) (I : z_I) (L : z_L) {r : Bool × z_I × z_L} (k31 : Int64 → Option (Bool × z_I × z_L)) (hk31 : ∀ (v5 : Int64), k31 v5 = some r → z_X layM RX11 cX11_tellsBy 11 (some .boolean) ({ frames := 1, cells := 0, slots := 0, locals := 21 } : Room) 31 [(0, .ref 0), (1, .long v1), (3, .long v3), (5, .long v5)] [] I L (some (.int (zb r.1)), r.2.1, r.2.2)) : ∀ (n : Nat) (v5 : Int64) (v7 : Int64), g_X11_tellsBy_6 v1 v3 I L k31 n v5 v7 = some r → z_X layM RX11 cX11_tellsBy 11 (some .boolean) ({ frames := 1, cells := 0, slots := 0, locals := 21 } : Room) 6 [(0, .ref 0), (1, .long v1), (3, .long v3), (5, .long v5), (7, .long v7)] [] I L (some (.int (zb r.1)), r.2.1, r.2.2) := by
  intro n
  induction n with
  | zero => intro v5 v7 hf; cases hf
  | succ n ih =>
    intro v5 v7 hf
    rw [g_X11_tellsBy_6] at hf
    refine x_lload 4 dX11_tellsBy_6 rfl ?_
    refine x_lconst (v := (0)) dX11_tellsBy_8 (by decide) ?_
    refine x_lcmp_eq 31 dX11_tellsBy_9 dX11_tellsBy_10 (by decide) (fun hB => ?_) (fun hB => ?_)
    · replace hf := f_if hB hf
      refine x_lv [(0, .ref 0), (1, .long v1), (3, .long v3), (5, .long v5)] [0, 1, 2, 3] rfl ?_
      exact hk31 _ hf
    · replace hf := f_el hB hf
      refine x_lload 3 dX11_tellsBy_13 rfl ?_
      refine x_lload 4 dX11_tellsBy_15 rfl ?_
      obtain ⟨h1, hf⟩ := f_gd hf
      refine x_lrem dX11_tellsBy_17 h1 ?_
      refine x_lstore [(9, .long (v5 - v5 / v7 * v7)), (0, .ref 0), (1, .long v1), (3, .long v3), (5, .long v5), (7, .long v7)] dX11_tellsBy_18 (by decide) rfl ?_
      refine x_lload 5 dX11_tellsBy_20 rfl ?_
      refine x_lstore [(5, .long v7), (9, .long (v5 - v5 / v7 * v7)), (0, .ref 0), (1, .long v1), (3, .long v3), (7, .long v7)] dX11_tellsBy_22 (by decide) rfl ?_
      refine x_lload 1 dX11_tellsBy_24 rfl ?_
      refine x_lstore [(7, .long (v5 - v5 / v7 * v7)), (5, .long v7), (9, .long (v5 - v5 / v7 * v7)), (0, .ref 0), (1, .long v1), (3, .long v3)] dX11_tellsBy_26 (by decide) rfl ?_
      refine x_goto 6 dX11_tellsBy_28 (by decide) ?_
      refine x_lv [(0, .ref 0), (1, .long v1), (3, .long v3), (5, .long v7), (7, .long (v5 - v5 / v7 * v7))] [3, 4, 5, 1, 0] rfl ?_
      exact ih _ _ hf
set_option maxRecDepth 100000 in
set_option maxHeartbeats 4000000 in
theorem c_X11_tellsBy {I : z_I} {L : z_L} {p0 : Int64} {p1 : Int64}  {r : Bool × z_I × z_L} (hf : f_X11_tellsBy I L p0 p1 = some r) : z_C layM yX11_tellsBy cX11_tellsBy 11 (some .boolean) ({ frames := 1, cells := 0, slots := 0, locals := 21 } : Room) [.ref 0, .long p0, .long p1] I L (some (.int (zb r.1)), r.2.1, r.2.2) := by
  refine z_C.of (by decide) (Nat.le_of_ble_eq_true rfl) ?_
  show z_X layM RX11 cX11_tellsBy 11 (some .boolean) ({ frames := 1, cells := 0, slots := 0, locals := 21 } : Room) 0 [(0, .ref 0), (1, .long p0), (3, .long p1)] [] I L (some (.int (zb r.1)), r.2.1, r.2.2)
  unfold f_X11_tellsBy at hf
  refine x_lload_n 1 dX11_tellsBy_0 rfl rfl ?_
  refine x_lstore [(5, .long p0), (0, .ref 0), (1, .long p0), (3, .long p1)] dX11_tellsBy_1 (by decide) rfl ?_
  refine x_lload_n 3 dX11_tellsBy_3 rfl rfl ?_
  refine x_lstore [(7, .long p1), (5, .long p0), (0, .ref 0), (1, .long p0), (3, .long p1)] dX11_tellsBy_4 (by decide) rfl ?_
  refine x_lv [(0, .ref 0), (1, .long p0), (3, .long p1), (5, .long p0), (7, .long p1)] [2, 3, 4, 1, 0] rfl ?_
  refine l_X11_tellsBy_6 p0 p1 (I) (L) _ ?_ _ _ _ hf
  · intro v5_2 hf
    refine x_aload_n 0 dX11_tellsBy_31 rfl rfl ?_
    refine x_lload_n 1 dX11_tellsBy_32 rfl rfl ?_
    refine x_lload 3 dX11_tellsBy_33 rfl ?_
    obtain ⟨h3, hf⟩ := f_gd hf
    refine x_ldiv dX11_tellsBy_35 h3 ?_
    obtain ⟨L4, hL4, hf⟩ := f_lt hf
    refine x_putL dX11_tellsBy_36 lm_0 fl_X11_96 rfl rfl rfl hL4 ?_
    refine x_aload_n 0 dX11_tellsBy_39 rfl rfl ?_
    refine x_lload_n 2 dX11_tellsBy_40 rfl rfl ?_
    refine x_lload 3 dX11_tellsBy_41 rfl ?_
    obtain ⟨h5, hf⟩ := f_gd hf
    refine x_ldiv dX11_tellsBy_43 h5 ?_
    obtain ⟨L6, hL6, hf⟩ := f_lt hf
    refine x_putL dX11_tellsBy_44 lm_0 fl_X11_17 rfl rfl rfl hL6 ?_
    refine x_aload_n 0 dX11_tellsBy_47 rfl rfl ?_
    refine x_iconst (v := (0)) dX11_tellsBy_48 (by decide) ?_
    refine x_callVi [.int (0 : Int32)] (c_X11_is (I := I) (L := L6) (0 : Int32)) dX11_tellsBy_49 lk_X11_106 lm_0 rfl cd_X11_is rfl rfl (Nat.le_of_ble_eq_true rfl) ⟨rfl, rfl, Nat.le_of_ble_eq_true rfl, Nat.le_of_ble_eq_true rfl⟩ ?_
    cases hf
    exact x_zret dX11_tellsBy_52 rfl rfl
set_option maxRecDepth 100000 in
set_option maxHeartbeats 4000000 in
theorem c_X11_isTray {I : z_I} {L : z_L} (p0 : Int32)  : z_C layM yX11_isTray cX11_isTray 1 (some .boolean) ({ frames := 0, cells := 0, slots := 0, locals := 0 } : Room) [.int p0] I L (some (.int (zb (f_X11_isTray p0))), I, L) := by
  obtain ⟨r, hf⟩ : ∃ r, f_X11_isTray p0 = r := ⟨_, rfl⟩
  rw [hf]
  refine z_C.of (by decide) (Nat.le_of_ble_eq_true rfl) ?_
  show z_X layM RX11 cX11_isTray 1 (some .boolean) ({ frames := 0, cells := 0, slots := 0, locals := 0 } : Room) 0 [(0, .int p0)] [] I L (some (.int (zb r)), I, L)
  unfold f_X11_isTray at hf
  refine x_iload_n 0 dX11_isTray_0 rfl rfl ?_
  refine x_if_lt 13 dX11_isTray_1 (by decide) (fun hB => ?_) (fun hB => ?_)
  · replace hf := t_if hB hf
    refine x_iconst (v := (0)) dX11_isTray_13 (by decide) ?_
    subst hf
    exact x_zret (b := false) dX11_isTray_14 rfl rfl
  · replace hf := t_el hB hf
    refine x_iload_n 0 dX11_isTray_4 rfl rfl ?_
    refine x_iconst (v := (4)) dX11_isTray_5 (by decide) ?_
    refine x_icmp_ge 13 dX11_isTray_6 (by decide) (fun hB => ?_) (fun hB => ?_)
    · replace hf := t_if hB hf
      refine x_iconst (v := (0)) dX11_isTray_13 (by decide) ?_
      subst hf
      exact x_zret (b := false) dX11_isTray_14 rfl rfl
    · replace hf := t_el hB hf
      refine x_iconst (v := (1)) dX11_isTray_9 (by decide) ?_
      refine x_goto 14 dX11_isTray_10 (by decide) ?_
      subst hf
      exact x_zret (b := true) dX11_isTray_14 rfl rfl
set_option maxRecDepth 100000 in
set_option maxHeartbeats 4000000 in
theorem c_X11_cut {I : z_I} {L : z_L} (p0 : Int64) (p1 : Int32)  : z_C layM yX11_cut cX11_cut 3 (some .long) ({ frames := 0, cells := 0, slots := 0, locals := 0 } : Room) [.long p0, .int p1] I L (some (.long (f_X11_cut p0 p1)), I, L) := by
  obtain ⟨r, hf⟩ : ∃ r, f_X11_cut p0 p1 = r := ⟨_, rfl⟩
  rw [hf]
  refine z_C.of (by decide) (Nat.le_of_ble_eq_true rfl) ?_
  show z_X layM RX11 cX11_cut 3 (some .long) ({ frames := 0, cells := 0, slots := 0, locals := 0 } : Room) 0 [(0, .long p0), (2, .int p1)] [] I L (some (.long r), I, L)
  unfold f_X11_cut at hf
  refine x_iload_n 1 dX11_cut_0 rfl rfl ?_
  refine x_if_ne 11 dX11_cut_1 (by decide) (fun hB => ?_) (fun hB => ?_)
  · replace hf := t_el hB hf
    refine x_iload_n 1 dX11_cut_11 rfl rfl ?_
    refine x_iconst (v := (1)) dX11_cut_12 (by decide) ?_
    refine x_icmp_ne 23 dX11_cut_13 (by decide) (fun hB => ?_) (fun hB => ?_)
    · replace hf := t_el hB hf
      refine x_iload_n 1 dX11_cut_23 rfl rfl ?_
      refine x_iconst (v := (2)) dX11_cut_24 (by decide) ?_
      refine x_icmp_ne 34 dX11_cut_25 (by decide) (fun hB => ?_) (fun hB => ?_)
      · replace hf := t_el hB hf
        refine x_lload_n 0 dX11_cut_34 rfl rfl ?_
        subst hf
        exact x_lret dX11_cut_35 rfl rfl
      · replace hf := t_if hB hf
        refine x_lload_n 0 dX11_cut_28 rfl rfl ?_
        refine x_l2i dX11_cut_29 ?_
        refine x_i2l dX11_cut_30 ?_
        refine x_goto 35 dX11_cut_31 (by decide) ?_
        subst hf
        exact x_lret dX11_cut_35 rfl rfl
    · replace hf := t_if hB hf
      refine x_lload_n 0 dX11_cut_16 rfl rfl ?_
      refine x_l2i dX11_cut_17 ?_
      refine x_i2s dX11_cut_18 ?_
      refine x_i2l dX11_cut_19 ?_
      refine x_goto 35 dX11_cut_20 (by decide) ?_
      subst hf
      exact x_lret dX11_cut_35 rfl rfl
  · replace hf := t_if hB hf
    refine x_lload_n 0 dX11_cut_4 rfl rfl ?_
    refine x_l2i dX11_cut_5 ?_
    refine x_i2b dX11_cut_6 ?_
    refine x_i2l dX11_cut_7 ?_
    refine x_goto 35 dX11_cut_8 (by decide) ?_
    subst hf
    exact x_lret dX11_cut_35 rfl rfl
set_option maxRecDepth 100000 in
set_option maxHeartbeats 4000000 in
theorem l_X11_tray_49   (v1 : Int32) (v3 : Int32) (I : z_I) {r : Bool × z_I × z_L}  : ∀ (n : Nat) (v4 : Int32) (L : z_L), g_X11_tray_49 v1 v3 I  n v4 L = some r → z_X layM RX11 cX11_tray 5 (some .boolean) ({ frames := 1, cells := 0, slots := 0, locals := 21 } : Room) 49 [(0, .ref 0), (1, .int v1), (3, .int v3), (4, .int v4)] [] I L (some (.int (zb r.1)), r.2.1, r.2.2) := by
  intro n
  induction n with
  | zero => intro v4 L hf; cases hf
  | succ n ih =>
    intro v4 L hf
    rw [g_X11_tray_49] at hf
    refine x_iload 3 dX11_tray_49 rfl ?_
    refine x_iload_n 2 dX11_tray_51 rfl rfl ?_
    refine x_icmp_ge 74 dX11_tray_52 (by decide) (fun hB => ?_) (fun hB => ?_)
    · replace hf := f_if hB hf
      refine x_aload_n 0 dX11_tray_74 rfl rfl ?_
      refine x_iconst (v := (0)) dX11_tray_75 (by decide) ?_
      refine x_callVi [.int (0 : Int32)] (c_X11_is (I := I) (L := L) (0 : Int32)) dX11_tray_76 lk_X11_106 lm_0 rfl cd_X11_is rfl rfl (Nat.le_of_ble_eq_true rfl) ⟨rfl, rfl, Nat.le_of_ble_eq_true rfl, Nat.le_of_ble_eq_true rfl⟩ ?_
      cases hf
      exact x_zret dX11_tray_79 rfl rfl
    · replace hf := f_el hB hf
      refine x_aload_n 0 dX11_tray_55 rfl rfl ?_
      refine x_getR dX11_tray_56 lm_0 fl_X11_27 rfl ?_
      refine x_bipush (v := (60)) dX11_tray_59 (by decide) ?_
      refine x_iload_n 1 dX11_tray_61 rfl rfl ?_
      refine x_imul dX11_tray_62 ?_
      refine x_iload 3 dX11_tray_63 rfl ?_
      refine x_iadd dX11_tray_65 ?_
      refine x_lconst (v := (0)) dX11_tray_66 (by decide) ?_
      obtain ⟨h5, hf⟩ := f_gd hf
      obtain ⟨L6, hL6, hf⟩ := f_lt hf
      refine x_last (j0 := ((((60 : Int32) * v1) + v4)).toNatClampNeg) dX11_tray_67 lm_5 h5 rfl hL6 ?_
      refine x_iinc 3 [(4, .int (v4 + (1 : Int32))), (0, .ref 0), (1, .int v1), (3, .int v3)] dX11_tray_68 rfl rfl (by decide) rfl ?_
      refine x_goto 49 dX11_tray_71 (by decide) ?_
      refine x_lv [(0, .ref 0), (1, .int v1), (3, .int v3), (4, .int (v4 + (1 : Int32)))] [1, 2, 3, 0] rfl ?_
      exact ih _ _ hf
set_option maxRecDepth 100000 in
set_option maxHeartbeats 4000000 in
theorem c_X11_tray {I : z_I} {L : z_L} {p0 : Int32} {p1 : Int32} {p2 : Int32}  {r : Bool × z_I × z_L} (hf : f_X11_tray I L p0 p1 p2 = some r) : z_C layM yX11_tray cX11_tray 5 (some .boolean) ({ frames := 1, cells := 0, slots := 0, locals := 21 } : Room) [.ref 0, .int p0, .int p1, .int p2] I L (some (.int (zb r.1)), r.2.1, r.2.2) := by
  refine z_C.of (by decide) (Nat.le_of_ble_eq_true rfl) ?_
  show z_X layM RX11 cX11_tray 5 (some .boolean) ({ frames := 1, cells := 0, slots := 0, locals := 21 } : Room) 0 [(0, .ref 0), (1, .int p0), (2, .int p1), (3, .int p2)] [] I L (some (.int (zb r.1)), r.2.1, r.2.2)
  unfold f_X11_tray at hf
  refine x_iload_n 1 dX11_tray_0 rfl rfl ?_
  refine x_callSi [.int p0] (c_X11_isTray (I := I) (L := L) p0) dX11_tray_1 lk_X11_110 cd_X11_isTray rfl rfl (Nat.le_of_ble_eq_true rfl) ⟨rfl, rfl, Nat.le_of_ble_eq_true rfl, Nat.le_of_ble_eq_true rfl⟩ ?_
  refine x_if_eqB 26 dX11_tray_4 (by decide) (fun hB => ?_) (fun hB => ?_)
  · replace hf := f_el hB hf
    refine x_aload_n 0 dX11_tray_26 rfl rfl ?_
    refine x_iconst (v := (1)) dX11_tray_27 (by decide) ?_
    refine x_callVi [.int (1 : Int32)] (c_X11_is (I := I) (L := L) (1 : Int32)) dX11_tray_28 lk_X11_106 lm_0 rfl cd_X11_is rfl rfl (Nat.le_of_ble_eq_true rfl) ⟨rfl, rfl, Nat.le_of_ble_eq_true rfl, Nat.le_of_ble_eq_true rfl⟩ ?_
    cases hf
    exact x_zret dX11_tray_31 rfl rfl
  · replace hf := f_if hB hf
    refine x_iload_n 2 dX11_tray_7 rfl rfl ?_
    refine x_if_lt 26 dX11_tray_8 (by decide) (fun hB => ?_) (fun hB => ?_)
    · replace hf := f_if hB hf
      refine x_aload_n 0 dX11_tray_26 rfl rfl ?_
      refine x_iconst (v := (1)) dX11_tray_27 (by decide) ?_
      refine x_callVi [.int (1 : Int32)] (c_X11_is (I := I) (L := L) (1 : Int32)) dX11_tray_28 lk_X11_106 lm_0 rfl cd_X11_is rfl rfl (Nat.le_of_ble_eq_true rfl) ⟨rfl, rfl, Nat.le_of_ble_eq_true rfl, Nat.le_of_ble_eq_true rfl⟩ ?_
      cases hf
      exact x_zret dX11_tray_31 rfl rfl
    · replace hf := f_el hB hf
      refine x_iload_n 2 dX11_tray_11 rfl rfl ?_
      refine x_iconst (v := (3)) dX11_tray_12 (by decide) ?_
      refine x_icmp_gt 26 dX11_tray_13 (by decide) (fun hB => ?_) (fun hB => ?_)
      · replace hf := f_if hB hf
        refine x_aload_n 0 dX11_tray_26 rfl rfl ?_
        refine x_iconst (v := (1)) dX11_tray_27 (by decide) ?_
        refine x_callVi [.int (1 : Int32)] (c_X11_is (I := I) (L := L) (1 : Int32)) dX11_tray_28 lk_X11_106 lm_0 rfl cd_X11_is rfl rfl (Nat.le_of_ble_eq_true rfl) ⟨rfl, rfl, Nat.le_of_ble_eq_true rfl, Nat.le_of_ble_eq_true rfl⟩ ?_
        cases hf
        exact x_zret dX11_tray_31 rfl rfl
      · replace hf := f_el hB hf
        refine x_iload_n 3 dX11_tray_16 rfl rfl ?_
        refine x_if_lt 26 dX11_tray_17 (by decide) (fun hB => ?_) (fun hB => ?_)
        · replace hf := f_if hB hf
          refine x_aload_n 0 dX11_tray_26 rfl rfl ?_
          refine x_iconst (v := (1)) dX11_tray_27 (by decide) ?_
          refine x_callVi [.int (1 : Int32)] (c_X11_is (I := I) (L := L) (1 : Int32)) dX11_tray_28 lk_X11_106 lm_0 rfl cd_X11_is rfl rfl (Nat.le_of_ble_eq_true rfl) ⟨rfl, rfl, Nat.le_of_ble_eq_true rfl, Nat.le_of_ble_eq_true rfl⟩ ?_
          cases hf
          exact x_zret dX11_tray_31 rfl rfl
        · replace hf := f_el hB hf
          refine x_iload_n 3 dX11_tray_20 rfl rfl ?_
          refine x_bipush (v := (60)) dX11_tray_21 (by decide) ?_
          refine x_icmp_le 32 dX11_tray_23 (by decide) (fun hB => ?_) (fun hB => ?_)
          · replace hf := f_if hB hf
            refine x_aload_n 0 dX11_tray_32 rfl rfl ?_
            refine x_getR dX11_tray_33 lm_0 fl_X11_21 rfl ?_
            refine x_iload_n 1 dX11_tray_36 rfl rfl ?_
            refine x_iload_n 2 dX11_tray_37 rfl rfl ?_
            obtain ⟨h1, hf⟩ := f_gd hf
            obtain ⟨I2, hI2, hf⟩ := f_lt hf
            refine x_iast (j0 := (p0).toNatClampNeg) dX11_tray_38 lm_3 h1 rfl hI2 ?_
            refine x_aload_n 0 dX11_tray_39 rfl rfl ?_
            refine x_getR dX11_tray_40 lm_0 fl_X11_24 rfl ?_
            refine x_iload_n 1 dX11_tray_43 rfl rfl ?_
            refine x_iload_n 3 dX11_tray_44 rfl rfl ?_
            obtain ⟨I4, hI4, hf⟩ := f_lt hf
            refine x_iast (j0 := (p0).toNatClampNeg) dX11_tray_45 lm_4 h1 rfl hI4 ?_
            refine x_iconst (v := (0)) dX11_tray_46 (by decide) ?_
            refine x_istore [(4, .int (0 : Int32)), (0, .ref 0), (1, .int p0), (2, .int p1), (3, .int p2)] dX11_tray_47 (by decide) rfl ?_
            refine x_lv [(0, .ref 0), (1, .int p0), (3, .int p2), (4, .int (0 : Int32))] [1, 2, 4, 0] rfl ?_
            refine l_X11_tray_49 p0 p2 (I4)   _ _ _ hf
          · replace hf := f_el hB hf
            refine x_aload_n 0 dX11_tray_26 rfl rfl ?_
            refine x_iconst (v := (1)) dX11_tray_27 (by decide) ?_
            refine x_callVi [.int (1 : Int32)] (c_X11_is (I := I) (L := L) (1 : Int32)) dX11_tray_28 lk_X11_106 lm_0 rfl cd_X11_is rfl rfl (Nat.le_of_ble_eq_true rfl) ⟨rfl, rfl, Nat.le_of_ble_eq_true rfl, Nat.le_of_ble_eq_true rfl⟩ ?_
            cases hf
            exact x_zret dX11_tray_31 rfl rfl
set_option maxRecDepth 100000 in
set_option maxHeartbeats 4000000 in
theorem c_X11_wrongPlace {I : z_I} {L : z_L} {p0 : Int32} {p1 : Int32}  {r : Int32} (hf : f_X11_wrongPlace I p0 p1 = some r) : z_C layM yX11_wrongPlace cX11_wrongPlace 3 (some .int) ({ frames := 1, cells := 0, slots := 0, locals := 20 } : Room) [.ref 0, .int p0, .int p1] I L (some (.int r), I, L) := by
  refine z_C.of (by decide) (Nat.le_of_ble_eq_true rfl) ?_
  show z_X layM RX11 cX11_wrongPlace 3 (some .int) ({ frames := 1, cells := 0, slots := 0, locals := 20 } : Room) 0 [(0, .ref 0), (1, .int p0), (2, .int p1)] [] I L (some (.int r), I, L)
  unfold f_X11_wrongPlace at hf
  refine x_iload_n 1 dX11_wrongPlace_0 rfl rfl ?_
  refine x_callSi [.int p0] (c_X11_isTray (I := I) (L := L) p0) dX11_wrongPlace_1 lk_X11_110 cd_X11_isTray rfl rfl (Nat.le_of_ble_eq_true rfl) ⟨rfl, rfl, Nat.le_of_ble_eq_true rfl, Nat.le_of_ble_eq_true rfl⟩ ?_
  refine x_if_neB 11 dX11_wrongPlace_4 (by decide) (fun hB => ?_) (fun hB => ?_)
  · replace hf := f_if hB hf
    refine x_aload_n 0 dX11_wrongPlace_11 rfl rfl ?_
    refine x_getR dX11_wrongPlace_12 lm_0 fl_X11_24 rfl ?_
    refine x_iload_n 1 dX11_wrongPlace_15 rfl rfl ?_
    obtain ⟨h1, hf⟩ := f_gd hf
    refine x_iald (j := (p0).toNatClampNeg) (v := (I 4 (p0).toNatClampNeg)) dX11_wrongPlace_16 lm_4 h1 rfl rfl ?_
    refine x_iconst (v := (-1)) dX11_wrongPlace_17 (by decide) ?_
    refine x_icmp_ne 25 dX11_wrongPlace_18 (by decide) (fun hB => ?_) (fun hB => ?_)
    · replace hf := f_el hB hf
      refine x_iload_n 2 dX11_wrongPlace_25 rfl rfl ?_
      refine x_if_lt 39 dX11_wrongPlace_26 (by decide) (fun hB => ?_) (fun hB => ?_)
      · replace hf := f_if hB hf
        refine x_iconst (v := (3)) dX11_wrongPlace_39 (by decide) ?_
        refine x_goto 44 dX11_wrongPlace_40 (by decide) ?_
        cases hf
        exact x_iret dX11_wrongPlace_44 rfl rfl
      · replace hf := f_el hB hf
        refine x_iload_n 2 dX11_wrongPlace_29 rfl rfl ?_
        refine x_aload_n 0 dX11_wrongPlace_30 rfl rfl ?_
        refine x_getR dX11_wrongPlace_31 lm_0 fl_X11_24 rfl ?_
        refine x_iload_n 1 dX11_wrongPlace_34 rfl rfl ?_
        refine x_iald (j := (p0).toNatClampNeg) (v := (I 4 (p0).toNatClampNeg)) dX11_wrongPlace_35 lm_4 h1 rfl rfl ?_
        refine x_icmp_lt 43 dX11_wrongPlace_36 (by decide) (fun hB => ?_) (fun hB => ?_)
        · replace hf := f_if hB hf
          refine x_iconst (v := (0)) dX11_wrongPlace_43 (by decide) ?_
          cases hf
          exact x_iret dX11_wrongPlace_44 rfl rfl
        · replace hf := f_el hB hf
          refine x_iconst (v := (3)) dX11_wrongPlace_39 (by decide) ?_
          refine x_goto 44 dX11_wrongPlace_40 (by decide) ?_
          cases hf
          exact x_iret dX11_wrongPlace_44 rfl rfl
    · replace hf := f_if hB hf
      refine x_iconst (v := (2)) dX11_wrongPlace_21 (by decide) ?_
      refine x_goto 44 dX11_wrongPlace_22 (by decide) ?_
      cases hf
      exact x_iret dX11_wrongPlace_44 rfl rfl
  · replace hf := f_el hB hf
    refine x_iconst (v := (1)) dX11_wrongPlace_7 (by decide) ?_
    refine x_goto 44 dX11_wrongPlace_8 (by decide) ?_
    cases hf
    exact x_iret dX11_wrongPlace_44 rfl rfl
set_option maxRecDepth 100000 in
set_option maxHeartbeats 4000000 in
theorem c_X11_write {I : z_I} {L : z_L} {p0 : Int32} {p1 : Int32} {p2 : Int64}  {r : Bool × z_I × z_L} (hf : f_X11_write I L p0 p1 p2 = some r) : z_C layM yX11_write cX11_write 6 (some .boolean) ({ frames := 2, cells := 0, slots := 0, locals := 42 } : Room) [.ref 0, .int p0, .int p1, .long p2] I L (some (.int (zb r.1)), r.2.1, r.2.2) := by
  refine z_C.of (by decide) (Nat.le_of_ble_eq_true rfl) ?_
  show z_X layM RX11 cX11_write 6 (some .boolean) ({ frames := 2, cells := 0, slots := 0, locals := 42 } : Room) 0 [(0, .ref 0), (1, .int p0), (2, .int p1), (3, .long p2)] [] I L (some (.int (zb r.1)), r.2.1, r.2.2)
  unfold f_X11_write at hf
  refine x_aload_n 0 dX11_write_0 rfl rfl ?_
  refine x_iload_n 1 dX11_write_1 rfl rfl ?_
  refine x_iload_n 2 dX11_write_2 rfl rfl ?_
  obtain ⟨q1, hq2, hf⟩ := f_bd hf
  refine x_callVi [.int p0, .int p1] (c_X11_wrongPlace (I := I) (L := L)  hq2) dX11_write_3 lk_X11_113 lm_0 rfl cd_X11_wrongPlace rfl rfl (Nat.le_of_ble_eq_true rfl) ⟨rfl, rfl, Nat.le_of_ble_eq_true rfl, Nat.le_of_ble_eq_true rfl⟩ ?_
  refine x_istore [(5, .int q1), (0, .ref 0), (1, .int p0), (2, .int p1), (3, .long p2)] dX11_write_6 (by decide) rfl ?_
  refine x_iload 0 dX11_write_8 rfl ?_
  refine x_if_ne 34 dX11_write_10 (by decide) (fun hB => ?_) (fun hB => ?_)
  · replace hf := f_el hB hf
    refine x_aload_n 1 dX11_write_34 rfl rfl ?_
    refine x_iload 0 dX11_write_35 rfl ?_
    refine x_callVi [.int q1] (c_X11_is (I := I) (L := L) q1) dX11_write_37 lk_X11_106 lm_0 rfl cd_X11_is rfl rfl (Nat.le_of_ble_eq_true rfl) ⟨rfl, rfl, Nat.le_of_ble_eq_true rfl, Nat.le_of_ble_eq_true rfl⟩ ?_
    cases hf
    exact x_zret dX11_write_40 rfl rfl
  · replace hf := f_if hB hf
    refine x_aload_n 1 dX11_write_13 rfl rfl ?_
    refine x_getR dX11_write_14 lm_0 fl_X11_27 rfl ?_
    refine x_bipush (v := (60)) dX11_write_17 (by decide) ?_
    refine x_iload_n 2 dX11_write_19 rfl rfl ?_
    refine x_imul dX11_write_20 ?_
    refine x_iload_n 3 dX11_write_21 rfl rfl ?_
    refine x_iadd dX11_write_22 ?_
    refine x_lload_n 4 dX11_write_23 rfl rfl ?_
    refine x_aload_n 1 dX11_write_24 rfl rfl ?_
    refine x_getR dX11_write_25 lm_0 fl_X11_21 rfl ?_
    refine x_iload_n 2 dX11_write_28 rfl rfl ?_
    obtain ⟨h3, hf⟩ := f_gd hf
    refine x_iald (j := (p0).toNatClampNeg) (v := (I 3 (p0).toNatClampNeg)) dX11_write_29 lm_3 h3 rfl rfl ?_
    refine x_callSl [.long p2, .int (I 3 (p0).toNatClampNeg)] (c_X11_cut (I := I) (L := L) p2 (I 3 (p0).toNatClampNeg)) dX11_write_30 lk_X11_117 cd_X11_cut rfl rfl (Nat.le_of_ble_eq_true rfl) ⟨rfl, rfl, Nat.le_of_ble_eq_true rfl, Nat.le_of_ble_eq_true rfl⟩ ?_
    obtain ⟨h4, hf⟩ := f_gd hf
    obtain ⟨L5, hL5, hf⟩ := f_lt hf
    refine x_last (j0 := ((((60 : Int32) * p0) + p1)).toNatClampNeg) dX11_write_33 lm_5 h4 rfl hL5 ?_
    refine x_aload_n 1 dX11_write_34 rfl rfl ?_
    refine x_iload 0 dX11_write_35 rfl ?_
    refine x_callVi [.int q1] (c_X11_is (I := I) (L := L5) q1) dX11_write_37 lk_X11_106 lm_0 rfl cd_X11_is rfl rfl (Nat.le_of_ble_eq_true rfl) ⟨rfl, rfl, Nat.le_of_ble_eq_true rfl, Nat.le_of_ble_eq_true rfl⟩ ?_
    cases hf
    exact x_zret dX11_write_40 rfl rfl
set_option maxRecDepth 100000 in
set_option maxHeartbeats 4000000 in
theorem c_X11_read {I : z_I} {L : z_L} {p0 : Int32} {p1 : Int32}  {r : Int64 × z_I} (hf : f_X11_read I L p0 p1 = some r) : z_C layM yX11_read cX11_read 3 (some .long) ({ frames := 2, cells := 0, slots := 0, locals := 42 } : Room) [.ref 0, .int p0, .int p1] I L (some (.long r.1), r.2, L) := by
  refine z_C.of (by decide) (Nat.le_of_ble_eq_true rfl) ?_
  show z_X layM RX11 cX11_read 3 (some .long) ({ frames := 2, cells := 0, slots := 0, locals := 42 } : Room) 0 [(0, .ref 0), (1, .int p0), (2, .int p1)] [] I L (some (.long r.1), r.2, L)
  unfold f_X11_read at hf
  refine x_aload_n 0 dX11_read_0 rfl rfl ?_
  refine x_aload_n 0 dX11_read_1 rfl rfl ?_
  refine x_iload_n 1 dX11_read_2 rfl rfl ?_
  refine x_iload_n 2 dX11_read_3 rfl rfl ?_
  obtain ⟨q1, hq2, hf⟩ := f_bd hf
  refine x_callVi [.int p0, .int p1] (c_X11_wrongPlace (I := I) (L := L)  hq2) dX11_read_4 lk_X11_113 lm_0 rfl cd_X11_wrongPlace rfl rfl (Nat.le_of_ble_eq_true rfl) ⟨rfl, rfl, Nat.le_of_ble_eq_true rfl, Nat.le_of_ble_eq_true rfl⟩ ?_
  obtain ⟨I3, hI3, hf⟩ := f_lt hf
  refine x_putI dX11_read_7 lm_0 fl_X11_93 rfl rfl rfl hI3 ?_
  refine x_aload_n 0 dX11_read_10 rfl rfl ?_
  refine x_getI (v := q1) dX11_read_11 lm_0 fl_X11_93 rfl (by rw [hI3, z2_s, z1_s]) ?_
  refine x_if_le 23 dX11_read_14 (by decide) (fun hB => ?_) (fun hB => ?_)
  · replace hf := f_if hB hf
    refine x_aload_n 0 dX11_read_23 rfl rfl ?_
    refine x_getR dX11_read_24 lm_0 fl_X11_27 rfl ?_
    refine x_bipush (v := (60)) dX11_read_27 (by decide) ?_
    refine x_iload_n 1 dX11_read_29 rfl rfl ?_
    refine x_imul dX11_read_30 ?_
    refine x_iload_n 2 dX11_read_31 rfl rfl ?_
    refine x_iadd dX11_read_32 ?_
    obtain ⟨h4, hf⟩ := f_gd hf
    refine x_lald (j := ((((60 : Int32) * p0) + p1)).toNatClampNeg) (v := (L 5 ((((60 : Int32) * p0) + p1)).toNatClampNeg)) dX11_read_33 lm_5 h4 rfl rfl ?_
    cases hf
    exact x_lret dX11_read_34 rfl rfl
  · replace hf := f_el hB hf
    refine x_ldc2 (v := (-1)) dX11_read_17 kc_X11_121 ?_
    refine x_goto 34 dX11_read_20 (by decide) ?_
    cases hf
    exact x_lret dX11_read_34 rfl rfl
set_option maxRecDepth 100000 in
set_option maxHeartbeats 4000000 in
theorem l_X11_pour_118   (v1 : Int32) (v2 : Int32) (v3 : Int32) (v4 : Int32) (v5 : Int32) (I : z_I) {r : Bool × z_I × z_L}  : ∀ (n : Nat) (v6 : Int32) (L : z_L), g_X11_pour_118 v1 v2 v3 v4 v5 I  n v6 L = some r → z_X layM RX11 cX11_pour 8 (some .boolean) ({ frames := 1, cells := 0, slots := 0, locals := 21 } : Room) 118 [(0, .ref 0), (1, .int v1), (2, .int v2), (3, .int v3), (4, .int v4), (5, .int v5), (6, .int v6)] [] I L (some (.int (zb r.1)), r.2.1, r.2.2) := by
  intro n
  induction n with
  | zero => intro v6 L hf; cases hf
  | succ n ih =>
    intro v6 L hf
    rw [g_X11_pour_118] at hf
    refine x_iload 6 dX11_pour_118 rfl ?_
    refine x_iload 5 dX11_pour_120 rfl ?_
    refine x_icmp_ge 180 dX11_pour_122 (by decide) (fun hB => ?_) (fun hB => ?_)
    · replace hf := f_if hB hf
      refine x_aload_n 0 dX11_pour_180 rfl rfl ?_
      refine x_iconst (v := (0)) dX11_pour_181 (by decide) ?_
      refine x_callVi [.int (0 : Int32)] (c_X11_is (I := I) (L := L) (0 : Int32)) dX11_pour_182 lk_X11_106 lm_0 rfl cd_X11_is rfl rfl (Nat.le_of_ble_eq_true rfl) ⟨rfl, rfl, Nat.le_of_ble_eq_true rfl, Nat.le_of_ble_eq_true rfl⟩ ?_
      cases hf
      exact x_zret dX11_pour_185 rfl rfl
    · replace hf := f_el hB hf
      refine x_iload_n 2 dX11_pour_125 rfl rfl ?_
      refine x_iload 4 dX11_pour_126 rfl ?_
      refine x_icmp_ge 141 dX11_pour_128 (by decide) (fun hB => ?_) (fun hB => ?_)
      · replace hf := f_if hB hf
        refine x_iload 6 dX11_pour_141 rfl ?_
        refine x_istore [(7, .int v6), (0, .ref 0), (1, .int v1), (2, .int v2), (3, .int v3), (4, .int v4), (5, .int v5), (6, .int v6)] dX11_pour_143 (by decide) rfl ?_
        refine x_aload_n 1 dX11_pour_145 rfl rfl ?_
        refine x_getR dX11_pour_146 lm_0 fl_X11_27 rfl ?_
        refine x_bipush (v := (60)) dX11_pour_149 (by decide) ?_
        refine x_iload_n 4 dX11_pour_151 rfl rfl ?_
        refine x_imul dX11_pour_152 ?_
        refine x_iload 5 dX11_pour_153 rfl ?_
        refine x_iadd dX11_pour_155 ?_
        refine x_iload 0 dX11_pour_156 rfl ?_
        refine x_iadd dX11_pour_158 ?_
        refine x_aload_n 1 dX11_pour_159 rfl rfl ?_
        refine x_getR dX11_pour_160 lm_0 fl_X11_27 rfl ?_
        refine x_bipush (v := (60)) dX11_pour_163 (by decide) ?_
        refine x_iload_n 2 dX11_pour_165 rfl rfl ?_
        refine x_imul dX11_pour_166 ?_
        refine x_iload_n 3 dX11_pour_167 rfl rfl ?_
        refine x_iadd dX11_pour_168 ?_
        refine x_iload 0 dX11_pour_169 rfl ?_
        refine x_iadd dX11_pour_171 ?_
        obtain ⟨h7, hf⟩ := f_gd hf
        refine x_lald (j := (((((60 : Int32) * v1) + v2) + v6)).toNatClampNeg) (v := (L 5 (((((60 : Int32) * v1) + v2) + v6)).toNatClampNeg)) dX11_pour_172 lm_5 h7 rfl rfl ?_
        obtain ⟨h8, hf⟩ := f_gd hf
        obtain ⟨L9, hL9, hf⟩ := f_lt hf
        refine x_last (j0 := (((((60 : Int32) * v3) + v4) + v6)).toNatClampNeg) dX11_pour_173 lm_5 h8 rfl hL9 ?_
        refine x_iinc 7 [(6, .int (v6 + (1 : Int32))), (7, .int v6), (0, .ref 0), (1, .int v1), (2, .int v2), (3, .int v3), (4, .int v4), (5, .int v5)] dX11_pour_174 rfl rfl (by decide) rfl ?_
        refine x_goto 118 dX11_pour_177 (by decide) ?_
        refine x_lv [(0, .ref 0), (1, .int v1), (2, .int v2), (3, .int v3), (4, .int v4), (5, .int v5), (6, .int (v6 + (1 : Int32)))] [2, 3, 4, 5, 6, 7, 0] rfl ?_
        exact ih _ _ hf
      · replace hf := f_el hB hf
        refine x_iload 5 dX11_pour_131 rfl ?_
        refine x_iconst (v := (1)) dX11_pour_133 (by decide) ?_
        refine x_isub dX11_pour_134 ?_
        refine x_iload 6 dX11_pour_135 rfl ?_
        refine x_isub dX11_pour_137 ?_
        refine x_goto 143 dX11_pour_138 (by decide) ?_
        refine x_istore [(7, .int ((v5 - (1 : Int32)) - v6)), (0, .ref 0), (1, .int v1), (2, .int v2), (3, .int v3), (4, .int v4), (5, .int v5), (6, .int v6)] dX11_pour_143 (by decide) rfl ?_
        refine x_aload_n 1 dX11_pour_145 rfl rfl ?_
        refine x_getR dX11_pour_146 lm_0 fl_X11_27 rfl ?_
        refine x_bipush (v := (60)) dX11_pour_149 (by decide) ?_
        refine x_iload_n 4 dX11_pour_151 rfl rfl ?_
        refine x_imul dX11_pour_152 ?_
        refine x_iload 5 dX11_pour_153 rfl ?_
        refine x_iadd dX11_pour_155 ?_
        refine x_iload 0 dX11_pour_156 rfl ?_
        refine x_iadd dX11_pour_158 ?_
        refine x_aload_n 1 dX11_pour_159 rfl rfl ?_
        refine x_getR dX11_pour_160 lm_0 fl_X11_27 rfl ?_
        refine x_bipush (v := (60)) dX11_pour_163 (by decide) ?_
        refine x_iload_n 2 dX11_pour_165 rfl rfl ?_
        refine x_imul dX11_pour_166 ?_
        refine x_iload_n 3 dX11_pour_167 rfl rfl ?_
        refine x_iadd dX11_pour_168 ?_
        refine x_iload 0 dX11_pour_169 rfl ?_
        refine x_iadd dX11_pour_171 ?_
        obtain ⟨h10, hf⟩ := f_gd hf
        refine x_lald (j := (((((60 : Int32) * v1) + v2) + ((v5 - (1 : Int32)) - v6))).toNatClampNeg) (v := (L 5 (((((60 : Int32) * v1) + v2) + ((v5 - (1 : Int32)) - v6))).toNatClampNeg)) dX11_pour_172 lm_5 h10 rfl rfl ?_
        obtain ⟨h11, hf⟩ := f_gd hf
        obtain ⟨L12, hL12, hf⟩ := f_lt hf
        refine x_last (j0 := (((((60 : Int32) * v3) + v4) + ((v5 - (1 : Int32)) - v6))).toNatClampNeg) dX11_pour_173 lm_5 h11 rfl hL12 ?_
        refine x_iinc 7 [(6, .int (v6 + (1 : Int32))), (7, .int ((v5 - (1 : Int32)) - v6)), (0, .ref 0), (1, .int v1), (2, .int v2), (3, .int v3), (4, .int v4), (5, .int v5)] dX11_pour_174 rfl rfl (by decide) rfl ?_
        refine x_goto 118 dX11_pour_177 (by decide) ?_
        refine x_lv [(0, .ref 0), (1, .int v1), (2, .int v2), (3, .int v3), (4, .int v4), (5, .int v5), (6, .int (v6 + (1 : Int32)))] [2, 3, 4, 5, 6, 7, 0] rfl ?_
        exact ih _ _ hf
set_option maxRecDepth 100000 in
set_option maxHeartbeats 4000000 in
theorem c_X11_pour {I : z_I} {L : z_L} {p0 : Int32} {p1 : Int32} {p2 : Int32} {p3 : Int32} {p4 : Int32}  {r : Bool × z_I × z_L} (hf : f_X11_pour I L p0 p1 p2 p3 p4 = some r) : z_C layM yX11_pour cX11_pour 8 (some .boolean) ({ frames := 1, cells := 0, slots := 0, locals := 21 } : Room) [.ref 0, .int p0, .int p1, .int p2, .int p3, .int p4] I L (some (.int (zb r.1)), r.2.1, r.2.2) := by
  refine z_C.of (by decide) (Nat.le_of_ble_eq_true rfl) ?_
  show z_X layM RX11 cX11_pour 8 (some .boolean) ({ frames := 1, cells := 0, slots := 0, locals := 21 } : Room) 0 [(0, .ref 0), (1, .int p0), (2, .int p1), (3, .int p2), (4, .int p3), (5, .int p4)] [] I L (some (.int (zb r.1)), r.2.1, r.2.2)
  unfold f_X11_pour at hf
  refine x_iload_n 1 dX11_pour_0 rfl rfl ?_
  refine x_callSi [.int p0] (c_X11_isTray (I := I) (L := L) p0) dX11_pour_1 lk_X11_110 cd_X11_isTray rfl rfl (Nat.le_of_ble_eq_true rfl) ⟨rfl, rfl, Nat.le_of_ble_eq_true rfl, Nat.le_of_ble_eq_true rfl⟩ ?_
  refine x_if_eqB 28 dX11_pour_4 (by decide) (fun hB => ?_) (fun hB => ?_)
  · replace hf := f_el hB hf
    refine x_aload_n 0 dX11_pour_28 rfl rfl ?_
    refine x_iconst (v := (1)) dX11_pour_29 (by decide) ?_
    refine x_callVi [.int (1 : Int32)] (c_X11_is (I := I) (L := L) (1 : Int32)) dX11_pour_30 lk_X11_106 lm_0 rfl cd_X11_is rfl rfl (Nat.le_of_ble_eq_true rfl) ⟨rfl, rfl, Nat.le_of_ble_eq_true rfl, Nat.le_of_ble_eq_true rfl⟩ ?_
    cases hf
    exact x_zret dX11_pour_33 rfl rfl
  · replace hf := f_if hB hf
    refine x_iload_n 3 dX11_pour_7 rfl rfl ?_
    refine x_callSi [.int p2] (c_X11_isTray (I := I) (L := L) p2) dX11_pour_8 lk_X11_110 cd_X11_isTray rfl rfl (Nat.le_of_ble_eq_true rfl) ⟨rfl, rfl, Nat.le_of_ble_eq_true rfl, Nat.le_of_ble_eq_true rfl⟩ ?_
    refine x_if_eqB 28 dX11_pour_11 (by decide) (fun hB => ?_) (fun hB => ?_)
    · replace hf := f_el hB hf
      refine x_aload_n 0 dX11_pour_28 rfl rfl ?_
      refine x_iconst (v := (1)) dX11_pour_29 (by decide) ?_
      refine x_callVi [.int (1 : Int32)] (c_X11_is (I := I) (L := L) (1 : Int32)) dX11_pour_30 lk_X11_106 lm_0 rfl cd_X11_is rfl rfl (Nat.le_of_ble_eq_true rfl) ⟨rfl, rfl, Nat.le_of_ble_eq_true rfl, Nat.le_of_ble_eq_true rfl⟩ ?_
      cases hf
      exact x_zret dX11_pour_33 rfl rfl
    · replace hf := f_if hB hf
      refine x_iload_n 2 dX11_pour_14 rfl rfl ?_
      refine x_if_lt 28 dX11_pour_15 (by decide) (fun hB => ?_) (fun hB => ?_)
      · replace hf := f_if hB hf
        refine x_aload_n 0 dX11_pour_28 rfl rfl ?_
        refine x_iconst (v := (1)) dX11_pour_29 (by decide) ?_
        refine x_callVi [.int (1 : Int32)] (c_X11_is (I := I) (L := L) (1 : Int32)) dX11_pour_30 lk_X11_106 lm_0 rfl cd_X11_is rfl rfl (Nat.le_of_ble_eq_true rfl) ⟨rfl, rfl, Nat.le_of_ble_eq_true rfl, Nat.le_of_ble_eq_true rfl⟩ ?_
        cases hf
        exact x_zret dX11_pour_33 rfl rfl
      · replace hf := f_el hB hf
        refine x_iload 4 dX11_pour_18 rfl ?_
        refine x_if_lt 28 dX11_pour_20 (by decide) (fun hB => ?_) (fun hB => ?_)
        · replace hf := f_if hB hf
          refine x_aload_n 0 dX11_pour_28 rfl rfl ?_
          refine x_iconst (v := (1)) dX11_pour_29 (by decide) ?_
          refine x_callVi [.int (1 : Int32)] (c_X11_is (I := I) (L := L) (1 : Int32)) dX11_pour_30 lk_X11_106 lm_0 rfl cd_X11_is rfl rfl (Nat.le_of_ble_eq_true rfl) ⟨rfl, rfl, Nat.le_of_ble_eq_true rfl, Nat.le_of_ble_eq_true rfl⟩ ?_
          cases hf
          exact x_zret dX11_pour_33 rfl rfl
        · replace hf := f_el hB hf
          refine x_iload 5 dX11_pour_23 rfl ?_
          refine x_if_ge 34 dX11_pour_25 (by decide) (fun hB => ?_) (fun hB => ?_)
          · replace hf := f_if hB hf
            refine x_aload_n 0 dX11_pour_34 rfl rfl ?_
            refine x_getR dX11_pour_35 lm_0 fl_X11_24 rfl ?_
            refine x_iload_n 1 dX11_pour_38 rfl rfl ?_
            obtain ⟨h1, hf⟩ := f_gd hf
            refine x_iald (j := (p0).toNatClampNeg) (v := (I 4 (p0).toNatClampNeg)) dX11_pour_39 lm_4 h1 rfl rfl ?_
            refine x_iconst (v := (-1)) dX11_pour_40 (by decide) ?_
            refine x_icmp_eq 54 dX11_pour_41 (by decide) (fun hB => ?_) (fun hB => ?_)
            · replace hf := f_if hB hf
              refine x_aload_n 0 dX11_pour_54 rfl rfl ?_
              refine x_iconst (v := (2)) dX11_pour_55 (by decide) ?_
              refine x_callVi [.int (2 : Int32)] (c_X11_is (I := I) (L := L) (2 : Int32)) dX11_pour_56 lk_X11_106 lm_0 rfl cd_X11_is rfl rfl (Nat.le_of_ble_eq_true rfl) ⟨rfl, rfl, Nat.le_of_ble_eq_true rfl, Nat.le_of_ble_eq_true rfl⟩ ?_
              cases hf
              exact x_zret dX11_pour_59 rfl rfl
            · replace hf := f_el hB hf
              refine x_aload_n 0 dX11_pour_44 rfl rfl ?_
              refine x_getR dX11_pour_45 lm_0 fl_X11_24 rfl ?_
              refine x_iload_n 3 dX11_pour_48 rfl rfl ?_
              obtain ⟨h2, hf⟩ := f_gd hf
              refine x_iald (j := (p2).toNatClampNeg) (v := (I 4 (p2).toNatClampNeg)) dX11_pour_49 lm_4 h2 rfl rfl ?_
              refine x_iconst (v := (-1)) dX11_pour_50 (by decide) ?_
              refine x_icmp_ne 60 dX11_pour_51 (by decide) (fun hB => ?_) (fun hB => ?_)
              · replace hf := f_el hB hf
                refine x_aload_n 0 dX11_pour_60 rfl rfl ?_
                refine x_getR dX11_pour_61 lm_0 fl_X11_21 rfl ?_
                refine x_iload_n 1 dX11_pour_64 rfl rfl ?_
                refine x_iald (j := (p0).toNatClampNeg) (v := (I 3 (p0).toNatClampNeg)) dX11_pour_65 lm_3 h1 rfl rfl ?_
                refine x_aload_n 0 dX11_pour_66 rfl rfl ?_
                refine x_getR dX11_pour_67 lm_0 fl_X11_21 rfl ?_
                refine x_iload_n 3 dX11_pour_70 rfl rfl ?_
                refine x_iald (j := (p2).toNatClampNeg) (v := (I 3 (p2).toNatClampNeg)) dX11_pour_71 lm_3 h2 rfl rfl ?_
                refine x_icmp_eq 82 dX11_pour_72 (by decide) (fun hB => ?_) (fun hB => ?_)
                · replace hf := f_if hB hf
                  refine x_iload 5 dX11_pour_82 rfl ?_
                  refine x_aload_n 0 dX11_pour_84 rfl rfl ?_
                  refine x_getR dX11_pour_85 lm_0 fl_X11_24 rfl ?_
                  refine x_iload_n 1 dX11_pour_88 rfl rfl ?_
                  refine x_iald (j := (p0).toNatClampNeg) (v := (I 4 (p0).toNatClampNeg)) dX11_pour_89 lm_4 h1 rfl rfl ?_
                  refine x_iload_n 2 dX11_pour_90 rfl rfl ?_
                  refine x_isub dX11_pour_91 ?_
                  refine x_icmp_gt 109 dX11_pour_92 (by decide) (fun hB => ?_) (fun hB => ?_)
                  · replace hf := f_if hB hf
                    refine x_aload_n 0 dX11_pour_109 rfl rfl ?_
                    refine x_iconst (v := (3)) dX11_pour_110 (by decide) ?_
                    refine x_callVi [.int (3 : Int32)] (c_X11_is (I := I) (L := L) (3 : Int32)) dX11_pour_111 lk_X11_106 lm_0 rfl cd_X11_is rfl rfl (Nat.le_of_ble_eq_true rfl) ⟨rfl, rfl, Nat.le_of_ble_eq_true rfl, Nat.le_of_ble_eq_true rfl⟩ ?_
                    cases hf
                    exact x_zret dX11_pour_114 rfl rfl
                  · replace hf := f_el hB hf
                    refine x_iload 5 dX11_pour_95 rfl ?_
                    refine x_aload_n 0 dX11_pour_97 rfl rfl ?_
                    refine x_getR dX11_pour_98 lm_0 fl_X11_24 rfl ?_
                    refine x_iload_n 3 dX11_pour_101 rfl rfl ?_
                    refine x_iald (j := (p2).toNatClampNeg) (v := (I 4 (p2).toNatClampNeg)) dX11_pour_102 lm_4 h2 rfl rfl ?_
                    refine x_iload 4 dX11_pour_103 rfl ?_
                    refine x_isub dX11_pour_105 ?_
                    refine x_icmp_le 115 dX11_pour_106 (by decide) (fun hB => ?_) (fun hB => ?_)
                    · replace hf := f_if hB hf
                      refine x_iconst (v := (0)) dX11_pour_115 (by decide) ?_
                      refine x_istore [(6, .int (0 : Int32)), (0, .ref 0), (1, .int p0), (2, .int p1), (3, .int p2), (4, .int p3), (5, .int p4)] dX11_pour_116 (by decide) rfl ?_
                      refine x_lv [(0, .ref 0), (1, .int p0), (2, .int p1), (3, .int p2), (4, .int p3), (5, .int p4), (6, .int (0 : Int32))] [1, 2, 3, 4, 5, 6, 0] rfl ?_
                      refine l_X11_pour_118 p0 p1 p2 p3 p4 (I)   _ _ _ hf
                    · replace hf := f_el hB hf
                      refine x_aload_n 0 dX11_pour_109 rfl rfl ?_
                      refine x_iconst (v := (3)) dX11_pour_110 (by decide) ?_
                      refine x_callVi [.int (3 : Int32)] (c_X11_is (I := I) (L := L) (3 : Int32)) dX11_pour_111 lk_X11_106 lm_0 rfl cd_X11_is rfl rfl (Nat.le_of_ble_eq_true rfl) ⟨rfl, rfl, Nat.le_of_ble_eq_true rfl, Nat.le_of_ble_eq_true rfl⟩ ?_
                      cases hf
                      exact x_zret dX11_pour_114 rfl rfl
                · replace hf := f_el hB hf
                  refine x_aload_n 0 dX11_pour_75 rfl rfl ?_
                  refine x_bipush (v := (8)) dX11_pour_76 (by decide) ?_
                  refine x_callVi [.int (8 : Int32)] (c_X11_is (I := I) (L := L) (8 : Int32)) dX11_pour_78 lk_X11_106 lm_0 rfl cd_X11_is rfl rfl (Nat.le_of_ble_eq_true rfl) ⟨rfl, rfl, Nat.le_of_ble_eq_true rfl, Nat.le_of_ble_eq_true rfl⟩ ?_
                  cases hf
                  exact x_zret dX11_pour_81 rfl rfl
              · replace hf := f_if hB hf
                refine x_aload_n 0 dX11_pour_54 rfl rfl ?_
                refine x_iconst (v := (2)) dX11_pour_55 (by decide) ?_
                refine x_callVi [.int (2 : Int32)] (c_X11_is (I := I) (L := L) (2 : Int32)) dX11_pour_56 lk_X11_106 lm_0 rfl cd_X11_is rfl rfl (Nat.le_of_ble_eq_true rfl) ⟨rfl, rfl, Nat.le_of_ble_eq_true rfl, Nat.le_of_ble_eq_true rfl⟩ ?_
                cases hf
                exact x_zret dX11_pour_59 rfl rfl
          · replace hf := f_el hB hf
            refine x_aload_n 0 dX11_pour_28 rfl rfl ?_
            refine x_iconst (v := (1)) dX11_pour_29 (by decide) ?_
            refine x_callVi [.int (1 : Int32)] (c_X11_is (I := I) (L := L) (1 : Int32)) dX11_pour_30 lk_X11_106 lm_0 rfl cd_X11_is rfl rfl (Nat.le_of_ble_eq_true rfl) ⟨rfl, rfl, Nat.le_of_ble_eq_true rfl, Nat.le_of_ble_eq_true rfl⟩ ?_
            cases hf
            exact x_zret dX11_pour_33 rfl rfl
set_option maxRecDepth 100000 in
set_option maxHeartbeats 4000000 in
theorem c_X11_isFrom {I : z_I} {L : z_L} (p0 : Int64) (p1 : Int64) (p2 : Int64)  : z_C layM yX11_isFrom cX11_isFrom 6 (some .boolean) ({ frames := 0, cells := 0, slots := 0, locals := 0 } : Room) [.long p0, .long p1, .long p2] I L (some (.int (zb (f_X11_isFrom p0 p1 p2))), I, L) := by
  obtain ⟨r, hf⟩ : ∃ r, f_X11_isFrom p0 p1 p2 = r := ⟨_, rfl⟩
  rw [hf]
  refine z_C.of (by decide) (Nat.le_of_ble_eq_true rfl) ?_
  show z_X layM RX11 cX11_isFrom 6 (some .boolean) ({ frames := 0, cells := 0, slots := 0, locals := 0 } : Room) 0 [(0, .long p0), (2, .long p1), (4, .long p2)] [] I L (some (.int (zb r)), I, L)
  unfold f_X11_isFrom at hf
  refine x_lload_n 0 dX11_isFrom_0 rfl rfl ?_
  refine x_lload_n 1 dX11_isFrom_1 rfl rfl ?_
  refine x_lcmp_lt 17 dX11_isFrom_2 dX11_isFrom_3 (by decide) (fun hB => ?_) (fun hB => ?_)
  · replace hf := t_if hB hf
    refine x_iconst (v := (0)) dX11_isFrom_17 (by decide) ?_
    subst hf
    exact x_zret (b := false) dX11_isFrom_18 rfl rfl
  · replace hf := t_el hB hf
    refine x_lload_n 0 dX11_isFrom_6 rfl rfl ?_
    refine x_lload 2 dX11_isFrom_7 rfl ?_
    refine x_lcmp_gt 17 dX11_isFrom_9 dX11_isFrom_10 (by decide) (fun hB => ?_) (fun hB => ?_)
    · replace hf := t_if hB hf
      refine x_iconst (v := (0)) dX11_isFrom_17 (by decide) ?_
      subst hf
      exact x_zret (b := false) dX11_isFrom_18 rfl rfl
    · replace hf := t_el hB hf
      refine x_iconst (v := (1)) dX11_isFrom_13 (by decide) ?_
      refine x_goto 18 dX11_isFrom_14 (by decide) ?_
      subst hf
      exact x_zret (b := true) dX11_isFrom_18 rfl rfl
set_option maxRecDepth 100000 in
set_option maxHeartbeats 4000000 in
theorem l_X11_four_3   (v1 : Int32) (L : z_L) {r : z_I}  : ∀ (n : Nat) (v2 : Int32) (I : z_I), g_X11_four_3 v1  n v2 I = some r → z_X layM RX11 cX11_four 3 (none) ({ frames := 0, cells := 0, slots := 0, locals := 0 } : Room) 3 [(0, .ref 0), (1, .int v1), (2, .int v2)] [] I L (none, r, L) := by
  intro n
  induction n with
  | zero => intro v2 I hf; cases hf
  | succ n ih =>
    intro v2 I hf
    rw [g_X11_four_3] at hf
    refine x_iload_n 2 dX11_four_3 rfl rfl ?_
    refine x_if_lt 36 dX11_four_4 (by decide) (fun hB => ?_) (fun hB => ?_)
    · replace hf := f_if hB hf
      cases hf
      exact x_vret dX11_four_36 rfl rfl
    · replace hf := f_el hB hf
      refine x_aload_n 0 dX11_four_7 rfl rfl ?_
      refine x_getR dX11_four_8 lm_0 fl_X11_30 rfl ?_
      refine x_aload_n 0 dX11_four_11 rfl rfl ?_
      refine x_getI (v := (I 0 10)) dX11_four_12 lm_0 fl_X11_123 rfl rfl ?_
      refine x_iload_n 1 dX11_four_15 rfl rfl ?_
      refine x_iload_n 2 dX11_four_16 rfl rfl ?_
      refine x_ishr dX11_four_17 ?_
      refine x_i2b dX11_four_18 ?_
      obtain ⟨h1, hf⟩ := f_gd hf
      obtain ⟨I2, hI2, hf⟩ := f_lt hf
      refine x_bast (j0 := ((I 0 10)).toNatClampNeg) dX11_four_19 lm_6 h1 rfl hI2 ?_
      refine x_aload_n 0 dX11_four_20 rfl rfl ?_
      refine x_dup dX11_four_21 rfl ?_
      refine x_getI (v := (I 0 10)) dX11_four_22 lm_0 fl_X11_123 rfl (by rw [hI2, z2_o (by decide)]) ?_
      refine x_iconst (v := (1)) dX11_four_25 (by decide) ?_
      refine x_iadd dX11_four_26 ?_
      obtain ⟨I3, hI3, hf⟩ := f_lt hf
      refine x_putI dX11_four_27 lm_0 fl_X11_123 rfl rfl rfl hI3 ?_
      refine x_iinc 2 [(2, .int (v2 + (-8 : Int32))), (0, .ref 0), (1, .int v1)] dX11_four_30 rfl rfl (by decide) rfl ?_
      refine x_goto 3 dX11_four_33 (by decide) ?_
      refine x_lv [(0, .ref 0), (1, .int v1), (2, .int (v2 + (-8 : Int32)))] [1, 2, 0] rfl ?_
      exact ih _ _ hf
set_option maxRecDepth 100000 in
set_option maxHeartbeats 4000000 in
theorem c_X11_four {I : z_I} {L : z_L} {p0 : Int32}  {r : z_I} (hf : f_X11_four I p0 = some r) : z_C layM yX11_four cX11_four 3 (none) ({ frames := 0, cells := 0, slots := 0, locals := 0 } : Room) [.ref 0, .int p0] I L (none, r, L) := by
  refine z_C.of (by decide) (Nat.le_of_ble_eq_true rfl) ?_
  show z_X layM RX11 cX11_four 3 (none) ({ frames := 0, cells := 0, slots := 0, locals := 0 } : Room) 0 [(0, .ref 0), (1, .int p0)] [] I L (none, r, L)
  unfold f_X11_four at hf
  refine x_bipush (v := (24)) dX11_four_0 (by decide) ?_
  refine x_istore_n [(2, .int (24 : Int32)), (0, .ref 0), (1, .int p0)] dX11_four_2 rfl (by decide) rfl ?_
  refine x_lv [(0, .ref 0), (1, .int p0), (2, .int (24 : Int32))] [1, 2, 0] rfl ?_
  refine l_X11_four_3 p0 (L)   _ _ _ hf
set_option maxRecDepth 100000 in
set_option maxHeartbeats 4000000 in
theorem c_X11_feed {I : z_I} {L : z_L} {p0 : Int32} {p1 : Int32} {p2 : Int32} {p3 : Int32} {p4 : Int32}  {r : Int32 × z_I} (hf : f_X11_feed I p0 p1 p2 p3 p4 = some r) : z_C layM yX11_feed cX11_feed 6 (some .int) ({ frames := 1, cells := 0, slots := 0, locals := 22 } : Room) [.ref 0, .int p0, .int p1, .int p2, .int p3, .int p4] I L (some (.int r.1), r.2, L) := by
  refine z_C.of (by decide) (Nat.le_of_ble_eq_true rfl) ?_
  show z_X layM RX11 cX11_feed 6 (some .int) ({ frames := 1, cells := 0, slots := 0, locals := 22 } : Room) 0 [(0, .ref 0), (1, .int p0), (2, .int p1), (3, .int p2), (4, .int p3), (5, .int p4)] [] I L (some (.int r.1), r.2, L)
  unfold f_X11_feed at hf
  refine x_aload_n 0 dX11_feed_0 rfl rfl ?_
  refine x_getI (v := (I 0 10)) dX11_feed_1 lm_0 fl_X11_123 rfl rfl ?_
  refine x_bipush (v := (20)) dX11_feed_4 (by decide) ?_
  refine x_iadd dX11_feed_6 ?_
  refine x_sipush (v := (900)) dX11_feed_7 (by decide) ?_
  refine x_icmp_le 15 dX11_feed_10 (by decide) (fun hB => ?_) (fun hB => ?_)
  · replace hf := f_if hB hf
    refine x_aload_n 0 dX11_feed_15 rfl rfl ?_
    refine x_iload_n 1 dX11_feed_16 rfl rfl ?_
    obtain ⟨q1, hq2, hf⟩ := f_bd hf
    refine x_callVv [.int p0] (c_X11_four (I := I) (L := L)  hq2) dX11_feed_17 lk_X11_126 lm_0 rfl cd_X11_four rfl rfl (Nat.le_of_ble_eq_true rfl) ⟨rfl, rfl, Nat.le_of_ble_eq_true rfl, Nat.le_of_ble_eq_true rfl⟩ ?_
    refine x_aload_n 0 dX11_feed_20 rfl rfl ?_
    refine x_iload_n 2 dX11_feed_21 rfl rfl ?_
    obtain ⟨q3, hq4, hf⟩ := f_bd hf
    refine x_callVv [.int p1] (c_X11_four (I := q1) (L := L)  hq4) dX11_feed_22 lk_X11_126 lm_0 rfl cd_X11_four rfl rfl (Nat.le_of_ble_eq_true rfl) ⟨rfl, rfl, Nat.le_of_ble_eq_true rfl, Nat.le_of_ble_eq_true rfl⟩ ?_
    refine x_aload_n 0 dX11_feed_25 rfl rfl ?_
    refine x_iload_n 3 dX11_feed_26 rfl rfl ?_
    obtain ⟨q5, hq6, hf⟩ := f_bd hf
    refine x_callVv [.int p2] (c_X11_four (I := q3) (L := L)  hq6) dX11_feed_27 lk_X11_126 lm_0 rfl cd_X11_four rfl rfl (Nat.le_of_ble_eq_true rfl) ⟨rfl, rfl, Nat.le_of_ble_eq_true rfl, Nat.le_of_ble_eq_true rfl⟩ ?_
    refine x_aload_n 0 dX11_feed_30 rfl rfl ?_
    refine x_iload 4 dX11_feed_31 rfl ?_
    obtain ⟨q7, hq8, hf⟩ := f_bd hf
    refine x_callVv [.int p3] (c_X11_four (I := q5) (L := L)  hq8) dX11_feed_33 lk_X11_126 lm_0 rfl cd_X11_four rfl rfl (Nat.le_of_ble_eq_true rfl) ⟨rfl, rfl, Nat.le_of_ble_eq_true rfl, Nat.le_of_ble_eq_true rfl⟩ ?_
    refine x_aload_n 0 dX11_feed_36 rfl rfl ?_
    refine x_iload 5 dX11_feed_37 rfl ?_
    obtain ⟨q9, hq10, hf⟩ := f_bd hf
    refine x_callVv [.int p4] (c_X11_four (I := q7) (L := L)  hq10) dX11_feed_39 lk_X11_126 lm_0 rfl cd_X11_four rfl rfl (Nat.le_of_ble_eq_true rfl) ⟨rfl, rfl, Nat.le_of_ble_eq_true rfl, Nat.le_of_ble_eq_true rfl⟩ ?_
    refine x_aload_n 0 dX11_feed_42 rfl rfl ?_
    refine x_getI (v := (q9 0 10)) dX11_feed_43 lm_0 fl_X11_123 rfl rfl ?_
    cases hf
    exact x_iret dX11_feed_46 rfl rfl
  · replace hf := f_el hB hf
    refine x_iconst (v := (-1)) dX11_feed_13 (by decide) ?_
    cases hf
    exact x_iret dX11_feed_14 rfl rfl
set_option maxRecDepth 100000 in
set_option maxHeartbeats 4000000 in
theorem c_X11_byteAt {I : z_I} {L : z_L} {p0 : Int32}  {r : Int32} (hf : f_X11_byteAt I p0 = some r) : z_C layM yX11_byteAt cX11_byteAt 2 (some .int) ({ frames := 0, cells := 0, slots := 0, locals := 0 } : Room) [.ref 0, .int p0] I L (some (.int r), I, L) := by
  refine z_C.of (by decide) (Nat.le_of_ble_eq_true rfl) ?_
  show z_X layM RX11 cX11_byteAt 2 (some .int) ({ frames := 0, cells := 0, slots := 0, locals := 0 } : Room) 0 [(0, .ref 0), (1, .int p0)] [] I L (some (.int r), I, L)
  unfold f_X11_byteAt at hf
  refine x_iload_n 1 dX11_byteAt_0 rfl rfl ?_
  refine x_aload_n 0 dX11_byteAt_1 rfl rfl ?_
  refine x_getI (v := (I 0 11)) dX11_byteAt_2 lm_0 fl_X11_129 rfl rfl ?_
  refine x_icmp_ge 21 dX11_byteAt_5 (by decide) (fun hB => ?_) (fun hB => ?_)
  · replace hf := f_if hB hf
    refine x_iconst (v := (-1)) dX11_byteAt_21 (by decide) ?_
    cases hf
    exact x_iret dX11_byteAt_22 rfl rfl
  · replace hf := f_el hB hf
    refine x_aload_n 0 dX11_byteAt_8 rfl rfl ?_
    refine x_getR dX11_byteAt_9 lm_0 fl_X11_34 rfl ?_
    refine x_iload_n 1 dX11_byteAt_12 rfl rfl ?_
    obtain ⟨h1, hf⟩ := f_gd hf
    refine x_bald (j := (p0).toNatClampNeg) (v := (I 7 (p0).toNatClampNeg)) dX11_byteAt_13 lm_7 h1 rfl rfl ?_
    refine x_sipush (v := (255)) dX11_byteAt_14 (by decide) ?_
    refine x_iand dX11_byteAt_17 ?_
    refine x_goto 22 dX11_byteAt_18 (by decide) ?_
    cases hf
    exact x_iret dX11_byteAt_22 rfl rfl
set_option maxRecDepth 100000 in
set_option maxHeartbeats 4000000 in
theorem c_X11_isSmall {I : z_I} {L : z_L} (p0 : Int32)  : z_C layM yX11_isSmall cX11_isSmall 1 (some .boolean) ({ frames := 0, cells := 0, slots := 0, locals := 0 } : Room) [.int p0] I L (some (.int (zb (f_X11_isSmall p0))), I, L) := by
  obtain ⟨r, hf⟩ : ∃ r, f_X11_isSmall p0 = r := ⟨_, rfl⟩
  rw [hf]
  refine z_C.of (by decide) (Nat.le_of_ble_eq_true rfl) ?_
  show z_X layM RX11 cX11_isSmall 1 (some .boolean) ({ frames := 0, cells := 0, slots := 0, locals := 0 } : Room) 0 [(0, .int p0)] [] I L (some (.int (zb r)), I, L)
  unfold f_X11_isSmall at hf
  refine x_iload_n 0 dX11_isSmall_0 rfl rfl ?_
  refine x_bipush (v := (97)) dX11_isSmall_1 (by decide) ?_
  refine x_icmp_lt 16 dX11_isSmall_3 (by decide) (fun hB => ?_) (fun hB => ?_)
  · replace hf := t_if hB hf
    refine x_iconst (v := (0)) dX11_isSmall_16 (by decide) ?_
    subst hf
    exact x_zret (b := false) dX11_isSmall_17 rfl rfl
  · replace hf := t_el hB hf
    refine x_iload_n 0 dX11_isSmall_6 rfl rfl ?_
    refine x_bipush (v := (122)) dX11_isSmall_7 (by decide) ?_
    refine x_icmp_gt 16 dX11_isSmall_9 (by decide) (fun hB => ?_) (fun hB => ?_)
    · replace hf := t_if hB hf
      refine x_iconst (v := (0)) dX11_isSmall_16 (by decide) ?_
      subst hf
      exact x_zret (b := false) dX11_isSmall_17 rfl rfl
    · replace hf := t_el hB hf
      refine x_iconst (v := (1)) dX11_isSmall_12 (by decide) ?_
      refine x_goto 17 dX11_isSmall_13 (by decide) ?_
      subst hf
      exact x_zret (b := true) dX11_isSmall_17 rfl rfl
set_option maxRecDepth 100000 in
set_option maxHeartbeats 4000000 in
theorem c_X11_isDigit {I : z_I} {L : z_L} (p0 : Int32)  : z_C layM yX11_isDigit cX11_isDigit 1 (some .boolean) ({ frames := 0, cells := 0, slots := 0, locals := 0 } : Room) [.int p0] I L (some (.int (zb (f_X11_isDigit p0))), I, L) := by
  obtain ⟨r, hf⟩ : ∃ r, f_X11_isDigit p0 = r := ⟨_, rfl⟩
  rw [hf]
  refine z_C.of (by decide) (Nat.le_of_ble_eq_true rfl) ?_
  show z_X layM RX11 cX11_isDigit 1 (some .boolean) ({ frames := 0, cells := 0, slots := 0, locals := 0 } : Room) 0 [(0, .int p0)] [] I L (some (.int (zb r)), I, L)
  unfold f_X11_isDigit at hf
  refine x_iload_n 0 dX11_isDigit_0 rfl rfl ?_
  refine x_bipush (v := (48)) dX11_isDigit_1 (by decide) ?_
  refine x_icmp_lt 16 dX11_isDigit_3 (by decide) (fun hB => ?_) (fun hB => ?_)
  · replace hf := t_if hB hf
    refine x_iconst (v := (0)) dX11_isDigit_16 (by decide) ?_
    subst hf
    exact x_zret (b := false) dX11_isDigit_17 rfl rfl
  · replace hf := t_el hB hf
    refine x_iload_n 0 dX11_isDigit_6 rfl rfl ?_
    refine x_bipush (v := (57)) dX11_isDigit_7 (by decide) ?_
    refine x_icmp_gt 16 dX11_isDigit_9 (by decide) (fun hB => ?_) (fun hB => ?_)
    · replace hf := t_if hB hf
      refine x_iconst (v := (0)) dX11_isDigit_16 (by decide) ?_
      subst hf
      exact x_zret (b := false) dX11_isDigit_17 rfl rfl
    · replace hf := t_el hB hf
      refine x_iconst (v := (1)) dX11_isDigit_12 (by decide) ?_
      refine x_goto 17 dX11_isDigit_13 (by decide) ?_
      subst hf
      exact x_zret (b := true) dX11_isDigit_17 rfl rfl
set_option maxRecDepth 100000 in
set_option maxHeartbeats 4000000 in
theorem l_X11_ahead_0    (L : z_L) {r : z_I} (k39 : z_I → Option (z_I)) (hk39 : ∀ (I : z_I), k39 I = some r → z_X layM RX11 cX11_ahead 2 (none) ({ frames := 1, cells := 0, slots := 0, locals := 28 } : Room) 39 [(0, .ref 0)] [] I L (none, r, L)) : ∀ (n : Nat) (I : z_I), g_X11_ahead_0  k39 n I = some r → z_X layM RX11 cX11_ahead 2 (none) ({ frames := 1, cells := 0, slots := 0, locals := 28 } : Room) 0 [(0, .ref 0)] [] I L (none, r, L) := by
  intro n
  induction n with
  | zero => intro I hf; cases hf
  | succ n ih =>
    intro I hf
    rw [g_X11_ahead_0] at hf
    refine x_aload_n 0 dX11_ahead_0 rfl rfl ?_
    refine x_aload_n 0 dX11_ahead_1 rfl rfl ?_
    refine x_getI (v := (I 0 14)) dX11_ahead_2 lm_0 fl_X11_132 rfl rfl ?_
    obtain ⟨q1, hq2, hf⟩ := f_bd hf
    refine x_callVi [.int (I 0 14)] (c_X11_byteAt (I := I) (L := L)  hq2) dX11_ahead_5 lk_X11_135 lm_0 rfl cd_X11_byteAt rfl rfl (Nat.le_of_ble_eq_true rfl) ⟨rfl, rfl, Nat.le_of_ble_eq_true rfl, Nat.le_of_ble_eq_true rfl⟩ ?_
    refine x_bipush (v := (32)) dX11_ahead_8 (by decide) ?_
    refine x_icmp_eq 26 dX11_ahead_10 (by decide) (fun hB => ?_) (fun hB => ?_)
    · replace hf := f_if hB hf
      refine x_aload_n 0 dX11_ahead_26 rfl rfl ?_
      refine x_dup dX11_ahead_27 rfl ?_
      refine x_getI (v := (I 0 14)) dX11_ahead_28 lm_0 fl_X11_132 rfl rfl ?_
      refine x_iconst (v := (1)) dX11_ahead_31 (by decide) ?_
      refine x_iadd dX11_ahead_32 ?_
      obtain ⟨I3, hI3, hf⟩ := f_lt hf
      refine x_putI dX11_ahead_33 lm_0 fl_X11_132 rfl rfl rfl hI3 ?_
      refine x_goto 0 dX11_ahead_36 (by decide) ?_
      refine x_lv [(0, .ref 0)] [0] rfl ?_
      exact ih _ hf
    · replace hf := f_el hB hf
      refine x_aload_n 0 dX11_ahead_13 rfl rfl ?_
      refine x_aload_n 0 dX11_ahead_14 rfl rfl ?_
      refine x_getI (v := (I 0 14)) dX11_ahead_15 lm_0 fl_X11_132 rfl rfl ?_
      obtain ⟨q4, hq5, hf⟩ := f_bd hf
      refine x_callVi [.int (I 0 14)] (c_X11_byteAt (I := I) (L := L)  hq5) dX11_ahead_18 lk_X11_135 lm_0 rfl cd_X11_byteAt rfl rfl (Nat.le_of_ble_eq_true rfl) ⟨rfl, rfl, Nat.le_of_ble_eq_true rfl, Nat.le_of_ble_eq_true rfl⟩ ?_
      refine x_bipush (v := (10)) dX11_ahead_21 (by decide) ?_
      refine x_icmp_ne 39 dX11_ahead_23 (by decide) (fun hB => ?_) (fun hB => ?_)
      · replace hf := f_el hB hf
        refine x_lv [(0, .ref 0)] [0] rfl ?_
        exact hk39 _ hf
      · replace hf := f_if hB hf
        refine x_aload_n 0 dX11_ahead_26 rfl rfl ?_
        refine x_dup dX11_ahead_27 rfl ?_
        refine x_getI (v := (I 0 14)) dX11_ahead_28 lm_0 fl_X11_132 rfl rfl ?_
        refine x_iconst (v := (1)) dX11_ahead_31 (by decide) ?_
        refine x_iadd dX11_ahead_32 ?_
        obtain ⟨I6, hI6, hf⟩ := f_lt hf
        refine x_putI dX11_ahead_33 lm_0 fl_X11_132 rfl rfl rfl hI6 ?_
        refine x_goto 0 dX11_ahead_36 (by decide) ?_
        refine x_lv [(0, .ref 0)] [0] rfl ?_
        exact ih _ hf
set_option maxRecDepth 100000 in
set_option maxHeartbeats 4000000 in
theorem l_X11_ahead_81    (L : z_L) {r : z_I}  : ∀ (n : Nat) (I : z_I), g_X11_ahead_81   n I = some r → z_X layM RX11 cX11_ahead 2 (none) ({ frames := 1, cells := 0, slots := 0, locals := 28 } : Room) 81 [(0, .ref 0)] [] I L (none, r, L) := by
  intro n
  induction n with
  | zero => intro I hf; cases hf
  | succ n ih =>
    intro I hf
    rw [g_X11_ahead_81] at hf
    refine x_aload_n 0 dX11_ahead_81 rfl rfl ?_
    refine x_aload_n 0 dX11_ahead_82 rfl rfl ?_
    refine x_getI (v := (I 0 14)) dX11_ahead_83 lm_0 fl_X11_132 rfl rfl ?_
    obtain ⟨q13, hq14, hf⟩ := f_bd hf
    refine x_callVi [.int (I 0 14)] (c_X11_byteAt (I := I) (L := L)  hq14) dX11_ahead_86 lk_X11_135 lm_0 rfl cd_X11_byteAt rfl rfl (Nat.le_of_ble_eq_true rfl) ⟨rfl, rfl, Nat.le_of_ble_eq_true rfl, Nat.le_of_ble_eq_true rfl⟩ ?_
    refine x_callSi [.int q13] (c_X11_isSmall (I := I) (L := L) q13) dX11_ahead_89 lk_X11_147 cd_X11_isSmall rfl rfl (Nat.le_of_ble_eq_true rfl) ⟨rfl, rfl, Nat.le_of_ble_eq_true rfl, Nat.le_of_ble_eq_true rfl⟩ ?_
    refine x_if_eqB 108 dX11_ahead_92 (by decide) (fun hB => ?_) (fun hB => ?_)
    · replace hf := f_el hB hf
      refine x_aload_n 0 dX11_ahead_108 rfl rfl ?_
      refine x_iconst (v := (2)) dX11_ahead_109 (by decide) ?_
      obtain ⟨I16, hI16, hf⟩ := f_lt hf
      refine x_putI dX11_ahead_110 lm_0 fl_X11_144 rfl rfl rfl hI16 ?_
      refine x_goto 251 dX11_ahead_113 (by decide) ?_
      cases hf
      exact x_vret dX11_ahead_251 rfl rfl
    · replace hf := f_if hB hf
      refine x_aload_n 0 dX11_ahead_95 rfl rfl ?_
      refine x_dup dX11_ahead_96 rfl ?_
      refine x_getI (v := (I 0 14)) dX11_ahead_97 lm_0 fl_X11_132 rfl rfl ?_
      refine x_iconst (v := (1)) dX11_ahead_100 (by decide) ?_
      refine x_iadd dX11_ahead_101 ?_
      obtain ⟨I15, hI15, hf⟩ := f_lt hf
      refine x_putI dX11_ahead_102 lm_0 fl_X11_132 rfl rfl rfl hI15 ?_
      refine x_goto 81 dX11_ahead_105 (by decide) ?_
      refine x_lv [(0, .ref 0)] [0] rfl ?_
      exact ih _ hf
set_option maxRecDepth 100000 in
set_option maxHeartbeats 4000000 in
theorem l_X11_ahead_128    (L : z_L) {r : z_I} (k183 : z_I → Option (z_I)) (hk183 : ∀ (I : z_I), k183 I = some r → z_X layM RX11 cX11_ahead 2 (none) ({ frames := 1, cells := 0, slots := 0, locals := 28 } : Room) 183 [(0, .ref 0)] [] I L (none, r, L)) : ∀ (n : Nat) (I : z_I), g_X11_ahead_128  k183 n I = some r → z_X layM RX11 cX11_ahead 2 (none) ({ frames := 1, cells := 0, slots := 0, locals := 28 } : Room) 128 [(0, .ref 0)] [] I L (none, r, L) := by
  intro n
  induction n with
  | zero => intro I hf; cases hf
  | succ n ih =>
    intro I hf
    rw [g_X11_ahead_128] at hf
    refine x_aload_n 0 dX11_ahead_128 rfl rfl ?_
    refine x_aload_n 0 dX11_ahead_129 rfl rfl ?_
    refine x_getI (v := (I 0 14)) dX11_ahead_130 lm_0 fl_X11_132 rfl rfl ?_
    obtain ⟨q18, hq19, hf⟩ := f_bd hf
    refine x_callVi [.int (I 0 14)] (c_X11_byteAt (I := I) (L := L)  hq19) dX11_ahead_133 lk_X11_135 lm_0 rfl cd_X11_byteAt rfl rfl (Nat.le_of_ble_eq_true rfl) ⟨rfl, rfl, Nat.le_of_ble_eq_true rfl, Nat.le_of_ble_eq_true rfl⟩ ?_
    refine x_callSi [.int q18] (c_X11_isDigit (I := I) (L := L) q18) dX11_ahead_136 lk_X11_150 cd_X11_isDigit rfl rfl (Nat.le_of_ble_eq_true rfl) ⟨rfl, rfl, Nat.le_of_ble_eq_true rfl, Nat.le_of_ble_eq_true rfl⟩ ?_
    refine x_if_eqB 183 dX11_ahead_139 (by decide) (fun hB => ?_) (fun hB => ?_)
    · replace hf := f_el hB hf
      refine x_lv [(0, .ref 0)] [0] rfl ?_
      exact hk183 _ hf
    · replace hf := f_if hB hf
      refine x_aload_n 0 dX11_ahead_142 rfl rfl ?_
      refine x_ldc (v := (100000)) dX11_ahead_143 kc_X11_153 ?_
      refine x_bipush (v := (10)) dX11_ahead_145 (by decide) ?_
      refine x_aload_n 0 dX11_ahead_147 rfl rfl ?_
      refine x_getI (v := (I 0 15)) dX11_ahead_148 lm_0 fl_X11_141 rfl rfl ?_
      refine x_imul dX11_ahead_151 ?_
      refine x_aload_n 0 dX11_ahead_152 rfl rfl ?_
      refine x_aload_n 0 dX11_ahead_153 rfl rfl ?_
      refine x_getI (v := (I 0 14)) dX11_ahead_154 lm_0 fl_X11_132 rfl rfl ?_
      obtain ⟨q20, hq21, hf⟩ := f_bd hf
      refine x_callVi [.int (I 0 14)] (c_X11_byteAt (I := I) (L := L)  hq21) dX11_ahead_157 lk_X11_135 lm_0 rfl cd_X11_byteAt rfl rfl (Nat.le_of_ble_eq_true rfl) ⟨rfl, rfl, Nat.le_of_ble_eq_true rfl, Nat.le_of_ble_eq_true rfl⟩ ?_
      refine x_iadd dX11_ahead_160 ?_
      refine x_bipush (v := (48)) dX11_ahead_161 (by decide) ?_
      refine x_isub dX11_ahead_163 ?_
      refine x_mmin dX11_ahead_164 lk_X11_154 ⟨Nat.le_of_ble_eq_true rfl, Nat.le_of_ble_eq_true rfl⟩ ?_
      obtain ⟨I22, hI22, hf⟩ := f_lt hf
      refine x_putI dX11_ahead_167 lm_0 fl_X11_141 rfl rfl rfl hI22 ?_
      refine x_aload_n 0 dX11_ahead_170 rfl rfl ?_
      refine x_dup dX11_ahead_171 rfl ?_
      refine x_getI (v := (I 0 14)) dX11_ahead_172 lm_0 fl_X11_132 rfl (by rw [hI22, z2_s, z1_o (by decide)]) ?_
      refine x_iconst (v := (1)) dX11_ahead_175 (by decide) ?_
      refine x_iadd dX11_ahead_176 ?_
      obtain ⟨I23, hI23, hf⟩ := f_lt hf
      refine x_putI dX11_ahead_177 lm_0 fl_X11_132 rfl rfl rfl hI23 ?_
      refine x_goto 128 dX11_ahead_180 (by decide) ?_
      refine x_lv [(0, .ref 0)] [0] rfl ?_
      exact ih _ hf
set_option maxRecDepth 100000 in
set_option maxHeartbeats 4000000 in
theorem c_X11_ahead {I : z_I} {L : z_L}   {r : z_I} (hf : f_X11_ahead I = some r) : z_C layM yX11_ahead cX11_ahead 2 (none) ({ frames := 1, cells := 0, slots := 0, locals := 28 } : Room) [.ref 0] I L (none, r, L) := by
  refine z_C.of (by decide) (Nat.le_of_ble_eq_true rfl) ?_
  show z_X layM RX11 cX11_ahead 2 (none) ({ frames := 1, cells := 0, slots := 0, locals := 28 } : Room) 0 [(0, .ref 0)] [] I L (none, r, L)
  unfold f_X11_ahead at hf
  refine x_lv [(0, .ref 0)] [0] rfl ?_
  refine l_X11_ahead_0 (L) _ ?_ _ _ hf
  · intro I_7 hf
    refine x_aload_n 0 dX11_ahead_39 rfl rfl ?_
    refine x_aload_n 0 dX11_ahead_40 rfl rfl ?_
    refine x_getI (v := (I_7 0 14)) dX11_ahead_41 lm_0 fl_X11_132 rfl rfl ?_
    obtain ⟨I8, hI8, hf⟩ := f_lt hf
    refine x_putI dX11_ahead_44 lm_0 fl_X11_138 rfl rfl rfl hI8 ?_
    refine x_aload_n 0 dX11_ahead_47 rfl rfl ?_
    refine x_aload_n 0 dX11_ahead_48 rfl rfl ?_
    refine x_getI (v := (I_7 0 14)) dX11_ahead_49 lm_0 fl_X11_132 rfl (by rw [hI8, z2_s, z1_o (by decide)]) ?_
    obtain ⟨q9, hq10, hf⟩ := f_bd hf
    refine x_callVi [.int (I_7 0 14)] (c_X11_byteAt (I := I8) (L := L)  hq10) dX11_ahead_52 lk_X11_135 lm_0 rfl cd_X11_byteAt rfl rfl (Nat.le_of_ble_eq_true rfl) ⟨rfl, rfl, Nat.le_of_ble_eq_true rfl, Nat.le_of_ble_eq_true rfl⟩ ?_
    refine x_istore_n [(1, .int q9), (0, .ref 0)] dX11_ahead_55 rfl (by decide) rfl ?_
    refine x_aload_n 1 dX11_ahead_56 rfl rfl ?_
    refine x_iload_n 0 dX11_ahead_57 rfl rfl ?_
    obtain ⟨I11, hI11, hf⟩ := f_lt hf
    refine x_putI dX11_ahead_58 lm_0 fl_X11_141 rfl rfl rfl hI11 ?_
    refine x_iload_n 0 dX11_ahead_61 rfl rfl ?_
    refine x_iconst (v := (-1)) dX11_ahead_62 (by decide) ?_
    refine x_icmp_ne 74 dX11_ahead_63 (by decide) (fun hB => ?_) (fun hB => ?_)
    · replace hf := f_el hB hf
      refine x_iload_n 0 dX11_ahead_74 rfl rfl ?_
      refine x_callSi [.int q9] (c_X11_isSmall (I := I11) (L := L) q9) dX11_ahead_75 lk_X11_147 cd_X11_isSmall rfl rfl (Nat.le_of_ble_eq_true rfl) ⟨rfl, rfl, Nat.le_of_ble_eq_true rfl, Nat.le_of_ble_eq_true rfl⟩ ?_
      refine x_if_eqB 116 dX11_ahead_78 (by decide) (fun hB => ?_) (fun hB => ?_)
      · replace hf := f_el hB hf
        refine x_iload_n 0 dX11_ahead_116 rfl rfl ?_
        refine x_callSi [.int q9] (c_X11_isDigit (I := I11) (L := L) q9) dX11_ahead_117 lk_X11_150 cd_X11_isDigit rfl rfl (Nat.le_of_ble_eq_true rfl) ⟨rfl, rfl, Nat.le_of_ble_eq_true rfl, Nat.le_of_ble_eq_true rfl⟩ ?_
        refine x_if_eqB 208 dX11_ahead_120 (by decide) (fun hB => ?_) (fun hB => ?_)
        · replace hf := f_el hB hf
          refine x_aload_n 1 dX11_ahead_208 rfl rfl ?_
          refine x_dup dX11_ahead_209 rfl ?_
          refine x_getI (v := (I_7 0 14)) dX11_ahead_210 lm_0 fl_X11_132 rfl (by rw [hI11, z2_s, z1_o (by decide), hI8, z2_s, z1_o (by decide)]) ?_
          refine x_iconst (v := (1)) dX11_ahead_213 (by decide) ?_
          refine x_iadd dX11_ahead_214 ?_
          obtain ⟨I27, hI27, hf⟩ := f_lt hf
          refine x_putI dX11_ahead_215 lm_0 fl_X11_132 rfl rfl rfl hI27 ?_
          refine x_aload_n 1 dX11_ahead_218 rfl rfl ?_
          refine x_iload_n 0 dX11_ahead_219 rfl rfl ?_
          refine x_bipush (v := (59)) dX11_ahead_220 (by decide) ?_
          refine x_icmp_eq 243 dX11_ahead_222 (by decide) (fun hB => ?_) (fun hB => ?_)
          · replace hf := f_if hB hf
            refine x_iconst (v := (4)) dX11_ahead_243 (by decide) ?_
            refine x_goto 248 dX11_ahead_244 (by decide) ?_
            obtain ⟨I28, hI28, hf⟩ := f_lt hf
            refine x_putI dX11_ahead_248 lm_0 fl_X11_144 rfl rfl rfl hI28 ?_
            cases hf
            exact x_vret dX11_ahead_251 rfl rfl
          · replace hf := f_el hB hf
            refine x_iload_n 0 dX11_ahead_225 rfl rfl ?_
            refine x_bipush (v := (60)) dX11_ahead_226 (by decide) ?_
            refine x_icmp_eq 243 dX11_ahead_228 (by decide) (fun hB => ?_) (fun hB => ?_)
            · replace hf := f_if hB hf
              refine x_iconst (v := (4)) dX11_ahead_243 (by decide) ?_
              refine x_goto 248 dX11_ahead_244 (by decide) ?_
              obtain ⟨I29, hI29, hf⟩ := f_lt hf
              refine x_putI dX11_ahead_248 lm_0 fl_X11_144 rfl rfl rfl hI29 ?_
              cases hf
              exact x_vret dX11_ahead_251 rfl rfl
            · replace hf := f_el hB hf
              refine x_iload_n 0 dX11_ahead_231 rfl rfl ?_
              refine x_bipush (v := (62)) dX11_ahead_232 (by decide) ?_
              refine x_icmp_eq 243 dX11_ahead_234 (by decide) (fun hB => ?_) (fun hB => ?_)
              · replace hf := f_if hB hf
                refine x_iconst (v := (4)) dX11_ahead_243 (by decide) ?_
                refine x_goto 248 dX11_ahead_244 (by decide) ?_
                obtain ⟨I30, hI30, hf⟩ := f_lt hf
                refine x_putI dX11_ahead_248 lm_0 fl_X11_144 rfl rfl rfl hI30 ?_
                cases hf
                exact x_vret dX11_ahead_251 rfl rfl
              · replace hf := f_el hB hf
                refine x_iload_n 0 dX11_ahead_237 rfl rfl ?_
                refine x_bipush (v := (61)) dX11_ahead_238 (by decide) ?_
                refine x_icmp_ne 247 dX11_ahead_240 (by decide) (fun hB => ?_) (fun hB => ?_)
                · replace hf := f_el hB hf
                  refine x_iconst (v := (1)) dX11_ahead_247 (by decide) ?_
                  obtain ⟨I32, hI32, hf⟩ := f_lt hf
                  refine x_putI dX11_ahead_248 lm_0 fl_X11_144 rfl rfl rfl hI32 ?_
                  cases hf
                  exact x_vret dX11_ahead_251 rfl rfl
                · replace hf := f_if hB hf
                  refine x_iconst (v := (4)) dX11_ahead_243 (by decide) ?_
                  refine x_goto 248 dX11_ahead_244 (by decide) ?_
                  obtain ⟨I31, hI31, hf⟩ := f_lt hf
                  refine x_putI dX11_ahead_248 lm_0 fl_X11_144 rfl rfl rfl hI31 ?_
                  cases hf
                  exact x_vret dX11_ahead_251 rfl rfl
        · replace hf := f_if hB hf
          refine x_aload_n 1 dX11_ahead_123 rfl rfl ?_
          refine x_iconst (v := (0)) dX11_ahead_124 (by decide) ?_
          obtain ⟨I17, hI17, hf⟩ := f_lt hf
          refine x_putI dX11_ahead_125 lm_0 fl_X11_141 rfl rfl rfl hI17 ?_
          refine x_lv [(0, .ref 0)] [1] rfl ?_
          refine l_X11_ahead_128 (L) _ ?_ _ _ hf
          · intro I_24 hf
            refine x_aload_n 0 dX11_ahead_183 rfl rfl ?_
            refine x_aload_n 0 dX11_ahead_184 rfl rfl ?_
            refine x_getI (v := (I_24 0 14)) dX11_ahead_185 lm_0 fl_X11_132 rfl rfl ?_
            refine x_aload_n 0 dX11_ahead_188 rfl rfl ?_
            refine x_getI (v := (I_24 0 13)) dX11_ahead_189 lm_0 fl_X11_138 rfl rfl ?_
            refine x_isub dX11_ahead_192 ?_
            refine x_iconst (v := (4)) dX11_ahead_193 (by decide) ?_
            refine x_icmp_le 201 dX11_ahead_194 (by decide) (fun hB => ?_) (fun hB => ?_)
            · replace hf := f_if hB hf
              refine x_iconst (v := (3)) dX11_ahead_201 (by decide) ?_
              obtain ⟨I25, hI25, hf⟩ := f_lt hf
              refine x_putI dX11_ahead_202 lm_0 fl_X11_144 rfl rfl rfl hI25 ?_
              refine x_goto 251 dX11_ahead_205 (by decide) ?_
              cases hf
              exact x_vret dX11_ahead_251 rfl rfl
            · replace hf := f_el hB hf
              refine x_iconst (v := (1)) dX11_ahead_197 (by decide) ?_
              refine x_goto 202 dX11_ahead_198 (by decide) ?_
              obtain ⟨I26, hI26, hf⟩ := f_lt hf
              refine x_putI dX11_ahead_202 lm_0 fl_X11_144 rfl rfl rfl hI26 ?_
              refine x_goto 251 dX11_ahead_205 (by decide) ?_
              cases hf
              exact x_vret dX11_ahead_251 rfl rfl
      · replace hf := f_if hB hf
        refine x_lv [(0, .ref 0)] [1] rfl ?_
        refine l_X11_ahead_81 (L)   _ _ hf
    · replace hf := f_if hB hf
      refine x_aload_n 1 dX11_ahead_66 rfl rfl ?_
      refine x_iconst (v := (0)) dX11_ahead_67 (by decide) ?_
      obtain ⟨I12, hI12, hf⟩ := f_lt hf
      refine x_putI dX11_ahead_68 lm_0 fl_X11_144 rfl rfl rfl hI12 ?_
      refine x_goto 251 dX11_ahead_71 (by decide) ?_
      cases hf
      exact x_vret dX11_ahead_251 rfl rfl
set_option maxRecDepth 100000 in
set_option maxHeartbeats 4000000 in
theorem c_X11_isSign {I : z_I} {L : z_L} (p0 : Int32)  : z_C layM yX11_isSign cX11_isSign 2 (some .boolean) ({ frames := 0, cells := 0, slots := 0, locals := 0 } : Room) [.ref 0, .int p0] I L (some (.int (zb (f_X11_isSign I p0))), I, L) := by
  obtain ⟨r, hf⟩ : ∃ r, f_X11_isSign I p0 = r := ⟨_, rfl⟩
  rw [hf]
  refine z_C.of (by decide) (Nat.le_of_ble_eq_true rfl) ?_
  show z_X layM RX11 cX11_isSign 2 (some .boolean) ({ frames := 0, cells := 0, slots := 0, locals := 0 } : Room) 0 [(0, .ref 0), (1, .int p0)] [] I L (some (.int (zb r)), I, L)
  unfold f_X11_isSign at hf
  refine x_aload_n 0 dX11_isSign_0 rfl rfl ?_
  refine x_getI (v := (I 0 12)) dX11_isSign_1 lm_0 fl_X11_144 rfl rfl ?_
  refine x_iconst (v := (4)) dX11_isSign_4 (by decide) ?_
  refine x_icmp_ne 20 dX11_isSign_5 (by decide) (fun hB => ?_) (fun hB => ?_)
  · replace hf := t_el hB hf
    refine x_iconst (v := (0)) dX11_isSign_20 (by decide) ?_
    subst hf
    exact x_zret (b := false) dX11_isSign_21 rfl rfl
  · replace hf := t_if hB hf
    refine x_aload_n 0 dX11_isSign_8 rfl rfl ?_
    refine x_getI (v := (I 0 15)) dX11_isSign_9 lm_0 fl_X11_141 rfl rfl ?_
    refine x_iload_n 1 dX11_isSign_12 rfl rfl ?_
    refine x_icmp_ne 20 dX11_isSign_13 (by decide) (fun hB => ?_) (fun hB => ?_)
    · replace hf := t_el hB hf
      refine x_iconst (v := (0)) dX11_isSign_20 (by decide) ?_
      subst hf
      exact x_zret (b := false) dX11_isSign_21 rfl rfl
    · replace hf := t_if hB hf
      refine x_iconst (v := (1)) dX11_isSign_16 (by decide) ?_
      refine x_goto 21 dX11_isSign_17 (by decide) ?_
      subst hf
      exact x_zret (b := true) dX11_isSign_21 rfl rfl
set_option maxRecDepth 100000 in
set_option maxHeartbeats 4000000 in
theorem l_X11_inWords_25   (v2 : Int32) (v3 : Int32) (I : z_I) (L : z_L) {r : Int32} (k42 : Int32 → Option (Int32)) (hk42 : ∀ (v4 : Int32), k42 v4 = some r → z_X layM RX11 cX11_inWords 7 (some .int) ({ frames := 4, cells := 0, slots := 0, locals := 90 } : Room) 42 [(0, .ref 0), (1, .ref 9001), (2, .int v2), (3, .int v3), (4, .int v4)] [] I L (some (.int r), I, L)) : ∀ (n : Nat) (v4 : Int32), g_X11_inWords_25 v2 v3 I k42 n v4 = some r → z_X layM RX11 cX11_inWords 7 (some .int) ({ frames := 4, cells := 0, slots := 0, locals := 90 } : Room) 25 [(0, .ref 0), (1, .ref 9001), (2, .int v2), (3, .int v3), (4, .int v4)] [] I L (some (.int r), I, L) := by
  intro n
  induction n with
  | zero => intro v4 hf; cases hf
  | succ n ih =>
    intro v4 hf
    rw [g_X11_inWords_25] at hf
    refine x_aload_n 1 dX11_inWords_25 rfl rfl ?_
    refine x_iload 4 dX11_inWords_26 rfl ?_
    obtain ⟨h1, hf⟩ := f_gd hf
    refine x_schar dX11_inWords_28 lk_X11_165 h1 ⟨Nat.le_of_ble_eq_true rfl, Nat.le_of_ble_eq_true rfl⟩ (Nat.le_of_ble_eq_true rfl) ?_
    refine x_bipush (v := (32)) dX11_inWords_31 (by decide) ?_
    refine x_icmp_eq 42 dX11_inWords_33 (by decide) (fun hB => ?_) (fun hB => ?_)
    · replace hf := f_if hB hf
      refine x_lv [(0, .ref 0), (1, .ref 9001), (2, .int v2), (3, .int v3), (4, .int v4)] [0, 1, 2, 3, 4] rfl ?_
      exact hk42 _ hf
    · replace hf := f_el hB hf
      refine x_iinc 4 [(4, .int (v4 + (1 : Int32))), (0, .ref 0), (1, .ref 9001), (2, .int v2), (3, .int v3)] dX11_inWords_36 rfl rfl (by decide) rfl ?_
      refine x_goto 25 dX11_inWords_39 (by decide) ?_
      refine x_lv [(0, .ref 0), (1, .ref 9001), (2, .int v2), (3, .int v3), (4, .int (v4 + (1 : Int32)))] [1, 2, 3, 4, 0] rfl ?_
      exact ih _ hf
set_option maxRecDepth 100000 in
set_option maxHeartbeats 4000000 in
theorem l_X11_inWords_68   (v2 : Int32) (v3 : Int32) (v4 : Int32) (I : z_I) (L : z_L) {r : Int32} (k115 : Int32 → Option (Int32)) (hk115 : ∀ (v5 : Int32), k115 v5 = some r → z_X layM RX11 cX11_inWords 7 (some .int) ({ frames := 4, cells := 0, slots := 0, locals := 90 } : Room) 115 [(0, .ref 0), (1, .ref 9001), (2, .int v2), (4, .int v4), (5, .int v5)] [] I L (some (.int r), I, L)) : ∀ (n : Nat) (v5 : Int32) (v6 : Int32), g_X11_inWords_68 v2 v3 v4 I k115 n v5 v6 = some r → z_X layM RX11 cX11_inWords 7 (some .int) ({ frames := 4, cells := 0, slots := 0, locals := 90 } : Room) 68 [(0, .ref 0), (1, .ref 9001), (2, .int v2), (3, .int v3), (4, .int v4), (5, .int v5), (6, .int v6)] [] I L (some (.int r), I, L) := by
  intro n
  induction n with
  | zero => intro v5 v6 hf; cases hf
  | succ n ih =>
    intro v5 v6 hf
    rw [g_X11_inWords_68] at hf
    refine x_iload 6 dX11_inWords_68 rfl ?_
    refine x_iload 4 dX11_inWords_70 rfl ?_
    refine x_icmp_ge 115 dX11_inWords_72 (by decide) (fun hB => ?_) (fun hB => ?_)
    · replace hf := f_if hB hf
      refine x_lv [(0, .ref 0), (1, .ref 9001), (2, .int v2), (4, .int v4), (5, .int v5)] [0, 1, 2, 4, 5] rfl ?_
      exact hk115 _ hf
    · replace hf := f_el hB hf
      refine x_iload 5 dX11_inWords_75 rfl ?_
      refine x_if_eq 115 dX11_inWords_77 (by decide) (fun hB => ?_) (fun hB => ?_)
      · replace hf := f_if hB hf
        refine x_lv [(0, .ref 0), (1, .ref 9001), (2, .int v2), (4, .int v4), (5, .int v5)] [0, 1, 2, 4, 5] rfl ?_
        exact hk115 _ hf
      · replace hf := f_el hB hf
        refine x_aload_n 1 dX11_inWords_80 rfl rfl ?_
        refine x_iload 6 dX11_inWords_81 rfl ?_
        obtain ⟨h3, hf⟩ := f_gd hf
        refine x_schar dX11_inWords_83 lk_X11_165 h3 ⟨Nat.le_of_ble_eq_true rfl, Nat.le_of_ble_eq_true rfl⟩ (Nat.le_of_ble_eq_true rfl) ?_
        refine x_aload_n 0 dX11_inWords_86 rfl rfl ?_
        refine x_aload_n 0 dX11_inWords_87 rfl rfl ?_
        refine x_getI (v := (I 0 13)) dX11_inWords_88 lm_0 fl_X11_138 rfl rfl ?_
        refine x_iload 6 dX11_inWords_91 rfl ?_
        refine x_iadd dX11_inWords_93 ?_
        refine x_iload_n 3 dX11_inWords_94 rfl rfl ?_
        refine x_isub dX11_inWords_95 ?_
        obtain ⟨q4, hq5, hf⟩ := f_bd hf
        refine x_callVi [.int (((I 0 13) + v6) - v3)] (c_X11_byteAt (I := I) (L := L)  hq5) dX11_inWords_96 lk_X11_135 lm_0 rfl cd_X11_byteAt rfl rfl (Nat.le_of_ble_eq_true rfl) ⟨rfl, rfl, Nat.le_of_ble_eq_true rfl, Nat.le_of_ble_eq_true rfl⟩ ?_
        refine x_icmp_ne 106 dX11_inWords_99 (by decide) (fun hB => ?_) (fun hB => ?_)
        · replace hf := f_el hB hf
          refine x_iconst (v := (0)) dX11_inWords_106 (by decide) ?_
          refine x_istore [(5, .int (0 : Int32)), (0, .ref 0), (1, .ref 9001), (2, .int v2), (3, .int v3), (4, .int v4), (6, .int v6)] dX11_inWords_107 (by decide) rfl ?_
          refine x_iinc 6 [(6, .int (v6 + (1 : Int32))), (5, .int (0 : Int32)), (0, .ref 0), (1, .ref 9001), (2, .int v2), (3, .int v3), (4, .int v4)] dX11_inWords_109 rfl rfl (by decide) rfl ?_
          refine x_goto 68 dX11_inWords_112 (by decide) ?_
          refine x_lv [(0, .ref 0), (1, .ref 9001), (2, .int v2), (3, .int v3), (4, .int v4), (5, .int (0 : Int32)), (6, .int (v6 + (1 : Int32)))] [2, 3, 4, 5, 6, 1, 0] rfl ?_
          exact ih _ _ hf
        · replace hf := f_if hB hf
          refine x_iconst (v := (1)) dX11_inWords_102 (by decide) ?_
          refine x_goto 107 dX11_inWords_103 (by decide) ?_
          refine x_istore [(5, .int (1 : Int32)), (0, .ref 0), (1, .ref 9001), (2, .int v2), (3, .int v3), (4, .int v4), (6, .int v6)] dX11_inWords_107 (by decide) rfl ?_
          refine x_iinc 6 [(6, .int (v6 + (1 : Int32))), (5, .int (1 : Int32)), (0, .ref 0), (1, .ref 9001), (2, .int v2), (3, .int v3), (4, .int v4)] dX11_inWords_109 rfl rfl (by decide) rfl ?_
          refine x_goto 68 dX11_inWords_112 (by decide) ?_
          refine x_lv [(0, .ref 0), (1, .ref 9001), (2, .int v2), (3, .int v3), (4, .int v4), (5, .int (1 : Int32)), (6, .int (v6 + (1 : Int32)))] [2, 3, 4, 5, 6, 1, 0] rfl ?_
          exact ih _ _ hf
set_option maxRecDepth 100000 in
set_option maxHeartbeats 4000000 in
theorem l_X11_inWords_14    (I : z_I) (L : z_L) {r : Int32}  : ∀ (n : Nat) (v2 : Int32) (v3 : Int32), g_X11_inWords_14 I  n v2 v3 = some r → z_X layM RX11 cX11_inWords 7 (some .int) ({ frames := 4, cells := 0, slots := 0, locals := 90 } : Room) 14 [(0, .ref 0), (1, .ref 9001), (2, .int v2), (3, .int v3)] [] I L (some (.int r), I, L) := by
  intro n
  induction n with
  | zero => intro v2 v3 hf; cases hf
  | succ n ih =>
    intro v2 v3 hf
    rw [g_X11_inWords_14] at hf
    refine x_iload_n 3 dX11_inWords_14 rfl rfl ?_
    refine x_aload_n 1 dX11_inWords_15 rfl rfl ?_
    refine x_slen dX11_inWords_16 lk_X11_159 ⟨Nat.le_of_ble_eq_true rfl, Nat.le_of_ble_eq_true rfl⟩ (Nat.le_of_ble_eq_true rfl) ?_
    refine x_icmp_ge 133 dX11_inWords_19 (by decide) (fun hB => ?_) (fun hB => ?_)
    · replace hf := f_if hB hf
      refine x_iconst (v := (-1)) dX11_inWords_133 (by decide) ?_
      cases hf
      exact x_iret dX11_inWords_134 rfl rfl
    · replace hf := f_el hB hf
      refine x_iload_n 3 dX11_inWords_22 rfl rfl ?_
      refine x_istore [(4, .int v3), (0, .ref 0), (1, .ref 9001), (2, .int v2), (3, .int v3)] dX11_inWords_23 (by decide) rfl ?_
      refine x_lv [(0, .ref 0), (1, .ref 9001), (2, .int v2), (3, .int v3), (4, .int v3)] [1, 2, 3, 4, 0] rfl ?_
      refine l_X11_inWords_25 v2 v3 (I) (L) _ ?_ _ _ hf
      · intro v4_2 hf
        refine x_iload 4 dX11_inWords_42 rfl ?_
        refine x_iload_n 3 dX11_inWords_44 rfl rfl ?_
        refine x_isub dX11_inWords_45 ?_
        refine x_aload_n 0 dX11_inWords_46 rfl rfl ?_
        refine x_getI (v := (I 0 14)) dX11_inWords_47 lm_0 fl_X11_132 rfl rfl ?_
        refine x_aload_n 0 dX11_inWords_50 rfl rfl ?_
        refine x_getI (v := (I 0 13)) dX11_inWords_51 lm_0 fl_X11_138 rfl rfl ?_
        refine x_isub dX11_inWords_54 ?_
        refine x_icmp_ne 62 dX11_inWords_55 (by decide) (fun hB => ?_) (fun hB => ?_)
        · replace hf := f_el hB hf
          refine x_iconst (v := (0)) dX11_inWords_62 (by decide) ?_
          refine x_istore [(5, .int (0 : Int32)), (0, .ref 0), (1, .ref 9001), (2, .int v2), (3, .int v3), (4, .int v4_2)] dX11_inWords_63 (by decide) rfl ?_
          refine x_iload_n 4 dX11_inWords_65 rfl rfl ?_
          refine x_istore [(6, .int v3), (5, .int (0 : Int32)), (0, .ref 0), (1, .ref 9001), (2, .int v2), (3, .int v3), (4, .int v4_2)] dX11_inWords_66 (by decide) rfl ?_
          refine x_lv [(0, .ref 0), (1, .ref 9001), (2, .int v2), (3, .int v3), (4, .int v4_2), (5, .int (0 : Int32)), (6, .int v3)] [2, 3, 4, 5, 6, 1, 0] rfl ?_
          refine l_X11_inWords_68 v2 v3 v4_2 (I) (L) _ ?_ _ _ _ hf
          · intro v5_7 hf
            refine x_iload 4 dX11_inWords_115 rfl ?_
            refine x_if_eq 122 dX11_inWords_117 (by decide) (fun hB => ?_) (fun hB => ?_)
            · replace hf := f_if hB hf
              refine x_iinc 2 [(2, .int (v2 + (1 : Int32))), (0, .ref 0), (1, .ref 9001), (4, .int v4_2), (5, .int v5_7)] dX11_inWords_122 rfl rfl (by decide) rfl ?_
              refine x_iload 3 dX11_inWords_125 rfl ?_
              refine x_iconst (v := (1)) dX11_inWords_127 (by decide) ?_
              refine x_iadd dX11_inWords_128 ?_
              refine x_istore_n [(3, .int (v4_2 + (1 : Int32))), (2, .int (v2 + (1 : Int32))), (0, .ref 0), (1, .ref 9001), (4, .int v4_2), (5, .int v5_7)] dX11_inWords_129 rfl (by decide) rfl ?_
              refine x_goto 14 dX11_inWords_130 (by decide) ?_
              refine x_lv [(0, .ref 0), (1, .ref 9001), (2, .int (v2 + (1 : Int32))), (3, .int (v4_2 + (1 : Int32)))] [2, 3, 1, 0] rfl ?_
              exact ih _ _ hf
            · replace hf := f_el hB hf
              refine x_iload_n 2 dX11_inWords_120 rfl rfl ?_
              cases hf
              exact x_iret dX11_inWords_121 rfl rfl
        · replace hf := f_if hB hf
          refine x_iconst (v := (1)) dX11_inWords_58 (by decide) ?_
          refine x_goto 63 dX11_inWords_59 (by decide) ?_
          refine x_istore [(5, .int (1 : Int32)), (0, .ref 0), (1, .ref 9001), (2, .int v2), (3, .int v3), (4, .int v4_2)] dX11_inWords_63 (by decide) rfl ?_
          refine x_iload_n 4 dX11_inWords_65 rfl rfl ?_
          refine x_istore [(6, .int v3), (5, .int (1 : Int32)), (0, .ref 0), (1, .ref 9001), (2, .int v2), (3, .int v3), (4, .int v4_2)] dX11_inWords_66 (by decide) rfl ?_
          refine x_lv [(0, .ref 0), (1, .ref 9001), (2, .int v2), (3, .int v3), (4, .int v4_2), (5, .int (1 : Int32)), (6, .int v3)] [2, 3, 4, 5, 6, 1, 0] rfl ?_
          refine l_X11_inWords_68 v2 v3 v4_2 (I) (L) _ ?_ _ _ _ hf
          · intro v5_6 hf
            refine x_iload 4 dX11_inWords_115 rfl ?_
            refine x_if_eq 122 dX11_inWords_117 (by decide) (fun hB => ?_) (fun hB => ?_)
            · replace hf := f_if hB hf
              refine x_iinc 2 [(2, .int (v2 + (1 : Int32))), (0, .ref 0), (1, .ref 9001), (4, .int v4_2), (5, .int v5_6)] dX11_inWords_122 rfl rfl (by decide) rfl ?_
              refine x_iload 3 dX11_inWords_125 rfl ?_
              refine x_iconst (v := (1)) dX11_inWords_127 (by decide) ?_
              refine x_iadd dX11_inWords_128 ?_
              refine x_istore_n [(3, .int (v4_2 + (1 : Int32))), (2, .int (v2 + (1 : Int32))), (0, .ref 0), (1, .ref 9001), (4, .int v4_2), (5, .int v5_6)] dX11_inWords_129 rfl (by decide) rfl ?_
              refine x_goto 14 dX11_inWords_130 (by decide) ?_
              refine x_lv [(0, .ref 0), (1, .ref 9001), (2, .int (v2 + (1 : Int32))), (3, .int (v4_2 + (1 : Int32)))] [2, 3, 1, 0] rfl ?_
              exact ih _ _ hf
            · replace hf := f_el hB hf
              refine x_iload_n 2 dX11_inWords_120 rfl rfl ?_
              cases hf
              exact x_iret dX11_inWords_121 rfl rfl
set_option maxRecDepth 100000 in
set_option maxHeartbeats 4000000 in
theorem c_X11_inWords {I : z_I} {L : z_L}   {r : Int32} (hf : f_X11_inWords I = some r) : z_C layM yX11_inWords cX11_inWords 7 (some .int) ({ frames := 4, cells := 0, slots := 0, locals := 90 } : Room) [.ref 0, .ref 9001] I L (some (.int r), I, L) := by
  refine z_C.of (by decide) (Nat.le_of_ble_eq_true rfl) ?_
  show z_X layM RX11 cX11_inWords 7 (some .int) ({ frames := 4, cells := 0, slots := 0, locals := 90 } : Room) 0 [(0, .ref 0), (1, .ref 9001)] [] I L (some (.int r), I, L)
  unfold f_X11_inWords at hf
  refine x_aload_n 0 dX11_inWords_0 rfl rfl ?_
  refine x_getI (v := (I 0 12)) dX11_inWords_1 lm_0 fl_X11_144 rfl rfl ?_
  refine x_iconst (v := (2)) dX11_inWords_4 (by decide) ?_
  refine x_icmp_eq 10 dX11_inWords_5 (by decide) (fun hB => ?_) (fun hB => ?_)
  · replace hf := f_if hB hf
    refine x_iconst (v := (0)) dX11_inWords_10 (by decide) ?_
    refine x_istore_n [(2, .int (0 : Int32)), (0, .ref 0), (1, .ref 9001)] dX11_inWords_11 rfl (by decide) rfl ?_
    refine x_iconst (v := (1)) dX11_inWords_12 (by decide) ?_
    refine x_istore_n [(3, .int (1 : Int32)), (2, .int (0 : Int32)), (0, .ref 0), (1, .ref 9001)] dX11_inWords_13 rfl (by decide) rfl ?_
    refine x_lv [(0, .ref 0), (1, .ref 9001), (2, .int (0 : Int32)), (3, .int (1 : Int32))] [2, 3, 1, 0] rfl ?_
    refine l_X11_inWords_14 (I) (L)   _ _ _ hf
  · replace hf := f_el hB hf
    refine x_iconst (v := (-1)) dX11_inWords_8 (by decide) ?_
    cases hf
    exact x_iret dX11_inWords_9 rfl rfl
set_option maxRecDepth 100000 in
set_option maxHeartbeats 4000000 in
theorem c_X11_fails {I : z_I} {L : z_L} (p0 : Int32)  : z_C layM yX11_fails cX11_fails 2 (some .boolean) ({ frames := 0, cells := 0, slots := 0, locals := 0 } : Room) [.ref 0, .int p0] I L (some (.int (zb (f_X11_fails I p0).1)), (f_X11_fails I p0).2, L) := by
  obtain ⟨r, hf⟩ : ∃ r, f_X11_fails I p0 = r := ⟨_, rfl⟩
  rw [hf]
  refine z_C.of (by decide) (Nat.le_of_ble_eq_true rfl) ?_
  show z_X layM RX11 cX11_fails 2 (some .boolean) ({ frames := 0, cells := 0, slots := 0, locals := 0 } : Room) 0 [(0, .ref 0), (1, .int p0)] [] I L (some (.int (zb r.1)), r.2, L)
  unfold f_X11_fails at hf
  refine x_aload_n 0 dX11_fails_0 rfl rfl ?_
  refine x_getI (v := (I 0 18)) dX11_fails_1 lm_0 fl_X11_169 rfl rfl ?_
  refine x_if_ne 32 dX11_fails_4 (by decide) (fun hB => ?_) (fun hB => ?_)
  · replace hf := t_el hB hf
    refine x_iconst (v := (0)) dX11_fails_32 (by decide) ?_
    subst hf
    exact x_zret (b := false) dX11_fails_33 rfl rfl
  · replace hf := t_if hB hf
    refine x_aload_n 0 dX11_fails_7 rfl rfl ?_
    refine x_aload_n 0 dX11_fails_8 rfl rfl ?_
    refine x_getI (v := (I 0 12)) dX11_fails_9 lm_0 fl_X11_144 rfl rfl ?_
    refine x_iconst (v := (1)) dX11_fails_12 (by decide) ?_
    refine x_icmp_ne 20 dX11_fails_13 (by decide) (fun hB => ?_) (fun hB => ?_)
    · replace hf := t_el hB hf
      refine x_iload_n 1 dX11_fails_20 rfl rfl ?_
      obtain ⟨I3, hI3, hf⟩ := f_lt hf
      refine x_putI dX11_fails_21 lm_0 fl_X11_169 rfl rfl rfl hI3 ?_
      refine x_aload_n 0 dX11_fails_24 rfl rfl ?_
      refine x_aload_n 0 dX11_fails_25 rfl rfl ?_
      refine x_getI (v := (I 0 13)) dX11_fails_26 lm_0 fl_X11_138 rfl (by rw [hI3, z2_s, z1_o (by decide)]) ?_
      obtain ⟨I4, hI4, hf⟩ := f_lt hf
      refine x_putI dX11_fails_29 lm_0 fl_X11_41 rfl rfl rfl hI4 ?_
      refine x_iconst (v := (0)) dX11_fails_32 (by decide) ?_
      subst hf
      exact x_zret (b := false) dX11_fails_33 rfl rfl
    · replace hf := t_if hB hf
      refine x_iconst (v := (1)) dX11_fails_16 (by decide) ?_
      refine x_goto 21 dX11_fails_17 (by decide) ?_
      obtain ⟨I1, hI1, hf⟩ := f_lt hf
      refine x_putI dX11_fails_21 lm_0 fl_X11_169 rfl rfl rfl hI1 ?_
      refine x_aload_n 0 dX11_fails_24 rfl rfl ?_
      refine x_aload_n 0 dX11_fails_25 rfl rfl ?_
      refine x_getI (v := (I 0 13)) dX11_fails_26 lm_0 fl_X11_138 rfl (by rw [hI1, z2_s, z1_o (by decide)]) ?_
      obtain ⟨I2, hI2, hf⟩ := f_lt hf
      refine x_putI dX11_fails_29 lm_0 fl_X11_41 rfl rfl rfl hI2 ?_
      refine x_iconst (v := (0)) dX11_fails_32 (by decide) ?_
      subst hf
      exact x_zret (b := false) dX11_fails_33 rfl rfl
set_option maxRecDepth 100000 in
set_option maxHeartbeats 4000000 in
theorem l_X11_begins_26   (v1 : Int32) (L : z_L) {r : Bool × z_I} (k49 : z_I → Option (Bool × z_I)) (hk49 : ∀ (I : z_I), k49 I = some r → z_X layM RX11 cX11_begins 4 (some .boolean) ({ frames := 2, cells := 0, slots := 0, locals := 49 } : Room) 49 [(0, .ref 0)] [] I L (some (.int (zb r.1)), r.2, L)) : ∀ (n : Nat) (v3 : Int32) (I : z_I), g_X11_begins_26 v1 k49 n v3 I = some r → z_X layM RX11 cX11_begins 4 (some .boolean) ({ frames := 2, cells := 0, slots := 0, locals := 49 } : Room) 26 [(0, .ref 0), (1, .int v1), (3, .int v3)] [] I L (some (.int (zb r.1)), r.2, L) := by
  intro n
  induction n with
  | zero => intro v3 I hf; cases hf
  | succ n ih =>
    intro v3 I hf
    rw [g_X11_begins_26] at hf
    refine x_iload_n 2 dX11_begins_26 rfl rfl ?_
    refine x_iload_n 1 dX11_begins_27 rfl rfl ?_
    refine x_icmp_ge 49 dX11_begins_28 (by decide) (fun hB => ?_) (fun hB => ?_)
    · replace hf := f_if hB hf
      refine x_lv [(0, .ref 0)] [0] rfl ?_
      exact hk49 _ hf
    · replace hf := f_el hB hf
      refine x_aload_n 0 dX11_begins_31 rfl rfl ?_
      refine x_getR dX11_begins_32 lm_0 fl_X11_34 rfl ?_
      refine x_iload_n 2 dX11_begins_35 rfl rfl ?_
      refine x_aload_n 0 dX11_begins_36 rfl rfl ?_
      refine x_getR dX11_begins_37 lm_0 fl_X11_30 rfl ?_
      refine x_iload_n 2 dX11_begins_40 rfl rfl ?_
      obtain ⟨h2, hf⟩ := f_gd hf
      refine x_bald (j := (v3).toNatClampNeg) (v := (I 6 (v3).toNatClampNeg)) dX11_begins_41 lm_6 h2 rfl rfl ?_
      obtain ⟨I4, hI4, hf⟩ := f_lt hf
      refine x_bast (j0 := (v3).toNatClampNeg) dX11_begins_42 lm_7 h2 rfl hI4 ?_
      refine x_iinc 2 [(3, .int (v3 + (1 : Int32))), (0, .ref 0), (1, .int v1)] dX11_begins_43 rfl rfl (by decide) rfl ?_
      refine x_goto 26 dX11_begins_46 (by decide) ?_
      refine x_lv [(0, .ref 0), (1, .int v1), (3, .int (v3 + (1 : Int32)))] [1, 2, 0] rfl ?_
      exact ih _ _ hf
set_option maxRecDepth 100000 in
set_option maxHeartbeats 4000000 in
theorem c_X11_begins {I : z_I} {L : z_L} {p0 : Int32} {p1 : Int32}  {r : Bool × z_I} (hf : f_X11_begins I p0 p1 = some r) : z_C layM yX11_begins cX11_begins 4 (some .boolean) ({ frames := 2, cells := 0, slots := 0, locals := 49 } : Room) [.ref 0, .int p0, .int p1] I L (some (.int (zb r.1)), r.2, L) := by
  refine z_C.of (by decide) (Nat.le_of_ble_eq_true rfl) ?_
  show z_X layM RX11 cX11_begins 4 (some .boolean) ({ frames := 2, cells := 0, slots := 0, locals := 49 } : Room) 0 [(0, .ref 0), (1, .int p0), (2, .int p1)] [] I L (some (.int (zb r.1)), r.2, L)
  unfold f_X11_begins at hf
  refine x_iload_n 1 dX11_begins_0 rfl rfl ?_
  refine x_if_lt 17 dX11_begins_1 (by decide) (fun hB => ?_) (fun hB => ?_)
  · replace hf := f_if hB hf
    refine x_iconst (v := (0)) dX11_begins_17 (by decide) ?_
    cases hf
    exact x_zret (b := false) dX11_begins_18 rfl rfl
  · replace hf := f_el hB hf
    refine x_iload_n 1 dX11_begins_4 rfl rfl ?_
    refine x_aload_n 0 dX11_begins_5 rfl rfl ?_
    refine x_getI (v := (I 0 10)) dX11_begins_6 lm_0 fl_X11_123 rfl rfl ?_
    refine x_icmp_gt 17 dX11_begins_9 (by decide) (fun hB => ?_) (fun hB => ?_)
    · replace hf := f_if hB hf
      refine x_iconst (v := (0)) dX11_begins_17 (by decide) ?_
      cases hf
      exact x_zret (b := false) dX11_begins_18 rfl rfl
    · replace hf := f_el hB hf
      refine x_iload_n 1 dX11_begins_12 rfl rfl ?_
      refine x_iload_n 2 dX11_begins_13 rfl rfl ?_
      refine x_icmp_le 19 dX11_begins_14 (by decide) (fun hB => ?_) (fun hB => ?_)
      · replace hf := f_if hB hf
        refine x_aload_n 0 dX11_begins_19 rfl rfl ?_
        refine x_iload_n 1 dX11_begins_20 rfl rfl ?_
        obtain ⟨I1, hI1, hf⟩ := f_lt hf
        refine x_putI dX11_begins_21 lm_0 fl_X11_129 rfl rfl rfl hI1 ?_
        refine x_iconst (v := (0)) dX11_begins_24 (by decide) ?_
        refine x_istore_n [(3, .int (0 : Int32)), (0, .ref 0), (1, .int p0), (2, .int p1)] dX11_begins_25 rfl (by decide) rfl ?_
        refine x_lv [(0, .ref 0), (1, .int p0), (3, .int (0 : Int32))] [1, 2, 0] rfl ?_
        refine l_X11_begins_26 p0 (L) _ ?_ _ _ _ hf
        · intro I_5 hf
          refine x_aload_n 0 dX11_begins_49 rfl rfl ?_
          refine x_iconst (v := (0)) dX11_begins_50 (by decide) ?_
          obtain ⟨I6, hI6, hf⟩ := f_lt hf
          refine x_putI dX11_begins_51 lm_0 fl_X11_123 rfl rfl rfl hI6 ?_
          refine x_aload_n 0 dX11_begins_54 rfl rfl ?_
          refine x_iconst (v := (0)) dX11_begins_55 (by decide) ?_
          obtain ⟨I7, hI7, hf⟩ := f_lt hf
          refine x_putI dX11_begins_56 lm_0 fl_X11_169 rfl rfl rfl hI7 ?_
          refine x_aload_n 0 dX11_begins_59 rfl rfl ?_
          refine x_iconst (v := (-1)) dX11_begins_60 (by decide) ?_
          obtain ⟨I8, hI8, hf⟩ := f_lt hf
          refine x_putI dX11_begins_61 lm_0 fl_X11_41 rfl rfl rfl hI8 ?_
          refine x_aload_n 0 dX11_begins_64 rfl rfl ?_
          refine x_iconst (v := (0)) dX11_begins_65 (by decide) ?_
          obtain ⟨I9, hI9, hf⟩ := f_lt hf
          refine x_putI dX11_begins_66 lm_0 fl_X11_132 rfl rfl rfl hI9 ?_
          refine x_aload_n 0 dX11_begins_69 rfl rfl ?_
          refine x_iconst (v := (0)) dX11_begins_70 (by decide) ?_
          obtain ⟨I10, hI10, hf⟩ := f_lt hf
          refine x_putI dX11_begins_71 lm_0 fl_X11_172 rfl rfl rfl hI10 ?_
          refine x_aload_n 0 dX11_begins_74 rfl rfl ?_
          obtain ⟨q11, hq12, hf⟩ := f_bd hf
          refine x_callVv [] (c_X11_ahead (I := I10) (L := L)  hq12) dX11_begins_75 lk_X11_175 lm_0 rfl cd_X11_ahead rfl rfl (Nat.le_of_ble_eq_true rfl) ⟨rfl, rfl, Nat.le_of_ble_eq_true rfl, Nat.le_of_ble_eq_true rfl⟩ ?_
          refine x_iconst (v := (1)) dX11_begins_78 (by decide) ?_
          cases hf
          exact x_zret (b := true) dX11_begins_79 rfl rfl
      · replace hf := f_el hB hf
        refine x_iconst (v := (0)) dX11_begins_17 (by decide) ?_
        cases hf
        exact x_zret (b := false) dX11_begins_18 rfl rfl
set_option maxRecDepth 100000 in
set_option maxHeartbeats 4000000 in
theorem c_X11_wantSign {I : z_I} {L : z_L} {p0 : Int32}  {r : Bool × z_I} (hf : f_X11_wantSign I p0 = some r) : z_C layM yX11_wantSign cX11_wantSign 2 (some .boolean) ({ frames := 2, cells := 0, slots := 0, locals := 49 } : Room) [.ref 0, .int p0] I L (some (.int (zb r.1)), r.2, L) := by
  refine z_C.of (by decide) (Nat.le_of_ble_eq_true rfl) ?_
  show z_X layM RX11 cX11_wantSign 2 (some .boolean) ({ frames := 2, cells := 0, slots := 0, locals := 49 } : Room) 0 [(0, .ref 0), (1, .int p0)] [] I L (some (.int (zb r.1)), r.2, L)
  unfold f_X11_wantSign at hf
  refine x_aload_n 0 dX11_wantSign_0 rfl rfl ?_
  refine x_iload_n 1 dX11_wantSign_1 rfl rfl ?_
  refine x_callVi [.int p0] (c_X11_isSign (I := I) (L := L) p0) dX11_wantSign_2 lk_X11_178 lm_0 rfl cd_X11_isSign rfl rfl (Nat.le_of_ble_eq_true rfl) ⟨rfl, rfl, Nat.le_of_ble_eq_true rfl, Nat.le_of_ble_eq_true rfl⟩ ?_
  refine x_if_neB 14 dX11_wantSign_5 (by decide) (fun hB => ?_) (fun hB => ?_)
  · replace hf := f_if hB hf
    refine x_aload_n 0 dX11_wantSign_14 rfl rfl ?_
    obtain ⟨q1, hq2, hf⟩ := f_bd hf
    refine x_callVv [] (c_X11_ahead (I := I) (L := L)  hq2) dX11_wantSign_15 lk_X11_175 lm_0 rfl cd_X11_ahead rfl rfl (Nat.le_of_ble_eq_true rfl) ⟨rfl, rfl, Nat.le_of_ble_eq_true rfl, Nat.le_of_ble_eq_true rfl⟩ ?_
    refine x_iconst (v := (1)) dX11_wantSign_18 (by decide) ?_
    cases hf
    exact x_zret (b := true) dX11_wantSign_19 rfl rfl
  · replace hf := f_el hB hf
    refine x_aload_n 0 dX11_wantSign_8 rfl rfl ?_
    refine x_iconst (v := (2)) dX11_wantSign_9 (by decide) ?_
    refine x_callVi [.int (2 : Int32)] (c_X11_fails (I := I) (L := L) (2 : Int32)) dX11_wantSign_10 lk_X11_181 lm_0 rfl cd_X11_fails rfl rfl (Nat.le_of_ble_eq_true rfl) ⟨rfl, rfl, Nat.le_of_ble_eq_true rfl, Nat.le_of_ble_eq_true rfl⟩ ?_
    cases hf
    exact x_zret dX11_wantSign_13 rfl rfl
set_option maxRecDepth 100000 in
set_option maxHeartbeats 4000000 in
theorem c_X11_wantWord {I : z_I} {L : z_L} {p1 : Int32}  {r : Bool × z_I} (hf : f_X11_wantWord I p1 = some r) : z_C layM yX11_wantWord cX11_wantWord 3 (some .boolean) ({ frames := 5, cells := 0, slots := 0, locals := 116 } : Room) [.ref 0, .ref 9001, .int p1] I L (some (.int (zb r.1)), r.2, L) := by
  refine z_C.of (by decide) (Nat.le_of_ble_eq_true rfl) ?_
  show z_X layM RX11 cX11_wantWord 3 (some .boolean) ({ frames := 5, cells := 0, slots := 0, locals := 116 } : Room) 0 [(0, .ref 0), (1, .ref 9001), (2, .int p1)] [] I L (some (.int (zb r.1)), r.2, L)
  unfold f_X11_wantWord at hf
  refine x_aload_n 0 dX11_wantWord_0 rfl rfl ?_
  refine x_aload_n 1 dX11_wantWord_1 rfl rfl ?_
  obtain ⟨q1, hq2, hf⟩ := f_bd hf
  refine x_callVi [.ref 9001] (c_X11_inWords (I := I) (L := L)  hq2) dX11_wantWord_2 lk_X11_184 lm_0 rfl cd_X11_inWords rfl rfl (Nat.le_of_ble_eq_true rfl) ⟨rfl, rfl, Nat.le_of_ble_eq_true rfl, Nat.le_of_ble_eq_true rfl⟩ ?_
  refine x_iload_n 2 dX11_wantWord_5 rfl rfl ?_
  refine x_icmp_eq 15 dX11_wantWord_6 (by decide) (fun hB => ?_) (fun hB => ?_)
  · replace hf := f_if hB hf
    refine x_aload_n 0 dX11_wantWord_15 rfl rfl ?_
    obtain ⟨q3, hq4, hf⟩ := f_bd hf
    refine x_callVv [] (c_X11_ahead (I := I) (L := L)  hq4) dX11_wantWord_16 lk_X11_175 lm_0 rfl cd_X11_ahead rfl rfl (Nat.le_of_ble_eq_true rfl) ⟨rfl, rfl, Nat.le_of_ble_eq_true rfl, Nat.le_of_ble_eq_true rfl⟩ ?_
    refine x_iconst (v := (1)) dX11_wantWord_19 (by decide) ?_
    cases hf
    exact x_zret (b := true) dX11_wantWord_20 rfl rfl
  · replace hf := f_el hB hf
    refine x_aload_n 0 dX11_wantWord_9 rfl rfl ?_
    refine x_iconst (v := (2)) dX11_wantWord_10 (by decide) ?_
    refine x_callVi [.int (2 : Int32)] (c_X11_fails (I := I) (L := L) (2 : Int32)) dX11_wantWord_11 lk_X11_181 lm_0 rfl cd_X11_fails rfl rfl (Nat.le_of_ble_eq_true rfl) ⟨rfl, rfl, Nat.le_of_ble_eq_true rfl, Nat.le_of_ble_eq_true rfl⟩ ?_
    cases hf
    exact x_zret dX11_wantWord_14 rfl rfl
set_option maxRecDepth 100000 in
set_option maxHeartbeats 4000000 in
theorem c_X11_number {I : z_I} {L : z_L} {p0 : Int32} {p1 : Int32} {p2 : Int32}  {r : Bool × z_I} (hf : f_X11_number I p0 p1 p2 = some r) : z_C layM yX11_number cX11_number 4 (some .boolean) ({ frames := 2, cells := 0, slots := 0, locals := 49 } : Room) [.ref 0, .int p0, .int p1, .int p2] I L (some (.int (zb r.1)), r.2, L) := by
  refine z_C.of (by decide) (Nat.le_of_ble_eq_true rfl) ?_
  show z_X layM RX11 cX11_number 4 (some .boolean) ({ frames := 2, cells := 0, slots := 0, locals := 49 } : Room) 0 [(0, .ref 0), (1, .int p0), (2, .int p1), (3, .int p2)] [] I L (some (.int (zb r.1)), r.2, L)
  unfold f_X11_number at hf
  refine x_aload_n 0 dX11_number_0 rfl rfl ?_
  refine x_getI (v := (I 0 12)) dX11_number_1 lm_0 fl_X11_144 rfl rfl ?_
  refine x_iconst (v := (3)) dX11_number_4 (by decide) ?_
  refine x_icmp_eq 14 dX11_number_5 (by decide) (fun hB => ?_) (fun hB => ?_)
  · replace hf := f_if hB hf
    refine x_aload_n 0 dX11_number_14 rfl rfl ?_
    refine x_getI (v := (I 0 15)) dX11_number_15 lm_0 fl_X11_141 rfl rfl ?_
    refine x_iload_n 2 dX11_number_18 rfl rfl ?_
    refine x_icmp_lt 30 dX11_number_19 (by decide) (fun hB => ?_) (fun hB => ?_)
    · replace hf := f_if hB hf
      refine x_aload_n 0 dX11_number_30 rfl rfl ?_
      refine x_iconst (v := (4)) dX11_number_31 (by decide) ?_
      refine x_callVi [.int (4 : Int32)] (c_X11_fails (I := I) (L := L) (4 : Int32)) dX11_number_32 lk_X11_181 lm_0 rfl cd_X11_fails rfl rfl (Nat.le_of_ble_eq_true rfl) ⟨rfl, rfl, Nat.le_of_ble_eq_true rfl, Nat.le_of_ble_eq_true rfl⟩ ?_
      cases hf
      exact x_zret dX11_number_35 rfl rfl
    · replace hf := f_el hB hf
      refine x_aload_n 0 dX11_number_22 rfl rfl ?_
      refine x_getI (v := (I 0 15)) dX11_number_23 lm_0 fl_X11_141 rfl rfl ?_
      refine x_iload_n 3 dX11_number_26 rfl rfl ?_
      refine x_icmp_le 36 dX11_number_27 (by decide) (fun hB => ?_) (fun hB => ?_)
      · replace hf := f_if hB hf
        refine x_aload_n 0 dX11_number_36 rfl rfl ?_
        refine x_getR dX11_number_37 lm_0 fl_X11_7 rfl ?_
        refine x_iload_n 1 dX11_number_40 rfl rfl ?_
        refine x_aload_n 0 dX11_number_41 rfl rfl ?_
        refine x_getI (v := (I 0 15)) dX11_number_42 lm_0 fl_X11_141 rfl rfl ?_
        obtain ⟨h1, hf⟩ := f_gd hf
        obtain ⟨I2, hI2, hf⟩ := f_lt hf
        refine x_iast (j0 := (p0).toNatClampNeg) dX11_number_45 lm_1 h1 rfl hI2 ?_
        refine x_aload_n 0 dX11_number_46 rfl rfl ?_
        obtain ⟨q3, hq4, hf⟩ := f_bd hf
        refine x_callVv [] (c_X11_ahead (I := I2) (L := L)  hq4) dX11_number_47 lk_X11_175 lm_0 rfl cd_X11_ahead rfl rfl (Nat.le_of_ble_eq_true rfl) ⟨rfl, rfl, Nat.le_of_ble_eq_true rfl, Nat.le_of_ble_eq_true rfl⟩ ?_
        refine x_iconst (v := (1)) dX11_number_50 (by decide) ?_
        cases hf
        exact x_zret (b := true) dX11_number_51 rfl rfl
      · replace hf := f_el hB hf
        refine x_aload_n 0 dX11_number_30 rfl rfl ?_
        refine x_iconst (v := (4)) dX11_number_31 (by decide) ?_
        refine x_callVi [.int (4 : Int32)] (c_X11_fails (I := I) (L := L) (4 : Int32)) dX11_number_32 lk_X11_181 lm_0 rfl cd_X11_fails rfl rfl (Nat.le_of_ble_eq_true rfl) ⟨rfl, rfl, Nat.le_of_ble_eq_true rfl, Nat.le_of_ble_eq_true rfl⟩ ?_
        cases hf
        exact x_zret dX11_number_35 rfl rfl
  · replace hf := f_el hB hf
    refine x_aload_n 0 dX11_number_8 rfl rfl ?_
    refine x_iconst (v := (2)) dX11_number_9 (by decide) ?_
    refine x_callVi [.int (2 : Int32)] (c_X11_fails (I := I) (L := L) (2 : Int32)) dX11_number_10 lk_X11_181 lm_0 rfl cd_X11_fails rfl rfl (Nat.le_of_ble_eq_true rfl) ⟨rfl, rfl, Nat.le_of_ble_eq_true rfl, Nat.le_of_ble_eq_true rfl⟩ ?_
    cases hf
    exact x_zret dX11_number_13 rfl rfl
set_option maxRecDepth 100000 in
set_option maxHeartbeats 4000000 in
theorem c_X11_isName {I : z_I} {L : z_L}   {r : Bool} (hf : f_X11_isName I = some r) : z_C layM yX11_isName cX11_isName 2 (some .boolean) ({ frames := 5, cells := 0, slots := 0, locals := 116 } : Room) [.ref 0, .ref 9001] I L (some (.int (zb r)), I, L) := by
  refine z_C.of (by decide) (Nat.le_of_ble_eq_true rfl) ?_
  show z_X layM RX11 cX11_isName 2 (some .boolean) ({ frames := 5, cells := 0, slots := 0, locals := 116 } : Room) 0 [(0, .ref 0), (1, .ref 9001)] [] I L (some (.int (zb r)), I, L)
  unfold f_X11_isName at hf
  refine x_aload_n 0 dX11_isName_0 rfl rfl ?_
  refine x_getI (v := (I 0 12)) dX11_isName_1 lm_0 fl_X11_144 rfl rfl ?_
  refine x_iconst (v := (2)) dX11_isName_4 (by decide) ?_
  refine x_icmp_ne 35 dX11_isName_5 (by decide) (fun hB => ?_) (fun hB => ?_)
  · replace hf := f_el hB hf
    refine x_iconst (v := (0)) dX11_isName_35 (by decide) ?_
    cases hf
    exact x_zret (b := false) dX11_isName_36 rfl rfl
  · replace hf := f_if hB hf
    refine x_aload_n 0 dX11_isName_8 rfl rfl ?_
    refine x_getI (v := (I 0 14)) dX11_isName_9 lm_0 fl_X11_132 rfl rfl ?_
    refine x_aload_n 0 dX11_isName_12 rfl rfl ?_
    refine x_getI (v := (I 0 13)) dX11_isName_13 lm_0 fl_X11_138 rfl rfl ?_
    refine x_isub dX11_isName_16 ?_
    refine x_bipush (v := (8)) dX11_isName_17 (by decide) ?_
    refine x_icmp_gt 35 dX11_isName_19 (by decide) (fun hB => ?_) (fun hB => ?_)
    · replace hf := f_if hB hf
      refine x_iconst (v := (0)) dX11_isName_35 (by decide) ?_
      cases hf
      exact x_zret (b := false) dX11_isName_36 rfl rfl
    · replace hf := f_el hB hf
      refine x_aload_n 0 dX11_isName_22 rfl rfl ?_
      refine x_aload_n 1 dX11_isName_23 rfl rfl ?_
      obtain ⟨q1, hq2, hf⟩ := f_bd hf
      refine x_callVi [.ref 9001] (c_X11_inWords (I := I) (L := L)  hq2) dX11_isName_24 lk_X11_184 lm_0 rfl cd_X11_inWords rfl rfl (Nat.le_of_ble_eq_true rfl) ⟨rfl, rfl, Nat.le_of_ble_eq_true rfl, Nat.le_of_ble_eq_true rfl⟩ ?_
      refine x_iconst (v := (-1)) dX11_isName_27 (by decide) ?_
      refine x_icmp_ne 35 dX11_isName_28 (by decide) (fun hB => ?_) (fun hB => ?_)
      · replace hf := f_el hB hf
        refine x_iconst (v := (0)) dX11_isName_35 (by decide) ?_
        cases hf
        exact x_zret (b := false) dX11_isName_36 rfl rfl
      · replace hf := f_if hB hf
        refine x_iconst (v := (1)) dX11_isName_31 (by decide) ?_
        refine x_goto 36 dX11_isName_32 (by decide) ?_
        cases hf
        exact x_zret (b := true) dX11_isName_36 rfl rfl
set_option maxRecDepth 100000 in
set_option maxHeartbeats 4000000 in
theorem l_X11_nameHere_7    (I : z_I) (L : z_L) {r : Int64}  : ∀ (n : Nat) (v1 : Int64) (v3 : Int32), g_X11_nameHere_7 I  n v1 v3 = some r → z_X layM RX11 cX11_nameHere 4 (some .long) ({ frames := 1, cells := 0, slots := 0, locals := 21 } : Room) 7 [(0, .ref 0), (1, .long v1), (3, .int v3)] [] I L (some (.long r), I, L) := by
  intro n
  induction n with
  | zero => intro v1 v3 hf; cases hf
  | succ n ih =>
    intro v1 v3 hf
    rw [g_X11_nameHere_7] at hf
    refine x_iload_n 2 dX11_nameHere_7 rfl rfl ?_
    refine x_aload_n 0 dX11_nameHere_8 rfl rfl ?_
    refine x_getI (v := (I 0 14)) dX11_nameHere_9 lm_0 fl_X11_132 rfl rfl ?_
    refine x_icmp_ge 33 dX11_nameHere_12 (by decide) (fun hB => ?_) (fun hB => ?_)
    · replace hf := f_if hB hf
      refine x_lload_n 1 dX11_nameHere_33 rfl rfl ?_
      cases hf
      exact x_lret dX11_nameHere_34 rfl rfl
    · replace hf := f_el hB hf
      refine x_lload_n 1 dX11_nameHere_15 rfl rfl ?_
      refine x_bipush (v := (8)) dX11_nameHere_16 (by decide) ?_
      refine x_lshl dX11_nameHere_18 ?_
      refine x_aload_n 0 dX11_nameHere_19 rfl rfl ?_
      refine x_iload_n 2 dX11_nameHere_20 rfl rfl ?_
      obtain ⟨q1, hq2, hf⟩ := f_bd hf
      refine x_callVi [.int v3] (c_X11_byteAt (I := I) (L := L)  hq2) dX11_nameHere_21 lk_X11_135 lm_0 rfl cd_X11_byteAt rfl rfl (Nat.le_of_ble_eq_true rfl) ⟨rfl, rfl, Nat.le_of_ble_eq_true rfl, Nat.le_of_ble_eq_true rfl⟩ ?_
      refine x_i2l dX11_nameHere_24 ?_
      refine x_lor dX11_nameHere_25 ?_
      obtain ⟨w3, hw3, hf⟩ := f_lt hf
      refine x_topL hw3 ?_
      refine x_lstore_n [(1, .long w3), (0, .ref 0), (3, .int v3)] dX11_nameHere_26 rfl (by decide) rfl ?_
      refine x_iinc 2 [(3, .int (v3 + (1 : Int32))), (1, .long w3), (0, .ref 0)] dX11_nameHere_27 rfl rfl (by decide) rfl ?_
      refine x_goto 7 dX11_nameHere_30 (by decide) ?_
      refine x_lv [(0, .ref 0), (1, .long w3), (3, .int (v3 + (1 : Int32)))] [2, 1, 0] rfl ?_
      exact ih _ _ hf
set_option maxRecDepth 100000 in
set_option maxHeartbeats 4000000 in
theorem c_X11_nameHere {I : z_I} {L : z_L}   {r : Int64} (hf : f_X11_nameHere I = some r) : z_C layM yX11_nameHere cX11_nameHere 4 (some .long) ({ frames := 1, cells := 0, slots := 0, locals := 21 } : Room) [.ref 0] I L (some (.long r), I, L) := by
  refine z_C.of (by decide) (Nat.le_of_ble_eq_true rfl) ?_
  show z_X layM RX11 cX11_nameHere 4 (some .long) ({ frames := 1, cells := 0, slots := 0, locals := 21 } : Room) 0 [(0, .ref 0)] [] I L (some (.long r), I, L)
  unfold f_X11_nameHere at hf
  refine x_lconst (v := (0)) dX11_nameHere_0 (by decide) ?_
  refine x_lstore_n [(1, .long (0 : Int64)), (0, .ref 0)] dX11_nameHere_1 rfl (by decide) rfl ?_
  refine x_aload_n 1 dX11_nameHere_2 rfl rfl ?_
  refine x_getI (v := (I 0 13)) dX11_nameHere_3 lm_0 fl_X11_138 rfl rfl ?_
  refine x_istore_n [(3, .int (I 0 13)), (1, .long (0 : Int64)), (0, .ref 0)] dX11_nameHere_6 rfl (by decide) rfl ?_
  refine x_lv [(0, .ref 0), (1, .long (0 : Int64)), (3, .int (I 0 13))] [2, 1, 0] rfl ?_
  refine l_X11_nameHere_7 (I) (L)   _ _ _ hf
set_option maxRecDepth 100000 in
set_option maxHeartbeats 4000000 in
theorem l_X11_findHere_2   (v1 : Int32) (v2 : Int32) (I : z_I) (L : z_L) {r : Int32}  : ∀ (n : Nat) (v3 : Int32), g_X11_findHere_2 v1 v2 I L  n v3 = some r → z_X layM RX11 cX11_findHere 4 (some .int) ({ frames := 2, cells := 0, slots := 0, locals := 44 } : Room) 2 [(0, .ref 0), (1, .int v1), (2, .int v2), (3, .int v3)] [] I L (some (.int r), I, L) := by
  intro n
  induction n with
  | zero => intro v3 hf; cases hf
  | succ n ih =>
    intro v3 hf
    rw [g_X11_findHere_2] at hf
    refine x_iload_n 3 dX11_findHere_2 rfl rfl ?_
    refine x_iload_n 2 dX11_findHere_3 rfl rfl ?_
    refine x_icmp_ge 31 dX11_findHere_4 (by decide) (fun hB => ?_) (fun hB => ?_)
    · replace hf := f_if hB hf
      refine x_iconst (v := (-1)) dX11_findHere_31 (by decide) ?_
      cases hf
      exact x_iret dX11_findHere_32 rfl rfl
    · replace hf := f_el hB hf
      refine x_aload_n 0 dX11_findHere_7 rfl rfl ?_
      refine x_getR dX11_findHere_8 lm_0 fl_X11_13 rfl ?_
      refine x_iload_n 1 dX11_findHere_11 rfl rfl ?_
      refine x_iload_n 3 dX11_findHere_12 rfl rfl ?_
      refine x_iadd dX11_findHere_13 ?_
      obtain ⟨h1, hf⟩ := f_gd hf
      refine x_lald (j := ((v1 + v3)).toNatClampNeg) (v := (L 2 ((v1 + v3)).toNatClampNeg)) dX11_findHere_14 lm_2 h1 rfl rfl ?_
      refine x_aload_n 0 dX11_findHere_15 rfl rfl ?_
      obtain ⟨q2, hq3, hf⟩ := f_bd hf
      refine x_callVl [] (c_X11_nameHere (I := I) (L := L)  hq3) dX11_findHere_16 lk_X11_188 lm_0 rfl cd_X11_nameHere rfl rfl (Nat.le_of_ble_eq_true rfl) ⟨rfl, rfl, Nat.le_of_ble_eq_true rfl, Nat.le_of_ble_eq_true rfl⟩ ?_
      refine x_lcmp_ne 25 dX11_findHere_19 dX11_findHere_20 (by decide) (fun hB => ?_) (fun hB => ?_)
      · replace hf := f_el hB hf
        refine x_iinc 3 [(3, .int (v3 + (1 : Int32))), (0, .ref 0), (1, .int v1), (2, .int v2)] dX11_findHere_25 rfl rfl (by decide) rfl ?_
        refine x_goto 2 dX11_findHere_28 (by decide) ?_
        refine x_lv [(0, .ref 0), (1, .int v1), (2, .int v2), (3, .int (v3 + (1 : Int32)))] [1, 2, 3, 0] rfl ?_
        exact ih _ hf
      · replace hf := f_if hB hf
        refine x_iload_n 3 dX11_findHere_23 rfl rfl ?_
        cases hf
        exact x_iret dX11_findHere_24 rfl rfl
set_option maxRecDepth 100000 in
set_option maxHeartbeats 4000000 in
theorem c_X11_findHere {I : z_I} {L : z_L} {p0 : Int32} {p1 : Int32}  {r : Int32} (hf : f_X11_findHere I L p0 p1 = some r) : z_C layM yX11_findHere cX11_findHere 4 (some .int) ({ frames := 2, cells := 0, slots := 0, locals := 44 } : Room) [.ref 0, .int p0, .int p1] I L (some (.int r), I, L) := by
  refine z_C.of (by decide) (Nat.le_of_ble_eq_true rfl) ?_
  show z_X layM RX11 cX11_findHere 4 (some .int) ({ frames := 2, cells := 0, slots := 0, locals := 44 } : Room) 0 [(0, .ref 0), (1, .int p0), (2, .int p1)] [] I L (some (.int r), I, L)
  unfold f_X11_findHere at hf
  refine x_iconst (v := (0)) dX11_findHere_0 (by decide) ?_
  refine x_istore_n [(3, .int (0 : Int32)), (0, .ref 0), (1, .int p0), (2, .int p1)] dX11_findHere_1 rfl (by decide) rfl ?_
  refine x_lv [(0, .ref 0), (1, .int p0), (2, .int p1), (3, .int (0 : Int32))] [1, 2, 3, 0] rfl ?_
  refine l_X11_findHere_2 p0 p1 (I) (L)   _ _ hf
set_option maxRecDepth 100000 in
set_option maxHeartbeats 4000000 in
theorem c_X11_fault {I : z_I} {L : z_L} (p0 : Int32)  : z_C layM yX11_fault cX11_fault 2 (some .int) ({ frames := 0, cells := 0, slots := 0, locals := 0 } : Room) [.ref 0, .int p0] I L (some (.int (f_X11_fault I p0)), I, L) := by
  obtain ⟨r, hf⟩ : ∃ r, f_X11_fault I p0 = r := ⟨_, rfl⟩
  rw [hf]
  refine z_C.of (by decide) (Nat.le_of_ble_eq_true rfl) ?_
  show z_X layM RX11 cX11_fault 2 (some .int) ({ frames := 0, cells := 0, slots := 0, locals := 0 } : Room) 0 [(0, .ref 0), (1, .int p0)] [] I L (some (.int r), I, L)
  unfold f_X11_fault at hf
  refine x_iload_n 1 dX11_fault_0 rfl rfl ?_
  refine x_if_ne 11 dX11_fault_1 (by decide) (fun hB => ?_) (fun hB => ?_)
  · replace hf := t_el hB hf
    refine x_iload_n 1 dX11_fault_11 rfl rfl ?_
    refine x_iconst (v := (1)) dX11_fault_12 (by decide) ?_
    refine x_icmp_ne 23 dX11_fault_13 (by decide) (fun hB => ?_) (fun hB => ?_)
    · replace hf := t_el hB hf
      refine x_iconst (v := (-1)) dX11_fault_23 (by decide) ?_
      subst hf
      exact x_iret dX11_fault_24 rfl rfl
    · replace hf := t_if hB hf
      refine x_aload_n 0 dX11_fault_16 rfl rfl ?_
      refine x_getI (v := (I 0 17)) dX11_fault_17 lm_0 fl_X11_41 rfl rfl ?_
      refine x_goto 24 dX11_fault_20 (by decide) ?_
      subst hf
      exact x_iret dX11_fault_24 rfl rfl
  · replace hf := t_if hB hf
    refine x_aload_n 0 dX11_fault_4 rfl rfl ?_
    refine x_getI (v := (I 0 16)) dX11_fault_5 lm_0 fl_X11_37 rfl rfl ?_
    refine x_goto 24 dX11_fault_8 (by decide) ?_
    subst hf
    exact x_iret dX11_fault_24 rfl rfl
set_option maxRecDepth 100000 in
set_option maxHeartbeats 4000000 in
theorem c_X11_taken {I : z_I} {L : z_L} (p0 : Int32)  : z_C layM yX11_taken cX11_taken 2 (some .int) ({ frames := 1, cells := 0, slots := 0, locals := 21 } : Room) [.ref 0, .int p0] I L (some (.int (f_X11_taken I p0).1), (f_X11_taken I p0).2, L) := by
  obtain ⟨r, hf⟩ : ∃ r, f_X11_taken I p0 = r := ⟨_, rfl⟩
  rw [hf]
  refine z_C.of (by decide) (Nat.le_of_ble_eq_true rfl) ?_
  show z_X layM RX11 cX11_taken 2 (some .int) ({ frames := 1, cells := 0, slots := 0, locals := 21 } : Room) 0 [(0, .ref 0), (1, .int p0)] [] I L (some (.int r.1), r.2, L)
  unfold f_X11_taken at hf
  refine x_aload_n 0 dX11_taken_0 rfl rfl ?_
  refine x_aload_n 0 dX11_taken_1 rfl rfl ?_
  refine x_getI (v := (I 0 18)) dX11_taken_2 lm_0 fl_X11_169 rfl rfl ?_
  obtain ⟨I1, hI1, hf⟩ := f_lt hf
  refine x_putI dX11_taken_5 lm_0 fl_X11_37 rfl rfl rfl hI1 ?_
  refine x_aload_n 0 dX11_taken_8 rfl rfl ?_
  refine x_getI (v := (I 0 18)) dX11_taken_9 lm_0 fl_X11_169 rfl (by rw [hI1, z2_s, z1_o (by decide)]) ?_
  refine x_if_le 24 dX11_taken_12 (by decide) (fun hB => ?_) (fun hB => ?_)
  · replace hf := t_if hB hf
    refine x_aload_n 0 dX11_taken_24 rfl rfl ?_
    refine x_iload_n 1 dX11_taken_25 rfl rfl ?_
    refine x_callVi [.int p0] (c_X11_gives (I := I1) (L := L) p0) dX11_taken_26 lk_X11_103 lm_0 rfl cd_X11_gives rfl rfl (Nat.le_of_ble_eq_true rfl) ⟨rfl, rfl, Nat.le_of_ble_eq_true rfl, Nat.le_of_ble_eq_true rfl⟩ ?_
    subst hf
    exact x_iret dX11_taken_29 rfl rfl
  · replace hf := t_el hB hf
    refine x_aload_n 0 dX11_taken_15 rfl rfl ?_
    refine x_bipush (v := (9)) dX11_taken_16 (by decide) ?_
    refine x_callVi [.int (9 : Int32)] (c_X11_refuse (I := I1) (L := L) (9 : Int32)) dX11_taken_18 lk_X11_99 lm_0 rfl cd_X11_refuse rfl rfl (Nat.le_of_ble_eq_true rfl) ⟨rfl, rfl, Nat.le_of_ble_eq_true rfl, Nat.le_of_ble_eq_true rfl⟩ ?_
    refine x_goto 29 dX11_taken_21 (by decide) ?_
    subst hf
    exact x_iret dX11_taken_29 rfl rfl
set_option maxRecDepth 100000 in
set_option maxHeartbeats 4000000 in
theorem c_X11_bedRow {I : z_I} {L : z_L} (p0 : Int32)  : z_C layM yX11_bedRow cX11_bedRow 1 (some .int) ({ frames := 0, cells := 0, slots := 0, locals := 0 } : Room) [.int p0] I L (some (.int (f_X11_bedRow p0)), I, L) := by
  obtain ⟨r, hf⟩ : ∃ r, f_X11_bedRow p0 = r := ⟨_, rfl⟩
  rw [hf]
  refine z_C.of (by decide) (Nat.le_of_ble_eq_true rfl) ?_
  show z_X layM RX11 cX11_bedRow 1 (some .int) ({ frames := 0, cells := 0, slots := 0, locals := 0 } : Room) 0 [(0, .int p0)] [] I L (some (.int r), I, L)
  unfold f_X11_bedRow at hf
  refine x_bipush (v := (10)) dX11_bedRow_0 (by decide) ?_
  refine x_iconst (v := (2)) dX11_bedRow_2 (by decide) ?_
  refine x_iload_n 0 dX11_bedRow_3 rfl rfl ?_
  refine x_imul dX11_bedRow_4 ?_
  refine x_iadd dX11_bedRow_5 ?_
  subst hf
  exact x_iret dX11_bedRow_6 rfl rfl
