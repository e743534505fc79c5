set_option maxRecDepth 100000 in
set_option maxHeartbeats 4000000 in
theorem c_X10_status {I : z_I} {L : z_L}   : z_C layX yX10_status cX10_status 1 (some .int) ({ frames := 0, cells := 0, slots := 0, locals := 0 } : Room) [.ref 0] I L (some (.int (f_X10_status I)), I, L) := by
  obtain ⟨r, hf⟩ : ∃ r, f_X10_status I = r := ⟨_, rfl⟩
  rw [hf]
  refine z_C.of (by decide) (Nat.le_of_ble_eq_true rfl) ?_
  show z_X layX RX10 cX10_status 1 (some .int) ({ frames := 0, cells := 0, slots := 0, locals := 0 } : Room) 0 [(0, .ref 0)] [] I L (some (.int r), I, L)
  unfold f_X10_status at hf
  refine x_aload_n 0 dX10_status_0 rfl rfl ?_
  refine x_getI (v := (I 0 15)) dX10_status_1 lx_0 fl_X10_114 rfl rfl ?_
  subst hf
  exact x_iret dX10_status_4 rfl rfl
set_option maxRecDepth 100000 in
set_option maxHeartbeats 4000000 in
theorem c_X10_top {I : z_I} {L : z_L}   : z_C layX yX10_top cX10_top 1 (some .long) ({ frames := 0, cells := 0, slots := 0, locals := 0 } : Room) [.ref 0] I L (some (.long (f_X10_top L)), I, L) := by
  obtain ⟨r, hf⟩ : ∃ r, f_X10_top L = r := ⟨_, rfl⟩
  rw [hf]
  refine z_C.of (by decide) (Nat.le_of_ble_eq_true rfl) ?_
  show z_X layX RX10 cX10_top 1 (some .long) ({ frames := 0, cells := 0, slots := 0, locals := 0 } : Room) 0 [(0, .ref 0)] [] I L (some (.long r), I, L)
  unfold f_X10_top at hf
  refine x_aload_n 0 dX10_top_0 rfl rfl ?_
  refine x_getR dX10_top_1 lx_0 fl_X10_102 rfl ?_
  refine x_getL (v := (L 54 0)) dX10_top_4 lx_54 fl_X10_117 rfl rfl ?_
  subst hf
  exact x_lret dX10_top_7 rfl rfl
set_option maxRecDepth 100000 in
set_option maxHeartbeats 4000000 in
theorem c_X10_bottom {I : z_I} {L : z_L}   : z_C layX yX10_bottom cX10_bottom 1 (some .long) ({ frames := 0, cells := 0, slots := 0, locals := 0 } : Room) [.ref 0] I L (some (.long (f_X10_bottom L)), I, L) := by
  obtain ⟨r, hf⟩ : ∃ r, f_X10_bottom L = r := ⟨_, rfl⟩
  rw [hf]
  refine z_C.of (by decide) (Nat.le_of_ble_eq_true rfl) ?_
  show z_X layX RX10 cX10_bottom 1 (some .long) ({ frames := 0, cells := 0, slots := 0, locals := 0 } : Room) 0 [(0, .ref 0)] [] I L (some (.long r), I, L)
  unfold f_X10_bottom at hf
  refine x_aload_n 0 dX10_bottom_0 rfl rfl ?_
  refine x_getR dX10_bottom_1 lx_0 fl_X10_102 rfl ?_
  refine x_getL (v := (L 54 1)) dX10_bottom_4 lx_54 fl_X10_121 rfl rfl ?_
  subst hf
  exact x_lret dX10_bottom_7 rfl rfl
set_option maxRecDepth 100000 in
set_option maxHeartbeats 4000000 in
theorem c_X10_isTray {I : z_I} {L : z_L} (p0 : Int32)  : z_C layX yX10_isTray cX10_isTray 1 (some .boolean) ({ frames := 1, cells := 0, slots := 0, locals := 22 } : Room) [.int p0] I L (some (.int (zb (f_X10_isTray p0))), I, L) := by
  obtain ⟨r, hf⟩ : ∃ r, f_X10_isTray p0 = r := ⟨_, rfl⟩
  rw [hf]
  refine z_C.of (by decide) (Nat.le_of_ble_eq_true rfl) ?_
  show z_X layX RX10 cX10_isTray 1 (some .boolean) ({ frames := 1, cells := 0, slots := 0, locals := 22 } : Room) 0 [(0, .int p0)] [] I L (some (.int (zb r)), I, L)
  unfold f_X10_isTray at hf
  refine x_iload_n 0 dX10_isTray_0 rfl rfl ?_
  refine x_iconst (v := (0)) dX10_isTray_1 (by decide) ?_
  refine x_iconst (v := (3)) dX10_isTray_2 (by decide) ?_
  refine x_callSi [.int p0, .int (0 : Int32), .int (3 : Int32)] (c_X10_isWithin (I := I) (L := L) p0 (0 : Int32) (3 : Int32)) dX10_isTray_3 lk_X10_128 cd_X10_isWithin rfl rfl (Nat.le_of_ble_eq_true rfl) ⟨rfl, rfl, Nat.le_of_ble_eq_true rfl, Nat.le_of_ble_eq_true rfl⟩ ?_
  subst hf
  exact x_zret dX10_isTray_6 rfl rfl
set_option maxRecDepth 100000 in
set_option maxHeartbeats 4000000 in
theorem c_X10_deny {I : z_I} {L : z_L} (p0 : Int32)  : z_C layX yX10_deny cX10_deny 2 (some .boolean) ({ frames := 0, cells := 0, slots := 0, locals := 0 } : Room) [.ref 0, .int p0] I L (some (.int (zb (f_X10_deny I p0).1)), (f_X10_deny I p0).2, L) := by
  obtain ⟨r, hf⟩ : ∃ r, f_X10_deny I p0 = r := ⟨_, rfl⟩
  rw [hf]
  refine z_C.of (by decide) (Nat.le_of_ble_eq_true rfl) ?_
  show z_X layX RX10 cX10_deny 2 (some .boolean) ({ frames := 0, cells := 0, slots := 0, locals := 0 } : Room) 0 [(0, .ref 0), (1, .int p0)] [] I L (some (.int (zb r.1)), r.2, L)
  unfold f_X10_deny at hf
  refine x_aload_n 0 dX10_deny_0 rfl rfl ?_
  refine x_iload_n 1 dX10_deny_1 rfl rfl ?_
  obtain ⟨I1, hI1, hf⟩ := f_lt hf
  refine x_putI dX10_deny_2 lx_0 fl_X10_114 rfl rfl rfl hI1 ?_
  refine x_iconst (v := (0)) dX10_deny_5 (by decide) ?_
  subst hf
  exact x_zret (b := false) dX10_deny_6 rfl rfl
set_option maxRecDepth 100000 in
set_option maxHeartbeats 4000000 in
theorem c_X10_grant {I : z_I} {L : z_L}   : z_C layX yX10_grant cX10_grant 1 (some .boolean) ({ frames := 0, cells := 0, slots := 0, locals := 0 } : Room) [.ref 0] I L (some (.int (zb (f_X10_grant I).1)), (f_X10_grant I).2, L) := by
  obtain ⟨r, hf⟩ : ∃ r, f_X10_grant I = r := ⟨_, rfl⟩
  rw [hf]
  refine z_C.of (by decide) (Nat.le_of_ble_eq_true rfl) ?_
  show z_X layX RX10 cX10_grant 1 (some .boolean) ({ frames := 0, cells := 0, slots := 0, locals := 0 } : Room) 0 [(0, .ref 0)] [] I L (some (.int (zb r.1)), r.2, L)
  unfold f_X10_grant at hf
  refine x_aload_n 0 dX10_grant_0 rfl rfl ?_
  refine x_iconst (v := (0)) dX10_grant_1 (by decide) ?_
  obtain ⟨I1, hI1, hf⟩ := f_lt hf
  refine x_putI dX10_grant_2 lx_0 fl_X10_114 rfl rfl rfl hI1 ?_
  refine x_iconst (v := (1)) dX10_grant_5 (by decide) ?_
  subst hf
  exact x_zret (b := true) dX10_grant_6 rfl rfl
set_option maxRecDepth 100000 in
set_option maxHeartbeats 4000000 in
theorem c_X10_tray {I : z_I} {L : z_L} {p0 : Int32} {p1 : Int32} {p2 : Int32}  {r : Bool × z_I × z_L} (hf : f_X10_tray I L p0 p1 p2 = some r) : z_C layX yX10_tray cX10_tray 4 (some .boolean) ({ frames := 2, cells := 0, slots := 0, locals := 46 } : Room) [.ref 0, .int p0, .int p1, .int p2] I L (some (.int (zb r.1)), r.2.1, r.2.2) := by
  refine z_C.of (by decide) (Nat.le_of_ble_eq_true rfl) ?_
  show z_X layX RX10 cX10_tray 4 (some .boolean) ({ frames := 2, cells := 0, slots := 0, locals := 46 } : Room) 0 [(0, .ref 0), (1, .int p0), (2, .int p1), (3, .int p2)] [] I L (some (.int (zb r.1)), r.2.1, r.2.2)
  unfold f_X10_tray at hf
  refine x_iload_n 1 dX10_tray_0 rfl rfl ?_
  refine x_callSi [.int p0] (c_X10_isTray (I := I) (L := L) p0) dX10_tray_1 lk_X10_124 cd_X10_isTray rfl rfl (Nat.le_of_ble_eq_true rfl) ⟨rfl, rfl, Nat.le_of_ble_eq_true rfl, Nat.le_of_ble_eq_true rfl⟩ ?_
  refine x_if_eqB 26 dX10_tray_4 (by decide) (fun hB => ?_) (fun hB => ?_)
  · replace hf := f_el hB hf
    refine x_aload_n 0 dX10_tray_26 rfl rfl ?_
    refine x_iconst (v := (1)) dX10_tray_27 (by decide) ?_
    refine x_callVi [.int (1 : Int32)] (c_X10_deny (I := I) (L := L) (1 : Int32)) dX10_tray_28 lk_X10_132 lx_0 rfl cd_X10_deny rfl rfl (Nat.le_of_ble_eq_true rfl) ⟨rfl, rfl, Nat.le_of_ble_eq_true rfl, Nat.le_of_ble_eq_true rfl⟩ ?_
    cases hf
    exact x_zret dX10_tray_31 rfl rfl
  · replace hf := f_if hB hf
    refine x_iload_n 2 dX10_tray_7 rfl rfl ?_
    refine x_iconst (v := (0)) dX10_tray_8 (by decide) ?_
    refine x_iconst (v := (3)) dX10_tray_9 (by decide) ?_
    refine x_callSi [.int p1, .int (0 : Int32), .int (3 : Int32)] (c_X10_isWithin (I := I) (L := L) p1 (0 : Int32) (3 : Int32)) dX10_tray_10 lk_X10_128 cd_X10_isWithin rfl rfl (Nat.le_of_ble_eq_true rfl) ⟨rfl, rfl, Nat.le_of_ble_eq_true rfl, Nat.le_of_ble_eq_true rfl⟩ ?_
    refine x_if_eqB 26 dX10_tray_13 (by decide) (fun hB => ?_) (fun hB => ?_)
    · replace hf := f_el hB hf
      refine x_aload_n 0 dX10_tray_26 rfl rfl ?_
      refine x_iconst (v := (1)) dX10_tray_27 (by decide) ?_
      refine x_callVi [.int (1 : Int32)] (c_X10_deny (I := I) (L := L) (1 : Int32)) dX10_tray_28 lk_X10_132 lx_0 rfl cd_X10_deny rfl rfl (Nat.le_of_ble_eq_true rfl) ⟨rfl, rfl, Nat.le_of_ble_eq_true rfl, Nat.le_of_ble_eq_true rfl⟩ ?_
      cases hf
      exact x_zret dX10_tray_31 rfl rfl
    · replace hf := f_if hB hf
      refine x_iload_n 3 dX10_tray_16 rfl rfl ?_
      refine x_iconst (v := (0)) dX10_tray_17 (by decide) ?_
      refine x_bipush (v := (60)) dX10_tray_18 (by decide) ?_
      refine x_callSi [.int p2, .int (0 : Int32), .int (60 : Int32)] (c_X10_isWithin (I := I) (L := L) p2 (0 : Int32) (60 : Int32)) dX10_tray_20 lk_X10_128 cd_X10_isWithin rfl rfl (Nat.le_of_ble_eq_true rfl) ⟨rfl, rfl, Nat.le_of_ble_eq_true rfl, Nat.le_of_ble_eq_true rfl⟩ ?_
      refine x_if_neB 32 dX10_tray_23 (by decide) (fun hB => ?_) (fun hB => ?_)
      · replace hf := f_if hB hf
        refine x_aload_n 0 dX10_tray_32 rfl rfl ?_
        refine x_getR dX10_tray_33 lx_0 fl_X10_11 rfl ?_
        refine x_iload_n 1 dX10_tray_36 rfl rfl ?_
        obtain ⟨h1, hf⟩ := f_gd hf
        refine x_aald (v := ([55, 57, 59, 61].getD (p0).toNatClampNeg 0)) 3 dX10_tray_37 lx_1 (fun _ => rfl) h1 (zt_gd h1 rfl) ?_
        refine x_iload_n 2 dX10_tray_38 rfl rfl ?_
        refine x_iload_n 3 dX10_tray_39 rfl rfl ?_
        obtain ⟨q2, hq3, hf⟩ := f_bd hf
        refine x_callVv [.int p1, .int p2] (c_X8_lay (I := I) (L := L) (zt_tr h1) hq3) dX10_tray_40 lk_X10_135 (zt_tr h1).1 rfl cd_X8_lay rfl rfl (Nat.le_of_ble_eq_true rfl) ⟨rfl, rfl, Nat.le_of_ble_eq_true rfl, Nat.le_of_ble_eq_true rfl⟩ ?_
        refine x_aload_n 0 dX10_tray_43 rfl rfl ?_
        refine x_callVi [] (c_X10_grant (I := q2.1) (L := q2.2) ) dX10_tray_44 lk_X10_139 lx_0 rfl cd_X10_grant rfl rfl (Nat.le_of_ble_eq_true rfl) ⟨rfl, rfl, Nat.le_of_ble_eq_true rfl, Nat.le_of_ble_eq_true rfl⟩ ?_
        cases hf
        exact x_zret dX10_tray_47 rfl rfl
      · replace hf := f_el hB hf
        refine x_aload_n 0 dX10_tray_26 rfl rfl ?_
        refine x_iconst (v := (1)) dX10_tray_27 (by decide) ?_
        refine x_callVi [.int (1 : Int32)] (c_X10_deny (I := I) (L := L) (1 : Int32)) dX10_tray_28 lk_X10_132 lx_0 rfl cd_X10_deny rfl rfl (Nat.le_of_ble_eq_true rfl) ⟨rfl, rfl, Nat.le_of_ble_eq_true rfl, Nat.le_of_ble_eq_true rfl⟩ ?_
        cases hf
        exact x_zret dX10_tray_31 rfl rfl
set_option maxRecDepth 100000 in
set_option maxHeartbeats 4000000 in
theorem c_X10_hindranceAt {I : z_I} {L : z_L} {p0 : Int32} {p1 : Int32}  {r : Int32} (hf : f_X10_hindranceAt I p0 p1 = some r) : z_C layX yX10_hindranceAt cX10_hindranceAt 3 (some .int) ({ frames := 2, cells := 0, slots := 0, locals := 42 } : Room) [.ref 0, .int p0, .int p1] I L (some (.int r), I, L) := by
  refine z_C.of (by decide) (Nat.le_of_ble_eq_true rfl) ?_
  show z_X layX RX10 cX10_hindranceAt 3 (some .int) ({ frames := 2, cells := 0, slots := 0, locals := 42 } : Room) 0 [(0, .ref 0), (1, .int p0), (2, .int p1)] [] I L (some (.int r), I, L)
  unfold f_X10_hindranceAt at hf
  refine x_iload_n 1 dX10_hindranceAt_0 rfl rfl ?_
  refine x_callSi [.int p0] (c_X10_isTray (I := I) (L := L) p0) dX10_hindranceAt_1 lk_X10_124 cd_X10_isTray rfl rfl (Nat.le_of_ble_eq_true rfl) ⟨rfl, rfl, Nat.le_of_ble_eq_true rfl, Nat.le_of_ble_eq_true rfl⟩ ?_
  refine x_if_neB 9 dX10_hindranceAt_4 (by decide) (fun hB => ?_) (fun hB => ?_)
  · replace hf := f_if hB hf
    refine x_aload_n 0 dX10_hindranceAt_9 rfl rfl ?_
    refine x_getR dX10_hindranceAt_10 lx_0 fl_X10_11 rfl ?_
    refine x_iload_n 1 dX10_hindranceAt_13 rfl rfl ?_
    obtain ⟨h1, hf⟩ := f_gd hf
    refine x_aald (v := ([55, 57, 59, 61].getD (p0).toNatClampNeg 0)) 3 dX10_hindranceAt_14 lx_1 (fun _ => rfl) h1 (zt_gd h1 rfl) ?_
    refine x_getB (v := (zn (I ([55, 57, 59, 61].getD (p0).toNatClampNeg 0) 1))) dX10_hindranceAt_15 (zt_tr h1).1 fl_X10_159 rfl rfl ?_
    refine x_if_neB 23 dX10_hindranceAt_18 (by decide) (fun hB => ?_) (fun hB => ?_)
    · replace hf := f_if hB hf
      refine x_iload_n 2 dX10_hindranceAt_23 rfl rfl ?_
      refine x_iconst (v := (0)) dX10_hindranceAt_24 (by decide) ?_
      refine x_aload_n 0 dX10_hindranceAt_25 rfl rfl ?_
      refine x_getR dX10_hindranceAt_26 lx_0 fl_X10_11 rfl ?_
      refine x_iload_n 1 dX10_hindranceAt_29 rfl rfl ?_
      refine x_aald (v := ([55, 57, 59, 61].getD (p0).toNatClampNeg 0)) 3 dX10_hindranceAt_30 lx_1 (fun _ => rfl) h1 (zt_gd h1 rfl) ?_
      refine x_getI (v := (I ([55, 57, 59, 61].getD (p0).toNatClampNeg 0) 3)) dX10_hindranceAt_31 (zt_tr h1).1 fl_X10_398 rfl rfl ?_
      refine x_iconst (v := (1)) dX10_hindranceAt_34 (by decide) ?_
      refine x_isub dX10_hindranceAt_35 ?_
      refine x_callSi [.int p1, .int (0 : Int32), .int ((I ([55, 57, 59, 61].getD (p0).toNatClampNeg 0) 3) - (1 : Int32))] (c_X10_isWithin (I := I) (L := L) p1 (0 : Int32) ((I ([55, 57, 59, 61].getD (p0).toNatClampNeg 0) 3) - (1 : Int32))) dX10_hindranceAt_36 lk_X10_128 cd_X10_isWithin rfl rfl (Nat.le_of_ble_eq_true rfl) ⟨rfl, rfl, Nat.le_of_ble_eq_true rfl, Nat.le_of_ble_eq_true rfl⟩ ?_
      refine x_if_eqB 46 dX10_hindranceAt_39 (by decide) (fun hB => ?_) (fun hB => ?_)
      · replace hf := f_el hB hf
        refine x_iconst (v := (3)) dX10_hindranceAt_46 (by decide) ?_
        cases hf
        exact x_iret dX10_hindranceAt_47 rfl rfl
      · replace hf := f_if hB hf
        refine x_iconst (v := (0)) dX10_hindranceAt_42 (by decide) ?_
        refine x_goto 47 dX10_hindranceAt_43 (by decide) ?_
        cases hf
        exact x_iret dX10_hindranceAt_47 rfl rfl
    · replace hf := f_el hB hf
      refine x_iconst (v := (2)) dX10_hindranceAt_21 (by decide) ?_
      cases hf
      exact x_iret dX10_hindranceAt_22 rfl rfl
  · replace hf := f_el hB hf
    refine x_iconst (v := (1)) dX10_hindranceAt_7 (by decide) ?_
    cases hf
    exact x_iret dX10_hindranceAt_8 rfl rfl
set_option maxRecDepth 100000 in
set_option maxHeartbeats 4000000 in
theorem c_X10_write {I : z_I} {L : z_L} {p0 : Int32} {p1 : Int32} {p2 : Int64}  {r : Bool × z_I × z_L} (hf : f_X10_write I L p0 p1 p2 = some r) : z_C layX yX10_write cX10_write 6 (some .boolean) ({ frames := 3, cells := 0, slots := 0, locals := 64 } : Room) [.ref 0, .int p0, .int p1, .long p2] I L (some (.int (zb r.1)), r.2.1, r.2.2) := by
  refine z_C.of (by decide) (Nat.le_of_ble_eq_true rfl) ?_
  show z_X layX RX10 cX10_write 6 (some .boolean) ({ frames := 3, cells := 0, slots := 0, locals := 64 } : Room) 0 [(0, .ref 0), (1, .int p0), (2, .int p1), (3, .long p2)] [] I L (some (.int (zb r.1)), r.2.1, r.2.2)
  unfold f_X10_write at hf
  refine x_aload_n 0 dX10_write_0 rfl rfl ?_
  refine x_iload_n 1 dX10_write_1 rfl rfl ?_
  refine x_iload_n 2 dX10_write_2 rfl rfl ?_
  obtain ⟨q1, hq2, hf⟩ := f_bd hf
  refine x_callVi [.int p0, .int p1] (c_X10_hindranceAt (I := I) (L := L)  hq2) dX10_write_3 lk_X10_143 lx_0 rfl cd_X10_hindranceAt rfl rfl (Nat.le_of_ble_eq_true rfl) ⟨rfl, rfl, Nat.le_of_ble_eq_true rfl, Nat.le_of_ble_eq_true rfl⟩ ?_
  refine x_istore [(5, .int q1), (0, .ref 0), (1, .int p0), (2, .int p1), (3, .long p2)] dX10_write_6 (by decide) rfl ?_
  refine x_iload 0 dX10_write_8 rfl ?_
  refine x_if_eq 20 dX10_write_10 (by decide) (fun hB => ?_) (fun hB => ?_)
  · replace hf := f_if hB hf
    refine x_aload_n 1 dX10_write_20 rfl rfl ?_
    refine x_getR dX10_write_21 lx_0 fl_X10_11 rfl ?_
    refine x_iload_n 2 dX10_write_24 rfl rfl ?_
    obtain ⟨h3, hf⟩ := f_gd hf
    refine x_aald (v := ([55, 57, 59, 61].getD (p0).toNatClampNeg 0)) 3 dX10_write_25 lx_1 (fun _ => rfl) h3 (zt_gd h3 rfl) ?_
    refine x_iload_n 3 dX10_write_26 rfl rfl ?_
    refine x_lload_n 4 dX10_write_27 rfl rfl ?_
    obtain ⟨q4, hq5, hf⟩ := f_bd hf
    refine x_callVv [.int p1, .long p2] (c_X8_put (I := I) (L := L) (zt_tr h3) hq5) dX10_write_28 lk_X10_147 (zt_tr h3).1 rfl cd_X8_put rfl rfl (Nat.le_of_ble_eq_true rfl) ⟨rfl, rfl, Nat.le_of_ble_eq_true rfl, Nat.le_of_ble_eq_true rfl⟩ ?_
    refine x_aload_n 1 dX10_write_31 rfl rfl ?_
    refine x_callVi [] (c_X10_grant (I := I) (L := q4) ) dX10_write_32 lk_X10_139 lx_0 rfl cd_X10_grant rfl rfl (Nat.le_of_ble_eq_true rfl) ⟨rfl, rfl, Nat.le_of_ble_eq_true rfl, Nat.le_of_ble_eq_true rfl⟩ ?_
    cases hf
    exact x_zret dX10_write_35 rfl rfl
  · replace hf := f_el hB hf
    refine x_aload_n 1 dX10_write_13 rfl rfl ?_
    refine x_iload 0 dX10_write_14 rfl ?_
    refine x_callVi [.int q1] (c_X10_deny (I := I) (L := L) q1) dX10_write_16 lk_X10_132 lx_0 rfl cd_X10_deny rfl rfl (Nat.le_of_ble_eq_true rfl) ⟨rfl, rfl, Nat.le_of_ble_eq_true rfl, Nat.le_of_ble_eq_true rfl⟩ ?_
    cases hf
    exact x_zret dX10_write_19 rfl rfl
set_option maxRecDepth 100000 in
set_option maxHeartbeats 4000000 in
theorem c_X10_refuse {I : z_I} {L : z_L} (p0 : Int32)  : z_C layX yX10_refuse cX10_refuse 2 (some .int) ({ frames := 0, cells := 0, slots := 0, locals := 0 } : Room) [.ref 0, .int p0] I L (some (.int (f_X10_refuse I p0).1), (f_X10_refuse I p0).2, L) := by
  obtain ⟨r, hf⟩ : ∃ r, f_X10_refuse I p0 = r := ⟨_, rfl⟩
  rw [hf]
  refine z_C.of (by decide) (Nat.le_of_ble_eq_true rfl) ?_
  show z_X layX RX10 cX10_refuse 2 (some .int) ({ frames := 0, cells := 0, slots := 0, locals := 0 } : Room) 0 [(0, .ref 0), (1, .int p0)] [] I L (some (.int r.1), r.2, L)
  unfold f_X10_refuse at hf
  refine x_aload_n 0 dX10_refuse_0 rfl rfl ?_
  refine x_iload_n 1 dX10_refuse_1 rfl rfl ?_
  obtain ⟨I1, hI1, hf⟩ := f_lt hf
  refine x_putI dX10_refuse_2 lx_0 fl_X10_114 rfl rfl rfl hI1 ?_
  refine x_iconst (v := (-1)) dX10_refuse_5 (by decide) ?_
  subst hf
  exact x_iret dX10_refuse_6 rfl rfl
set_option maxRecDepth 100000 in
set_option maxHeartbeats 4000000 in
theorem c_X10_read {I : z_I} {L : z_L} {p0 : Int32} {p1 : Int32}  {r : Int64 × z_I} (hf : f_X10_read I L p0 p1 = some r) : z_C layX yX10_read cX10_read 4 (some .long) ({ frames := 3, cells := 0, slots := 0, locals := 64 } : Room) [.ref 0, .int p0, .int p1] I L (some (.long r.1), r.2, L) := by
  refine z_C.of (by decide) (Nat.le_of_ble_eq_true rfl) ?_
  show z_X layX RX10 cX10_read 4 (some .long) ({ frames := 3, cells := 0, slots := 0, locals := 64 } : Room) 0 [(0, .ref 0), (1, .int p0), (2, .int p1)] [] I L (some (.long r.1), r.2, L)
  unfold f_X10_read at hf
  refine x_aload_n 0 dX10_read_0 rfl rfl ?_
  refine x_iload_n 1 dX10_read_1 rfl rfl ?_
  refine x_iload_n 2 dX10_read_2 rfl rfl ?_
  obtain ⟨q1, hq2, hf⟩ := f_bd hf
  refine x_callVi [.int p0, .int p1] (c_X10_hindranceAt (I := I) (L := L)  hq2) dX10_read_3 lk_X10_143 lx_0 rfl cd_X10_hindranceAt rfl rfl (Nat.le_of_ble_eq_true rfl) ⟨rfl, rfl, Nat.le_of_ble_eq_true rfl, Nat.le_of_ble_eq_true rfl⟩ ?_
  refine x_istore_n [(3, .int q1), (0, .ref 0), (1, .int p0), (2, .int p1)] dX10_read_6 rfl (by decide) rfl ?_
  refine x_iload_n 0 dX10_read_7 rfl rfl ?_
  refine x_if_eq 18 dX10_read_8 (by decide) (fun hB => ?_) (fun hB => ?_)
  · replace hf := f_if hB hf
    refine x_aload_n 1 dX10_read_18 rfl rfl ?_
    refine x_iconst (v := (0)) dX10_read_19 (by decide) ?_
    obtain ⟨I3, hI3, hf⟩ := f_lt hf
    refine x_putI dX10_read_20 lx_0 fl_X10_114 rfl rfl rfl hI3 ?_
    refine x_aload_n 1 dX10_read_23 rfl rfl ?_
    refine x_getR dX10_read_24 lx_0 fl_X10_11 rfl ?_
    refine x_iload_n 2 dX10_read_27 rfl rfl ?_
    obtain ⟨h4, hf⟩ := f_gd hf
    refine x_aald (v := ([55, 57, 59, 61].getD (p0).toNatClampNeg 0)) 3 dX10_read_28 lx_1 (fun _ => rfl) h4 (zt_gd h4 rfl) ?_
    refine x_getR dX10_read_29 (zt_tr h4).1 fl_X10_155 rfl ?_
    refine x_iload_n 3 dX10_read_32 rfl rfl ?_
    obtain ⟨h5, hf⟩ := f_gd hf
    refine x_lald (j := (p1).toNatClampNeg) (v := (L (([55, 57, 59, 61].getD (p0).toNatClampNeg 0) + 1) (p1).toNatClampNeg)) dX10_read_33 (zt_tr h4).2.1 h5 rfl rfl ?_
    cases hf
    exact x_lret dX10_read_34 rfl rfl
  · replace hf := f_el hB hf
    refine x_aload_n 1 dX10_read_11 rfl rfl ?_
    refine x_iload_n 0 dX10_read_12 rfl rfl ?_
    refine x_callVi [.int q1] (c_X10_refuse (I := I) (L := L) q1) dX10_read_13 lk_X10_151 lx_0 rfl cd_X10_refuse rfl rfl (Nat.le_of_ble_eq_true rfl) ⟨rfl, rfl, Nat.le_of_ble_eq_true rfl, Nat.le_of_ble_eq_true rfl⟩ ?_
    refine x_i2l dX10_read_16 ?_
    cases hf
    exact x_lret dX10_read_17 rfl rfl
set_option maxRecDepth 100000 in
set_option maxHeartbeats 4000000 in
theorem c_X10_pour {I : z_I} {L : z_L} {p0 : Int32} {p1 : Int32} {p2 : Int32} {p3 : Int32} {p4 : Int32}  {r : Bool × z_I × z_L} (hf : f_X10_pour I L p0 p1 p2 p3 p4 = some r) : z_C layX yX10_pour cX10_pour 8 (some .boolean) ({ frames := 2, cells := 0, slots := 0, locals := 60 } : Room) [.ref 0, .int p0, .int p1, .int p2, .int p3, .int p4] I L (some (.int (zb r.1)), r.2.1, r.2.2) := by
  refine z_C.of (by decide) (Nat.le_of_ble_eq_true rfl) ?_
  show z_X layX RX10 cX10_pour 8 (some .boolean) ({ frames := 2, cells := 0, slots := 0, locals := 60 } : Room) 0 [(0, .ref 0), (1, .int p0), (2, .int p1), (3, .int p2), (4, .int p3), (5, .int p4)] [] I L (some (.int (zb r.1)), r.2.1, r.2.2)
  unfold f_X10_pour at hf
  refine x_iload_n 1 dX10_pour_0 rfl rfl ?_
  refine x_callSi [.int p0] (c_X10_isTray (I := I) (L := L) p0) dX10_pour_1 lk_X10_124 cd_X10_isTray rfl rfl (Nat.le_of_ble_eq_true rfl) ⟨rfl, rfl, Nat.le_of_ble_eq_true rfl, Nat.le_of_ble_eq_true rfl⟩ ?_
  refine x_if_eqB 28 dX10_pour_4 (by decide) (fun hB => ?_) (fun hB => ?_)
  · replace hf := f_el hB hf
    refine x_aload_n 0 dX10_pour_28 rfl rfl ?_
    refine x_iconst (v := (1)) dX10_pour_29 (by decide) ?_
    refine x_callVi [.int (1 : Int32)] (c_X10_deny (I := I) (L := L) (1 : Int32)) dX10_pour_30 lk_X10_132 lx_0 rfl cd_X10_deny rfl rfl (Nat.le_of_ble_eq_true rfl) ⟨rfl, rfl, Nat.le_of_ble_eq_true rfl, Nat.le_of_ble_eq_true rfl⟩ ?_
    cases hf
    exact x_zret dX10_pour_33 rfl rfl
  · replace hf := f_if hB hf
    refine x_iload_n 3 dX10_pour_7 rfl rfl ?_
    refine x_callSi [.int p2] (c_X10_isTray (I := I) (L := L) p2) dX10_pour_8 lk_X10_124 cd_X10_isTray rfl rfl (Nat.le_of_ble_eq_true rfl) ⟨rfl, rfl, Nat.le_of_ble_eq_true rfl, Nat.le_of_ble_eq_true rfl⟩ ?_
    refine x_if_eqB 28 dX10_pour_11 (by decide) (fun hB => ?_) (fun hB => ?_)
    · replace hf := f_el hB hf
      refine x_aload_n 0 dX10_pour_28 rfl rfl ?_
      refine x_iconst (v := (1)) dX10_pour_29 (by decide) ?_
      refine x_callVi [.int (1 : Int32)] (c_X10_deny (I := I) (L := L) (1 : Int32)) dX10_pour_30 lk_X10_132 lx_0 rfl cd_X10_deny rfl rfl (Nat.le_of_ble_eq_true rfl) ⟨rfl, rfl, Nat.le_of_ble_eq_true rfl, Nat.le_of_ble_eq_true rfl⟩ ?_
      cases hf
      exact x_zret dX10_pour_33 rfl rfl
    · replace hf := f_if hB hf
      refine x_iload_n 2 dX10_pour_14 rfl rfl ?_
      refine x_if_lt 28 dX10_pour_15 (by decide) (fun hB => ?_) (fun hB => ?_)
      · replace hf := f_if hB hf
        refine x_aload_n 0 dX10_pour_28 rfl rfl ?_
        refine x_iconst (v := (1)) dX10_pour_29 (by decide) ?_
        refine x_callVi [.int (1 : Int32)] (c_X10_deny (I := I) (L := L) (1 : Int32)) dX10_pour_30 lk_X10_132 lx_0 rfl cd_X10_deny rfl rfl (Nat.le_of_ble_eq_true rfl) ⟨rfl, rfl, Nat.le_of_ble_eq_true rfl, Nat.le_of_ble_eq_true rfl⟩ ?_
        cases hf
        exact x_zret dX10_pour_33 rfl rfl
      · replace hf := f_el hB hf
        refine x_iload 4 dX10_pour_18 rfl ?_
        refine x_if_lt 28 dX10_pour_20 (by decide) (fun hB => ?_) (fun hB => ?_)
        · replace hf := f_if hB hf
          refine x_aload_n 0 dX10_pour_28 rfl rfl ?_
          refine x_iconst (v := (1)) dX10_pour_29 (by decide) ?_
          refine x_callVi [.int (1 : Int32)] (c_X10_deny (I := I) (L := L) (1 : Int32)) dX10_pour_30 lk_X10_132 lx_0 rfl cd_X10_deny rfl rfl (Nat.le_of_ble_eq_true rfl) ⟨rfl, rfl, Nat.le_of_ble_eq_true rfl, Nat.le_of_ble_eq_true rfl⟩ ?_
          cases hf
          exact x_zret dX10_pour_33 rfl rfl
        · replace hf := f_el hB hf
          refine x_iload 5 dX10_pour_23 rfl ?_
          refine x_if_ge 34 dX10_pour_25 (by decide) (fun hB => ?_) (fun hB => ?_)
          · replace hf := f_if hB hf
            refine x_aload_n 0 dX10_pour_34 rfl rfl ?_
            refine x_getR dX10_pour_35 lx_0 fl_X10_11 rfl ?_
            refine x_iload_n 1 dX10_pour_38 rfl rfl ?_
            obtain ⟨h1, hf⟩ := f_gd hf
            refine x_aald (v := ([55, 57, 59, 61].getD (p0).toNatClampNeg 0)) 3 dX10_pour_39 lx_1 (fun _ => rfl) h1 (zt_gd h1 rfl) ?_
            refine x_astore [(6, .ref ([55, 57, 59, 61].getD (p0).toNatClampNeg 0)), (0, .ref 0), (1, .int p0), (2, .int p1), (3, .int p2), (4, .int p3), (5, .int p4)] dX10_pour_40 (by decide) rfl ?_
            refine x_aload_n 1 dX10_pour_42 rfl rfl ?_
            refine x_getR dX10_pour_43 lx_0 fl_X10_11 rfl ?_
            refine x_iload_n 4 dX10_pour_46 rfl rfl ?_
            obtain ⟨h2, hf⟩ := f_gd hf
            refine x_aald (v := ([55, 57, 59, 61].getD (p2).toNatClampNeg 0)) 3 dX10_pour_47 lx_1 (fun _ => rfl) h2 (zt_gd h2 rfl) ?_
            refine x_astore [(7, .ref ([55, 57, 59, 61].getD (p2).toNatClampNeg 0)), (6, .ref ([55, 57, 59, 61].getD (p0).toNatClampNeg 0)), (0, .ref 0), (1, .int p0), (2, .int p1), (3, .int p2), (4, .int p3), (5, .int p4)] dX10_pour_48 (by decide) rfl ?_
            refine x_aload 1 dX10_pour_50 rfl ?_
            refine x_getB (v := (zn (I ([55, 57, 59, 61].getD (p0).toNatClampNeg 0) 1))) dX10_pour_52 (zt_tr h1).1 fl_X10_159 rfl rfl ?_
            refine x_if_eqB 66 dX10_pour_55 (by decide) (fun hB => ?_) (fun hB => ?_)
            · replace hf := f_el hB hf
              refine x_aload_n 2 dX10_pour_66 rfl rfl ?_
              refine x_iconst (v := (2)) dX10_pour_67 (by decide) ?_
              refine x_callVi [.int (2 : Int32)] (c_X10_deny (I := I) (L := L) (2 : Int32)) dX10_pour_68 lk_X10_132 lx_0 rfl cd_X10_deny rfl rfl (Nat.le_of_ble_eq_true rfl) ⟨rfl, rfl, Nat.le_of_ble_eq_true rfl, Nat.le_of_ble_eq_true rfl⟩ ?_
              cases hf
              exact x_zret dX10_pour_71 rfl rfl
            · replace hf := f_if hB hf
              refine x_aload 0 dX10_pour_58 rfl ?_
              refine x_getB (v := (zn (I ([55, 57, 59, 61].getD (p2).toNatClampNeg 0) 1))) dX10_pour_60 (zt_tr h2).1 fl_X10_159 rfl rfl ?_
              refine x_if_neB 72 dX10_pour_63 (by decide) (fun hB => ?_) (fun hB => ?_)
              · replace hf := f_if hB hf
                refine x_aload 1 dX10_pour_72 rfl ?_
                refine x_getI (v := (I ([55, 57, 59, 61].getD (p0).toNatClampNeg 0) 2)) dX10_pour_74 (zt_tr h1).1 fl_X10_163 rfl rfl ?_
                refine x_aload 0 dX10_pour_77 rfl ?_
                refine x_getI (v := (I ([55, 57, 59, 61].getD (p2).toNatClampNeg 0) 2)) dX10_pour_79 (zt_tr h2).1 fl_X10_163 rfl rfl ?_
                refine x_icmp_eq 92 dX10_pour_82 (by decide) (fun hB => ?_) (fun hB => ?_)
                · replace hf := f_if hB hf
                  refine x_aload 1 dX10_pour_92 rfl ?_
                  refine x_iload_n 4 dX10_pour_94 rfl rfl ?_
                  refine x_iload 7 dX10_pour_95 rfl ?_
                  refine x_callVi [.int p1, .int p4] (c_X8_spans (I := I) (L := L) ([55, 57, 59, 61].getD (p0).toNatClampNeg 0) p1 p4 (zt_tr h1)) dX10_pour_97 lk_X10_166 (zt_tr h1).1 rfl cd_X8_spans rfl rfl (Nat.le_of_ble_eq_true rfl) ⟨rfl, rfl, Nat.le_of_ble_eq_true rfl, Nat.le_of_ble_eq_true rfl⟩ ?_
                  refine x_if_eqB 115 dX10_pour_100 (by decide) (fun hB => ?_) (fun hB => ?_)
                  · replace hf := f_el hB hf
                    refine x_aload_n 2 dX10_pour_115 rfl rfl ?_
                    refine x_iconst (v := (3)) dX10_pour_116 (by decide) ?_
                    refine x_callVi [.int (3 : Int32)] (c_X10_deny (I := I) (L := L) (3 : Int32)) dX10_pour_117 lk_X10_132 lx_0 rfl cd_X10_deny rfl rfl (Nat.le_of_ble_eq_true rfl) ⟨rfl, rfl, Nat.le_of_ble_eq_true rfl, Nat.le_of_ble_eq_true rfl⟩ ?_
                    cases hf
                    exact x_zret dX10_pour_120 rfl rfl
                  · replace hf := f_if hB hf
                    refine x_aload 0 dX10_pour_103 rfl ?_
                    refine x_iload 6 dX10_pour_105 rfl ?_
                    refine x_iload 7 dX10_pour_107 rfl ?_
                    refine x_callVi [.int p3, .int p4] (c_X8_spans (I := I) (L := L) ([55, 57, 59, 61].getD (p2).toNatClampNeg 0) p3 p4 (zt_tr h2)) dX10_pour_109 lk_X10_166 (zt_tr h2).1 rfl cd_X8_spans rfl rfl (Nat.le_of_ble_eq_true rfl) ⟨rfl, rfl, Nat.le_of_ble_eq_true rfl, Nat.le_of_ble_eq_true rfl⟩ ?_
                    refine x_if_neB 121 dX10_pour_112 (by decide) (fun hB => ?_) (fun hB => ?_)
                    · replace hf := f_if hB hf
                      refine x_aload 1 dX10_pour_121 rfl ?_
                      refine x_getR dX10_pour_123 (zt_tr h1).1 fl_X10_155 rfl ?_
                      refine x_iload_n 4 dX10_pour_126 rfl rfl ?_
                      refine x_aload 0 dX10_pour_127 rfl ?_
                      refine x_getR dX10_pour_129 (zt_tr h2).1 fl_X10_155 rfl ?_
                      refine x_iload 6 dX10_pour_132 rfl ?_
                      refine x_iload 7 dX10_pour_134 rfl ?_
                      obtain ⟨h3, hf⟩ := f_gd hf
                      obtain ⟨L4, hL4, hf⟩ := f_lt hf
                      refine x_cpyL dX10_pour_136 ac_X10_170 (zt_tr h1).2.1 (zt_tr h2).2.1 h3.1 h3.2.1 h3.2.2.1 h3.2.2.2.1 h3.2.2.2.2 ⟨Nat.le_of_ble_eq_true rfl, Nat.le_of_ble_eq_true rfl⟩ hL4 ?_
                      refine x_aload_n 2 dX10_pour_139 rfl rfl ?_
                      refine x_callVi [] (c_X10_grant (I := I) (L := L4) ) dX10_pour_140 lk_X10_139 lx_0 rfl cd_X10_grant rfl rfl (Nat.le_of_ble_eq_true rfl) ⟨rfl, rfl, Nat.le_of_ble_eq_true rfl, Nat.le_of_ble_eq_true rfl⟩ ?_
                      cases hf
                      exact x_zret dX10_pour_143 rfl rfl
                    · replace hf := f_el hB hf
                      refine x_aload_n 2 dX10_pour_115 rfl rfl ?_
                      refine x_iconst (v := (3)) dX10_pour_116 (by decide) ?_
                      refine x_callVi [.int (3 : Int32)] (c_X10_deny (I := I) (L := L) (3 : Int32)) dX10_pour_117 lk_X10_132 lx_0 rfl cd_X10_deny rfl rfl (Nat.le_of_ble_eq_true rfl) ⟨rfl, rfl, Nat.le_of_ble_eq_true rfl, Nat.le_of_ble_eq_true rfl⟩ ?_
                      cases hf
                      exact x_zret dX10_pour_120 rfl rfl
                · replace hf := f_el hB hf
                  refine x_aload_n 2 dX10_pour_85 rfl rfl ?_
                  refine x_bipush (v := (8)) dX10_pour_86 (by decide) ?_
                  refine x_callVi [.int (8 : Int32)] (c_X10_deny (I := I) (L := L) (8 : Int32)) dX10_pour_88 lk_X10_132 lx_0 rfl cd_X10_deny rfl rfl (Nat.le_of_ble_eq_true rfl) ⟨rfl, rfl, Nat.le_of_ble_eq_true rfl, Nat.le_of_ble_eq_true rfl⟩ ?_
                  cases hf
                  exact x_zret dX10_pour_91 rfl rfl
              · replace hf := f_el hB hf
                refine x_aload_n 2 dX10_pour_66 rfl rfl ?_
                refine x_iconst (v := (2)) dX10_pour_67 (by decide) ?_
                refine x_callVi [.int (2 : Int32)] (c_X10_deny (I := I) (L := L) (2 : Int32)) dX10_pour_68 lk_X10_132 lx_0 rfl cd_X10_deny rfl rfl (Nat.le_of_ble_eq_true rfl) ⟨rfl, rfl, Nat.le_of_ble_eq_true rfl, Nat.le_of_ble_eq_true rfl⟩ ?_
                cases hf
                exact x_zret dX10_pour_71 rfl rfl
          · replace hf := f_el hB hf
            refine x_aload_n 0 dX10_pour_28 rfl rfl ?_
            refine x_iconst (v := (1)) dX10_pour_29 (by decide) ?_
            refine x_callVi [.int (1 : Int32)] (c_X10_deny (I := I) (L := L) (1 : Int32)) dX10_pour_30 lk_X10_132 lx_0 rfl cd_X10_deny rfl rfl (Nat.le_of_ble_eq_true rfl) ⟨rfl, rfl, Nat.le_of_ble_eq_true rfl, Nat.le_of_ble_eq_true rfl⟩ ?_
            cases hf
            exact x_zret dX10_pour_33 rfl rfl
set_option maxRecDepth 100000 in
set_option maxHeartbeats 4000000 in
theorem l_X10_putOnTape_3   (v1 : Int32) (L : z_L) {r : z_I}  : ∀ (n : Nat) (v2 : Int32) (I : z_I), g_X10_putOnTape_3 v1  n v2 I = some r → z_X layX RX10 cX10_putOnTape 3 (none) ({ frames := 0, cells := 0, slots := 0, locals := 0 } : Room) 3 [(0, .ref 0), (1, .int v1), (2, .int v2)] [] I L (none, r, L) := by
  intro n
  induction n with
  | zero => intro v2 I hf; cases hf
  | succ n ih =>
    intro v2 I hf
    rw [g_X10_putOnTape_3] at hf
    refine x_iload_n 2 dX10_putOnTape_3 rfl rfl ?_
    refine x_if_lt 36 dX10_putOnTape_4 (by decide) (fun hB => ?_) (fun hB => ?_)
    · replace hf := f_if hB hf
      cases hf
      exact x_vret dX10_putOnTape_36 rfl rfl
    · replace hf := f_el hB hf
      refine x_aload_n 0 dX10_putOnTape_7 rfl rfl ?_
      refine x_getR dX10_putOnTape_8 lx_0 fl_X10_15 rfl ?_
      refine x_aload_n 0 dX10_putOnTape_11 rfl rfl ?_
      refine x_getI (v := (I 0 18)) dX10_putOnTape_12 lx_0 fl_X10_176 rfl rfl ?_
      refine x_iload_n 1 dX10_putOnTape_15 rfl rfl ?_
      refine x_iload_n 2 dX10_putOnTape_16 rfl rfl ?_
      refine x_iushr dX10_putOnTape_17 ?_
      refine x_i2b dX10_putOnTape_18 ?_
      obtain ⟨h1, hf⟩ := f_gd hf
      obtain ⟨I2, hI2, hf⟩ := f_lt hf
      refine x_bast (j0 := ((I 0 18)).toNatClampNeg) dX10_putOnTape_19 lx_2 h1 rfl hI2 ?_
      refine x_aload_n 0 dX10_putOnTape_20 rfl rfl ?_
      refine x_dup dX10_putOnTape_21 rfl ?_
      refine x_getI (v := (I 0 18)) dX10_putOnTape_22 lx_0 fl_X10_176 rfl (by rw [hI2, z2_o (by decide)]) ?_
      refine x_iconst (v := (1)) dX10_putOnTape_25 (by decide) ?_
      refine x_iadd dX10_putOnTape_26 ?_
      obtain ⟨I3, hI3, hf⟩ := f_lt hf
      refine x_putI dX10_putOnTape_27 lx_0 fl_X10_176 rfl rfl rfl hI3 ?_
      refine x_iinc 2 [(2, .int (v2 + (-8 : Int32))), (0, .ref 0), (1, .int v1)] dX10_putOnTape_30 rfl rfl (by decide) rfl ?_
      refine x_goto 3 dX10_putOnTape_33 (by decide) ?_
      refine x_lv [(0, .ref 0), (1, .int v1), (2, .int (v2 + (-8 : Int32)))] [1, 2, 0] rfl ?_
      exact ih _ _ hf
set_option maxRecDepth 100000 in
set_option maxHeartbeats 4000000 in
theorem c_X10_putOnTape {I : z_I} {L : z_L} {p0 : Int32}  {r : z_I} (hf : f_X10_putOnTape I p0 = some r) : z_C layX yX10_putOnTape cX10_putOnTape 3 (none) ({ frames := 0, cells := 0, slots := 0, locals := 0 } : Room) [.ref 0, .int p0] I L (none, r, L) := by
  refine z_C.of (by decide) (Nat.le_of_ble_eq_true rfl) ?_
  show z_X layX RX10 cX10_putOnTape 3 (none) ({ frames := 0, cells := 0, slots := 0, locals := 0 } : Room) 0 [(0, .ref 0), (1, .int p0)] [] I L (none, r, L)
  unfold f_X10_putOnTape at hf
  refine x_bipush (v := (24)) dX10_putOnTape_0 (by decide) ?_
  refine x_istore_n [(2, .int (24 : Int32)), (0, .ref 0), (1, .int p0)] dX10_putOnTape_2 rfl (by decide) rfl ?_
  refine x_lv [(0, .ref 0), (1, .int p0), (2, .int (24 : Int32))] [1, 2, 0] rfl ?_
  refine l_X10_putOnTape_3 p0 (L)   _ _ _ hf
set_option maxRecDepth 100000 in
set_option maxHeartbeats 4000000 in
theorem c_X10_feed {I : z_I} {L : z_L} {p0 : Int32} {p1 : Int32} {p2 : Int32} {p3 : Int32} {p4 : Int32}  {r : Int32 × z_I} (hf : f_X10_feed I p0 p1 p2 p3 p4 = some r) : z_C layX yX10_feed cX10_feed 6 (some .int) ({ frames := 1, cells := 0, slots := 0, locals := 22 } : Room) [.ref 0, .int p0, .int p1, .int p2, .int p3, .int p4] I L (some (.int r.1), r.2, L) := by
  refine z_C.of (by decide) (Nat.le_of_ble_eq_true rfl) ?_
  show z_X layX RX10 cX10_feed 6 (some .int) ({ frames := 1, cells := 0, slots := 0, locals := 22 } : Room) 0 [(0, .ref 0), (1, .int p0), (2, .int p1), (3, .int p2), (4, .int p3), (5, .int p4)] [] I L (some (.int r.1), r.2, L)
  unfold f_X10_feed at hf
  refine x_aload_n 0 dX10_feed_0 rfl rfl ?_
  refine x_getI (v := (I 0 18)) dX10_feed_1 lx_0 fl_X10_176 rfl rfl ?_
  refine x_bipush (v := (20)) dX10_feed_4 (by decide) ?_
  refine x_iadd dX10_feed_6 ?_
  refine x_sipush (v := (900)) dX10_feed_7 (by decide) ?_
  refine x_icmp_le 15 dX10_feed_10 (by decide) (fun hB => ?_) (fun hB => ?_)
  · replace hf := f_if hB hf
    refine x_aload_n 0 dX10_feed_15 rfl rfl ?_
    refine x_iload_n 1 dX10_feed_16 rfl rfl ?_
    obtain ⟨q1, hq2, hf⟩ := f_bd hf
    refine x_callVv [.int p0] (c_X10_putOnTape (I := I) (L := L)  hq2) dX10_feed_17 lk_X10_179 lx_0 rfl cd_X10_putOnTape rfl rfl (Nat.le_of_ble_eq_true rfl) ⟨rfl, rfl, Nat.le_of_ble_eq_true rfl, Nat.le_of_ble_eq_true rfl⟩ ?_
    refine x_aload_n 0 dX10_feed_20 rfl rfl ?_
    refine x_iload_n 2 dX10_feed_21 rfl rfl ?_
    obtain ⟨q3, hq4, hf⟩ := f_bd hf
    refine x_callVv [.int p1] (c_X10_putOnTape (I := q1) (L := L)  hq4) dX10_feed_22 lk_X10_179 lx_0 rfl cd_X10_putOnTape rfl rfl (Nat.le_of_ble_eq_true rfl) ⟨rfl, rfl, Nat.le_of_ble_eq_true rfl, Nat.le_of_ble_eq_true rfl⟩ ?_
    refine x_aload_n 0 dX10_feed_25 rfl rfl ?_
    refine x_iload_n 3 dX10_feed_26 rfl rfl ?_
    obtain ⟨q5, hq6, hf⟩ := f_bd hf
    refine x_callVv [.int p2] (c_X10_putOnTape (I := q3) (L := L)  hq6) dX10_feed_27 lk_X10_179 lx_0 rfl cd_X10_putOnTape rfl rfl (Nat.le_of_ble_eq_true rfl) ⟨rfl, rfl, Nat.le_of_ble_eq_true rfl, Nat.le_of_ble_eq_true rfl⟩ ?_
    refine x_aload_n 0 dX10_feed_30 rfl rfl ?_
    refine x_iload 4 dX10_feed_31 rfl ?_
    obtain ⟨q7, hq8, hf⟩ := f_bd hf
    refine x_callVv [.int p3] (c_X10_putOnTape (I := q5) (L := L)  hq8) dX10_feed_33 lk_X10_179 lx_0 rfl cd_X10_putOnTape rfl rfl (Nat.le_of_ble_eq_true rfl) ⟨rfl, rfl, Nat.le_of_ble_eq_true rfl, Nat.le_of_ble_eq_true rfl⟩ ?_
    refine x_aload_n 0 dX10_feed_36 rfl rfl ?_
    refine x_iload 5 dX10_feed_37 rfl ?_
    obtain ⟨q9, hq10, hf⟩ := f_bd hf
    refine x_callVv [.int p4] (c_X10_putOnTape (I := q7) (L := L)  hq10) dX10_feed_39 lk_X10_179 lx_0 rfl cd_X10_putOnTape rfl rfl (Nat.le_of_ble_eq_true rfl) ⟨rfl, rfl, Nat.le_of_ble_eq_true rfl, Nat.le_of_ble_eq_true rfl⟩ ?_
    refine x_aload_n 0 dX10_feed_42 rfl rfl ?_
    refine x_getI (v := (q9 0 18)) dX10_feed_43 lx_0 fl_X10_176 rfl rfl ?_
    cases hf
    exact x_iret dX10_feed_46 rfl rfl
  · replace hf := f_el hB hf
    refine x_iconst (v := (-1)) dX10_feed_13 (by decide) ?_
    cases hf
    exact x_iret dX10_feed_14 rfl rfl
set_option maxRecDepth 100000 in
set_option maxHeartbeats 4000000 in
theorem c_X10_endText {I : z_I} {L : z_L} (p0 : Bool)  : z_C layX yX10_endText cX10_endText 2 (none) ({ frames := 0, cells := 0, slots := 0, locals := 0 } : Room) [.ref 0, .int (zb p0)] I L (none, (f_X10_endText I p0), L) := by
  obtain ⟨r, hf⟩ : ∃ r, f_X10_endText I p0 = r := ⟨_, rfl⟩
  rw [hf]
  refine z_C.of (by decide) (Nat.le_of_ble_eq_true rfl) ?_
  show z_X layX RX10 cX10_endText 2 (none) ({ frames := 0, cells := 0, slots := 0, locals := 0 } : Room) 0 [(0, .ref 0), (1, .int (zb p0))] [] I L (none, r, L)
  unfold f_X10_endText at hf
  refine x_aload_n 0 dX10_endText_0 rfl rfl ?_
  refine x_iconst (v := (0)) dX10_endText_1 (by decide) ?_
  obtain ⟨I1, hI1, hf⟩ := f_lt hf
  refine x_putI dX10_endText_2 lx_0 fl_X10_176 rfl rfl rfl hI1 ?_
  refine x_aload_n 0 dX10_endText_5 rfl rfl ?_
  refine x_iload_n 1 dX10_endText_6 rfl rfl ?_
  refine x_if_eqB 14 dX10_endText_7 (by decide) (fun hB => ?_) (fun hB => ?_)
  · replace hf := t_el hB hf
    refine x_aload_n 0 dX10_endText_14 rfl rfl ?_
    refine x_getR dX10_endText_15 lx_0 fl_X10_52 rfl ?_
    refine x_getI (v := (I 39 11)) dX10_endText_18 lx_39 fl_X10_401 rfl (by rw [hI1, z2_o (by decide)]) ?_
    obtain ⟨I5, hI5, hf⟩ := f_lt hf
    refine x_putI dX10_endText_21 lx_0 fl_X10_106 rfl rfl rfl hI5 ?_
    refine x_aload_n 0 dX10_endText_24 rfl rfl ?_
    refine x_iload_n 1 dX10_endText_25 rfl rfl ?_
    refine x_if_eqB 33 dX10_endText_26 (by decide) (fun hB => ?_) (fun hB => ?_)
    · replace hf := t_el hB hf
      refine x_aload_n 0 dX10_endText_33 rfl rfl ?_
      refine x_getR dX10_endText_34 lx_0 fl_X10_52 rfl ?_
      refine x_getI (v := (I 39 12)) dX10_endText_37 lx_39 fl_X10_402 rfl (by rw [hI5, z2_o (by decide), hI1, z2_o (by decide)]) ?_
      obtain ⟨I7, hI7, hf⟩ := f_lt hf
      refine x_putI dX10_endText_40 lx_0 fl_X10_110 rfl rfl rfl hI7 ?_
      subst hf
      exact x_vret dX10_endText_43 rfl rfl
    · replace hf := t_if hB hf
      refine x_iconst (v := (-1)) dX10_endText_29 (by decide) ?_
      refine x_goto 40 dX10_endText_30 (by decide) ?_
      obtain ⟨I6, hI6, hf⟩ := f_lt hf
      refine x_putI dX10_endText_40 lx_0 fl_X10_110 rfl rfl rfl hI6 ?_
      subst hf
      exact x_vret dX10_endText_43 rfl rfl
  · replace hf := t_if hB hf
    refine x_iconst (v := (0)) dX10_endText_10 (by decide) ?_
    refine x_goto 21 dX10_endText_11 (by decide) ?_
    obtain ⟨I2, hI2, hf⟩ := f_lt hf
    refine x_putI dX10_endText_21 lx_0 fl_X10_106 rfl rfl rfl hI2 ?_
    refine x_aload_n 0 dX10_endText_24 rfl rfl ?_
    refine x_iload_n 1 dX10_endText_25 rfl rfl ?_
    refine x_if_eqB 33 dX10_endText_26 (by decide) (fun hB => ?_) (fun hB => ?_)
    · replace hf := t_el hB hf
      refine x_aload_n 0 dX10_endText_33 rfl rfl ?_
      refine x_getR dX10_endText_34 lx_0 fl_X10_52 rfl ?_
      refine x_getI (v := (I 39 12)) dX10_endText_37 lx_39 fl_X10_402 rfl (by rw [hI2, z2_o (by decide), hI1, z2_o (by decide)]) ?_
      obtain ⟨I4, hI4, hf⟩ := f_lt hf
      refine x_putI dX10_endText_40 lx_0 fl_X10_110 rfl rfl rfl hI4 ?_
      subst hf
      exact x_vret dX10_endText_43 rfl rfl
    · replace hf := t_if hB hf
      refine x_iconst (v := (-1)) dX10_endText_29 (by decide) ?_
      refine x_goto 40 dX10_endText_30 (by decide) ?_
      obtain ⟨I3, hI3, hf⟩ := f_lt hf
      refine x_putI dX10_endText_40 lx_0 fl_X10_110 rfl rfl rfl hI3 ?_
      subst hf
      exact x_vret dX10_endText_43 rfl rfl
set_option maxRecDepth 100000 in
set_option maxHeartbeats 4000000 in
theorem c_X10_give {I : z_I} {L : z_L} (p0 : Int32)  : z_C layX yX10_give cX10_give 2 (some .int) ({ frames := 0, cells := 0, slots := 0, locals := 0 } : Room) [.ref 0, .int p0] I L (some (.int (f_X10_give I p0).1), (f_X10_give I p0).2, L) := by
  obtain ⟨r, hf⟩ : ∃ r, f_X10_give I p0 = r := ⟨_, rfl⟩
  rw [hf]
  refine z_C.of (by decide) (Nat.le_of_ble_eq_true rfl) ?_
  show z_X layX RX10 cX10_give 2 (some .int) ({ frames := 0, cells := 0, slots := 0, locals := 0 } : Room) 0 [(0, .ref 0), (1, .int p0)] [] I L (some (.int r.1), r.2, L)
  unfold f_X10_give at hf
  refine x_aload_n 0 dX10_give_0 rfl rfl ?_
  refine x_iconst (v := (0)) dX10_give_1 (by decide) ?_
  obtain ⟨I1, hI1, hf⟩ := f_lt hf
  refine x_putI dX10_give_2 lx_0 fl_X10_114 rfl rfl rfl hI1 ?_
  refine x_iload_n 1 dX10_give_5 rfl rfl ?_
  subst hf
  exact x_iret dX10_give_6 rfl rfl
set_option maxRecDepth 100000 in
set_option maxHeartbeats 4000000 in
theorem c_X10_court {I : z_I} {L : z_L} {p0 : Int32}  {r : Int32 × z_I × z_L} (hf : f_X10_court I L p0 = some r) : z_C layX yX10_court cX10_court 3 (some .int) ({ frames := 6, cells := 0, slots := 0, locals := 133 } : Room) [.ref 0, .int p0] I L (some (.int r.1), r.2.1, r.2.2) := by
  refine z_C.of (by decide) (Nat.le_of_ble_eq_true rfl) ?_
  show z_X layX RX10 cX10_court 3 (some .int) ({ frames := 6, cells := 0, slots := 0, locals := 133 } : Room) 0 [(0, .ref 0), (1, .int p0)] [] I L (some (.int r.1), r.2.1, r.2.2)
  unfold f_X10_court at hf
  refine x_iload_n 1 dX10_court_0 rfl rfl ?_
  refine x_iconst (v := (0)) dX10_court_1 (by decide) ?_
  refine x_aload_n 0 dX10_court_2 rfl rfl ?_
  refine x_getI (v := (I 0 18)) dX10_court_3 lx_0 fl_X10_176 rfl rfl ?_
  refine x_callSi [.int p0, .int (0 : Int32), .int (I 0 18)] (c_X10_isWithin (I := I) (L := L) p0 (0 : Int32) (I 0 18)) dX10_court_6 lk_X10_128 cd_X10_isWithin rfl rfl (Nat.le_of_ble_eq_true rfl) ⟨rfl, rfl, Nat.le_of_ble_eq_true rfl, Nat.le_of_ble_eq_true rfl⟩ ?_
  refine x_if_neB 18 dX10_court_9 (by decide) (fun hB => ?_) (fun hB => ?_)
  · replace hf := f_if hB hf
    refine x_aload_n 0 dX10_court_18 rfl rfl ?_
    refine x_getR dX10_court_19 lx_0 fl_X10_61 rfl ?_
    refine x_iload_n 1 dX10_court_22 rfl rfl ?_
    obtain ⟨q1, hq2, hf⟩ := f_bd hf
    refine x_callVi [.int p0] (c_X1_takeText (I := I) (L := L)  hq2) dX10_court_23 lk_X10_183 lx_41 rfl cd_X1_takeText rfl rfl (Nat.le_of_ble_eq_true rfl) ⟨rfl, rfl, Nat.le_of_ble_eq_true rfl, Nat.le_of_ble_eq_true rfl⟩ ?_
    refine x_istore_n [(2, .int (zb q1.1)), (0, .ref 0), (1, .int p0)] dX10_court_26 rfl (by decide) rfl ?_
    refine x_aload_n 1 dX10_court_27 rfl rfl ?_
    refine x_iload_n 0 dX10_court_28 rfl rfl ?_
    refine x_callVv [.int (zb q1.1)] (c_X10_endText (I := q1.2.1) (L := q1.2.2) q1.1) dX10_court_29 lk_X10_186 lx_0 rfl cd_X10_endText rfl rfl (Nat.le_of_ble_eq_true rfl) ⟨rfl, rfl, Nat.le_of_ble_eq_true rfl, Nat.le_of_ble_eq_true rfl⟩ ?_
    refine x_iload_n 0 dX10_court_32 rfl rfl ?_
    refine x_if_neB 43 dX10_court_33 (by decide) (fun hB => ?_) (fun hB => ?_)
    · replace hf := f_if hB hf
      refine x_aload_n 1 dX10_court_43 rfl rfl ?_
      refine x_getR dX10_court_44 lx_0 fl_X10_22 rfl ?_
      refine x_aload_n 1 dX10_court_47 rfl rfl ?_
      refine x_getR dX10_court_48 lx_0 fl_X10_41 rfl ?_
      refine x_callVv [.ref 22] (c_X0_copyFrom (I := (f_X10_endText q1.2.1 q1.1)) (L := q1.2.2) 3 22 zt_3 zt_22) dX10_court_51 lk_X10_190 lx_3 rfl cd_X0_copyFrom rfl rfl (Nat.le_of_ble_eq_true rfl) ⟨rfl, rfl, Nat.le_of_ble_eq_true rfl, Nat.le_of_ble_eq_true rfl⟩ ?_
      refine x_aload_n 1 dX10_court_54 rfl rfl ?_
      refine x_getR dX10_court_55 lx_0 fl_X10_29 rfl ?_
      refine x_callVv [] (c_X5_clear (I := (f_X0_copyFrom (f_X10_endText q1.2.1 q1.1) q1.2.2 3 22).1) (L := (f_X0_copyFrom (f_X10_endText q1.2.1 q1.1) q1.2.2 3 22).2) 14 zt_14) dX10_court_58 lk_X10_193 lx_14 rfl cd_X5_clear rfl rfl (Nat.le_of_ble_eq_true rfl) ⟨rfl, rfl, Nat.le_of_ble_eq_true rfl, Nat.le_of_ble_eq_true rfl⟩ ?_
      refine x_aload_n 1 dX10_court_61 rfl rfl ?_
      refine x_aload_n 1 dX10_court_62 rfl rfl ?_
      refine x_getR dX10_court_63 lx_0 fl_X10_22 rfl ?_
      refine x_getI (v := ((f_X5_clear (f_X0_copyFrom (f_X10_endText q1.2.1 q1.1) q1.2.2 3 22).1 14) 3 12)) dX10_court_66 lx_3 fl_X10_196 rfl rfl ?_
      refine x_callVi [.int ((f_X5_clear (f_X0_copyFrom (f_X10_endText q1.2.1 q1.1) q1.2.2 3 22).1 14) 3 12)] (c_X10_give (I := (f_X5_clear (f_X0_copyFrom (f_X10_endText q1.2.1 q1.1) q1.2.2 3 22).1 14)) (L := (f_X0_copyFrom (f_X10_endText q1.2.1 q1.1) q1.2.2 3 22).2) ((f_X5_clear (f_X0_copyFrom (f_X10_endText q1.2.1 q1.1) q1.2.2 3 22).1 14) 3 12)) dX10_court_69 lk_X10_199 lx_0 rfl cd_X10_give rfl rfl (Nat.le_of_ble_eq_true rfl) ⟨rfl, rfl, Nat.le_of_ble_eq_true rfl, Nat.le_of_ble_eq_true rfl⟩ ?_
      cases hf
      exact x_iret dX10_court_72 rfl rfl
    · replace hf := f_el hB hf
      refine x_aload_n 1 dX10_court_36 rfl rfl ?_
      refine x_bipush (v := (9)) dX10_court_37 (by decide) ?_
      refine x_callVi [.int (9 : Int32)] (c_X10_refuse (I := (f_X10_endText q1.2.1 q1.1)) (L := q1.2.2) (9 : Int32)) dX10_court_39 lk_X10_151 lx_0 rfl cd_X10_refuse rfl rfl (Nat.le_of_ble_eq_true rfl) ⟨rfl, rfl, Nat.le_of_ble_eq_true rfl, Nat.le_of_ble_eq_true rfl⟩ ?_
      cases hf
      exact x_iret dX10_court_42 rfl rfl
  · replace hf := f_el hB hf
    refine x_aload_n 0 dX10_court_12 rfl rfl ?_
    refine x_iconst (v := (1)) dX10_court_13 (by decide) ?_
    refine x_callVi [.int (1 : Int32)] (c_X10_refuse (I := I) (L := L) (1 : Int32)) dX10_court_14 lk_X10_151 lx_0 rfl cd_X10_refuse rfl rfl (Nat.le_of_ble_eq_true rfl) ⟨rfl, rfl, Nat.le_of_ble_eq_true rfl, Nat.le_of_ble_eq_true rfl⟩ ?_
    cases hf
    exact x_iret dX10_court_17 rfl rfl
set_option maxRecDepth 100000 in
set_option maxHeartbeats 4000000 in
theorem c_X10_terms {I : z_I} {L : z_L} {p0 : Int32}  {r : Int32 × z_I × z_L} (hf : f_X10_terms I L p0 = some r) : z_C layX yX10_terms cX10_terms 3 (some .int) ({ frames := 7, cells := 0, slots := 0, locals := 158 } : Room) [.ref 0, .int p0] I L (some (.int r.1), r.2.1, r.2.2) := by
  refine z_C.of (by decide) (Nat.le_of_ble_eq_true rfl) ?_
  show z_X layX RX10 cX10_terms 3 (some .int) ({ frames := 7, cells := 0, slots := 0, locals := 158 } : Room) 0 [(0, .ref 0), (1, .int p0)] [] I L (some (.int r.1), r.2.1, r.2.2)
  unfold f_X10_terms at hf
  refine x_iload_n 1 dX10_terms_0 rfl rfl ?_
  refine x_iconst (v := (0)) dX10_terms_1 (by decide) ?_
  refine x_aload_n 0 dX10_terms_2 rfl rfl ?_
  refine x_getI (v := (I 0 18)) dX10_terms_3 lx_0 fl_X10_176 rfl rfl ?_
  refine x_callSi [.int p0, .int (0 : Int32), .int (I 0 18)] (c_X10_isWithin (I := I) (L := L) p0 (0 : Int32) (I 0 18)) dX10_terms_6 lk_X10_128 cd_X10_isWithin rfl rfl (Nat.le_of_ble_eq_true rfl) ⟨rfl, rfl, Nat.le_of_ble_eq_true rfl, Nat.le_of_ble_eq_true rfl⟩ ?_
  refine x_if_eqB 19 dX10_terms_9 (by decide) (fun hB => ?_) (fun hB => ?_)
  · replace hf := f_el hB hf
    refine x_aload_n 0 dX10_terms_19 rfl rfl ?_
    refine x_iconst (v := (1)) dX10_terms_20 (by decide) ?_
    refine x_callVi [.int (1 : Int32)] (c_X10_refuse (I := I) (L := L) (1 : Int32)) dX10_terms_21 lk_X10_151 lx_0 rfl cd_X10_refuse rfl rfl (Nat.le_of_ble_eq_true rfl) ⟨rfl, rfl, Nat.le_of_ble_eq_true rfl, Nat.le_of_ble_eq_true rfl⟩ ?_
    cases hf
    exact x_iret dX10_terms_24 rfl rfl
  · replace hf := f_if hB hf
    refine x_iload_n 1 dX10_terms_12 rfl rfl ?_
    refine x_sipush (v := (300)) dX10_terms_13 (by decide) ?_
    refine x_icmp_le 25 dX10_terms_16 (by decide) (fun hB => ?_) (fun hB => ?_)
    · replace hf := f_if hB hf
      refine x_aload_n 0 dX10_terms_25 rfl rfl ?_
      refine x_getR dX10_terms_26 lx_0 fl_X10_70 rfl ?_
      refine x_iload_n 1 dX10_terms_29 rfl rfl ?_
      obtain ⟨q1, hq2, hf⟩ := f_bd hf
      refine x_callVi [.int p0] (c_X6_takeText (I := I) (L := L)  hq2) dX10_terms_30 lk_X10_202 lx_43 rfl cd_X6_takeText rfl rfl (Nat.le_of_ble_eq_true rfl) ⟨rfl, rfl, Nat.le_of_ble_eq_true rfl, Nat.le_of_ble_eq_true rfl⟩ ?_
      refine x_istore_n [(2, .int (zb q1.1)), (0, .ref 0), (1, .int p0)] dX10_terms_33 rfl (by decide) rfl ?_
      refine x_aload_n 1 dX10_terms_34 rfl rfl ?_
      refine x_iload_n 0 dX10_terms_35 rfl rfl ?_
      refine x_callVv [.int (zb q1.1)] (c_X10_endText (I := q1.2.1) (L := q1.2.2) q1.1) dX10_terms_36 lk_X10_186 lx_0 rfl cd_X10_endText rfl rfl (Nat.le_of_ble_eq_true rfl) ⟨rfl, rfl, Nat.le_of_ble_eq_true rfl, Nat.le_of_ble_eq_true rfl⟩ ?_
      refine x_iload_n 0 dX10_terms_39 rfl rfl ?_
      refine x_if_neB 50 dX10_terms_40 (by decide) (fun hB => ?_) (fun hB => ?_)
      · replace hf := f_if hB hf
        refine x_aload_n 1 dX10_terms_50 rfl rfl ?_
        refine x_getR dX10_terms_51 lx_0 fl_X10_29 rfl ?_
        refine x_aload_n 1 dX10_terms_54 rfl rfl ?_
        refine x_getR dX10_terms_55 lx_0 fl_X10_44 rfl ?_
        refine x_callVv [.ref 33] (c_X5_copyFrom (I := (f_X10_endText q1.2.1 q1.1)) (L := q1.2.2) 14 33 zt_14 zt_33) dX10_terms_58 lk_X10_203 lx_14 rfl cd_X5_copyFrom rfl rfl (Nat.le_of_ble_eq_true rfl) ⟨rfl, rfl, Nat.le_of_ble_eq_true rfl, Nat.le_of_ble_eq_true rfl⟩ ?_
        refine x_aload_n 1 dX10_terms_61 rfl rfl ?_
        refine x_aload_n 1 dX10_terms_62 rfl rfl ?_
        refine x_getR dX10_terms_63 lx_0 fl_X10_29 rfl ?_
        refine x_getI (v := ((f_X5_copyFrom (f_X10_endText q1.2.1 q1.1) 14 33) 14 7)) dX10_terms_66 lx_14 fl_X10_206 rfl rfl ?_
        refine x_callVi [.int ((f_X5_copyFrom (f_X10_endText q1.2.1 q1.1) 14 33) 14 7)] (c_X10_give (I := (f_X5_copyFrom (f_X10_endText q1.2.1 q1.1) 14 33)) (L := q1.2.2) ((f_X5_copyFrom (f_X10_endText q1.2.1 q1.1) 14 33) 14 7)) dX10_terms_69 lk_X10_199 lx_0 rfl cd_X10_give rfl rfl (Nat.le_of_ble_eq_true rfl) ⟨rfl, rfl, Nat.le_of_ble_eq_true rfl, Nat.le_of_ble_eq_true rfl⟩ ?_
        cases hf
        exact x_iret dX10_terms_72 rfl rfl
      · replace hf := f_el hB hf
        refine x_aload_n 1 dX10_terms_43 rfl rfl ?_
        refine x_bipush (v := (9)) dX10_terms_44 (by decide) ?_
        refine x_callVi [.int (9 : Int32)] (c_X10_refuse (I := (f_X10_endText q1.2.1 q1.1)) (L := q1.2.2) (9 : Int32)) dX10_terms_46 lk_X10_151 lx_0 rfl cd_X10_refuse rfl rfl (Nat.le_of_ble_eq_true rfl) ⟨rfl, rfl, Nat.le_of_ble_eq_true rfl, Nat.le_of_ble_eq_true rfl⟩ ?_
        cases hf
        exact x_iret dX10_terms_49 rfl rfl
    · replace hf := f_el hB hf
      refine x_aload_n 0 dX10_terms_19 rfl rfl ?_
      refine x_iconst (v := (1)) dX10_terms_20 (by decide) ?_
      refine x_callVi [.int (1 : Int32)] (c_X10_refuse (I := I) (L := L) (1 : Int32)) dX10_terms_21 lk_X10_151 lx_0 rfl cd_X10_refuse rfl rfl (Nat.le_of_ble_eq_true rfl) ⟨rfl, rfl, Nat.le_of_ble_eq_true rfl, Nat.le_of_ble_eq_true rfl⟩ ?_
      cases hf
      exact x_iret dX10_terms_24 rfl rfl
set_option maxRecDepth 100000 in
set_option maxHeartbeats 4000000 in
theorem c_X10_fault {I : z_I} {L : z_L} (p0 : Int32)  : z_C layX yX10_fault cX10_fault 2 (some .int) ({ frames := 0, cells := 0, slots := 0, locals := 0 } : Room) [.ref 0, .int p0] I L (some (.int (f_X10_fault I p0)), I, L) := by
  obtain ⟨r, hf⟩ : ∃ r, f_X10_fault I p0 = r := ⟨_, rfl⟩
  rw [hf]
  refine z_C.of (by decide) (Nat.le_of_ble_eq_true rfl) ?_
  show z_X layX RX10 cX10_fault 2 (some .int) ({ frames := 0, cells := 0, slots := 0, locals := 0 } : Room) 0 [(0, .ref 0), (1, .int p0)] [] I L (some (.int r), I, L)
  unfold f_X10_fault at hf
  refine x_iload_n 1 dX10_fault_0 rfl rfl ?_
  refine x_if_ne 9 dX10_fault_1 (by decide) (fun hB => ?_) (fun hB => ?_)
  · replace hf := t_el hB hf
    refine x_iload_n 1 dX10_fault_9 rfl rfl ?_
    refine x_iconst (v := (1)) dX10_fault_10 (by decide) ?_
    refine x_icmp_ne 21 dX10_fault_11 (by decide) (fun hB => ?_) (fun hB => ?_)
    · replace hf := t_el hB hf
      refine x_iconst (v := (-1)) dX10_fault_21 (by decide) ?_
      subst hf
      exact x_iret dX10_fault_22 rfl rfl
    · replace hf := t_if hB hf
      refine x_aload_n 0 dX10_fault_14 rfl rfl ?_
      refine x_getI (v := (I 0 17)) dX10_fault_15 lx_0 fl_X10_110 rfl rfl ?_
      refine x_goto 22 dX10_fault_18 (by decide) ?_
      subst hf
      exact x_iret dX10_fault_22 rfl rfl
  · replace hf := t_if hB hf
    refine x_aload_n 0 dX10_fault_4 rfl rfl ?_
    refine x_getI (v := (I 0 16)) dX10_fault_5 lx_0 fl_X10_106 rfl rfl ?_
    subst hf
    exact x_iret dX10_fault_8 rfl rfl
set_option maxRecDepth 100000 in
set_option maxHeartbeats 4000000 in
theorem c_X10_told {I : z_I} {L : z_L} {p0 : Int32}  {r : Int32 × z_I} (hf : f_X10_told I p0 = some r) : z_C layX yX10_told cX10_told 2 (some .int) ({ frames := 2, cells := 0, slots := 0, locals := 48 } : Room) [.ref 0, .int p0] I L (some (.int r.1), r.2, L) := by
  refine z_C.of (by decide) (Nat.le_of_ble_eq_true rfl) ?_
  show z_X layX RX10 cX10_told 2 (some .int) ({ frames := 2, cells := 0, slots := 0, locals := 48 } : Room) 0 [(0, .ref 0), (1, .int p0)] [] I L (some (.int r.1), r.2, L)
  unfold f_X10_told at hf
  refine x_iload_n 1 dX10_told_0 rfl rfl ?_
  by_cases hs1 : p0 = (0)
  · replace hf := f_if hs1 hf
    refine x_tabIn (0) 60 dX10_told_1 hs1 (by decide) (by decide) rfl (by decide) ?_
    refine x_aload_n 0 dX10_told_60 rfl rfl ?_
    refine x_aload_n 0 dX10_told_61 rfl rfl ?_
    refine x_getR dX10_told_62 lx_0 fl_X10_22 rfl ?_
    refine x_getI (v := (I 3 10)) dX10_told_65 lx_3 fl_X10_209 rfl rfl ?_
    refine x_callVi [.int (I 3 10)] (c_X10_give (I := I) (L := L) (I 3 10)) dX10_told_68 lk_X10_199 lx_0 rfl cd_X10_give rfl rfl (Nat.le_of_ble_eq_true rfl) ⟨rfl, rfl, Nat.le_of_ble_eq_true rfl, Nat.le_of_ble_eq_true rfl⟩ ?_
    cases hf
    exact x_iret dX10_told_71 rfl rfl
  replace hf := f_el hs1 hf
  by_cases hs2 : p0 = (1)
  · replace hf := f_if hs2 hf
    refine x_tabIn (1) 72 dX10_told_1 hs2 (by decide) (by decide) rfl (by decide) ?_
    refine x_aload_n 0 dX10_told_72 rfl rfl ?_
    refine x_aload_n 0 dX10_told_73 rfl rfl ?_
    refine x_getR dX10_told_74 lx_0 fl_X10_22 rfl ?_
    refine x_getI (v := (I 3 11)) dX10_told_77 lx_3 fl_X10_212 rfl rfl ?_
    refine x_callVi [.int (I 3 11)] (c_X10_give (I := I) (L := L) (I 3 11)) dX10_told_80 lk_X10_199 lx_0 rfl cd_X10_give rfl rfl (Nat.le_of_ble_eq_true rfl) ⟨rfl, rfl, Nat.le_of_ble_eq_true rfl, Nat.le_of_ble_eq_true rfl⟩ ?_
    cases hf
    exact x_iret dX10_told_83 rfl rfl
  replace hf := f_el hs2 hf
  by_cases hs3 : p0 = (2)
  · replace hf := f_if hs3 hf
    refine x_tabIn (2) 84 dX10_told_1 hs3 (by decide) (by decide) rfl (by decide) ?_
    refine x_aload_n 0 dX10_told_84 rfl rfl ?_
    refine x_aload_n 0 dX10_told_85 rfl rfl ?_
    refine x_getR dX10_told_86 lx_0 fl_X10_22 rfl ?_
    refine x_getI (v := (I 3 12)) dX10_told_89 lx_3 fl_X10_196 rfl rfl ?_
    refine x_callVi [.int (I 3 12)] (c_X10_give (I := I) (L := L) (I 3 12)) dX10_told_92 lk_X10_199 lx_0 rfl cd_X10_give rfl rfl (Nat.le_of_ble_eq_true rfl) ⟨rfl, rfl, Nat.le_of_ble_eq_true rfl, Nat.le_of_ble_eq_true rfl⟩ ?_
    cases hf
    exact x_iret dX10_told_95 rfl rfl
  replace hf := f_el hs3 hf
  by_cases hs4 : p0 = (3)
  · replace hf := f_if hs4 hf
    refine x_tabIn (3) 96 dX10_told_1 hs4 (by decide) (by decide) rfl (by decide) ?_
    refine x_aload_n 0 dX10_told_96 rfl rfl ?_
    refine x_aload_n 0 dX10_told_97 rfl rfl ?_
    refine x_getR dX10_told_98 lx_0 fl_X10_22 rfl ?_
    refine x_getI (v := (I 3 13)) dX10_told_101 lx_3 fl_X10_215 rfl rfl ?_
    refine x_callVi [.int (I 3 13)] (c_X10_give (I := I) (L := L) (I 3 13)) dX10_told_104 lk_X10_199 lx_0 rfl cd_X10_give rfl rfl (Nat.le_of_ble_eq_true rfl) ⟨rfl, rfl, Nat.le_of_ble_eq_true rfl, Nat.le_of_ble_eq_true rfl⟩ ?_
    cases hf
    exact x_iret dX10_told_107 rfl rfl
  replace hf := f_el hs4 hf
  by_cases hs5 : p0 = (4)
  · replace hf := f_if hs5 hf
    refine x_tabIn (4) 108 dX10_told_1 hs5 (by decide) (by decide) rfl (by decide) ?_
    refine x_aload_n 0 dX10_told_108 rfl rfl ?_
    refine x_aload_n 0 dX10_told_109 rfl rfl ?_
    refine x_getR dX10_told_110 lx_0 fl_X10_22 rfl ?_
    refine x_getI (v := (I 3 14)) dX10_told_113 lx_3 fl_X10_218 rfl rfl ?_
    refine x_callVi [.int (I 3 14)] (c_X10_give (I := I) (L := L) (I 3 14)) dX10_told_116 lk_X10_199 lx_0 rfl cd_X10_give rfl rfl (Nat.le_of_ble_eq_true rfl) ⟨rfl, rfl, Nat.le_of_ble_eq_true rfl, Nat.le_of_ble_eq_true rfl⟩ ?_
    cases hf
    exact x_iret dX10_told_119 rfl rfl
  replace hf := f_el hs5 hf
  by_cases hs6 : p0 = (5)
  · replace hf := f_if hs6 hf
    refine x_tabIn (5) 120 dX10_told_1 hs6 (by decide) (by decide) rfl (by decide) ?_
    refine x_aload_n 0 dX10_told_120 rfl rfl ?_
    refine x_aload_n 0 dX10_told_121 rfl rfl ?_
    refine x_getR dX10_told_122 lx_0 fl_X10_22 rfl ?_
    refine x_getI (v := (I 3 15)) dX10_told_125 lx_3 fl_X10_221 rfl rfl ?_
    refine x_callVi [.int (I 3 15)] (c_X10_give (I := I) (L := L) (I 3 15)) dX10_told_128 lk_X10_199 lx_0 rfl cd_X10_give rfl rfl (Nat.le_of_ble_eq_true rfl) ⟨rfl, rfl, Nat.le_of_ble_eq_true rfl, Nat.le_of_ble_eq_true rfl⟩ ?_
    cases hf
    exact x_iret dX10_told_131 rfl rfl
  replace hf := f_el hs6 hf
  by_cases hs7 : p0 = (6)
  · replace hf := f_if hs7 hf
    refine x_tabIn (6) 132 dX10_told_1 hs7 (by decide) (by decide) rfl (by decide) ?_
    refine x_aload_n 0 dX10_told_132 rfl rfl ?_
    refine x_aload_n 0 dX10_told_133 rfl rfl ?_
    refine x_getR dX10_told_134 lx_0 fl_X10_22 rfl ?_
    refine x_getI (v := (I 3 16)) dX10_told_137 lx_3 fl_X10_224 rfl rfl ?_
    refine x_callVi [.int (I 3 16)] (c_X10_give (I := I) (L := L) (I 3 16)) dX10_told_140 lk_X10_199 lx_0 rfl cd_X10_give rfl rfl (Nat.le_of_ble_eq_true rfl) ⟨rfl, rfl, Nat.le_of_ble_eq_true rfl, Nat.le_of_ble_eq_true rfl⟩ ?_
    cases hf
    exact x_iret dX10_told_143 rfl rfl
  replace hf := f_el hs7 hf
  by_cases hs10 : p0 = (7)
  · replace hf := f_if hs10 hf
    refine x_tabIn (7) 144 dX10_told_1 hs10 (by decide) (by decide) rfl (by decide) ?_
    refine x_aload_n 0 dX10_told_144 rfl rfl ?_
    refine x_aload_n 0 dX10_told_145 rfl rfl ?_
    refine x_getR dX10_told_146 lx_0 fl_X10_22 rfl ?_
    obtain ⟨q8, hq9, hf⟩ := f_bd hf
    refine x_callVi [] (c_X0_allCrocuses (I := I) (L := L) zt_3 hq9) dX10_told_149 lk_X10_227 lx_3 rfl cd_X0_allCrocuses rfl rfl (Nat.le_of_ble_eq_true rfl) ⟨rfl, rfl, Nat.le_of_ble_eq_true rfl, Nat.le_of_ble_eq_true rfl⟩ ?_
    refine x_callVi [.int q8] (c_X10_give (I := I) (L := L) q8) dX10_told_152 lk_X10_199 lx_0 rfl cd_X10_give rfl rfl (Nat.le_of_ble_eq_true rfl) ⟨rfl, rfl, Nat.le_of_ble_eq_true rfl, Nat.le_of_ble_eq_true rfl⟩ ?_
    cases hf
    exact x_iret dX10_told_155 rfl rfl
  replace hf := f_el hs10 hf
  by_cases hs13 : p0 = (8)
  · replace hf := f_if hs13 hf
    refine x_tabIn (8) 156 dX10_told_1 hs13 (by decide) (by decide) rfl (by decide) ?_
    refine x_aload_n 0 dX10_told_156 rfl rfl ?_
    refine x_aload_n 0 dX10_told_157 rfl rfl ?_
    refine x_getR dX10_told_158 lx_0 fl_X10_22 rfl ?_
    obtain ⟨q11, hq12, hf⟩ := f_bd hf
    refine x_callVi [] (c_X0_allShams (I := I) (L := L) zt_3 hq12) dX10_told_161 lk_X10_231 lx_3 rfl cd_X0_allShams rfl rfl (Nat.le_of_ble_eq_true rfl) ⟨rfl, rfl, Nat.le_of_ble_eq_true rfl, Nat.le_of_ble_eq_true rfl⟩ ?_
    refine x_callVi [.int q11] (c_X10_give (I := I) (L := L) q11) dX10_told_164 lk_X10_199 lx_0 rfl cd_X10_give rfl rfl (Nat.le_of_ble_eq_true rfl) ⟨rfl, rfl, Nat.le_of_ble_eq_true rfl, Nat.le_of_ble_eq_true rfl⟩ ?_
    cases hf
    exact x_iret dX10_told_167 rfl rfl
  replace hf := f_el hs13 hf
  by_cases hs16 : p0 = (9)
  · replace hf := f_if hs16 hf
    refine x_tabIn (9) 168 dX10_told_1 hs16 (by decide) (by decide) rfl (by decide) ?_
    refine x_aload_n 0 dX10_told_168 rfl rfl ?_
    refine x_aload_n 0 dX10_told_169 rfl rfl ?_
    refine x_getR dX10_told_170 lx_0 fl_X10_22 rfl ?_
    obtain ⟨q14, hq15, hf⟩ := f_bd hf
    refine x_callVi [] (c_X0_allGold (I := I) (L := L) zt_3 hq15) dX10_told_173 lk_X10_234 lx_3 rfl cd_X0_allGold rfl rfl (Nat.le_of_ble_eq_true rfl) ⟨rfl, rfl, Nat.le_of_ble_eq_true rfl, Nat.le_of_ble_eq_true rfl⟩ ?_
    refine x_callVi [.int q14] (c_X10_give (I := I) (L := L) q14) dX10_told_176 lk_X10_199 lx_0 rfl cd_X10_give rfl rfl (Nat.le_of_ble_eq_true rfl) ⟨rfl, rfl, Nat.le_of_ble_eq_true rfl, Nat.le_of_ble_eq_true rfl⟩ ?_
    cases hf
    exact x_iret dX10_told_179 rfl rfl
  replace hf := f_el hs16 hf
  by_cases hs19 : p0 = (10)
  · replace hf := f_if hs19 hf
    refine x_tabIn (10) 180 dX10_told_1 hs19 (by decide) (by decide) rfl (by decide) ?_
    refine x_aload_n 0 dX10_told_180 rfl rfl ?_
    refine x_aload_n 0 dX10_told_181 rfl rfl ?_
    refine x_getR dX10_told_182 lx_0 fl_X10_22 rfl ?_
    obtain ⟨q17, hq18, hf⟩ := f_bd hf
    refine x_callVi [] (c_X0_countParts (I := I) (L := L) zt_3 hq18) dX10_told_185 lk_X10_237 lx_3 rfl cd_X0_countParts rfl rfl (Nat.le_of_ble_eq_true rfl) ⟨rfl, rfl, Nat.le_of_ble_eq_true rfl, Nat.le_of_ble_eq_true rfl⟩ ?_
    refine x_callVi [.int q17] (c_X10_give (I := I) (L := L) q17) dX10_told_188 lk_X10_199 lx_0 rfl cd_X10_give rfl rfl (Nat.le_of_ble_eq_true rfl) ⟨rfl, rfl, Nat.le_of_ble_eq_true rfl, Nat.le_of_ble_eq_true rfl⟩ ?_
    cases hf
    exact x_iret dX10_told_191 rfl rfl
  replace hf := f_el hs19 hf
  refine x_tabOut 192 dX10_told_1 (by have := lv_neT (a := 0) hs1 (by decide); have := lv_neT (a := 1) hs2 (by decide); have := lv_neT (a := 2) hs3 (by decide); have := lv_neT (a := 3) hs4 (by decide); have := lv_neT (a := 4) hs5 (by decide); have := lv_neT (a := 5) hs6 (by decide); have := lv_neT (a := 6) hs7 (by decide); have := lv_neT (a := 7) hs10 (by decide); have := lv_neT (a := 8) hs13 (by decide); have := lv_neT (a := 9) hs16 (by decide); have := lv_neT (a := 10) hs19 (by decide); omega) (by decide) ?_
  refine x_aload_n 0 dX10_told_192 rfl rfl ?_
  refine x_iconst (v := (1)) dX10_told_193 (by decide) ?_
  refine x_callVi [.int (1 : Int32)] (c_X10_refuse (I := I) (L := L) (1 : Int32)) dX10_told_194 lk_X10_151 lx_0 rfl cd_X10_refuse rfl rfl (Nat.le_of_ble_eq_true rfl) ⟨rfl, rfl, Nat.le_of_ble_eq_true rfl, Nat.le_of_ble_eq_true rfl⟩ ?_
  cases hf
  exact x_iret dX10_told_197 rfl rfl
set_option maxRecDepth 100000 in
set_option maxHeartbeats 4000000 in
theorem c_X10_bed {I : z_I} {L : z_L} {p0 : Int32} {p1 : Int32}  {r : Int32 × z_I} (hf : f_X10_bed I p0 p1 = some r) : z_C layX yX10_bed cX10_bed 3 (some .int) ({ frames := 1, cells := 0, slots := 0, locals := 21 } : Room) [.ref 0, .int p0, .int p1] I L (some (.int r.1), r.2, L) := by
  refine z_C.of (by decide) (Nat.le_of_ble_eq_true rfl) ?_
  show z_X layX RX10 cX10_bed 3 (some .int) ({ frames := 1, cells := 0, slots := 0, locals := 21 } : Room) 0 [(0, .ref 0), (1, .int p0), (2, .int p1)] [] I L (some (.int r.1), r.2, L)
  unfold f_X10_bed at hf
  refine x_aload_n 0 dX10_bed_0 rfl rfl ?_
  refine x_getR dX10_bed_1 lx_0 fl_X10_22 rfl ?_
  refine x_iload_n 1 dX10_bed_4 rfl rfl ?_
  refine x_callVi [.int p0] (c_X0_hasBed (I := I) (L := L) 3 p0 zt_3) dX10_bed_5 lk_X10_240 lx_3 rfl cd_X0_hasBed rfl rfl (Nat.le_of_ble_eq_true rfl) ⟨rfl, rfl, Nat.le_of_ble_eq_true rfl, Nat.le_of_ble_eq_true rfl⟩ ?_
  refine x_if_neB 17 dX10_bed_8 (by decide) (fun hB => ?_) (fun hB => ?_)
  · replace hf := f_if hB hf
    refine x_iload_n 2 dX10_bed_17 rfl rfl ?_
    by_cases hs2 : p1 = (0)
    · replace hf := f_if hs2 hf
      refine x_look 44 dX10_bed_18 (by decide) (by rw [hs2]; try rfl) (by decide) ?_
      refine x_aload_n 0 dX10_bed_44 rfl rfl ?_
      refine x_aload_n 0 dX10_bed_45 rfl rfl ?_
      refine x_getR dX10_bed_46 lx_0 fl_X10_22 rfl ?_
      refine x_getR dX10_bed_49 lx_3 fl_X10_243 rfl ?_
      refine x_iload_n 1 dX10_bed_52 rfl rfl ?_
      obtain ⟨h1, hf⟩ := f_gd hf
      refine x_iald (j := (p0).toNatClampNeg) (v := (I 4 (p0).toNatClampNeg)) dX10_bed_53 lx_4 h1 rfl rfl ?_
      refine x_callVi [.int (I 4 (p0).toNatClampNeg)] (c_X10_give (I := I) (L := L) (I 4 (p0).toNatClampNeg)) dX10_bed_54 lk_X10_199 lx_0 rfl cd_X10_give rfl rfl (Nat.le_of_ble_eq_true rfl) ⟨rfl, rfl, Nat.le_of_ble_eq_true rfl, Nat.le_of_ble_eq_true rfl⟩ ?_
      cases hf
      exact x_iret dX10_bed_57 rfl rfl
    replace hf := f_el hs2 hf
    by_cases hs4 : p1 = (1)
    · replace hf := f_if hs4 hf
      refine x_look 58 dX10_bed_18 (by decide) (by rw [hs4]; try rfl) (by decide) ?_
      refine x_aload_n 0 dX10_bed_58 rfl rfl ?_
      refine x_aload_n 0 dX10_bed_59 rfl rfl ?_
      refine x_getR dX10_bed_60 lx_0 fl_X10_22 rfl ?_
      refine x_getR dX10_bed_63 lx_3 fl_X10_247 rfl ?_
      refine x_iload_n 1 dX10_bed_66 rfl rfl ?_
      obtain ⟨h3, hf⟩ := f_gd hf
      refine x_iald (j := (p0).toNatClampNeg) (v := (I 5 (p0).toNatClampNeg)) dX10_bed_67 lx_5 h3 rfl rfl ?_
      refine x_callVi [.int (I 5 (p0).toNatClampNeg)] (c_X10_give (I := I) (L := L) (I 5 (p0).toNatClampNeg)) dX10_bed_68 lk_X10_199 lx_0 rfl cd_X10_give rfl rfl (Nat.le_of_ble_eq_true rfl) ⟨rfl, rfl, Nat.le_of_ble_eq_true rfl, Nat.le_of_ble_eq_true rfl⟩ ?_
      cases hf
      exact x_iret dX10_bed_71 rfl rfl
    replace hf := f_el hs4 hf
    refine x_look (off := 54) 72 dX10_bed_18 (by decide) (Eq.trans (lv_osw (a := 0) hs2 (by decide)) (Eq.trans (lv_osw (a := 1) hs4 (by decide)) rfl)) (by decide) ?_
    refine x_aload_n 0 dX10_bed_72 rfl rfl ?_
    refine x_iconst (v := (1)) dX10_bed_73 (by decide) ?_
    refine x_callVi [.int (1 : Int32)] (c_X10_refuse (I := I) (L := L) (1 : Int32)) dX10_bed_74 lk_X10_151 lx_0 rfl cd_X10_refuse rfl rfl (Nat.le_of_ble_eq_true rfl) ⟨rfl, rfl, Nat.le_of_ble_eq_true rfl, Nat.le_of_ble_eq_true rfl⟩ ?_
    cases hf
    exact x_iret dX10_bed_77 rfl rfl
  · replace hf := f_el hB hf
    refine x_aload_n 0 dX10_bed_11 rfl rfl ?_
    refine x_iconst (v := (1)) dX10_bed_12 (by decide) ?_
    refine x_callVi [.int (1 : Int32)] (c_X10_refuse (I := I) (L := L) (1 : Int32)) dX10_bed_13 lk_X10_151 lx_0 rfl cd_X10_refuse rfl rfl (Nat.le_of_ble_eq_true rfl) ⟨rfl, rfl, Nat.le_of_ble_eq_true rfl, Nat.le_of_ble_eq_true rfl⟩ ?_
    cases hf
    exact x_iret dX10_bed_16 rfl rfl
set_option maxRecDepth 100000 in
set_option maxHeartbeats 4000000 in
theorem c_X10_weight {I : z_I} {L : z_L} {p0 : Int32}  {r : Int32 × z_I} (hf : f_X10_weight I p0 = some r) : z_C layX yX10_weight cX10_weight 2 (some .int) ({ frames := 1, cells := 0, slots := 0, locals := 21 } : Room) [.ref 0, .int p0] I L (some (.int r.1), r.2, L) := by
  refine z_C.of (by decide) (Nat.le_of_ble_eq_true rfl) ?_
  show z_X layX RX10 cX10_weight 2 (some .int) ({ frames := 1, cells := 0, slots := 0, locals := 21 } : Room) 0 [(0, .ref 0), (1, .int p0)] [] I L (some (.int r.1), r.2, L)
  unfold f_X10_weight at hf
  refine x_aload_n 0 dX10_weight_0 rfl rfl ?_
  refine x_getR dX10_weight_1 lx_0 fl_X10_22 rfl ?_
  refine x_iload_n 1 dX10_weight_4 rfl rfl ?_
  refine x_callVi [.int p0] (c_X0_hasCase (I := I) (L := L) 3 p0 zt_3) dX10_weight_5 lk_X10_250 lx_3 rfl cd_X0_hasCase rfl rfl (Nat.le_of_ble_eq_true rfl) ⟨rfl, rfl, Nat.le_of_ble_eq_true rfl, Nat.le_of_ble_eq_true rfl⟩ ?_
  refine x_if_eqB 27 dX10_weight_8 (by decide) (fun hB => ?_) (fun hB => ?_)
  · replace hf := f_el hB hf
    refine x_aload_n 0 dX10_weight_27 rfl rfl ?_
    refine x_iconst (v := (1)) dX10_weight_28 (by decide) ?_
    refine x_callVi [.int (1 : Int32)] (c_X10_refuse (I := I) (L := L) (1 : Int32)) dX10_weight_29 lk_X10_151 lx_0 rfl cd_X10_refuse rfl rfl (Nat.le_of_ble_eq_true rfl) ⟨rfl, rfl, Nat.le_of_ble_eq_true rfl, Nat.le_of_ble_eq_true rfl⟩ ?_
    cases hf
    exact x_iret dX10_weight_32 rfl rfl
  · replace hf := f_if hB hf
    refine x_aload_n 0 dX10_weight_11 rfl rfl ?_
    refine x_aload_n 0 dX10_weight_12 rfl rfl ?_
    refine x_getR dX10_weight_13 lx_0 fl_X10_22 rfl ?_
    refine x_getR dX10_weight_16 lx_3 fl_X10_253 rfl ?_
    refine x_iload_n 1 dX10_weight_19 rfl rfl ?_
    obtain ⟨h1, hf⟩ := f_gd hf
    refine x_iald (j := (p0).toNatClampNeg) (v := (I 6 (p0).toNatClampNeg)) dX10_weight_20 lx_6 h1 rfl rfl ?_
    refine x_callVi [.int (I 6 (p0).toNatClampNeg)] (c_X10_give (I := I) (L := L) (I 6 (p0).toNatClampNeg)) dX10_weight_21 lk_X10_199 lx_0 rfl cd_X10_give rfl rfl (Nat.le_of_ble_eq_true rfl) ⟨rfl, rfl, Nat.le_of_ble_eq_true rfl, Nat.le_of_ble_eq_true rfl⟩ ?_
    refine x_goto 32 dX10_weight_24 (by decide) ?_
    cases hf
    exact x_iret dX10_weight_32 rfl rfl
set_option maxRecDepth 100000 in
set_option maxHeartbeats 4000000 in
theorem c_X10_claim {I : z_I} {L : z_L} {p0 : Int32} {p1 : Int32}  {r : Int32 × z_I} (hf : f_X10_claim I p0 p1 = some r) : z_C layX yX10_claim cX10_claim 3 (some .int) ({ frames := 2, cells := 0, slots := 0, locals := 55 } : Room) [.ref 0, .int p0, .int p1] I L (some (.int r.1), r.2, L) := by
  refine z_C.of (by decide) (Nat.le_of_ble_eq_true rfl) ?_
  show z_X layX RX10 cX10_claim 3 (some .int) ({ frames := 2, cells := 0, slots := 0, locals := 55 } : Room) 0 [(0, .ref 0), (1, .int p0), (2, .int p1)] [] I L (some (.int r.1), r.2, L)
  unfold f_X10_claim at hf
  refine x_aload_n 0 dX10_claim_0 rfl rfl ?_
  refine x_getR dX10_claim_1 lx_0 fl_X10_22 rfl ?_
  refine x_iload_n 1 dX10_claim_4 rfl rfl ?_
  refine x_callVi [.int p0] (c_X0_hasClaim (I := I) (L := L) 3 p0 zt_3) dX10_claim_5 lk_X10_256 lx_3 rfl cd_X0_hasClaim rfl rfl (Nat.le_of_ble_eq_true rfl) ⟨rfl, rfl, Nat.le_of_ble_eq_true rfl, Nat.le_of_ble_eq_true rfl⟩ ?_
  refine x_if_neB 17 dX10_claim_8 (by decide) (fun hB => ?_) (fun hB => ?_)
  · replace hf := f_if hB hf
    refine x_iload_n 2 dX10_claim_17 rfl rfl ?_
    by_cases hs2 : p1 = (0)
    · replace hf := f_if hs2 hf
      refine x_tabIn (0) 48 dX10_claim_18 hs2 (by decide) (by decide) rfl (by decide) ?_
      refine x_aload_n 0 dX10_claim_48 rfl rfl ?_
      refine x_aload_n 0 dX10_claim_49 rfl rfl ?_
      refine x_getR dX10_claim_50 lx_0 fl_X10_22 rfl ?_
      refine x_getR dX10_claim_53 lx_3 fl_X10_259 rfl ?_
      refine x_iload_n 1 dX10_claim_56 rfl rfl ?_
      obtain ⟨h1, hf⟩ := f_gd hf
      refine x_iald (j := (p0).toNatClampNeg) (v := (I 7 (p0).toNatClampNeg)) dX10_claim_57 lx_7 h1 rfl rfl ?_
      refine x_callVi [.int (I 7 (p0).toNatClampNeg)] (c_X10_give (I := I) (L := L) (I 7 (p0).toNatClampNeg)) dX10_claim_58 lk_X10_199 lx_0 rfl cd_X10_give rfl rfl (Nat.le_of_ble_eq_true rfl) ⟨rfl, rfl, Nat.le_of_ble_eq_true rfl, Nat.le_of_ble_eq_true rfl⟩ ?_
      cases hf
      exact x_iret dX10_claim_61 rfl rfl
    replace hf := f_el hs2 hf
    by_cases hs4 : p1 = (1)
    · replace hf := f_if hs4 hf
      refine x_tabIn (1) 62 dX10_claim_18 hs4 (by decide) (by decide) rfl (by decide) ?_
      refine x_aload_n 0 dX10_claim_62 rfl rfl ?_
      refine x_aload_n 0 dX10_claim_63 rfl rfl ?_
      refine x_getR dX10_claim_64 lx_0 fl_X10_22 rfl ?_
      refine x_getR dX10_claim_67 lx_3 fl_X10_262 rfl ?_
      refine x_iload_n 1 dX10_claim_70 rfl rfl ?_
      obtain ⟨h3, hf⟩ := f_gd hf
      refine x_iald (j := (p0).toNatClampNeg) (v := (I 8 (p0).toNatClampNeg)) dX10_claim_71 lx_8 h3 rfl rfl ?_
      refine x_callVi [.int (I 8 (p0).toNatClampNeg)] (c_X10_give (I := I) (L := L) (I 8 (p0).toNatClampNeg)) dX10_claim_72 lk_X10_199 lx_0 rfl cd_X10_give rfl rfl (Nat.le_of_ble_eq_true rfl) ⟨rfl, rfl, Nat.le_of_ble_eq_true rfl, Nat.le_of_ble_eq_true rfl⟩ ?_
      cases hf
      exact x_iret dX10_claim_75 rfl rfl
    replace hf := f_el hs4 hf
    by_cases hs6 : p1 = (2)
    · replace hf := f_if hs6 hf
      refine x_tabIn (2) 76 dX10_claim_18 hs6 (by decide) (by decide) rfl (by decide) ?_
      refine x_aload_n 0 dX10_claim_76 rfl rfl ?_
      refine x_aload_n 0 dX10_claim_77 rfl rfl ?_
      refine x_getR dX10_claim_78 lx_0 fl_X10_22 rfl ?_
      refine x_getR dX10_claim_81 lx_3 fl_X10_265 rfl ?_
      refine x_iload_n 1 dX10_claim_84 rfl rfl ?_
      obtain ⟨h5, hf⟩ := f_gd hf
      refine x_iald (j := (p0).toNatClampNeg) (v := (I 9 (p0).toNatClampNeg)) dX10_claim_85 lx_9 h5 rfl rfl ?_
      refine x_callVi [.int (I 9 (p0).toNatClampNeg)] (c_X10_give (I := I) (L := L) (I 9 (p0).toNatClampNeg)) dX10_claim_86 lk_X10_199 lx_0 rfl cd_X10_give rfl rfl (Nat.le_of_ble_eq_true rfl) ⟨rfl, rfl, Nat.le_of_ble_eq_true rfl, Nat.le_of_ble_eq_true rfl⟩ ?_
      cases hf
      exact x_iret dX10_claim_89 rfl rfl
    replace hf := f_el hs6 hf
    by_cases hs9 : p1 = (3)
    · replace hf := f_if hs9 hf
      refine x_tabIn (3) 90 dX10_claim_18 hs9 (by decide) (by decide) rfl (by decide) ?_
      refine x_aload_n 0 dX10_claim_90 rfl rfl ?_
      refine x_aload_n 0 dX10_claim_91 rfl rfl ?_
      refine x_getR dX10_claim_92 lx_0 fl_X10_22 rfl ?_
      refine x_aload_n 0 dX10_claim_95 rfl rfl ?_
      refine x_getR dX10_claim_96 lx_0 fl_X10_22 rfl ?_
      refine x_getI (v := (I 3 16)) dX10_claim_99 lx_3 fl_X10_224 rfl rfl ?_
      refine x_iload_n 1 dX10_claim_102 rfl rfl ?_
      obtain ⟨q7, hq8, hf⟩ := f_bd hf
      refine x_callVi [.int (I 3 16), .int p0] (c_X0_yieldUnder (I := I) (L := L) zt_3 hq8) dX10_claim_103 lk_X10_268 lx_3 rfl cd_X0_yieldUnder rfl rfl (Nat.le_of_ble_eq_true rfl) ⟨rfl, rfl, Nat.le_of_ble_eq_true rfl, Nat.le_of_ble_eq_true rfl⟩ ?_
      refine x_callVi [.int q7] (c_X10_give (I := I) (L := L) q7) dX10_claim_106 lk_X10_199 lx_0 rfl cd_X10_give rfl rfl (Nat.le_of_ble_eq_true rfl) ⟨rfl, rfl, Nat.le_of_ble_eq_true rfl, Nat.le_of_ble_eq_true rfl⟩ ?_
      cases hf
      exact x_iret dX10_claim_109 rfl rfl
    replace hf := f_el hs9 hf
    refine x_tabOut 110 dX10_claim_18 (by have := lv_neT (a := 0) hs2 (by decide); have := lv_neT (a := 1) hs4 (by decide); have := lv_neT (a := 2) hs6 (by decide); have := lv_neT (a := 3) hs9 (by decide); omega) (by decide) ?_
    refine x_aload_n 0 dX10_claim_110 rfl rfl ?_
    refine x_iconst (v := (1)) dX10_claim_111 (by decide) ?_
    refine x_callVi [.int (1 : Int32)] (c_X10_refuse (I := I) (L := L) (1 : Int32)) dX10_claim_112 lk_X10_151 lx_0 rfl cd_X10_refuse rfl rfl (Nat.le_of_ble_eq_true rfl) ⟨rfl, rfl, Nat.le_of_ble_eq_true rfl, Nat.le_of_ble_eq_true rfl⟩ ?_
    cases hf
    exact x_iret dX10_claim_115 rfl rfl
  · replace hf := f_el hB hf
    refine x_aload_n 0 dX10_claim_11 rfl rfl ?_
    refine x_iconst (v := (1)) dX10_claim_12 (by decide) ?_
    refine x_callVi [.int (1 : Int32)] (c_X10_refuse (I := I) (L := L) (1 : Int32)) dX10_claim_13 lk_X10_151 lx_0 rfl cd_X10_refuse rfl rfl (Nat.le_of_ble_eq_true rfl) ⟨rfl, rfl, Nat.le_of_ble_eq_true rfl, Nat.le_of_ble_eq_true rfl⟩ ?_
    cases hf
    exact x_iret dX10_claim_16 rfl rfl
set_option maxRecDepth 100000 in
set_option maxHeartbeats 4000000 in
theorem c_X10_scholar {I : z_I} {L : z_L} {p0 : Int32} {p1 : Int32}  {r : Int32 × z_I} (hf : f_X10_scholar I p0 p1 = some r) : z_C layX yX10_scholar cX10_scholar 3 (some .int) ({ frames := 1, cells := 0, slots := 0, locals := 21 } : Room) [.ref 0, .int p0, .int p1] I L (some (.int r.1), r.2, L) := by
  refine z_C.of (by decide) (Nat.le_of_ble_eq_true rfl) ?_
  show z_X layX RX10 cX10_scholar 3 (some .int) ({ frames := 1, cells := 0, slots := 0, locals := 21 } : Room) 0 [(0, .ref 0), (1, .int p0), (2, .int p1)] [] I L (some (.int r.1), r.2, L)
  unfold f_X10_scholar at hf
  refine x_aload_n 0 dX10_scholar_0 rfl rfl ?_
  refine x_getR dX10_scholar_1 lx_0 fl_X10_22 rfl ?_
  refine x_iload_n 1 dX10_scholar_4 rfl rfl ?_
  refine x_callVi [.int p0] (c_X0_hasScholar (I := I) (L := L) 3 p0 zt_3) dX10_scholar_5 lk_X10_271 lx_3 rfl cd_X0_hasScholar rfl rfl (Nat.le_of_ble_eq_true rfl) ⟨rfl, rfl, Nat.le_of_ble_eq_true rfl, Nat.le_of_ble_eq_true rfl⟩ ?_
  refine x_if_neB 17 dX10_scholar_8 (by decide) (fun hB => ?_) (fun hB => ?_)
  · replace hf := f_if hB hf
    refine x_iload_n 2 dX10_scholar_17 rfl rfl ?_
    by_cases hs2 : p1 = (0)
    · replace hf := f_if hs2 hf
      refine x_look 44 dX10_scholar_18 (by decide) (by rw [hs2]; try rfl) (by decide) ?_
      refine x_aload_n 0 dX10_scholar_44 rfl rfl ?_
      refine x_aload_n 0 dX10_scholar_45 rfl rfl ?_
      refine x_getR dX10_scholar_46 lx_0 fl_X10_22 rfl ?_
      refine x_getR dX10_scholar_49 lx_3 fl_X10_274 rfl ?_
      refine x_iload_n 1 dX10_scholar_52 rfl rfl ?_
      obtain ⟨h1, hf⟩ := f_gd hf
      refine x_iald (j := (p0).toNatClampNeg) (v := (I 11 (p0).toNatClampNeg)) dX10_scholar_53 lx_11 h1 rfl rfl ?_
      refine x_callVi [.int (I 11 (p0).toNatClampNeg)] (c_X10_give (I := I) (L := L) (I 11 (p0).toNatClampNeg)) dX10_scholar_54 lk_X10_199 lx_0 rfl cd_X10_give rfl rfl (Nat.le_of_ble_eq_true rfl) ⟨rfl, rfl, Nat.le_of_ble_eq_true rfl, Nat.le_of_ble_eq_true rfl⟩ ?_
      cases hf
      exact x_iret dX10_scholar_57 rfl rfl
    replace hf := f_el hs2 hf
    by_cases hs4 : p1 = (1)
    · replace hf := f_if hs4 hf
      refine x_look 58 dX10_scholar_18 (by decide) (by rw [hs4]; try rfl) (by decide) ?_
      refine x_aload_n 0 dX10_scholar_58 rfl rfl ?_
      refine x_aload_n 0 dX10_scholar_59 rfl rfl ?_
      refine x_getR dX10_scholar_60 lx_0 fl_X10_22 rfl ?_
      refine x_getR dX10_scholar_63 lx_3 fl_X10_277 rfl ?_
      refine x_iload_n 1 dX10_scholar_66 rfl rfl ?_
      obtain ⟨h3, hf⟩ := f_gd hf
      refine x_iald (j := (p0).toNatClampNeg) (v := (I 12 (p0).toNatClampNeg)) dX10_scholar_67 lx_12 h3 rfl rfl ?_
      refine x_callVi [.int (I 12 (p0).toNatClampNeg)] (c_X10_give (I := I) (L := L) (I 12 (p0).toNatClampNeg)) dX10_scholar_68 lk_X10_199 lx_0 rfl cd_X10_give rfl rfl (Nat.le_of_ble_eq_true rfl) ⟨rfl, rfl, Nat.le_of_ble_eq_true rfl, Nat.le_of_ble_eq_true rfl⟩ ?_
      cases hf
      exact x_iret dX10_scholar_71 rfl rfl
    replace hf := f_el hs4 hf
    refine x_look (off := 54) 72 dX10_scholar_18 (by decide) (Eq.trans (lv_osw (a := 0) hs2 (by decide)) (Eq.trans (lv_osw (a := 1) hs4 (by decide)) rfl)) (by decide) ?_
    refine x_aload_n 0 dX10_scholar_72 rfl rfl ?_
    refine x_iconst (v := (1)) dX10_scholar_73 (by decide) ?_
    refine x_callVi [.int (1 : Int32)] (c_X10_refuse (I := I) (L := L) (1 : Int32)) dX10_scholar_74 lk_X10_151 lx_0 rfl cd_X10_refuse rfl rfl (Nat.le_of_ble_eq_true rfl) ⟨rfl, rfl, Nat.le_of_ble_eq_true rfl, Nat.le_of_ble_eq_true rfl⟩ ?_
    cases hf
    exact x_iret dX10_scholar_77 rfl rfl
  · replace hf := f_el hB hf
    refine x_aload_n 0 dX10_scholar_11 rfl rfl ?_
    refine x_iconst (v := (1)) dX10_scholar_12 (by decide) ?_
    refine x_callVi [.int (1 : Int32)] (c_X10_refuse (I := I) (L := L) (1 : Int32)) dX10_scholar_13 lk_X10_151 lx_0 rfl cd_X10_refuse rfl rfl (Nat.le_of_ble_eq_true rfl) ⟨rfl, rfl, Nat.le_of_ble_eq_true rfl, Nat.le_of_ble_eq_true rfl⟩ ?_
    cases hf
    exact x_iret dX10_scholar_16 rfl rfl
set_option maxRecDepth 100000 in
set_option maxHeartbeats 4000000 in
theorem c_X10_make {I : z_I} {L : z_L} {p0 : Int32}  {r : Int32 × z_I} (hf : f_X10_make I p0 = some r) : z_C layX yX10_make cX10_make 2 (some .int) ({ frames := 3, cells := 0, slots := 0, locals := 78 } : Room) [.ref 0, .int p0] I L (some (.int r.1), r.2, L) := by
  refine z_C.of (by decide) (Nat.le_of_ble_eq_true rfl) ?_
  show z_X layX RX10 cX10_make 2 (some .int) ({ frames := 3, cells := 0, slots := 0, locals := 78 } : Room) 0 [(0, .ref 0), (1, .int p0)] [] I L (some (.int r.1), r.2, L)
  unfold f_X10_make at hf
  refine x_aload_n 0 dX10_make_0 rfl rfl ?_
  refine x_getR dX10_make_1 lx_0 fl_X10_22 rfl ?_
  refine x_iload_n 1 dX10_make_4 rfl rfl ?_
  refine x_callVi [.int p0] (c_X0_hasClaim (I := I) (L := L) 3 p0 zt_3) dX10_make_5 lk_X10_256 lx_3 rfl cd_X0_hasClaim rfl rfl (Nat.le_of_ble_eq_true rfl) ⟨rfl, rfl, Nat.le_of_ble_eq_true rfl, Nat.le_of_ble_eq_true rfl⟩ ?_
  refine x_if_neB 17 dX10_make_8 (by decide) (fun hB => ?_) (fun hB => ?_)
  · replace hf := f_if hB hf
    refine x_aload_n 0 dX10_make_17 rfl rfl ?_
    refine x_getR dX10_make_18 lx_0 fl_X10_22 rfl ?_
    refine x_iload_n 1 dX10_make_21 rfl rfl ?_
    refine x_callVi [.int p0] (c_X0_isMade (I := I) (L := L) 3 p0 zt_3) dX10_make_22 lk_X10_280 lx_3 rfl cd_X0_isMade rfl rfl (Nat.le_of_ble_eq_true rfl) ⟨rfl, rfl, Nat.le_of_ble_eq_true rfl, Nat.le_of_ble_eq_true rfl⟩ ?_
    refine x_if_eqB 37 dX10_make_25 (by decide) (fun hB => ?_) (fun hB => ?_)
    · replace hf := f_el hB hf
      refine x_aload_n 0 dX10_make_37 rfl rfl ?_
      refine x_aload_n 0 dX10_make_38 rfl rfl ?_
      refine x_getR dX10_make_39 lx_0 fl_X10_22 rfl ?_
      refine x_iload_n 1 dX10_make_42 rfl rfl ?_
      obtain ⟨q1, hq2, hf⟩ := f_bd hf
      refine x_callVi [.int p0] (c_X0_putForward (I := I) (L := L) zt_3 hq2) dX10_make_43 lk_X10_283 lx_3 rfl cd_X0_putForward rfl rfl (Nat.le_of_ble_eq_true rfl) ⟨rfl, rfl, Nat.le_of_ble_eq_true rfl, Nat.le_of_ble_eq_true rfl⟩ ?_
      refine x_callVi [.int q1.1] (c_X10_give (I := q1.2) (L := L) q1.1) dX10_make_46 lk_X10_199 lx_0 rfl cd_X10_give rfl rfl (Nat.le_of_ble_eq_true rfl) ⟨rfl, rfl, Nat.le_of_ble_eq_true rfl, Nat.le_of_ble_eq_true rfl⟩ ?_
      cases hf
      exact x_iret dX10_make_49 rfl rfl
    · replace hf := f_if hB hf
      refine x_aload_n 0 dX10_make_28 rfl rfl ?_
      refine x_bipush (v := (7)) dX10_make_29 (by decide) ?_
      refine x_callVi [.int (7 : Int32)] (c_X10_refuse (I := I) (L := L) (7 : Int32)) dX10_make_31 lk_X10_151 lx_0 rfl cd_X10_refuse rfl rfl (Nat.le_of_ble_eq_true rfl) ⟨rfl, rfl, Nat.le_of_ble_eq_true rfl, Nat.le_of_ble_eq_true rfl⟩ ?_
      refine x_goto 49 dX10_make_34 (by decide) ?_
      cases hf
      exact x_iret dX10_make_49 rfl rfl
  · replace hf := f_el hB hf
    refine x_aload_n 0 dX10_make_11 rfl rfl ?_
    refine x_iconst (v := (1)) dX10_make_12 (by decide) ?_
    refine x_callVi [.int (1 : Int32)] (c_X10_refuse (I := I) (L := L) (1 : Int32)) dX10_make_13 lk_X10_151 lx_0 rfl cd_X10_refuse rfl rfl (Nat.le_of_ble_eq_true rfl) ⟨rfl, rfl, Nat.le_of_ble_eq_true rfl, Nat.le_of_ble_eq_true rfl⟩ ?_
    cases hf
    exact x_iret dX10_make_16 rfl rfl
set_option maxRecDepth 100000 in
set_option maxHeartbeats 4000000 in
theorem c_X10_recant {I : z_I} {L : z_L} (p0 : Int32)  : z_C layX yX10_recant cX10_recant 2 (some .int) ({ frames := 1, cells := 0, slots := 0, locals := 21 } : Room) [.ref 0, .int p0] I L (some (.int (f_X10_recant I p0).1), (f_X10_recant I p0).2, L) := by
  obtain ⟨r, hf⟩ : ∃ r, f_X10_recant I p0 = r := ⟨_, rfl⟩
  rw [hf]
  refine z_C.of (by decide) (Nat.le_of_ble_eq_true rfl) ?_
  show z_X layX RX10 cX10_recant 2 (some .int) ({ frames := 1, cells := 0, slots := 0, locals := 21 } : Room) 0 [(0, .ref 0), (1, .int p0)] [] I L (some (.int r.1), r.2, L)
  unfold f_X10_recant at hf
  refine x_aload_n 0 dX10_recant_0 rfl rfl ?_
  refine x_getR dX10_recant_1 lx_0 fl_X10_22 rfl ?_
  refine x_iload_n 1 dX10_recant_4 rfl rfl ?_
  refine x_callVi [.int p0] (c_X0_hasClaim (I := I) (L := L) 3 p0 zt_3) dX10_recant_5 lk_X10_256 lx_3 rfl cd_X0_hasClaim rfl rfl (Nat.le_of_ble_eq_true rfl) ⟨rfl, rfl, Nat.le_of_ble_eq_true rfl, Nat.le_of_ble_eq_true rfl⟩ ?_
  refine x_if_neB 17 dX10_recant_8 (by decide) (fun hB => ?_) (fun hB => ?_)
  · replace hf := t_if hB hf
    refine x_aload_n 0 dX10_recant_17 rfl rfl ?_
    refine x_getR dX10_recant_18 lx_0 fl_X10_22 rfl ?_
    refine x_iload_n 1 dX10_recant_21 rfl rfl ?_
    refine x_callVi [.int p0] (c_X0_isMade (I := I) (L := L) 3 p0 zt_3) dX10_recant_22 lk_X10_280 lx_3 rfl cd_X0_isMade rfl rfl (Nat.le_of_ble_eq_true rfl) ⟨rfl, rfl, Nat.le_of_ble_eq_true rfl, Nat.le_of_ble_eq_true rfl⟩ ?_
    refine x_if_neB 35 dX10_recant_25 (by decide) (fun hB => ?_) (fun hB => ?_)
    · replace hf := t_if hB hf
      refine x_aload_n 0 dX10_recant_35 rfl rfl ?_
      refine x_getR dX10_recant_36 lx_0 fl_X10_22 rfl ?_
      refine x_dup dX10_recant_39 rfl ?_
      refine x_getI (v := (I 3 16)) dX10_recant_40 lx_3 fl_X10_224 rfl rfl ?_
      refine x_iconst (v := (1)) dX10_recant_43 (by decide) ?_
      refine x_iload_n 1 dX10_recant_44 rfl rfl ?_
      refine x_ishl dX10_recant_45 ?_
      refine x_iconst (v := (-1)) dX10_recant_46 (by decide) ?_
      refine x_ixor dX10_recant_47 ?_
      refine x_iand dX10_recant_48 ?_
      obtain ⟨I1, hI1, hf⟩ := f_lt hf
      refine x_putI dX10_recant_49 lx_3 fl_X10_224 rfl rfl rfl hI1 ?_
      refine x_aload_n 0 dX10_recant_52 rfl rfl ?_
      refine x_aload_n 0 dX10_recant_53 rfl rfl ?_
      refine x_getR dX10_recant_54 lx_0 fl_X10_22 rfl ?_
      refine x_getI (v := ((I 3 16) &&& (((1 : Int32) <<< (p0 &&& 31)) ^^^ (-1 : Int32)))) dX10_recant_57 lx_3 fl_X10_224 rfl (by rw [hI1, z2_s, z1_s]) ?_
      refine x_callSi [.int ((I 3 16) &&& (((1 : Int32) <<< (p0 &&& 31)) ^^^ (-1 : Int32)))] (c_J6_bitCount_0f7a4 (lay := layX) (I := I1) (L := L) ((I 3 16) &&& (((1 : Int32) <<< (p0 &&& 31)) ^^^ (-1 : Int32)))) dX10_recant_60 lk_X10_286 cd_J6_bitCount_0f7a4 rfl rfl (Nat.le_of_ble_eq_true rfl) ⟨rfl, rfl, Nat.le_of_ble_eq_true rfl, Nat.le_of_ble_eq_true rfl⟩ ?_
      refine x_callVi [.int (f_J6_bitCount_0f7a4 ((I 3 16) &&& (((1 : Int32) <<< (p0 &&& 31)) ^^^ (-1 : Int32))))] (c_X10_give (I := I1) (L := L) (f_J6_bitCount_0f7a4 ((I 3 16) &&& (((1 : Int32) <<< (p0 &&& 31)) ^^^ (-1 : Int32))))) dX10_recant_63 lk_X10_199 lx_0 rfl cd_X10_give rfl rfl (Nat.le_of_ble_eq_true rfl) ⟨rfl, rfl, Nat.le_of_ble_eq_true rfl, Nat.le_of_ble_eq_true rfl⟩ ?_
      subst hf
      exact x_iret dX10_recant_66 rfl rfl
    · replace hf := t_el hB hf
      refine x_aload_n 0 dX10_recant_28 rfl rfl ?_
      refine x_bipush (v := (7)) dX10_recant_29 (by decide) ?_
      refine x_callVi [.int (7 : Int32)] (c_X10_refuse (I := I) (L := L) (7 : Int32)) dX10_recant_31 lk_X10_151 lx_0 rfl cd_X10_refuse rfl rfl (Nat.le_of_ble_eq_true rfl) ⟨rfl, rfl, Nat.le_of_ble_eq_true rfl, Nat.le_of_ble_eq_true rfl⟩ ?_
      subst hf
      exact x_iret dX10_recant_34 rfl rfl
  · replace hf := t_el hB hf
    refine x_aload_n 0 dX10_recant_11 rfl rfl ?_
    refine x_iconst (v := (1)) dX10_recant_12 (by decide) ?_
    refine x_callVi [.int (1 : Int32)] (c_X10_refuse (I := I) (L := L) (1 : Int32)) dX10_recant_13 lk_X10_151 lx_0 rfl cd_X10_refuse rfl rfl (Nat.le_of_ble_eq_true rfl) ⟨rfl, rfl, Nat.le_of_ble_eq_true rfl, Nat.le_of_ble_eq_true rfl⟩ ?_
    subst hf
    exact x_iret dX10_recant_16 rfl rfl
set_option maxRecDepth 100000 in
set_option maxHeartbeats 4000000 in
theorem c_X10_forget {I : z_I} {L : z_L}   : z_C layX yX10_forget cX10_forget 2 (some .int) ({ frames := 1, cells := 0, slots := 0, locals := 21 } : Room) [.ref 0] I L (some (.int (f_X10_forget I).1), (f_X10_forget I).2, L) := by
  obtain ⟨r, hf⟩ : ∃ r, f_X10_forget I = r := ⟨_, rfl⟩
  rw [hf]
  refine z_C.of (by decide) (Nat.le_of_ble_eq_true rfl) ?_
  show z_X layX RX10 cX10_forget 2 (some .int) ({ frames := 1, cells := 0, slots := 0, locals := 21 } : Room) 0 [(0, .ref 0)] [] I L (some (.int r.1), r.2, L)
  unfold f_X10_forget at hf
  refine x_aload_n 0 dX10_forget_0 rfl rfl ?_
  refine x_getR dX10_forget_1 lx_0 fl_X10_22 rfl ?_
  refine x_getI (v := (I 3 16)) dX10_forget_4 lx_3 fl_X10_224 rfl rfl ?_
  refine x_callSi [.int (I 3 16)] (c_J6_bitCount_0f7a4 (lay := layX) (I := I) (L := L) (I 3 16)) dX10_forget_7 lk_X10_286 cd_J6_bitCount_0f7a4 rfl rfl (Nat.le_of_ble_eq_true rfl) ⟨rfl, rfl, Nat.le_of_ble_eq_true rfl, Nat.le_of_ble_eq_true rfl⟩ ?_
  refine x_istore_n [(1, .int (f_J6_bitCount_0f7a4 (I 3 16))), (0, .ref 0)] dX10_forget_10 rfl (by decide) rfl ?_
  refine x_iload_n 0 dX10_forget_11 rfl rfl ?_
  refine x_if_ne 22 dX10_forget_12 (by decide) (fun hB => ?_) (fun hB => ?_)
  · replace hf := t_el hB hf
    refine x_aload_n 1 dX10_forget_22 rfl rfl ?_
    refine x_getR dX10_forget_23 lx_0 fl_X10_22 rfl ?_
    refine x_iconst (v := (0)) dX10_forget_26 (by decide) ?_
    obtain ⟨I1, hI1, hf⟩ := f_lt hf
    refine x_putI dX10_forget_27 lx_3 fl_X10_224 rfl rfl rfl hI1 ?_
    refine x_aload_n 1 dX10_forget_30 rfl rfl ?_
    refine x_iload_n 0 dX10_forget_31 rfl rfl ?_
    refine x_callVi [.int (f_J6_bitCount_0f7a4 (I 3 16))] (c_X10_give (I := I1) (L := L) (f_J6_bitCount_0f7a4 (I 3 16))) dX10_forget_32 lk_X10_199 lx_0 rfl cd_X10_give rfl rfl (Nat.le_of_ble_eq_true rfl) ⟨rfl, rfl, Nat.le_of_ble_eq_true rfl, Nat.le_of_ble_eq_true rfl⟩ ?_
    subst hf
    exact x_iret dX10_forget_35 rfl rfl
  · replace hf := t_if hB hf
    refine x_aload_n 1 dX10_forget_15 rfl rfl ?_
    refine x_bipush (v := (7)) dX10_forget_16 (by decide) ?_
    refine x_callVi [.int (7 : Int32)] (c_X10_refuse (I := I) (L := L) (7 : Int32)) dX10_forget_18 lk_X10_151 lx_0 rfl cd_X10_refuse rfl rfl (Nat.le_of_ble_eq_true rfl) ⟨rfl, rfl, Nat.le_of_ble_eq_true rfl, Nat.le_of_ble_eq_true rfl⟩ ?_
    subst hf
    exact x_iret dX10_forget_21 rfl rfl
set_option maxRecDepth 100000 in
set_option maxHeartbeats 4000000 in
theorem c_X10_walk {I : z_I} {L : z_L} {p0 : Int32} {p1 : Int32}  {r : Int32 × z_I} (hf : f_X10_walk I p0 p1 = some r) : z_C layX yX10_walk cX10_walk 4 (some .int) ({ frames := 1, cells := 0, slots := 0, locals := 28 } : Room) [.ref 0, .int p0, .int p1] I L (some (.int r.1), r.2, L) := by
  refine z_C.of (by decide) (Nat.le_of_ble_eq_true rfl) ?_
  show z_X layX RX10 cX10_walk 4 (some .int) ({ frames := 1, cells := 0, slots := 0, locals := 28 } : Room) 0 [(0, .ref 0), (1, .int p0), (2, .int p1)] [] I L (some (.int r.1), r.2, L)
  unfold f_X10_walk at hf
  refine x_aload_n 0 dX10_walk_0 rfl rfl ?_
  refine x_getR dX10_walk_1 lx_0 fl_X10_22 rfl ?_
  refine x_iload_n 1 dX10_walk_4 rfl rfl ?_
  refine x_callVi [.int p0] (c_X0_hasScholar (I := I) (L := L) 3 p0 zt_3) dX10_walk_5 lk_X10_271 lx_3 rfl cd_X0_hasScholar rfl rfl (Nat.le_of_ble_eq_true rfl) ⟨rfl, rfl, Nat.le_of_ble_eq_true rfl, Nat.le_of_ble_eq_true rfl⟩ ?_
  refine x_if_eqB 22 dX10_walk_8 (by decide) (fun hB => ?_) (fun hB => ?_)
  · replace hf := f_el hB hf
    refine x_aload_n 0 dX10_walk_22 rfl rfl ?_
    refine x_iconst (v := (1)) dX10_walk_23 (by decide) ?_
    refine x_callVi [.int (1 : Int32)] (c_X10_refuse (I := I) (L := L) (1 : Int32)) dX10_walk_24 lk_X10_151 lx_0 rfl cd_X10_refuse rfl rfl (Nat.le_of_ble_eq_true rfl) ⟨rfl, rfl, Nat.le_of_ble_eq_true rfl, Nat.le_of_ble_eq_true rfl⟩ ?_
    cases hf
    exact x_iret dX10_walk_27 rfl rfl
  · replace hf := f_if hB hf
    refine x_aload_n 0 dX10_walk_11 rfl rfl ?_
    refine x_getR dX10_walk_12 lx_0 fl_X10_22 rfl ?_
    refine x_iload_n 2 dX10_walk_15 rfl rfl ?_
    refine x_callVi [.int p1] (c_X0_hasBed (I := I) (L := L) 3 p1 zt_3) dX10_walk_16 lk_X10_240 lx_3 rfl cd_X0_hasBed rfl rfl (Nat.le_of_ble_eq_true rfl) ⟨rfl, rfl, Nat.le_of_ble_eq_true rfl, Nat.le_of_ble_eq_true rfl⟩ ?_
    refine x_if_neB 28 dX10_walk_19 (by decide) (fun hB => ?_) (fun hB => ?_)
    · replace hf := f_if hB hf
      refine x_aload_n 0 dX10_walk_28 rfl rfl ?_
      refine x_getR dX10_walk_29 lx_0 fl_X10_22 rfl ?_
      refine x_getR dX10_walk_32 lx_3 fl_X10_274 rfl ?_
      refine x_iload_n 1 dX10_walk_35 rfl rfl ?_
      obtain ⟨h1, hf⟩ := f_gd hf
      refine x_iald (j := (p0).toNatClampNeg) (v := (I 11 (p0).toNatClampNeg)) dX10_walk_36 lx_11 h1 rfl rfl ?_
      refine x_iload_n 2 dX10_walk_37 rfl rfl ?_
      refine x_isub dX10_walk_38 ?_
      refine x_mabs dX10_walk_39 lk_X10_291 ⟨Nat.le_of_ble_eq_true rfl, Nat.le_of_ble_eq_true rfl⟩ ?_
      refine x_istore_n [(3, .int (z_abs ((I 11 (p0).toNatClampNeg) - p1))), (0, .ref 0), (1, .int p0), (2, .int p1)] dX10_walk_42 rfl (by decide) rfl ?_
      refine x_iload_n 0 dX10_walk_43 rfl rfl ?_
      refine x_if_ne 54 dX10_walk_44 (by decide) (fun hB => ?_) (fun hB => ?_)
      · replace hf := f_el hB hf
        refine x_aload_n 1 dX10_walk_54 rfl rfl ?_
        refine x_getR dX10_walk_55 lx_0 fl_X10_22 rfl ?_
        refine x_getR dX10_walk_58 lx_3 fl_X10_274 rfl ?_
        refine x_iload_n 2 dX10_walk_61 rfl rfl ?_
        refine x_iload_n 3 dX10_walk_62 rfl rfl ?_
        obtain ⟨I3, hI3, hf⟩ := f_lt hf
        refine x_iast (j0 := (p0).toNatClampNeg) dX10_walk_63 lx_11 h1 rfl hI3 ?_
        refine x_aload_n 1 dX10_walk_64 rfl rfl ?_
        refine x_iload_n 0 dX10_walk_65 rfl rfl ?_
        refine x_callVi [.int (z_abs ((I 11 (p0).toNatClampNeg) - p1))] (c_X10_give (I := I3) (L := L) (z_abs ((I 11 (p0).toNatClampNeg) - p1))) dX10_walk_66 lk_X10_199 lx_0 rfl cd_X10_give rfl rfl (Nat.le_of_ble_eq_true rfl) ⟨rfl, rfl, Nat.le_of_ble_eq_true rfl, Nat.le_of_ble_eq_true rfl⟩ ?_
        cases hf
        exact x_iret dX10_walk_69 rfl rfl
      · replace hf := f_if hB hf
        refine x_aload_n 1 dX10_walk_47 rfl rfl ?_
        refine x_bipush (v := (7)) dX10_walk_48 (by decide) ?_
        refine x_callVi [.int (7 : Int32)] (c_X10_refuse (I := I) (L := L) (7 : Int32)) dX10_walk_50 lk_X10_151 lx_0 rfl cd_X10_refuse rfl rfl (Nat.le_of_ble_eq_true rfl) ⟨rfl, rfl, Nat.le_of_ble_eq_true rfl, Nat.le_of_ble_eq_true rfl⟩ ?_
        cases hf
        exact x_iret dX10_walk_53 rfl rfl
    · replace hf := f_el hB hf
      refine x_aload_n 0 dX10_walk_22 rfl rfl ?_
      refine x_iconst (v := (1)) dX10_walk_23 (by decide) ?_
      refine x_callVi [.int (1 : Int32)] (c_X10_refuse (I := I) (L := L) (1 : Int32)) dX10_walk_24 lk_X10_151 lx_0 rfl cd_X10_refuse rfl rfl (Nat.le_of_ble_eq_true rfl) ⟨rfl, rfl, Nat.le_of_ble_eq_true rfl, Nat.le_of_ble_eq_true rfl⟩ ?_
      cases hf
      exact x_iret dX10_walk_27 rfl rfl
set_option maxRecDepth 100000 in
set_option maxHeartbeats 4000000 in
theorem c_X10_pick {I : z_I} {L : z_L} {p0 : Int32}  {r : Int32 × z_I} (hf : f_X10_pick I p0 = some r) : z_C layX yX10_pick cX10_pick 3 (some .int) ({ frames := 2, cells := 0, slots := 0, locals := 51 } : Room) [.ref 0, .int p0] I L (some (.int r.1), r.2, L) := by
  refine z_C.of (by decide) (Nat.le_of_ble_eq_true rfl) ?_
  show z_X layX RX10 cX10_pick 3 (some .int) ({ frames := 2, cells := 0, slots := 0, locals := 51 } : Room) 0 [(0, .ref 0), (1, .int p0)] [] I L (some (.int r.1), r.2, L)
  unfold f_X10_pick at hf
  refine x_aload_n 0 dX10_pick_0 rfl rfl ?_
  refine x_getR dX10_pick_1 lx_0 fl_X10_22 rfl ?_
  refine x_iload_n 1 dX10_pick_4 rfl rfl ?_
  refine x_callVi [.int p0] (c_X0_hasScholar (I := I) (L := L) 3 p0 zt_3) dX10_pick_5 lk_X10_271 lx_3 rfl cd_X0_hasScholar rfl rfl (Nat.le_of_ble_eq_true rfl) ⟨rfl, rfl, Nat.le_of_ble_eq_true rfl, Nat.le_of_ble_eq_true rfl⟩ ?_
  refine x_if_neB 17 dX10_pick_8 (by decide) (fun hB => ?_) (fun hB => ?_)
  · replace hf := f_if hB hf
    refine x_aload_n 0 dX10_pick_17 rfl rfl ?_
    refine x_getR dX10_pick_18 lx_0 fl_X10_22 rfl ?_
    refine x_iload_n 1 dX10_pick_21 rfl rfl ?_
    obtain ⟨q1, hq2, hf⟩ := f_bd hf
    refine x_callVi [.int p0] (c_X0_harvest (I := I) (L := L) zt_3 hq2) dX10_pick_22 lk_X10_296 lx_3 rfl cd_X0_harvest rfl rfl (Nat.le_of_ble_eq_true rfl) ⟨rfl, rfl, Nat.le_of_ble_eq_true rfl, Nat.le_of_ble_eq_true rfl⟩ ?_
    refine x_istore_n [(2, .int q1.1), (0, .ref 0), (1, .int p0)] dX10_pick_25 rfl (by decide) rfl ?_
    refine x_iload_n 0 dX10_pick_26 rfl rfl ?_
    refine x_if_ne 39 dX10_pick_27 (by decide) (fun hB => ?_) (fun hB => ?_)
    · replace hf := f_el hB hf
      refine x_aload_n 1 dX10_pick_39 rfl rfl ?_
      refine x_iload_n 0 dX10_pick_40 rfl rfl ?_
      refine x_callVi [.int q1.1] (c_X10_give (I := q1.2) (L := L) q1.1) dX10_pick_41 lk_X10_199 lx_0 rfl cd_X10_give rfl rfl (Nat.le_of_ble_eq_true rfl) ⟨rfl, rfl, Nat.le_of_ble_eq_true rfl, Nat.le_of_ble_eq_true rfl⟩ ?_
      cases hf
      exact x_iret dX10_pick_44 rfl rfl
    · replace hf := f_if hB hf
      refine x_aload_n 1 dX10_pick_30 rfl rfl ?_
      refine x_bipush (v := (7)) dX10_pick_31 (by decide) ?_
      refine x_callVi [.int (7 : Int32)] (c_X10_refuse (I := q1.2) (L := L) (7 : Int32)) dX10_pick_33 lk_X10_151 lx_0 rfl cd_X10_refuse rfl rfl (Nat.le_of_ble_eq_true rfl) ⟨rfl, rfl, Nat.le_of_ble_eq_true rfl, Nat.le_of_ble_eq_true rfl⟩ ?_
      refine x_goto 44 dX10_pick_36 (by decide) ?_
      cases hf
      exact x_iret dX10_pick_44 rfl rfl
  · replace hf := f_el hB hf
    refine x_aload_n 0 dX10_pick_11 rfl rfl ?_
    refine x_iconst (v := (1)) dX10_pick_12 (by decide) ?_
    refine x_callVi [.int (1 : Int32)] (c_X10_refuse (I := I) (L := L) (1 : Int32)) dX10_pick_13 lk_X10_151 lx_0 rfl cd_X10_refuse rfl rfl (Nat.le_of_ble_eq_true rfl) ⟨rfl, rfl, Nat.le_of_ble_eq_true rfl, Nat.le_of_ble_eq_true rfl⟩ ?_
    cases hf
    exact x_iret dX10_pick_16 rfl rfl
set_option maxRecDepth 100000 in
set_option maxHeartbeats 4000000 in
theorem c_X10_night {I : z_I} {L : z_L} {p0 : Int32}  {r : Int32 × z_I} (hf : f_X10_night I p0 = some r) : z_C layX yX10_night cX10_night 2 (some .int) ({ frames := 2, cells := 0, slots := 0, locals := 51 } : Room) [.ref 0, .int p0] I L (some (.int r.1), r.2, L) := by
  refine z_C.of (by decide) (Nat.le_of_ble_eq_true rfl) ?_
  show z_X layX RX10 cX10_night 2 (some .int) ({ frames := 2, cells := 0, slots := 0, locals := 51 } : Room) 0 [(0, .ref 0), (1, .int p0)] [] I L (some (.int r.1), r.2, L)
  unfold f_X10_night at hf
  refine x_iload_n 1 dX10_night_0 rfl rfl ?_
  refine x_iconst (v := (1)) dX10_night_1 (by decide) ?_
  refine x_bipush (v := (99)) dX10_night_2 (by decide) ?_
  refine x_callSi [.int p0, .int (1 : Int32), .int (99 : Int32)] (c_X10_isWithin (I := I) (L := L) p0 (1 : Int32) (99 : Int32)) dX10_night_4 lk_X10_128 cd_X10_isWithin rfl rfl (Nat.le_of_ble_eq_true rfl) ⟨rfl, rfl, Nat.le_of_ble_eq_true rfl, Nat.le_of_ble_eq_true rfl⟩ ?_
  refine x_if_neB 16 dX10_night_7 (by decide) (fun hB => ?_) (fun hB => ?_)
  · replace hf := f_if hB hf
    refine x_aload_n 0 dX10_night_16 rfl rfl ?_
    refine x_getR dX10_night_17 lx_0 fl_X10_22 rfl ?_
    refine x_iload_n 1 dX10_night_20 rfl rfl ?_
    obtain ⟨q1, hq2, hf⟩ := f_bd hf
    refine x_callVi [.int p0] (c_X0_passNights (I := I) (L := L) zt_3 hq2) dX10_night_21 lk_X10_299 lx_3 rfl cd_X0_passNights rfl rfl (Nat.le_of_ble_eq_true rfl) ⟨rfl, rfl, Nat.le_of_ble_eq_true rfl, Nat.le_of_ble_eq_true rfl⟩ ?_
    refine x_if_eqB 41 dX10_night_24 (by decide) (fun hB => ?_) (fun hB => ?_)
    · replace hf := f_el hB hf
      refine x_aload_n 0 dX10_night_41 rfl rfl ?_
      refine x_iconst (v := (4)) dX10_night_42 (by decide) ?_
      refine x_callVi [.int (4 : Int32)] (c_X10_refuse (I := q1.2) (L := L) (4 : Int32)) dX10_night_43 lk_X10_151 lx_0 rfl cd_X10_refuse rfl rfl (Nat.le_of_ble_eq_true rfl) ⟨rfl, rfl, Nat.le_of_ble_eq_true rfl, Nat.le_of_ble_eq_true rfl⟩ ?_
      cases hf
      exact x_iret dX10_night_46 rfl rfl
    · replace hf := f_if hB hf
      refine x_aload_n 0 dX10_night_27 rfl rfl ?_
      refine x_aload_n 0 dX10_night_28 rfl rfl ?_
      refine x_getR dX10_night_29 lx_0 fl_X10_22 rfl ?_
      obtain ⟨q3, hq4, hf⟩ := f_bd hf
      refine x_callVi [] (c_X0_allCrocuses (I := q1.2) (L := L) zt_3 hq4) dX10_night_32 lk_X10_227 lx_3 rfl cd_X0_allCrocuses rfl rfl (Nat.le_of_ble_eq_true rfl) ⟨rfl, rfl, Nat.le_of_ble_eq_true rfl, Nat.le_of_ble_eq_true rfl⟩ ?_
      refine x_callVi [.int q3] (c_X10_give (I := q1.2) (L := L) q3) dX10_night_35 lk_X10_199 lx_0 rfl cd_X10_give rfl rfl (Nat.le_of_ble_eq_true rfl) ⟨rfl, rfl, Nat.le_of_ble_eq_true rfl, Nat.le_of_ble_eq_true rfl⟩ ?_
      refine x_goto 46 dX10_night_38 (by decide) ?_
      cases hf
      exact x_iret dX10_night_46 rfl rfl
  · replace hf := f_el hB hf
    refine x_aload_n 0 dX10_night_10 rfl rfl ?_
    refine x_iconst (v := (1)) dX10_night_11 (by decide) ?_
    refine x_callVi [.int (1 : Int32)] (c_X10_refuse (I := I) (L := L) (1 : Int32)) dX10_night_12 lk_X10_151 lx_0 rfl cd_X10_refuse rfl rfl (Nat.le_of_ble_eq_true rfl) ⟨rfl, rfl, Nat.le_of_ble_eq_true rfl, Nat.le_of_ble_eq_true rfl⟩ ?_
    cases hf
    exact x_iret dX10_night_15 rfl rfl
set_option maxRecDepth 100000 in
set_option maxHeartbeats 4000000 in
theorem c_X10_weed {I : z_I} {L : z_L} {p0 : Int32}  {r : Int32 × z_I} (hf : f_X10_weed I p0 = some r) : z_C layX yX10_weed cX10_weed 3 (some .int) ({ frames := 1, cells := 0, slots := 0, locals := 21 } : Room) [.ref 0, .int p0] I L (some (.int r.1), r.2, L) := by
  refine z_C.of (by decide) (Nat.le_of_ble_eq_true rfl) ?_
  show z_X layX RX10 cX10_weed 3 (some .int) ({ frames := 1, cells := 0, slots := 0, locals := 21 } : Room) 0 [(0, .ref 0), (1, .int p0)] [] I L (some (.int r.1), r.2, L)
  unfold f_X10_weed at hf
  refine x_aload_n 0 dX10_weed_0 rfl rfl ?_
  refine x_getR dX10_weed_1 lx_0 fl_X10_22 rfl ?_
  refine x_iload_n 1 dX10_weed_4 rfl rfl ?_
  refine x_callVi [.int p0] (c_X0_hasBed (I := I) (L := L) 3 p0 zt_3) dX10_weed_5 lk_X10_240 lx_3 rfl cd_X0_hasBed rfl rfl (Nat.le_of_ble_eq_true rfl) ⟨rfl, rfl, Nat.le_of_ble_eq_true rfl, Nat.le_of_ble_eq_true rfl⟩ ?_
  refine x_if_neB 17 dX10_weed_8 (by decide) (fun hB => ?_) (fun hB => ?_)
  · replace hf := f_if hB hf
    refine x_aload_n 0 dX10_weed_17 rfl rfl ?_
    refine x_getR dX10_weed_18 lx_0 fl_X10_22 rfl ?_
    refine x_getR dX10_weed_21 lx_3 fl_X10_247 rfl ?_
    refine x_iload_n 1 dX10_weed_24 rfl rfl ?_
    obtain ⟨h1, hf⟩ := f_gd hf
    refine x_iald (j := (p0).toNatClampNeg) (v := (I 5 (p0).toNatClampNeg)) dX10_weed_25 lx_5 h1 rfl rfl ?_
    refine x_istore_n [(2, .int (I 5 (p0).toNatClampNeg)), (0, .ref 0), (1, .int p0)] dX10_weed_26 rfl (by decide) rfl ?_
    refine x_iload_n 0 dX10_weed_27 rfl rfl ?_
    refine x_if_ne 38 dX10_weed_28 (by decide) (fun hB => ?_) (fun hB => ?_)
    · replace hf := f_el hB hf
      refine x_aload_n 1 dX10_weed_38 rfl rfl ?_
      refine x_getR dX10_weed_39 lx_0 fl_X10_22 rfl ?_
      refine x_getR dX10_weed_42 lx_3 fl_X10_247 rfl ?_
      refine x_iload_n 2 dX10_weed_45 rfl rfl ?_
      refine x_iconst (v := (0)) dX10_weed_46 (by decide) ?_
      obtain ⟨I3, hI3, hf⟩ := f_lt hf
      refine x_iast (j0 := (p0).toNatClampNeg) dX10_weed_47 lx_5 h1 rfl hI3 ?_
      refine x_aload_n 1 dX10_weed_48 rfl rfl ?_
      refine x_iload_n 0 dX10_weed_49 rfl rfl ?_
      refine x_callVi [.int (I 5 (p0).toNatClampNeg)] (c_X10_give (I := I3) (L := L) (I 5 (p0).toNatClampNeg)) dX10_weed_50 lk_X10_199 lx_0 rfl cd_X10_give rfl rfl (Nat.le_of_ble_eq_true rfl) ⟨rfl, rfl, Nat.le_of_ble_eq_true rfl, Nat.le_of_ble_eq_true rfl⟩ ?_
      cases hf
      exact x_iret dX10_weed_53 rfl rfl
    · replace hf := f_if hB hf
      refine x_aload_n 1 dX10_weed_31 rfl rfl ?_
      refine x_bipush (v := (7)) dX10_weed_32 (by decide) ?_
      refine x_callVi [.int (7 : Int32)] (c_X10_refuse (I := I) (L := L) (7 : Int32)) dX10_weed_34 lk_X10_151 lx_0 rfl cd_X10_refuse rfl rfl (Nat.le_of_ble_eq_true rfl) ⟨rfl, rfl, Nat.le_of_ble_eq_true rfl, Nat.le_of_ble_eq_true rfl⟩ ?_
      cases hf
      exact x_iret dX10_weed_37 rfl rfl
  · replace hf := f_el hB hf
    refine x_aload_n 0 dX10_weed_11 rfl rfl ?_
    refine x_iconst (v := (1)) dX10_weed_12 (by decide) ?_
    refine x_callVi [.int (1 : Int32)] (c_X10_refuse (I := I) (L := L) (1 : Int32)) dX10_weed_13 lk_X10_151 lx_0 rfl cd_X10_refuse rfl rfl (Nat.le_of_ble_eq_true rfl) ⟨rfl, rfl, Nat.le_of_ble_eq_true rfl, Nat.le_of_ble_eq_true rfl⟩ ?_
    cases hf
    exact x_iret dX10_weed_16 rfl rfl
set_option maxRecDepth 100000 in
set_option maxHeartbeats 4000000 in
theorem c_X10_teach {I : z_I} {L : z_L} {p0 : Int32} {p1 : Int32} {p2 : Bool}  {r : Bool × z_I} (hf : f_X10_teach I p0 p1 p2 = some r) : z_C layX yX10_teach cX10_teach 6 (some .boolean) ({ frames := 1, cells := 0, slots := 0, locals := 21 } : Room) [.ref 0, .int p0, .int p1, .int (zb p2)] I L (some (.int (zb r.1)), r.2, L) := by
  refine z_C.of (by decide) (Nat.le_of_ble_eq_true rfl) ?_
  show z_X layX RX10 cX10_teach 6 (some .boolean) ({ frames := 1, cells := 0, slots := 0, locals := 21 } : Room) 0 [(0, .ref 0), (1, .int p0), (2, .int p1), (3, .int (zb p2))] [] I L (some (.int (zb r.1)), r.2, L)
  unfold f_X10_teach at hf
  refine x_aload_n 0 dX10_teach_0 rfl rfl ?_
  refine x_getR dX10_teach_1 lx_0 fl_X10_22 rfl ?_
  refine x_iload_n 1 dX10_teach_4 rfl rfl ?_
  refine x_callVi [.int p0] (c_X0_hasClaim (I := I) (L := L) 3 p0 zt_3) dX10_teach_5 lk_X10_256 lx_3 rfl cd_X0_hasClaim rfl rfl (Nat.le_of_ble_eq_true rfl) ⟨rfl, rfl, Nat.le_of_ble_eq_true rfl, Nat.le_of_ble_eq_true rfl⟩ ?_
  refine x_if_eqB 22 dX10_teach_8 (by decide) (fun hB => ?_) (fun hB => ?_)
  · replace hf := f_el hB hf
    refine x_aload_n 0 dX10_teach_22 rfl rfl ?_
    refine x_iconst (v := (1)) dX10_teach_23 (by decide) ?_
    refine x_callVi [.int (1 : Int32)] (c_X10_deny (I := I) (L := L) (1 : Int32)) dX10_teach_24 lk_X10_132 lx_0 rfl cd_X10_deny rfl rfl (Nat.le_of_ble_eq_true rfl) ⟨rfl, rfl, Nat.le_of_ble_eq_true rfl, Nat.le_of_ble_eq_true rfl⟩ ?_
    cases hf
    exact x_zret dX10_teach_27 rfl rfl
  · replace hf := f_if hB hf
    refine x_aload_n 0 dX10_teach_11 rfl rfl ?_
    refine x_getR dX10_teach_12 lx_0 fl_X10_22 rfl ?_
    refine x_iload_n 2 dX10_teach_15 rfl rfl ?_
    refine x_callVi [.int p1] (c_X0_hasCase (I := I) (L := L) 3 p1 zt_3) dX10_teach_16 lk_X10_250 lx_3 rfl cd_X0_hasCase rfl rfl (Nat.le_of_ble_eq_true rfl) ⟨rfl, rfl, Nat.le_of_ble_eq_true rfl, Nat.le_of_ble_eq_true rfl⟩ ?_
    refine x_if_neB 28 dX10_teach_19 (by decide) (fun hB => ?_) (fun hB => ?_)
    · replace hf := f_if hB hf
      refine x_iconst (v := (1)) dX10_teach_28 (by decide) ?_
      refine x_iload_n 2 dX10_teach_29 rfl rfl ?_
      refine x_ishl dX10_teach_30 ?_
      refine x_istore [(4, .int ((1 : Int32) <<< (p1 &&& 31))), (0, .ref 0), (1, .int p0), (2, .int p1), (3, .int (zb p2))] dX10_teach_31 (by decide) rfl ?_
      refine x_aload_n 1 dX10_teach_33 rfl rfl ?_
      refine x_getR dX10_teach_34 lx_0 fl_X10_22 rfl ?_
      refine x_getR dX10_teach_37 lx_3 fl_X10_265 rfl ?_
      refine x_iload_n 2 dX10_teach_40 rfl rfl ?_
      obtain ⟨h1, hf⟩ := f_gd hf
      refine x_iald (j := (p0).toNatClampNeg) (v := (I 9 (p0).toNatClampNeg)) dX10_teach_41 lx_9 h1 rfl rfl ?_
      refine x_iload 0 dX10_teach_42 rfl ?_
      refine x_iand dX10_teach_44 ?_
      refine x_if_eq 52 dX10_teach_45 (by decide) (fun hB => ?_) (fun hB => ?_)
      · replace hf := f_if hB hf
        refine x_iconst (v := (0)) dX10_teach_52 (by decide) ?_
        refine x_istore [(5, .int (0 : Int32)), (4, .int ((1 : Int32) <<< (p1 &&& 31))), (0, .ref 0), (1, .int p0), (2, .int p1), (3, .int (zb p2))] dX10_teach_53 (by decide) rfl ?_
        refine x_iload 0 dX10_teach_55 rfl ?_
        refine x_iload_n 5 dX10_teach_57 rfl rfl ?_
        refine x_icmp_ne 68 dX10_teach_58 (by decide) (fun hB => ?_) (fun hB => ?_)
        · replace hf := f_el hB hf
          refine x_aload_n 2 dX10_teach_68 rfl rfl ?_
          refine x_getR dX10_teach_69 lx_0 fl_X10_22 rfl ?_
          refine x_getR dX10_teach_72 lx_3 fl_X10_265 rfl ?_
          refine x_iload_n 3 dX10_teach_75 rfl rfl ?_
          refine x_dup2 dX10_teach_76 rfl rfl ?_
          refine x_iald (j := (p0).toNatClampNeg) (v := (I 9 (p0).toNatClampNeg)) dX10_teach_77 lx_9 h1 rfl rfl ?_
          refine x_iload 1 dX10_teach_78 rfl ?_
          refine x_ixor dX10_teach_80 ?_
          obtain ⟨I4, hI4, hf⟩ := f_lt hf
          refine x_iast (j0 := (p0).toNatClampNeg) dX10_teach_81 lx_9 h1 rfl hI4 ?_
          refine x_aload_n 2 dX10_teach_82 rfl rfl ?_
          refine x_callVi [] (c_X10_grant (I := I4) (L := L) ) dX10_teach_83 lk_X10_139 lx_0 rfl cd_X10_grant rfl rfl (Nat.le_of_ble_eq_true rfl) ⟨rfl, rfl, Nat.le_of_ble_eq_true rfl, Nat.le_of_ble_eq_true rfl⟩ ?_
          cases hf
          exact x_zret dX10_teach_86 rfl rfl
        · replace hf := f_if hB hf
          refine x_aload_n 2 dX10_teach_61 rfl rfl ?_
          refine x_bipush (v := (7)) dX10_teach_62 (by decide) ?_
          refine x_callVi [.int (7 : Int32)] (c_X10_deny (I := I) (L := L) (7 : Int32)) dX10_teach_64 lk_X10_132 lx_0 rfl cd_X10_deny rfl rfl (Nat.le_of_ble_eq_true rfl) ⟨rfl, rfl, Nat.le_of_ble_eq_true rfl, Nat.le_of_ble_eq_true rfl⟩ ?_
          cases hf
          exact x_zret dX10_teach_67 rfl rfl
      · replace hf := f_el hB hf
        refine x_iconst (v := (1)) dX10_teach_48 (by decide) ?_
        refine x_goto 53 dX10_teach_49 (by decide) ?_
        refine x_istore [(5, .int (1 : Int32)), (4, .int ((1 : Int32) <<< (p1 &&& 31))), (0, .ref 0), (1, .int p0), (2, .int p1), (3, .int (zb p2))] dX10_teach_53 (by decide) rfl ?_
        refine x_iload 0 dX10_teach_55 rfl ?_
        refine x_iload_n 5 dX10_teach_57 rfl rfl ?_
        refine x_icmp_ne 68 dX10_teach_58 (by decide) (fun hB => ?_) (fun hB => ?_)
        · replace hf := f_el hB hf
          refine x_aload_n 2 dX10_teach_68 rfl rfl ?_
          refine x_getR dX10_teach_69 lx_0 fl_X10_22 rfl ?_
          refine x_getR dX10_teach_72 lx_3 fl_X10_265 rfl ?_
          refine x_iload_n 3 dX10_teach_75 rfl rfl ?_
          refine x_dup2 dX10_teach_76 rfl rfl ?_
          refine x_iald (j := (p0).toNatClampNeg) (v := (I 9 (p0).toNatClampNeg)) dX10_teach_77 lx_9 h1 rfl rfl ?_
          refine x_iload 1 dX10_teach_78 rfl ?_
          refine x_ixor dX10_teach_80 ?_
          obtain ⟨I7, hI7, hf⟩ := f_lt hf
          refine x_iast (j0 := (p0).toNatClampNeg) dX10_teach_81 lx_9 h1 rfl hI7 ?_
          refine x_aload_n 2 dX10_teach_82 rfl rfl ?_
          refine x_callVi [] (c_X10_grant (I := I7) (L := L) ) dX10_teach_83 lk_X10_139 lx_0 rfl cd_X10_grant rfl rfl (Nat.le_of_ble_eq_true rfl) ⟨rfl, rfl, Nat.le_of_ble_eq_true rfl, Nat.le_of_ble_eq_true rfl⟩ ?_
          cases hf
          exact x_zret dX10_teach_86 rfl rfl
        · replace hf := f_if hB hf
          refine x_aload_n 2 dX10_teach_61 rfl rfl ?_
          refine x_bipush (v := (7)) dX10_teach_62 (by decide) ?_
          refine x_callVi [.int (7 : Int32)] (c_X10_deny (I := I) (L := L) (7 : Int32)) dX10_teach_64 lk_X10_132 lx_0 rfl cd_X10_deny rfl rfl (Nat.le_of_ble_eq_true rfl) ⟨rfl, rfl, Nat.le_of_ble_eq_true rfl, Nat.le_of_ble_eq_true rfl⟩ ?_
          cases hf
          exact x_zret dX10_teach_67 rfl rfl
    · replace hf := f_el hB hf
      refine x_aload_n 0 dX10_teach_22 rfl rfl ?_
      refine x_iconst (v := (1)) dX10_teach_23 (by decide) ?_
      refine x_callVi [.int (1 : Int32)] (c_X10_deny (I := I) (L := L) (1 : Int32)) dX10_teach_24 lk_X10_132 lx_0 rfl cd_X10_deny rfl rfl (Nat.le_of_ble_eq_true rfl) ⟨rfl, rfl, Nat.le_of_ble_eq_true rfl, Nat.le_of_ble_eq_true rfl⟩ ?_
      cases hf
      exact x_zret dX10_teach_27 rfl rfl
set_option maxRecDepth 100000 in
set_option maxHeartbeats 4000000 in
theorem c_X10_weigh {I : z_I} {L : z_L} {p0 : Int32} {p1 : Int32}  {r : Int32 × z_I} (hf : f_X10_weigh I p0 p1 = some r) : z_C layX yX10_weigh cX10_weigh 4 (some .int) ({ frames := 1, cells := 0, slots := 0, locals := 22 } : Room) [.ref 0, .int p0, .int p1] I L (some (.int r.1), r.2, L) := by
  refine z_C.of (by decide) (Nat.le_of_ble_eq_true rfl) ?_
  show z_X layX RX10 cX10_weigh 4 (some .int) ({ frames := 1, cells := 0, slots := 0, locals := 22 } : Room) 0 [(0, .ref 0), (1, .int p0), (2, .int p1)] [] I L (some (.int r.1), r.2, L)
  unfold f_X10_weigh at hf
  refine x_aload_n 0 dX10_weigh_0 rfl rfl ?_
  refine x_getR dX10_weigh_1 lx_0 fl_X10_22 rfl ?_
  refine x_iload_n 1 dX10_weigh_4 rfl rfl ?_
  refine x_callVi [.int p0] (c_X0_hasCase (I := I) (L := L) 3 p0 zt_3) dX10_weigh_5 lk_X10_250 lx_3 rfl cd_X0_hasCase rfl rfl (Nat.le_of_ble_eq_true rfl) ⟨rfl, rfl, Nat.le_of_ble_eq_true rfl, Nat.le_of_ble_eq_true rfl⟩ ?_
  refine x_if_eqB 21 dX10_weigh_8 (by decide) (fun hB => ?_) (fun hB => ?_)
  · replace hf := f_el hB hf
    refine x_aload_n 0 dX10_weigh_21 rfl rfl ?_
    refine x_iconst (v := (1)) dX10_weigh_22 (by decide) ?_
    refine x_callVi [.int (1 : Int32)] (c_X10_refuse (I := I) (L := L) (1 : Int32)) dX10_weigh_23 lk_X10_151 lx_0 rfl cd_X10_refuse rfl rfl (Nat.le_of_ble_eq_true rfl) ⟨rfl, rfl, Nat.le_of_ble_eq_true rfl, Nat.le_of_ble_eq_true rfl⟩ ?_
    cases hf
    exact x_iret dX10_weigh_26 rfl rfl
  · replace hf := f_if hB hf
    refine x_iload_n 2 dX10_weigh_11 rfl rfl ?_
    refine x_iconst (v := (1)) dX10_weigh_12 (by decide) ?_
    refine x_bipush (v := (20)) dX10_weigh_13 (by decide) ?_
    refine x_callSi [.int p1, .int (1 : Int32), .int (20 : Int32)] (c_X10_isWithin (I := I) (L := L) p1 (1 : Int32) (20 : Int32)) dX10_weigh_15 lk_X10_128 cd_X10_isWithin rfl rfl (Nat.le_of_ble_eq_true rfl) ⟨rfl, rfl, Nat.le_of_ble_eq_true rfl, Nat.le_of_ble_eq_true rfl⟩ ?_
    refine x_if_neB 27 dX10_weigh_18 (by decide) (fun hB => ?_) (fun hB => ?_)
    · replace hf := f_if hB hf
      refine x_aload_n 0 dX10_weigh_27 rfl rfl ?_
      refine x_getR dX10_weigh_28 lx_0 fl_X10_22 rfl ?_
      refine x_getR dX10_weigh_31 lx_3 fl_X10_253 rfl ?_
      refine x_iload_n 1 dX10_weigh_34 rfl rfl ?_
      obtain ⟨h1, hf⟩ := f_gd hf
      refine x_iald (j := (p0).toNatClampNeg) (v := (I 6 (p0).toNatClampNeg)) dX10_weigh_35 lx_6 h1 rfl rfl ?_
      refine x_istore_n [(3, .int (I 6 (p0).toNatClampNeg)), (0, .ref 0), (1, .int p0), (2, .int p1)] dX10_weigh_36 rfl (by decide) rfl ?_
      refine x_aload_n 1 dX10_weigh_37 rfl rfl ?_
      refine x_getR dX10_weigh_38 lx_0 fl_X10_22 rfl ?_
      refine x_getR dX10_weigh_41 lx_3 fl_X10_253 rfl ?_
      refine x_iload_n 2 dX10_weigh_44 rfl rfl ?_
      refine x_iload_n 3 dX10_weigh_45 rfl rfl ?_
      obtain ⟨I3, hI3, hf⟩ := f_lt hf
      refine x_iast (j0 := (p0).toNatClampNeg) dX10_weigh_46 lx_6 h1 rfl hI3 ?_
      refine x_aload_n 1 dX10_weigh_47 rfl rfl ?_
      refine x_iload_n 0 dX10_weigh_48 rfl rfl ?_
      refine x_callVi [.int (I 6 (p0).toNatClampNeg)] (c_X10_give (I := I3) (L := L) (I 6 (p0).toNatClampNeg)) dX10_weigh_49 lk_X10_199 lx_0 rfl cd_X10_give rfl rfl (Nat.le_of_ble_eq_true rfl) ⟨rfl, rfl, Nat.le_of_ble_eq_true rfl, Nat.le_of_ble_eq_true rfl⟩ ?_
      cases hf
      exact x_iret dX10_weigh_52 rfl rfl
    · replace hf := f_el hB hf
      refine x_aload_n 0 dX10_weigh_21 rfl rfl ?_
      refine x_iconst (v := (1)) dX10_weigh_22 (by decide) ?_
      refine x_callVi [.int (1 : Int32)] (c_X10_refuse (I := I) (L := L) (1 : Int32)) dX10_weigh_23 lk_X10_151 lx_0 rfl cd_X10_refuse rfl rfl (Nat.le_of_ble_eq_true rfl) ⟨rfl, rfl, Nat.le_of_ble_eq_true rfl, Nat.le_of_ble_eq_true rfl⟩ ?_
      cases hf
      exact x_iret dX10_weigh_26 rfl rfl
set_option maxRecDepth 100000 in
set_option maxHeartbeats 4000000 in
theorem c_X10_think {I : z_I} {L : z_L} {p0 : Int32} {p1 : Int32} {p2 : Int32}  {r : Int32 × z_I × z_L} (hf : f_X10_think I L p0 p1 p2 = some r) : z_C layX yX10_think cX10_think 4 (some .int) ({ frames := 2, cells := 0, slots := 0, locals := 41 } : Room) [.ref 0, .int p0, .int p1, .int p2] I L (some (.int r.1), r.2.1, r.2.2) := by
  refine z_C.of (by decide) (Nat.le_of_ble_eq_true rfl) ?_
  show z_X layX RX10 cX10_think 4 (some .int) ({ frames := 2, cells := 0, slots := 0, locals := 41 } : Room) 0 [(0, .ref 0), (1, .int p0), (2, .int p1), (3, .int p2)] [] I L (some (.int r.1), r.2.1, r.2.2)
  unfold f_X10_think at hf
  refine x_aload_n 0 dX10_think_0 rfl rfl ?_
  refine x_getR dX10_think_1 lx_0 fl_X10_22 rfl ?_
  refine x_iload_n 1 dX10_think_4 rfl rfl ?_
  refine x_callVi [.int p0] (c_X0_hasCases (I := I) (L := L) 3 p0 zt_3) dX10_think_5 lk_X10_302 lx_3 rfl cd_X0_hasCases rfl rfl (Nat.le_of_ble_eq_true rfl) ⟨rfl, rfl, Nat.le_of_ble_eq_true rfl, Nat.le_of_ble_eq_true rfl⟩ ?_
  refine x_if_eqB 32 dX10_think_8 (by decide) (fun hB => ?_) (fun hB => ?_)
  · replace hf := f_el hB hf
    refine x_aload_n 0 dX10_think_32 rfl rfl ?_
    refine x_iconst (v := (1)) dX10_think_33 (by decide) ?_
    refine x_callVi [.int (1 : Int32)] (c_X10_refuse (I := I) (L := L) (1 : Int32)) dX10_think_34 lk_X10_151 lx_0 rfl cd_X10_refuse rfl rfl (Nat.le_of_ble_eq_true rfl) ⟨rfl, rfl, Nat.le_of_ble_eq_true rfl, Nat.le_of_ble_eq_true rfl⟩ ?_
    cases hf
    exact x_iret dX10_think_37 rfl rfl
  · replace hf := f_if hB hf
    refine x_aload_n 0 dX10_think_11 rfl rfl ?_
    refine x_getR dX10_think_12 lx_0 fl_X10_22 rfl ?_
    refine x_iload_n 2 dX10_think_15 rfl rfl ?_
    refine x_callVi [.int p1] (c_X0_hasBed (I := I) (L := L) 3 p1 zt_3) dX10_think_16 lk_X10_240 lx_3 rfl cd_X0_hasBed rfl rfl (Nat.le_of_ble_eq_true rfl) ⟨rfl, rfl, Nat.le_of_ble_eq_true rfl, Nat.le_of_ble_eq_true rfl⟩ ?_
    refine x_if_eqB 32 dX10_think_19 (by decide) (fun hB => ?_) (fun hB => ?_)
    · replace hf := f_el hB hf
      refine x_aload_n 0 dX10_think_32 rfl rfl ?_
      refine x_iconst (v := (1)) dX10_think_33 (by decide) ?_
      refine x_callVi [.int (1 : Int32)] (c_X10_refuse (I := I) (L := L) (1 : Int32)) dX10_think_34 lk_X10_151 lx_0 rfl cd_X10_refuse rfl rfl (Nat.le_of_ble_eq_true rfl) ⟨rfl, rfl, Nat.le_of_ble_eq_true rfl, Nat.le_of_ble_eq_true rfl⟩ ?_
      cases hf
      exact x_iret dX10_think_37 rfl rfl
    · replace hf := f_if hB hf
      refine x_iload_n 3 dX10_think_22 rfl rfl ?_
      refine x_iconst (v := (1)) dX10_think_23 (by decide) ?_
      refine x_bipush (v := (9)) dX10_think_24 (by decide) ?_
      refine x_callSi [.int p2, .int (1 : Int32), .int (9 : Int32)] (c_X10_isWithin (I := I) (L := L) p2 (1 : Int32) (9 : Int32)) dX10_think_26 lk_X10_128 cd_X10_isWithin rfl rfl (Nat.le_of_ble_eq_true rfl) ⟨rfl, rfl, Nat.le_of_ble_eq_true rfl, Nat.le_of_ble_eq_true rfl⟩ ?_
      refine x_if_neB 38 dX10_think_29 (by decide) (fun hB => ?_) (fun hB => ?_)
      · replace hf := f_if hB hf
        refine x_aload_n 0 dX10_think_38 rfl rfl ?_
        refine x_getR dX10_think_39 lx_0 fl_X10_22 rfl ?_
        refine x_getI (v := (I 3 12)) dX10_think_42 lx_3 fl_X10_196 rfl rfl ?_
        refine x_bipush (v := (7)) dX10_think_45 (by decide) ?_
        refine x_icmp_lt 56 dX10_think_47 (by decide) (fun hB => ?_) (fun hB => ?_)
        · replace hf := f_if hB hf
          refine x_aload_n 0 dX10_think_56 rfl rfl ?_
          refine x_getR dX10_think_57 lx_0 fl_X10_22 rfl ?_
          refine x_lconst (v := (0)) dX10_think_60 (by decide) ?_
          refine x_iload_n 2 dX10_think_61 rfl rfl ?_
          refine x_iload_n 3 dX10_think_62 rfl rfl ?_
          refine x_iload_n 1 dX10_think_63 rfl rfl ?_
          obtain ⟨q1, hq2, hf⟩ := f_bd hf
          refine x_callVv [.long (0 : Int64), .int p1, .int p2, .int p0] (c_X0_addClaim (I := I) (L := L) zt_3 hq2) dX10_think_64 lk_X10_305 lx_3 rfl cd_X0_addClaim rfl rfl (Nat.le_of_ble_eq_true rfl) ⟨rfl, rfl, Nat.le_of_ble_eq_true rfl, Nat.le_of_ble_eq_true rfl⟩ ?_
          refine x_aload_n 0 dX10_think_67 rfl rfl ?_
          refine x_aload_n 0 dX10_think_68 rfl rfl ?_
          refine x_getR dX10_think_69 lx_0 fl_X10_22 rfl ?_
          refine x_getI (v := (q1.1 3 12)) dX10_think_72 lx_3 fl_X10_196 rfl rfl ?_
          refine x_iconst (v := (1)) dX10_think_75 (by decide) ?_
          refine x_isub dX10_think_76 ?_
          refine x_callVi [.int ((q1.1 3 12) - (1 : Int32))] (c_X10_give (I := q1.1) (L := q1.2) ((q1.1 3 12) - (1 : Int32))) dX10_think_77 lk_X10_199 lx_0 rfl cd_X10_give rfl rfl (Nat.le_of_ble_eq_true rfl) ⟨rfl, rfl, Nat.le_of_ble_eq_true rfl, Nat.le_of_ble_eq_true rfl⟩ ?_
          cases hf
          exact x_iret dX10_think_80 rfl rfl
        · replace hf := f_el hB hf
          refine x_aload_n 0 dX10_think_50 rfl rfl ?_
          refine x_iconst (v := (4)) dX10_think_51 (by decide) ?_
          refine x_callVi [.int (4 : Int32)] (c_X10_refuse (I := I) (L := L) (4 : Int32)) dX10_think_52 lk_X10_151 lx_0 rfl cd_X10_refuse rfl rfl (Nat.le_of_ble_eq_true rfl) ⟨rfl, rfl, Nat.le_of_ble_eq_true rfl, Nat.le_of_ble_eq_true rfl⟩ ?_
          cases hf
          exact x_iret dX10_think_55 rfl rfl
      · replace hf := f_el hB hf
        refine x_aload_n 0 dX10_think_32 rfl rfl ?_
        refine x_iconst (v := (1)) dX10_think_33 (by decide) ?_
        refine x_callVi [.int (1 : Int32)] (c_X10_refuse (I := I) (L := L) (1 : Int32)) dX10_think_34 lk_X10_151 lx_0 rfl cd_X10_refuse rfl rfl (Nat.le_of_ble_eq_true rfl) ⟨rfl, rfl, Nat.le_of_ble_eq_true rfl, Nat.le_of_ble_eq_true rfl⟩ ?_
        cases hf
        exact x_iret dX10_think_37 rfl rfl
set_option maxRecDepth 100000 in
set_option maxHeartbeats 4000000 in
theorem c_X10_rule {I : z_I} {L : z_L} (p0 : Int32)  : z_C layX yX10_rule cX10_rule 2 (some .boolean) ({ frames := 1, cells := 0, slots := 0, locals := 22 } : Room) [.ref 0, .int p0] I L (some (.int (zb (f_X10_rule I p0).1)), (f_X10_rule I p0).2, L) := by
  obtain ⟨r, hf⟩ : ∃ r, f_X10_rule I p0 = r := ⟨_, rfl⟩
  rw [hf]
  refine z_C.of (by decide) (Nat.le_of_ble_eq_true rfl) ?_
  show z_X layX RX10 cX10_rule 2 (some .boolean) ({ frames := 1, cells := 0, slots := 0, locals := 22 } : Room) 0 [(0, .ref 0), (1, .int p0)] [] I L (some (.int (zb r.1)), r.2, L)
  unfold f_X10_rule at hf
  refine x_iload_n 1 dX10_rule_0 rfl rfl ?_
  refine x_iconst (v := (0)) dX10_rule_1 (by decide) ?_
  refine x_bipush (v := (16)) dX10_rule_2 (by decide) ?_
  refine x_callSi [.int p0, .int (0 : Int32), .int (16 : Int32)] (c_X10_isWithin (I := I) (L := L) p0 (0 : Int32) (16 : Int32)) dX10_rule_4 lk_X10_128 cd_X10_isWithin rfl rfl (Nat.le_of_ble_eq_true rfl) ⟨rfl, rfl, Nat.le_of_ble_eq_true rfl, Nat.le_of_ble_eq_true rfl⟩ ?_
  refine x_if_neB 16 dX10_rule_7 (by decide) (fun hB => ?_) (fun hB => ?_)
  · replace hf := t_if hB hf
    refine x_aload_n 0 dX10_rule_16 rfl rfl ?_
    refine x_getR dX10_rule_17 lx_0 fl_X10_22 rfl ?_
    refine x_iload_n 1 dX10_rule_20 rfl rfl ?_
    obtain ⟨I1, hI1, hf⟩ := f_lt hf
    refine x_putI dX10_rule_21 lx_3 fl_X10_218 rfl rfl rfl hI1 ?_
    refine x_aload_n 0 dX10_rule_24 rfl rfl ?_
    refine x_callVi [] (c_X10_grant (I := I1) (L := L) ) dX10_rule_25 lk_X10_139 lx_0 rfl cd_X10_grant rfl rfl (Nat.le_of_ble_eq_true rfl) ⟨rfl, rfl, Nat.le_of_ble_eq_true rfl, Nat.le_of_ble_eq_true rfl⟩ ?_
    subst hf
    exact x_zret dX10_rule_28 rfl rfl
  · replace hf := t_el hB hf
    refine x_aload_n 0 dX10_rule_10 rfl rfl ?_
    refine x_iconst (v := (1)) dX10_rule_11 (by decide) ?_
    refine x_callVi [.int (1 : Int32)] (c_X10_deny (I := I) (L := L) (1 : Int32)) dX10_rule_12 lk_X10_132 lx_0 rfl cd_X10_deny rfl rfl (Nat.le_of_ble_eq_true rfl) ⟨rfl, rfl, Nat.le_of_ble_eq_true rfl, Nat.le_of_ble_eq_true rfl⟩ ?_
    subst hf
    exact x_zret dX10_rule_15 rfl rfl
set_option maxRecDepth 100000 in
set_option maxHeartbeats 4000000 in
theorem c_X10_partOf {I : z_I} {L : z_L} {p0 : Int32}  {r : Int32 × z_I} (hf : f_X10_partOf I p0 = some r) : z_C layX yX10_partOf cX10_partOf 2 (some .int) ({ frames := 1, cells := 0, slots := 0, locals := 25 } : Room) [.ref 0, .int p0] I L (some (.int r.1), r.2, L) := by
  refine z_C.of (by decide) (Nat.le_of_ble_eq_true rfl) ?_
  show z_X layX RX10 cX10_partOf 2 (some .int) ({ frames := 1, cells := 0, slots := 0, locals := 25 } : Room) 0 [(0, .ref 0), (1, .int p0)] [] I L (some (.int r.1), r.2, L)
  unfold f_X10_partOf at hf
  refine x_aload_n 0 dX10_partOf_0 rfl rfl ?_
  refine x_getR dX10_partOf_1 lx_0 fl_X10_22 rfl ?_
  refine x_iload_n 1 dX10_partOf_4 rfl rfl ?_
  refine x_callVi [.int p0] (c_X0_hasCase (I := I) (L := L) 3 p0 zt_3) dX10_partOf_5 lk_X10_250 lx_3 rfl cd_X0_hasCase rfl rfl (Nat.le_of_ble_eq_true rfl) ⟨rfl, rfl, Nat.le_of_ble_eq_true rfl, Nat.le_of_ble_eq_true rfl⟩ ?_
  refine x_if_eqB 33 dX10_partOf_8 (by decide) (fun hB => ?_) (fun hB => ?_)
  · replace hf := f_el hB hf
    refine x_aload_n 0 dX10_partOf_33 rfl rfl ?_
    refine x_iconst (v := (1)) dX10_partOf_34 (by decide) ?_
    refine x_callVi [.int (1 : Int32)] (c_X10_refuse (I := I) (L := L) (1 : Int32)) dX10_partOf_35 lk_X10_151 lx_0 rfl cd_X10_refuse rfl rfl (Nat.le_of_ble_eq_true rfl) ⟨rfl, rfl, Nat.le_of_ble_eq_true rfl, Nat.le_of_ble_eq_true rfl⟩ ?_
    cases hf
    exact x_iret dX10_partOf_38 rfl rfl
  · replace hf := f_if hB hf
    refine x_aload_n 0 dX10_partOf_11 rfl rfl ?_
    refine x_aload_n 0 dX10_partOf_12 rfl rfl ?_
    refine x_getR dX10_partOf_13 lx_0 fl_X10_22 rfl ?_
    refine x_aload_n 0 dX10_partOf_16 rfl rfl ?_
    refine x_getR dX10_partOf_17 lx_0 fl_X10_22 rfl ?_
    refine x_getI (v := (I 3 16)) dX10_partOf_20 lx_3 fl_X10_224 rfl rfl ?_
    refine x_iload_n 1 dX10_partOf_23 rfl rfl ?_
    obtain ⟨q1, hq2, hf⟩ := f_bd hf
    refine x_callVi [.int (I 3 16), .int p0] (c_X0_partUnder (I := I) (L := L) zt_3 hq2) dX10_partOf_24 lk_X10_309 lx_3 rfl cd_X0_partUnder rfl rfl (Nat.le_of_ble_eq_true rfl) ⟨rfl, rfl, Nat.le_of_ble_eq_true rfl, Nat.le_of_ble_eq_true rfl⟩ ?_
    refine x_callVi [.int q1] (c_X10_give (I := I) (L := L) q1) dX10_partOf_27 lk_X10_199 lx_0 rfl cd_X10_give rfl rfl (Nat.le_of_ble_eq_true rfl) ⟨rfl, rfl, Nat.le_of_ble_eq_true rfl, Nat.le_of_ble_eq_true rfl⟩ ?_
    refine x_goto 38 dX10_partOf_30 (by decide) ?_
    cases hf
    exact x_iret dX10_partOf_38 rfl rfl
set_option maxRecDepth 100000 in
set_option maxHeartbeats 4000000 in
theorem l_X10_couples_4    (I : z_I) (L : z_L) {r : Int32 × z_I}  : ∀ (n : Nat) (v1 : Int32) (v2 : Int32), g_X10_couples_4 I  n v1 v2 = some r → z_X layX RX10 cX10_couples 3 (some .int) ({ frames := 1, cells := 0, slots := 0, locals := 25 } : Room) 4 [(0, .ref 0), (1, .int v1), (2, .int v2)] [] I L (some (.int r.1), r.2, L) := by
  intro n
  induction n with
  | zero => intro v1 v2 hf; cases hf
  | succ n ih =>
    intro v1 v2 hf
    rw [g_X10_couples_4] at hf
    refine x_iload_n 2 dX10_couples_4 rfl rfl ?_
    refine x_aload_n 0 dX10_couples_5 rfl rfl ?_
    refine x_getR dX10_couples_6 lx_0 fl_X10_22 rfl ?_
    refine x_getI (v := (I 3 11)) dX10_couples_9 lx_3 fl_X10_212 rfl rfl ?_
    refine x_icmp_ge 44 dX10_couples_12 (by decide) (fun hB => ?_) (fun hB => ?_)
    · replace hf := f_if hB hf
      refine x_aload_n 0 dX10_couples_44 rfl rfl ?_
      refine x_iload_n 1 dX10_couples_45 rfl rfl ?_
      refine x_iconst (v := (2)) dX10_couples_46 (by decide) ?_
      refine x_idiv dX10_couples_47 (by decide) ?_
      refine x_callVi [.int (v1 / (2 : Int32))] (c_X10_give (I := I) (L := L) (v1 / (2 : Int32))) dX10_couples_48 lk_X10_199 lx_0 rfl cd_X10_give rfl rfl (Nat.le_of_ble_eq_true rfl) ⟨rfl, rfl, Nat.le_of_ble_eq_true rfl, Nat.le_of_ble_eq_true rfl⟩ ?_
      cases hf
      exact x_iret dX10_couples_51 rfl rfl
    · replace hf := f_el hB hf
      refine x_iload_n 1 dX10_couples_15 rfl rfl ?_
      refine x_aload_n 0 dX10_couples_16 rfl rfl ?_
      refine x_getR dX10_couples_17 lx_0 fl_X10_22 rfl ?_
      refine x_aload_n 0 dX10_couples_20 rfl rfl ?_
      refine x_getR dX10_couples_21 lx_0 fl_X10_22 rfl ?_
      refine x_getI (v := (I 3 16)) dX10_couples_24 lx_3 fl_X10_224 rfl rfl ?_
      refine x_iload_n 2 dX10_couples_27 rfl rfl ?_
      obtain ⟨q1, hq2, hf⟩ := f_bd hf
      refine x_callVi [.int (I 3 16), .int v2] (c_X0_partUnder (I := I) (L := L) zt_3 hq2) dX10_couples_28 lk_X10_309 lx_3 rfl cd_X0_partUnder rfl rfl (Nat.le_of_ble_eq_true rfl) ⟨rfl, rfl, Nat.le_of_ble_eq_true rfl, Nat.le_of_ble_eq_true rfl⟩ ?_
      refine x_callSi [.int q1] (c_J6_bitCount_0f7a4 (lay := layX) (I := I) (L := L) q1) dX10_couples_31 lk_X10_286 cd_J6_bitCount_0f7a4 rfl rfl (Nat.le_of_ble_eq_true rfl) ⟨rfl, rfl, Nat.le_of_ble_eq_true rfl, Nat.le_of_ble_eq_true rfl⟩ ?_
      refine x_iconst (v := (1)) dX10_couples_34 (by decide) ?_
      refine x_isub dX10_couples_35 ?_
      refine x_iadd dX10_couples_36 ?_
      obtain ⟨w3, hw3, hf⟩ := f_lt hf
      refine x_topI hw3 ?_
      refine x_istore_n [(1, .int w3), (0, .ref 0), (2, .int v2)] dX10_couples_37 rfl (by decide) rfl ?_
      refine x_iinc 2 [(2, .int (v2 + (1 : Int32))), (1, .int w3), (0, .ref 0)] dX10_couples_38 rfl rfl (by decide) rfl ?_
      refine x_goto 4 dX10_couples_41 (by decide) ?_
      refine x_lv [(0, .ref 0), (1, .int w3), (2, .int (v2 + (1 : Int32)))] [2, 1, 0] rfl ?_
      exact ih _ _ hf
set_option maxRecDepth 100000 in
set_option maxHeartbeats 4000000 in
theorem c_X10_couples {I : z_I} {L : z_L}   {r : Int32 × z_I} (hf : f_X10_couples I = some r) : z_C layX yX10_couples cX10_couples 3 (some .int) ({ frames := 1, cells := 0, slots := 0, locals := 25 } : Room) [.ref 0] I L (some (.int r.1), r.2, L) := by
  refine z_C.of (by decide) (Nat.le_of_ble_eq_true rfl) ?_
  show z_X layX RX10 cX10_couples 3 (some .int) ({ frames := 1, cells := 0, slots := 0, locals := 25 } : Room) 0 [(0, .ref 0)] [] I L (some (.int r.1), r.2, L)
  unfold f_X10_couples at hf
  refine x_iconst (v := (0)) dX10_couples_0 (by decide) ?_
  refine x_istore_n [(1, .int (0 : Int32)), (0, .ref 0)] dX10_couples_1 rfl (by decide) rfl ?_
  refine x_iconst (v := (0)) dX10_couples_2 (by decide) ?_
  refine x_istore_n [(2, .int (0 : Int32)), (1, .int (0 : Int32)), (0, .ref 0)] dX10_couples_3 rfl (by decide) rfl ?_
  refine x_lv [(0, .ref 0), (1, .int (0 : Int32)), (2, .int (0 : Int32))] [2, 1, 0] rfl ?_
  refine l_X10_couples_4 (I) (L)   _ _ _ hf
set_option maxRecDepth 100000 in
set_option maxHeartbeats 4000000 in
theorem c_X10_parting {I : z_I} {L : z_L} {p0 : Int32} {p1 : Int32}  {r : Int32 × z_I} (hf : f_X10_parting I p0 p1 = some r) : z_C layX yX10_parting cX10_parting 3 (some .int) ({ frames := 1, cells := 0, slots := 0, locals := 24 } : Room) [.ref 0, .int p0, .int p1] I L (some (.int r.1), r.2, L) := by
  refine z_C.of (by decide) (Nat.le_of_ble_eq_true rfl) ?_
  show z_X layX RX10 cX10_parting 3 (some .int) ({ frames := 1, cells := 0, slots := 0, locals := 24 } : Room) 0 [(0, .ref 0), (1, .int p0), (2, .int p1)] [] I L (some (.int r.1), r.2, L)
  unfold f_X10_parting at hf
  refine x_aload_n 0 dX10_parting_0 rfl rfl ?_
  refine x_getR dX10_parting_1 lx_0 fl_X10_22 rfl ?_
  refine x_iload_n 1 dX10_parting_4 rfl rfl ?_
  refine x_callVi [.int p0] (c_X0_hasCase (I := I) (L := L) 3 p0 zt_3) dX10_parting_5 lk_X10_250 lx_3 rfl cd_X0_hasCase rfl rfl (Nat.le_of_ble_eq_true rfl) ⟨rfl, rfl, Nat.le_of_ble_eq_true rfl, Nat.le_of_ble_eq_true rfl⟩ ?_
  refine x_if_eqB 27 dX10_parting_8 (by decide) (fun hB => ?_) (fun hB => ?_)
  · replace hf := f_el hB hf
    refine x_aload_n 0 dX10_parting_27 rfl rfl ?_
    refine x_iconst (v := (1)) dX10_parting_28 (by decide) ?_
    refine x_callVi [.int (1 : Int32)] (c_X10_refuse (I := I) (L := L) (1 : Int32)) dX10_parting_29 lk_X10_151 lx_0 rfl cd_X10_refuse rfl rfl (Nat.le_of_ble_eq_true rfl) ⟨rfl, rfl, Nat.le_of_ble_eq_true rfl, Nat.le_of_ble_eq_true rfl⟩ ?_
    cases hf
    exact x_iret dX10_parting_32 rfl rfl
  · replace hf := f_if hB hf
    refine x_aload_n 0 dX10_parting_11 rfl rfl ?_
    refine x_getR dX10_parting_12 lx_0 fl_X10_22 rfl ?_
    refine x_iload_n 2 dX10_parting_15 rfl rfl ?_
    refine x_callVi [.int p1] (c_X0_hasCase (I := I) (L := L) 3 p1 zt_3) dX10_parting_16 lk_X10_250 lx_3 rfl cd_X0_hasCase rfl rfl (Nat.le_of_ble_eq_true rfl) ⟨rfl, rfl, Nat.le_of_ble_eq_true rfl, Nat.le_of_ble_eq_true rfl⟩ ?_
    refine x_if_eqB 27 dX10_parting_19 (by decide) (fun hB => ?_) (fun hB => ?_)
    · replace hf := f_el hB hf
      refine x_aload_n 0 dX10_parting_27 rfl rfl ?_
      refine x_iconst (v := (1)) dX10_parting_28 (by decide) ?_
      refine x_callVi [.int (1 : Int32)] (c_X10_refuse (I := I) (L := L) (1 : Int32)) dX10_parting_29 lk_X10_151 lx_0 rfl cd_X10_refuse rfl rfl (Nat.le_of_ble_eq_true rfl) ⟨rfl, rfl, Nat.le_of_ble_eq_true rfl, Nat.le_of_ble_eq_true rfl⟩ ?_
      cases hf
      exact x_iret dX10_parting_32 rfl rfl
    · replace hf := f_if hB hf
      refine x_iload_n 1 dX10_parting_22 rfl rfl ?_
      refine x_iload_n 2 dX10_parting_23 rfl rfl ?_
      refine x_icmp_ne 33 dX10_parting_24 (by decide) (fun hB => ?_) (fun hB => ?_)
      · replace hf := f_el hB hf
        refine x_aload_n 0 dX10_parting_33 rfl rfl ?_
        refine x_aload_n 0 dX10_parting_34 rfl rfl ?_
        refine x_getR dX10_parting_35 lx_0 fl_X10_22 rfl ?_
        refine x_iload_n 1 dX10_parting_38 rfl rfl ?_
        refine x_iload_n 2 dX10_parting_39 rfl rfl ?_
        obtain ⟨q1, hq2, hf⟩ := f_bd hf
        refine x_callVi [.int p0, .int p1] (c_X0_partedBy (I := I) (L := L) zt_3 hq2) dX10_parting_40 lk_X10_312 lx_3 rfl cd_X0_partedBy rfl rfl (Nat.le_of_ble_eq_true rfl) ⟨rfl, rfl, Nat.le_of_ble_eq_true rfl, Nat.le_of_ble_eq_true rfl⟩ ?_
        refine x_callVi [.int q1] (c_X10_give (I := I) (L := L) q1) dX10_parting_43 lk_X10_199 lx_0 rfl cd_X10_give rfl rfl (Nat.le_of_ble_eq_true rfl) ⟨rfl, rfl, Nat.le_of_ble_eq_true rfl, Nat.le_of_ble_eq_true rfl⟩ ?_
        cases hf
        exact x_iret dX10_parting_46 rfl rfl
      · replace hf := f_if hB hf
        refine x_aload_n 0 dX10_parting_27 rfl rfl ?_
        refine x_iconst (v := (1)) dX10_parting_28 (by decide) ?_
        refine x_callVi [.int (1 : Int32)] (c_X10_refuse (I := I) (L := L) (1 : Int32)) dX10_parting_29 lk_X10_151 lx_0 rfl cd_X10_refuse rfl rfl (Nat.le_of_ble_eq_true rfl) ⟨rfl, rfl, Nat.le_of_ble_eq_true rfl, Nat.le_of_ble_eq_true rfl⟩ ?_
        cases hf
        exact x_iret dX10_parting_32 rfl rfl
set_option maxRecDepth 100000 in
set_option maxHeartbeats 4000000 in
theorem l_X10_barren_4    (I : z_I) (L : z_L) {r : Int32 × z_I}  : ∀ (n : Nat) (v1 : Int32) (v2 : Int32), g_X10_barren_4 I  n v1 v2 = some r → z_X layX RX10 cX10_barren 3 (some .int) ({ frames := 2, cells := 0, slots := 0, locals := 55 } : Room) 4 [(0, .ref 0), (1, .int v1), (2, .int v2)] [] I L (some (.int r.1), r.2, L) := by
  intro n
  induction n with
  | zero => intro v1 v2 hf; cases hf
  | succ n ih =>
    intro v1 v2 hf
    rw [g_X10_barren_4] at hf
    refine x_iload_n 2 dX10_barren_4 rfl rfl ?_
    refine x_aload_n 0 dX10_barren_5 rfl rfl ?_
    refine x_getR dX10_barren_6 lx_0 fl_X10_22 rfl ?_
    refine x_getI (v := (I 3 12)) dX10_barren_9 lx_3 fl_X10_196 rfl rfl ?_
    refine x_icmp_ge 56 dX10_barren_12 (by decide) (fun hB => ?_) (fun hB => ?_)
    · replace hf := f_if hB hf
      refine x_aload_n 0 dX10_barren_56 rfl rfl ?_
      refine x_iload_n 1 dX10_barren_57 rfl rfl ?_
      refine x_callVi [.int v1] (c_X10_give (I := I) (L := L) v1) dX10_barren_58 lk_X10_199 lx_0 rfl cd_X10_give rfl rfl (Nat.le_of_ble_eq_true rfl) ⟨rfl, rfl, Nat.le_of_ble_eq_true rfl, Nat.le_of_ble_eq_true rfl⟩ ?_
      cases hf
      exact x_iret dX10_barren_61 rfl rfl
    · replace hf := f_el hB hf
      refine x_aload_n 0 dX10_barren_15 rfl rfl ?_
      refine x_getR dX10_barren_16 lx_0 fl_X10_22 rfl ?_
      refine x_iload_n 2 dX10_barren_19 rfl rfl ?_
      refine x_callVi [.int v2] (c_X0_isMade (I := I) (L := L) 3 v2 zt_3) dX10_barren_20 lk_X10_280 lx_3 rfl cd_X0_isMade rfl rfl (Nat.le_of_ble_eq_true rfl) ⟨rfl, rfl, Nat.le_of_ble_eq_true rfl, Nat.le_of_ble_eq_true rfl⟩ ?_
      refine x_if_neB 50 dX10_barren_23 (by decide) (fun hB => ?_) (fun hB => ?_)
      · replace hf := f_if hB hf
        refine x_iinc 2 [(2, .int (v2 + (1 : Int32))), (0, .ref 0), (1, .int v1)] dX10_barren_50 rfl rfl (by decide) rfl ?_
        refine x_goto 4 dX10_barren_53 (by decide) ?_
        refine x_lv [(0, .ref 0), (1, .int v1), (2, .int (v2 + (1 : Int32)))] [1, 2, 0] rfl ?_
        exact ih _ _ hf
      · replace hf := f_el hB hf
        refine x_aload_n 0 dX10_barren_26 rfl rfl ?_
        refine x_getR dX10_barren_27 lx_0 fl_X10_22 rfl ?_
        refine x_aload_n 0 dX10_barren_30 rfl rfl ?_
        refine x_getR dX10_barren_31 lx_0 fl_X10_22 rfl ?_
        refine x_getI (v := (I 3 16)) dX10_barren_34 lx_3 fl_X10_224 rfl rfl ?_
        refine x_iload_n 2 dX10_barren_37 rfl rfl ?_
        obtain ⟨q1, hq2, hf⟩ := f_bd hf
        refine x_callVi [.int (I 3 16), .int v2] (c_X0_yieldUnder (I := I) (L := L) zt_3 hq2) dX10_barren_38 lk_X10_268 lx_3 rfl cd_X0_yieldUnder rfl rfl (Nat.le_of_ble_eq_true rfl) ⟨rfl, rfl, Nat.le_of_ble_eq_true rfl, Nat.le_of_ble_eq_true rfl⟩ ?_
        refine x_if_ne 50 dX10_barren_41 (by decide) (fun hB => ?_) (fun hB => ?_)
        · replace hf := f_el hB hf
          refine x_iinc 2 [(2, .int (v2 + (1 : Int32))), (0, .ref 0), (1, .int v1)] dX10_barren_50 rfl rfl (by decide) rfl ?_
          refine x_goto 4 dX10_barren_53 (by decide) ?_
          refine x_lv [(0, .ref 0), (1, .int v1), (2, .int (v2 + (1 : Int32)))] [1, 2, 0] rfl ?_
          exact ih _ _ hf
        · replace hf := f_if hB hf
          refine x_iload_n 1 dX10_barren_44 rfl rfl ?_
          refine x_iconst (v := (1)) dX10_barren_45 (by decide) ?_
          refine x_iload_n 2 dX10_barren_46 rfl rfl ?_
          refine x_ishl dX10_barren_47 ?_
          refine x_ior dX10_barren_48 ?_
          refine x_istore_n [(1, .int (v1 ||| ((1 : Int32) <<< (v2 &&& 31)))), (0, .ref 0), (2, .int v2)] dX10_barren_49 rfl (by decide) rfl ?_
          refine x_iinc 2 [(2, .int (v2 + (1 : Int32))), (1, .int (v1 ||| ((1 : Int32) <<< (v2 &&& 31)))), (0, .ref 0)] dX10_barren_50 rfl rfl (by decide) rfl ?_
          refine x_goto 4 dX10_barren_53 (by decide) ?_
          refine x_lv [(0, .ref 0), (1, .int (v1 ||| ((1 : Int32) <<< (v2 &&& 31)))), (2, .int (v2 + (1 : Int32)))] [2, 1, 0] rfl ?_
          exact ih _ _ hf
set_option maxRecDepth 100000 in
set_option maxHeartbeats 4000000 in
theorem c_X10_barren {I : z_I} {L : z_L}   {r : Int32 × z_I} (hf : f_X10_barren I = some r) : z_C layX yX10_barren cX10_barren 3 (some .int) ({ frames := 2, cells := 0, slots := 0, locals := 55 } : Room) [.ref 0] I L (some (.int r.1), r.2, L) := by
  refine z_C.of (by decide) (Nat.le_of_ble_eq_true rfl) ?_
  show z_X layX RX10 cX10_barren 3 (some .int) ({ frames := 2, cells := 0, slots := 0, locals := 55 } : Room) 0 [(0, .ref 0)] [] I L (some (.int r.1), r.2, L)
  unfold f_X10_barren at hf
  refine x_iconst (v := (0)) dX10_barren_0 (by decide) ?_
  refine x_istore_n [(1, .int (0 : Int32)), (0, .ref 0)] dX10_barren_1 rfl (by decide) rfl ?_
  refine x_iconst (v := (0)) dX10_barren_2 (by decide) ?_
  refine x_istore_n [(2, .int (0 : Int32)), (1, .int (0 : Int32)), (0, .ref 0)] dX10_barren_3 rfl (by decide) rfl ?_
  refine x_lv [(0, .ref 0), (1, .int (0 : Int32)), (2, .int (0 : Int32))] [2, 1, 0] rfl ?_
  refine l_X10_barren_4 (I) (L)   _ _ _ hf
set_option maxRecDepth 100000 in
set_option maxHeartbeats 4000000 in
theorem c_X10_most {I : z_I} {L : z_L} {p0 : Int32}  {r : Int32 × z_I} (hf : f_X10_most I p0 = some r) : z_C layX yX10_most cX10_most 2 (some .int) ({ frames := 4, cells := 0, slots := 0, locals := 101 } : Room) [.ref 0, .int p0] I L (some (.int r.1), r.2, L) := by
  refine z_C.of (by decide) (Nat.le_of_ble_eq_true rfl) ?_
  show z_X layX RX10 cX10_most 2 (some .int) ({ frames := 4, cells := 0, slots := 0, locals := 101 } : Room) 0 [(0, .ref 0), (1, .int p0)] [] I L (some (.int r.1), r.2, L)
  unfold f_X10_most at hf
  refine x_iload_n 1 dX10_most_0 rfl rfl ?_
  refine x_iconst (v := (0)) dX10_most_1 (by decide) ?_
  refine x_iconst (v := (3)) dX10_most_2 (by decide) ?_
  refine x_callSi [.int p0, .int (0 : Int32), .int (3 : Int32)] (c_X10_isWithin (I := I) (L := L) p0 (0 : Int32) (3 : Int32)) dX10_most_3 lk_X10_128 cd_X10_isWithin rfl rfl (Nat.le_of_ble_eq_true rfl) ⟨rfl, rfl, Nat.le_of_ble_eq_true rfl, Nat.le_of_ble_eq_true rfl⟩ ?_
  refine x_if_neB 15 dX10_most_6 (by decide) (fun hB => ?_) (fun hB => ?_)
  · replace hf := f_if hB hf
    refine x_aload_n 0 dX10_most_15 rfl rfl ?_
    refine x_getR dX10_most_16 lx_0 fl_X10_95 rfl ?_
    refine x_iload_n 1 dX10_most_19 rfl rfl ?_
    obtain ⟨q1, hq2, hf⟩ := f_bd hf
    refine x_callVv [.int p0] (c_X2_lookAlone (I := I) (L := L)  hq2) dX10_most_20 lk_X10_315 lx_51 rfl cd_X2_lookAlone rfl rfl (Nat.le_of_ble_eq_true rfl) ⟨rfl, rfl, Nat.le_of_ble_eq_true rfl, Nat.le_of_ble_eq_true rfl⟩ ?_
    refine x_aload_n 0 dX10_most_23 rfl rfl ?_
    refine x_aload_n 0 dX10_most_24 rfl rfl ?_
    refine x_getR dX10_most_25 lx_0 fl_X10_95 rfl ?_
    refine x_iload_n 1 dX10_most_28 rfl rfl ?_
    obtain ⟨q3, hq4, hf⟩ := f_bd hf
    refine x_callVi [.int p0] (c_X2_bestBy (I := q1) (L := L)  hq4) dX10_most_29 lk_X10_318 lx_51 rfl cd_X2_bestBy rfl rfl (Nat.le_of_ble_eq_true rfl) ⟨rfl, rfl, Nat.le_of_ble_eq_true rfl, Nat.le_of_ble_eq_true rfl⟩ ?_
    refine x_callVi [.int q3] (c_X10_give (I := q1) (L := L) q3) dX10_most_32 lk_X10_199 lx_0 rfl cd_X10_give rfl rfl (Nat.le_of_ble_eq_true rfl) ⟨rfl, rfl, Nat.le_of_ble_eq_true rfl, Nat.le_of_ble_eq_true rfl⟩ ?_
    cases hf
    exact x_iret dX10_most_35 rfl rfl
  · replace hf := f_el hB hf
    refine x_aload_n 0 dX10_most_9 rfl rfl ?_
    refine x_iconst (v := (1)) dX10_most_10 (by decide) ?_
    refine x_callVi [.int (1 : Int32)] (c_X10_refuse (I := I) (L := L) (1 : Int32)) dX10_most_11 lk_X10_151 lx_0 rfl cd_X10_refuse rfl rfl (Nat.le_of_ble_eq_true rfl) ⟨rfl, rfl, Nat.le_of_ble_eq_true rfl, Nat.le_of_ble_eq_true rfl⟩ ?_
    cases hf
    exact x_iret dX10_most_14 rfl rfl
set_option maxRecDepth 100000 in
set_option maxHeartbeats 4000000 in
theorem c_X10_giveIfAny {I : z_I} {L : z_L} (p0 : Int32)  : z_C layX yX10_giveIfAny cX10_giveIfAny 2 (some .int) ({ frames := 1, cells := 0, slots := 0, locals := 21 } : Room) [.ref 0, .int p0] I L (some (.int (f_X10_giveIfAny I p0).1), (f_X10_giveIfAny I p0).2, L) := by
  obtain ⟨r, hf⟩ : ∃ r, f_X10_giveIfAny I p0 = r := ⟨_, rfl⟩
  rw [hf]
  refine z_C.of (by decide) (Nat.le_of_ble_eq_true rfl) ?_
  show z_X layX RX10 cX10_giveIfAny 2 (some .int) ({ frames := 1, cells := 0, slots := 0, locals := 21 } : Room) 0 [(0, .ref 0), (1, .int p0)] [] I L (some (.int r.1), r.2, L)
  unfold f_X10_giveIfAny at hf
  refine x_iload_n 1 dX10_giveIfAny_0 rfl rfl ?_
  refine x_iconst (v := (-1)) dX10_giveIfAny_1 (by decide) ?_
  refine x_icmp_ne 14 dX10_giveIfAny_2 (by decide) (fun hB => ?_) (fun hB => ?_)
  · replace hf := t_el hB hf
    refine x_aload_n 0 dX10_giveIfAny_14 rfl rfl ?_
    refine x_iload_n 1 dX10_giveIfAny_15 rfl rfl ?_
    refine x_callVi [.int p0] (c_X10_give (I := I) (L := L) p0) dX10_giveIfAny_16 lk_X10_199 lx_0 rfl cd_X10_give rfl rfl (Nat.le_of_ble_eq_true rfl) ⟨rfl, rfl, Nat.le_of_ble_eq_true rfl, Nat.le_of_ble_eq_true rfl⟩ ?_
    subst hf
    exact x_iret dX10_giveIfAny_19 rfl rfl
  · replace hf := t_if hB hf
    refine x_aload_n 0 dX10_giveIfAny_5 rfl rfl ?_
    refine x_bipush (v := (6)) dX10_giveIfAny_6 (by decide) ?_
    refine x_callVi [.int (6 : Int32)] (c_X10_refuse (I := I) (L := L) (6 : Int32)) dX10_giveIfAny_8 lk_X10_151 lx_0 rfl cd_X10_refuse rfl rfl (Nat.le_of_ble_eq_true rfl) ⟨rfl, rfl, Nat.le_of_ble_eq_true rfl, Nat.le_of_ble_eq_true rfl⟩ ?_
    refine x_goto 19 dX10_giveIfAny_11 (by decide) ?_
    subst hf
    exact x_iret dX10_giveIfAny_19 rfl rfl
set_option maxRecDepth 100000 in
set_option maxHeartbeats 4000000 in
theorem c_X10_first {I : z_I} {L : z_L} {p0 : Int32} {p1 : Int32}  {r : Int32 × z_I} (hf : f_X10_first I p0 p1 = some r) : z_C layX yX10_first cX10_first 3 (some .int) ({ frames := 4, cells := 0, slots := 0, locals := 101 } : Room) [.ref 0, .int p0, .int p1] I L (some (.int r.1), r.2, L) := by
  refine z_C.of (by decide) (Nat.le_of_ble_eq_true rfl) ?_
  show z_X layX RX10 cX10_first 3 (some .int) ({ frames := 4, cells := 0, slots := 0, locals := 101 } : Room) 0 [(0, .ref 0), (1, .int p0), (2, .int p1)] [] I L (some (.int r.1), r.2, L)
  unfold f_X10_first at hf
  refine x_iload_n 1 dX10_first_0 rfl rfl ?_
  refine x_iconst (v := (0)) dX10_first_1 (by decide) ?_
  refine x_iconst (v := (3)) dX10_first_2 (by decide) ?_
  refine x_callSi [.int p0, .int (0 : Int32), .int (3 : Int32)] (c_X10_isWithin (I := I) (L := L) p0 (0 : Int32) (3 : Int32)) dX10_first_3 lk_X10_128 cd_X10_isWithin rfl rfl (Nat.le_of_ble_eq_true rfl) ⟨rfl, rfl, Nat.le_of_ble_eq_true rfl, Nat.le_of_ble_eq_true rfl⟩ ?_
  refine x_if_eqB 13 dX10_first_6 (by decide) (fun hB => ?_) (fun hB => ?_)
  · replace hf := f_el hB hf
    refine x_aload_n 0 dX10_first_13 rfl rfl ?_
    refine x_iconst (v := (1)) dX10_first_14 (by decide) ?_
    refine x_callVi [.int (1 : Int32)] (c_X10_refuse (I := I) (L := L) (1 : Int32)) dX10_first_15 lk_X10_151 lx_0 rfl cd_X10_refuse rfl rfl (Nat.le_of_ble_eq_true rfl) ⟨rfl, rfl, Nat.le_of_ble_eq_true rfl, Nat.le_of_ble_eq_true rfl⟩ ?_
    cases hf
    exact x_iret dX10_first_18 rfl rfl
  · replace hf := f_if hB hf
    refine x_iload_n 2 dX10_first_9 rfl rfl ?_
    refine x_if_ge 19 dX10_first_10 (by decide) (fun hB => ?_) (fun hB => ?_)
    · replace hf := f_if hB hf
      refine x_aload_n 0 dX10_first_19 rfl rfl ?_
      refine x_getR dX10_first_20 lx_0 fl_X10_95 rfl ?_
      refine x_iload_n 1 dX10_first_23 rfl rfl ?_
      obtain ⟨q1, hq2, hf⟩ := f_bd hf
      refine x_callVv [.int p0] (c_X2_lookAlone (I := I) (L := L)  hq2) dX10_first_24 lk_X10_315 lx_51 rfl cd_X2_lookAlone rfl rfl (Nat.le_of_ble_eq_true rfl) ⟨rfl, rfl, Nat.le_of_ble_eq_true rfl, Nat.le_of_ble_eq_true rfl⟩ ?_
      refine x_aload_n 0 dX10_first_27 rfl rfl ?_
      refine x_aload_n 0 dX10_first_28 rfl rfl ?_
      refine x_getR dX10_first_29 lx_0 fl_X10_95 rfl ?_
      refine x_iload_n 1 dX10_first_32 rfl rfl ?_
      refine x_iload_n 2 dX10_first_33 rfl rfl ?_
      obtain ⟨q3, hq4, hf⟩ := f_bd hf
      refine x_callVi [.int p0, .int p1] (c_X2_rowAt (I := q1) (L := L)  hq4) dX10_first_34 lk_X10_321 lx_51 rfl cd_X2_rowAt rfl rfl (Nat.le_of_ble_eq_true rfl) ⟨rfl, rfl, Nat.le_of_ble_eq_true rfl, Nat.le_of_ble_eq_true rfl⟩ ?_
      refine x_callVi [.int q3] (c_X10_giveIfAny (I := q1) (L := L) q3) dX10_first_37 lk_X10_324 lx_0 rfl cd_X10_giveIfAny rfl rfl (Nat.le_of_ble_eq_true rfl) ⟨rfl, rfl, Nat.le_of_ble_eq_true rfl, Nat.le_of_ble_eq_true rfl⟩ ?_
      cases hf
      exact x_iret dX10_first_40 rfl rfl
    · replace hf := f_el hB hf
      refine x_aload_n 0 dX10_first_13 rfl rfl ?_
      refine x_iconst (v := (1)) dX10_first_14 (by decide) ?_
      refine x_callVi [.int (1 : Int32)] (c_X10_refuse (I := I) (L := L) (1 : Int32)) dX10_first_15 lk_X10_151 lx_0 rfl cd_X10_refuse rfl rfl (Nat.le_of_ble_eq_true rfl) ⟨rfl, rfl, Nat.le_of_ble_eq_true rfl, Nat.le_of_ble_eq_true rfl⟩ ?_
      cases hf
      exact x_iret dX10_first_18 rfl rfl
set_option maxRecDepth 100000 in
set_option maxHeartbeats 4000000 in
theorem l_X10_fewestThatPart_8   (v1 : Int32) (I : z_I) (L : z_L) {r : Int32}  : ∀ (n : Nat) (v2 : Int32) (v3 : Int32) (v4 : Int32), g_X10_fewestThatPart_8 v1 I  n v2 v3 v4 = some r → z_X layX RX10 cX10_fewestThatPart 6 (some .int) ({ frames := 2, cells := 0, slots := 0, locals := 49 } : Room) 8 [(0, .ref 0), (1, .int v1), (2, .int v2), (3, .int v3), (4, .int v4)] [] I L (some (.int r), I, L) := by
  intro n
  induction n with
  | zero => intro v2 v3 v4 hf; cases hf
  | succ n ih =>
    intro v2 v3 v4 hf
    rw [g_X10_fewestThatPart_8] at hf
    refine x_iload 4 dX10_fewestThatPart_8 rfl ?_
    refine x_iconst (v := (1)) dX10_fewestThatPart_10 (by decide) ?_
    refine x_aload_n 0 dX10_fewestThatPart_11 rfl rfl ?_
    refine x_getR dX10_fewestThatPart_12 lx_0 fl_X10_22 rfl ?_
    refine x_getI (v := (I 3 12)) dX10_fewestThatPart_15 lx_3 fl_X10_196 rfl rfl ?_
    refine x_ishl dX10_fewestThatPart_18 ?_
    refine x_icmp_ge 60 dX10_fewestThatPart_19 (by decide) (fun hB => ?_) (fun hB => ?_)
    · replace hf := f_if hB hf
      refine x_iload_n 2 dX10_fewestThatPart_60 rfl rfl ?_
      cases hf
      exact x_iret dX10_fewestThatPart_61 rfl rfl
    · replace hf := f_el hB hf
      refine x_iload 4 dX10_fewestThatPart_22 rfl ?_
      refine x_callSi [.int v4] (c_J6_bitCount_0f7a4 (lay := layX) (I := I) (L := L) v4) dX10_fewestThatPart_24 lk_X10_286 cd_J6_bitCount_0f7a4 rfl rfl (Nat.le_of_ble_eq_true rfl) ⟨rfl, rfl, Nat.le_of_ble_eq_true rfl, Nat.le_of_ble_eq_true rfl⟩ ?_
      refine x_istore [(5, .int (f_J6_bitCount_0f7a4 v4)), (0, .ref 0), (1, .int v1), (2, .int v2), (3, .int v3), (4, .int v4)] dX10_fewestThatPart_27 (by decide) rfl ?_
      refine x_iload 0 dX10_fewestThatPart_29 rfl ?_
      refine x_iload_n 4 dX10_fewestThatPart_31 rfl rfl ?_
      refine x_icmp_ge 54 dX10_fewestThatPart_32 (by decide) (fun hB => ?_) (fun hB => ?_)
      · replace hf := f_if hB hf
        refine x_iinc 5 [(4, .int (v4 + (1 : Int32))), (5, .int (f_J6_bitCount_0f7a4 v4)), (0, .ref 0), (1, .int v1), (2, .int v2), (3, .int v3)] dX10_fewestThatPart_54 rfl rfl (by decide) rfl ?_
        refine x_goto 8 dX10_fewestThatPart_57 (by decide) ?_
        refine x_lv [(0, .ref 0), (1, .int v1), (2, .int v2), (3, .int v3), (4, .int (v4 + (1 : Int32)))] [2, 3, 4, 5, 0] rfl ?_
        exact ih _ _ _ hf
      · replace hf := f_el hB hf
        refine x_aload_n 1 dX10_fewestThatPart_35 rfl rfl ?_
        refine x_getR dX10_fewestThatPart_36 lx_0 fl_X10_22 rfl ?_
        refine x_iload_n 2 dX10_fewestThatPart_39 rfl rfl ?_
        refine x_iload 5 dX10_fewestThatPart_40 rfl ?_
        obtain ⟨q1, hq2, hf⟩ := f_bd hf
        refine x_callVi [.int v1, .int v4] (c_X0_isPartedWhole (I := I) (L := L) zt_3 hq2) dX10_fewestThatPart_42 lk_X10_409 lx_3 rfl cd_X0_isPartedWhole rfl rfl (Nat.le_of_ble_eq_true rfl) ⟨rfl, rfl, Nat.le_of_ble_eq_true rfl, Nat.le_of_ble_eq_true rfl⟩ ?_
        refine x_if_eqB 54 dX10_fewestThatPart_45 (by decide) (fun hB => ?_) (fun hB => ?_)
        · replace hf := f_el hB hf
          refine x_iinc 5 [(4, .int (v4 + (1 : Int32))), (5, .int (f_J6_bitCount_0f7a4 v4)), (0, .ref 0), (1, .int v1), (2, .int v2), (3, .int v3)] dX10_fewestThatPart_54 rfl rfl (by decide) rfl ?_
          refine x_goto 8 dX10_fewestThatPart_57 (by decide) ?_
          refine x_lv [(0, .ref 0), (1, .int v1), (2, .int v2), (3, .int v3), (4, .int (v4 + (1 : Int32)))] [2, 3, 4, 5, 0] rfl ?_
          exact ih _ _ _ hf
        · replace hf := f_if hB hf
          refine x_iload 0 dX10_fewestThatPart_48 rfl ?_
          refine x_istore_n [(3, .int (f_J6_bitCount_0f7a4 v4)), (5, .int (f_J6_bitCount_0f7a4 v4)), (0, .ref 0), (1, .int v1), (2, .int v2), (4, .int v4)] dX10_fewestThatPart_50 rfl (by decide) rfl ?_
          refine x_iload 5 dX10_fewestThatPart_51 rfl ?_
          refine x_istore_n [(2, .int v4), (3, .int (f_J6_bitCount_0f7a4 v4)), (5, .int (f_J6_bitCount_0f7a4 v4)), (0, .ref 0), (1, .int v1), (4, .int v4)] dX10_fewestThatPart_53 rfl (by decide) rfl ?_
          refine x_iinc 5 [(4, .int (v4 + (1 : Int32))), (2, .int v4), (3, .int (f_J6_bitCount_0f7a4 v4)), (5, .int (f_J6_bitCount_0f7a4 v4)), (0, .ref 0), (1, .int v1)] dX10_fewestThatPart_54 rfl rfl (by decide) rfl ?_
          refine x_goto 8 dX10_fewestThatPart_57 (by decide) ?_
          refine x_lv [(0, .ref 0), (1, .int v1), (2, .int v4), (3, .int (f_J6_bitCount_0f7a4 v4)), (4, .int (v4 + (1 : Int32)))] [4, 5, 1, 2, 0] rfl ?_
          exact ih _ _ _ hf
set_option maxRecDepth 100000 in
set_option maxHeartbeats 4000000 in
theorem c_X10_fewestThatPart {I : z_I} {L : z_L} {p0 : Int32}  {r : Int32} (hf : f_X10_fewestThatPart I p0 = some r) : z_C layX yX10_fewestThatPart cX10_fewestThatPart 6 (some .int) ({ frames := 2, cells := 0, slots := 0, locals := 49 } : Room) [.ref 0, .int p0] I L (some (.int r), I, L) := by
  refine z_C.of (by decide) (Nat.le_of_ble_eq_true rfl) ?_
  show z_X layX RX10 cX10_fewestThatPart 6 (some .int) ({ frames := 2, cells := 0, slots := 0, locals := 49 } : Room) 0 [(0, .ref 0), (1, .int p0)] [] I L (some (.int r), I, L)
  unfold f_X10_fewestThatPart at hf
  refine x_iconst (v := (-1)) dX10_fewestThatPart_0 (by decide) ?_
  refine x_istore_n [(2, .int (-1 : Int32)), (0, .ref 0), (1, .int p0)] dX10_fewestThatPart_1 rfl (by decide) rfl ?_
  refine x_bipush (v := (8)) dX10_fewestThatPart_2 (by decide) ?_
  refine x_istore_n [(3, .int (8 : Int32)), (2, .int (-1 : Int32)), (0, .ref 0), (1, .int p0)] dX10_fewestThatPart_4 rfl (by decide) rfl ?_
  refine x_iconst (v := (0)) dX10_fewestThatPart_5 (by decide) ?_
  refine x_istore [(4, .int (0 : Int32)), (3, .int (8 : Int32)), (2, .int (-1 : Int32)), (0, .ref 0), (1, .int p0)] dX10_fewestThatPart_6 (by decide) rfl ?_
  refine x_lv [(0, .ref 0), (1, .int p0), (2, .int (-1 : Int32)), (3, .int (8 : Int32)), (4, .int (0 : Int32))] [3, 4, 2, 1, 0] rfl ?_
  refine l_X10_fewestThatPart_8 p0 (I) (L)   _ _ _ _ hf
set_option maxRecDepth 100000 in
set_option maxHeartbeats 4000000 in
theorem c_X10_fewest {I : z_I} {L : z_L} {p0 : Int32}  {r : Int32 × z_I} (hf : f_X10_fewest I p0 = some r) : z_C layX yX10_fewest cX10_fewest 3 (some .int) ({ frames := 3, cells := 0, slots := 0, locals := 74 } : Room) [.ref 0, .int p0] I L (some (.int r.1), r.2, L) := by
  refine z_C.of (by decide) (Nat.le_of_ble_eq_true rfl) ?_
  show z_X layX RX10 cX10_fewest 3 (some .int) ({ frames := 3, cells := 0, slots := 0, locals := 74 } : Room) 0 [(0, .ref 0), (1, .int p0)] [] I L (some (.int r.1), r.2, L)
  unfold f_X10_fewest at hf
  refine x_aload_n 0 dX10_fewest_0 rfl rfl ?_
  refine x_getR dX10_fewest_1 lx_0 fl_X10_22 rfl ?_
  refine x_iload_n 1 dX10_fewest_4 rfl rfl ?_
  refine x_callVi [.int p0] (c_X0_hasCases (I := I) (L := L) 3 p0 zt_3) dX10_fewest_5 lk_X10_302 lx_3 rfl cd_X0_hasCases rfl rfl (Nat.le_of_ble_eq_true rfl) ⟨rfl, rfl, Nat.le_of_ble_eq_true rfl, Nat.le_of_ble_eq_true rfl⟩ ?_
  refine x_if_neB 17 dX10_fewest_8 (by decide) (fun hB => ?_) (fun hB => ?_)
  · replace hf := f_if hB hf
    refine x_aload_n 0 dX10_fewest_17 rfl rfl ?_
    refine x_iload_n 1 dX10_fewest_18 rfl rfl ?_
    obtain ⟨q1, hq2, hf⟩ := f_bd hf
    refine x_callVi [.int p0] (c_X10_fewestThatPart (I := I) (L := L)  hq2) dX10_fewest_19 lk_X10_327 lx_0 rfl cd_X10_fewestThatPart rfl rfl (Nat.le_of_ble_eq_true rfl) ⟨rfl, rfl, Nat.le_of_ble_eq_true rfl, Nat.le_of_ble_eq_true rfl⟩ ?_
    refine x_istore_n [(2, .int q1), (0, .ref 0), (1, .int p0)] dX10_fewest_22 rfl (by decide) rfl ?_
    refine x_iload_n 0 dX10_fewest_23 rfl rfl ?_
    refine x_iconst (v := (-1)) dX10_fewest_24 (by decide) ?_
    refine x_icmp_ne 37 dX10_fewest_25 (by decide) (fun hB => ?_) (fun hB => ?_)
    · replace hf := f_el hB hf
      refine x_aload_n 1 dX10_fewest_37 rfl rfl ?_
      refine x_iload_n 0 dX10_fewest_38 rfl rfl ?_
      refine x_callSi [.int q1] (c_J6_bitCount_0f7a4 (lay := layX) (I := I) (L := L) q1) dX10_fewest_39 lk_X10_286 cd_J6_bitCount_0f7a4 rfl rfl (Nat.le_of_ble_eq_true rfl) ⟨rfl, rfl, Nat.le_of_ble_eq_true rfl, Nat.le_of_ble_eq_true rfl⟩ ?_
      refine x_callVi [.int (f_J6_bitCount_0f7a4 q1)] (c_X10_give (I := I) (L := L) (f_J6_bitCount_0f7a4 q1)) dX10_fewest_42 lk_X10_199 lx_0 rfl cd_X10_give rfl rfl (Nat.le_of_ble_eq_true rfl) ⟨rfl, rfl, Nat.le_of_ble_eq_true rfl, Nat.le_of_ble_eq_true rfl⟩ ?_
      cases hf
      exact x_iret dX10_fewest_45 rfl rfl
    · replace hf := f_if hB hf
      refine x_aload_n 1 dX10_fewest_28 rfl rfl ?_
      refine x_bipush (v := (6)) dX10_fewest_29 (by decide) ?_
      refine x_callVi [.int (6 : Int32)] (c_X10_refuse (I := I) (L := L) (6 : Int32)) dX10_fewest_31 lk_X10_151 lx_0 rfl cd_X10_refuse rfl rfl (Nat.le_of_ble_eq_true rfl) ⟨rfl, rfl, Nat.le_of_ble_eq_true rfl, Nat.le_of_ble_eq_true rfl⟩ ?_
      refine x_goto 45 dX10_fewest_34 (by decide) ?_
      cases hf
      exact x_iret dX10_fewest_45 rfl rfl
  · replace hf := f_el hB hf
    refine x_aload_n 0 dX10_fewest_11 rfl rfl ?_
    refine x_iconst (v := (1)) dX10_fewest_12 (by decide) ?_
    refine x_callVi [.int (1 : Int32)] (c_X10_refuse (I := I) (L := L) (1 : Int32)) dX10_fewest_13 lk_X10_151 lx_0 rfl cd_X10_refuse rfl rfl (Nat.le_of_ble_eq_true rfl) ⟨rfl, rfl, Nat.le_of_ble_eq_true rfl, Nat.le_of_ble_eq_true rfl⟩ ?_
    cases hf
    exact x_iret dX10_fewest_16 rfl rfl
set_option maxRecDepth 100000 in
set_option maxHeartbeats 4000000 in
theorem c_X10_fewestSet {I : z_I} {L : z_L} {p0 : Int32}  {r : Int32 × z_I} (hf : f_X10_fewestSet I p0 = some r) : z_C layX yX10_fewestSet cX10_fewestSet 2 (some .int) ({ frames := 3, cells := 0, slots := 0, locals := 74 } : Room) [.ref 0, .int p0] I L (some (.int r.1), r.2, L) := by
  refine z_C.of (by decide) (Nat.le_of_ble_eq_true rfl) ?_
  show z_X layX RX10 cX10_fewestSet 2 (some .int) ({ frames := 3, cells := 0, slots := 0, locals := 74 } : Room) 0 [(0, .ref 0), (1, .int p0)] [] I L (some (.int r.1), r.2, L)
  unfold f_X10_fewestSet at hf
  refine x_aload_n 0 dX10_fewestSet_0 rfl rfl ?_
  refine x_getR dX10_fewestSet_1 lx_0 fl_X10_22 rfl ?_
  refine x_iload_n 1 dX10_fewestSet_4 rfl rfl ?_
  refine x_callVi [.int p0] (c_X0_hasCases (I := I) (L := L) 3 p0 zt_3) dX10_fewestSet_5 lk_X10_302 lx_3 rfl cd_X0_hasCases rfl rfl (Nat.le_of_ble_eq_true rfl) ⟨rfl, rfl, Nat.le_of_ble_eq_true rfl, Nat.le_of_ble_eq_true rfl⟩ ?_
  refine x_if_eqB 23 dX10_fewestSet_8 (by decide) (fun hB => ?_) (fun hB => ?_)
  · replace hf := f_el hB hf
    refine x_aload_n 0 dX10_fewestSet_23 rfl rfl ?_
    refine x_iconst (v := (1)) dX10_fewestSet_24 (by decide) ?_
    refine x_callVi [.int (1 : Int32)] (c_X10_refuse (I := I) (L := L) (1 : Int32)) dX10_fewestSet_25 lk_X10_151 lx_0 rfl cd_X10_refuse rfl rfl (Nat.le_of_ble_eq_true rfl) ⟨rfl, rfl, Nat.le_of_ble_eq_true rfl, Nat.le_of_ble_eq_true rfl⟩ ?_
    cases hf
    exact x_iret dX10_fewestSet_28 rfl rfl
  · replace hf := f_if hB hf
    refine x_aload_n 0 dX10_fewestSet_11 rfl rfl ?_
    refine x_aload_n 0 dX10_fewestSet_12 rfl rfl ?_
    refine x_iload_n 1 dX10_fewestSet_13 rfl rfl ?_
    obtain ⟨q1, hq2, hf⟩ := f_bd hf
    refine x_callVi [.int p0] (c_X10_fewestThatPart (I := I) (L := L)  hq2) dX10_fewestSet_14 lk_X10_327 lx_0 rfl cd_X10_fewestThatPart rfl rfl (Nat.le_of_ble_eq_true rfl) ⟨rfl, rfl, Nat.le_of_ble_eq_true rfl, Nat.le_of_ble_eq_true rfl⟩ ?_
    refine x_callVi [.int q1] (c_X10_giveIfAny (I := I) (L := L) q1) dX10_fewestSet_17 lk_X10_324 lx_0 rfl cd_X10_giveIfAny rfl rfl (Nat.le_of_ble_eq_true rfl) ⟨rfl, rfl, Nat.le_of_ble_eq_true rfl, Nat.le_of_ble_eq_true rfl⟩ ?_
    refine x_goto 28 dX10_fewestSet_20 (by decide) ?_
    cases hf
    exact x_iret dX10_fewestSet_28 rfl rfl
set_option maxRecDepth 100000 in
set_option maxHeartbeats 4000000 in
theorem c_X10_isSetOfSome {I : z_I} {L : z_L} (p0 : Int32)  : z_C layX yX10_isSetOfSome cX10_isSetOfSome 2 (some .boolean) ({ frames := 2, cells := 0, slots := 0, locals := 41 } : Room) [.ref 0, .int p0] I L (some (.int (zb (f_X10_isSetOfSome I p0))), I, L) := by
  obtain ⟨r, hf⟩ : ∃ r, f_X10_isSetOfSome I p0 = r := ⟨_, rfl⟩
  rw [hf]
  refine z_C.of (by decide) (Nat.le_of_ble_eq_true rfl) ?_
  show z_X layX RX10 cX10_isSetOfSome 2 (some .boolean) ({ frames := 2, cells := 0, slots := 0, locals := 41 } : Room) 0 [(0, .ref 0), (1, .int p0)] [] I L (some (.int (zb r)), I, L)
  unfold f_X10_isSetOfSome at hf
  refine x_iload_n 1 dX10_isSetOfSome_0 rfl rfl ?_
  refine x_if_eq 19 dX10_isSetOfSome_1 (by decide) (fun hB => ?_) (fun hB => ?_)
  · replace hf := t_if hB hf
    refine x_iconst (v := (0)) dX10_isSetOfSome_19 (by decide) ?_
    subst hf
    exact x_zret (b := false) dX10_isSetOfSome_20 rfl rfl
  · replace hf := t_el hB hf
    refine x_aload_n 0 dX10_isSetOfSome_4 rfl rfl ?_
    refine x_getR dX10_isSetOfSome_5 lx_0 fl_X10_22 rfl ?_
    refine x_iload_n 1 dX10_isSetOfSome_8 rfl rfl ?_
    refine x_callVi [.int p0] (c_X0_hasCases (I := I) (L := L) 3 p0 zt_3) dX10_isSetOfSome_9 lk_X10_302 lx_3 rfl cd_X0_hasCases rfl rfl (Nat.le_of_ble_eq_true rfl) ⟨rfl, rfl, Nat.le_of_ble_eq_true rfl, Nat.le_of_ble_eq_true rfl⟩ ?_
    refine x_if_eqB 19 dX10_isSetOfSome_12 (by decide) (fun hB => ?_) (fun hB => ?_)
    · replace hf := t_el hB hf
      refine x_iconst (v := (0)) dX10_isSetOfSome_19 (by decide) ?_
      subst hf
      exact x_zret (b := false) dX10_isSetOfSome_20 rfl rfl
    · replace hf := t_if hB hf
      refine x_iconst (v := (1)) dX10_isSetOfSome_15 (by decide) ?_
      refine x_goto 20 dX10_isSetOfSome_16 (by decide) ?_
      subst hf
      exact x_zret (b := true) dX10_isSetOfSome_20 rfl rfl
set_option maxRecDepth 100000 in
set_option maxHeartbeats 4000000 in
theorem c_X10_deep {I : z_I} {L : z_L} {p0 : Int32}  {r : Int32 × z_I} (hf : f_X10_deep I p0 = some r) : z_C layX yX10_deep cX10_deep 2 (some .int) ({ frames := 3, cells := 0, slots := 0, locals := 78 } : Room) [.ref 0, .int p0] I L (some (.int r.1), r.2, L) := by
  refine z_C.of (by decide) (Nat.le_of_ble_eq_true rfl) ?_
  show z_X layX RX10 cX10_deep 2 (some .int) ({ frames := 3, cells := 0, slots := 0, locals := 78 } : Room) 0 [(0, .ref 0), (1, .int p0)] [] I L (some (.int r.1), r.2, L)
  unfold f_X10_deep at hf
  refine x_aload_n 0 dX10_deep_0 rfl rfl ?_
  refine x_iload_n 1 dX10_deep_1 rfl rfl ?_
  refine x_callVi [.int p0] (c_X10_isSetOfSome (I := I) (L := L) p0) dX10_deep_2 lk_X10_330 lx_0 rfl cd_X10_isSetOfSome rfl rfl (Nat.le_of_ble_eq_true rfl) ⟨rfl, rfl, Nat.le_of_ble_eq_true rfl, Nat.le_of_ble_eq_true rfl⟩ ?_
  refine x_if_neB 14 dX10_deep_5 (by decide) (fun hB => ?_) (fun hB => ?_)
  · replace hf := f_if hB hf
    refine x_aload_n 0 dX10_deep_14 rfl rfl ?_
    refine x_getR dX10_deep_15 lx_0 fl_X10_88 rfl ?_
    refine x_iload_n 1 dX10_deep_18 rfl rfl ?_
    refine x_iconst (v := (0)) dX10_deep_19 (by decide) ?_
    obtain ⟨q1, hq2, hf⟩ := f_bd hf
    refine x_callVv [.int p0, .int (zb false)] (c_X9_grow (I := I) (L := L)  hq2) dX10_deep_20 lk_X10_333 lx_48 rfl cd_X9_grow rfl rfl (Nat.le_of_ble_eq_true rfl) ⟨rfl, rfl, Nat.le_of_ble_eq_true rfl, Nat.le_of_ble_eq_true rfl⟩ ?_
    refine x_aload_n 0 dX10_deep_23 rfl rfl ?_
    refine x_aload_n 0 dX10_deep_24 rfl rfl ?_
    refine x_getR dX10_deep_25 lx_0 fl_X10_88 rfl ?_
    refine x_getR dX10_deep_28 lx_48 fl_X10_337 rfl ?_
    refine x_iload_n 1 dX10_deep_31 rfl rfl ?_
    obtain ⟨h3, hf⟩ := f_gd hf
    refine x_iald (j := (p0).toNatClampNeg) (v := (q1 49 (p0).toNatClampNeg)) dX10_deep_32 lx_49 h3 rfl rfl ?_
    refine x_callVi [.int (q1 49 (p0).toNatClampNeg)] (c_X10_giveIfAny (I := q1) (L := L) (q1 49 (p0).toNatClampNeg)) dX10_deep_33 lk_X10_324 lx_0 rfl cd_X10_giveIfAny rfl rfl (Nat.le_of_ble_eq_true rfl) ⟨rfl, rfl, Nat.le_of_ble_eq_true rfl, Nat.le_of_ble_eq_true rfl⟩ ?_
    cases hf
    exact x_iret dX10_deep_36 rfl rfl
  · replace hf := f_el hB hf
    refine x_aload_n 0 dX10_deep_8 rfl rfl ?_
    refine x_iconst (v := (1)) dX10_deep_9 (by decide) ?_
    refine x_callVi [.int (1 : Int32)] (c_X10_refuse (I := I) (L := L) (1 : Int32)) dX10_deep_10 lk_X10_151 lx_0 rfl cd_X10_refuse rfl rfl (Nat.le_of_ble_eq_true rfl) ⟨rfl, rfl, Nat.le_of_ble_eq_true rfl, Nat.le_of_ble_eq_true rfl⟩ ?_
    cases hf
    exact x_iret dX10_deep_13 rfl rfl
set_option maxRecDepth 100000 in
set_option maxHeartbeats 4000000 in
theorem c_X10_askDeep {I : z_I} {L : z_L} {p0 : Int32}  {r : Int32 × z_I} (hf : f_X10_askDeep I p0 = some r) : z_C layX yX10_askDeep cX10_askDeep 2 (some .int) ({ frames := 3, cells := 0, slots := 0, locals := 78 } : Room) [.ref 0, .int p0] I L (some (.int r.1), r.2, L) := by
  refine z_C.of (by decide) (Nat.le_of_ble_eq_true rfl) ?_
  show z_X layX RX10 cX10_askDeep 2 (some .int) ({ frames := 3, cells := 0, slots := 0, locals := 78 } : Room) 0 [(0, .ref 0), (1, .int p0)] [] I L (some (.int r.1), r.2, L)
  unfold f_X10_askDeep at hf
  refine x_aload_n 0 dX10_askDeep_0 rfl rfl ?_
  refine x_iload_n 1 dX10_askDeep_1 rfl rfl ?_
  refine x_callVi [.int p0] (c_X10_isSetOfSome (I := I) (L := L) p0) dX10_askDeep_2 lk_X10_330 lx_0 rfl cd_X10_isSetOfSome rfl rfl (Nat.le_of_ble_eq_true rfl) ⟨rfl, rfl, Nat.le_of_ble_eq_true rfl, Nat.le_of_ble_eq_true rfl⟩ ?_
  refine x_if_neB 14 dX10_askDeep_5 (by decide) (fun hB => ?_) (fun hB => ?_)
  · replace hf := f_if hB hf
    refine x_aload_n 0 dX10_askDeep_14 rfl rfl ?_
    refine x_getR dX10_askDeep_15 lx_0 fl_X10_88 rfl ?_
    refine x_iload_n 1 dX10_askDeep_18 rfl rfl ?_
    refine x_iconst (v := (0)) dX10_askDeep_19 (by decide) ?_
    obtain ⟨q1, hq2, hf⟩ := f_bd hf
    refine x_callVv [.int p0, .int (zb false)] (c_X9_grow (I := I) (L := L)  hq2) dX10_askDeep_20 lk_X10_333 lx_48 rfl cd_X9_grow rfl rfl (Nat.le_of_ble_eq_true rfl) ⟨rfl, rfl, Nat.le_of_ble_eq_true rfl, Nat.le_of_ble_eq_true rfl⟩ ?_
    refine x_aload_n 0 dX10_askDeep_23 rfl rfl ?_
    refine x_aload_n 0 dX10_askDeep_24 rfl rfl ?_
    refine x_getR dX10_askDeep_25 lx_0 fl_X10_88 rfl ?_
    refine x_getR dX10_askDeep_28 lx_48 fl_X10_340 rfl ?_
    refine x_iload_n 1 dX10_askDeep_31 rfl rfl ?_
    obtain ⟨h3, hf⟩ := f_gd hf
    refine x_iald (j := (p0).toNatClampNeg) (v := (q1 50 (p0).toNatClampNeg)) dX10_askDeep_32 lx_50 h3 rfl rfl ?_
    refine x_callVi [.int (q1 50 (p0).toNatClampNeg)] (c_X10_giveIfAny (I := q1) (L := L) (q1 50 (p0).toNatClampNeg)) dX10_askDeep_33 lk_X10_324 lx_0 rfl cd_X10_giveIfAny rfl rfl (Nat.le_of_ble_eq_true rfl) ⟨rfl, rfl, Nat.le_of_ble_eq_true rfl, Nat.le_of_ble_eq_true rfl⟩ ?_
    cases hf
    exact x_iret dX10_askDeep_36 rfl rfl
  · replace hf := f_el hB hf
    refine x_aload_n 0 dX10_askDeep_8 rfl rfl ?_
    refine x_iconst (v := (1)) dX10_askDeep_9 (by decide) ?_
    refine x_callVi [.int (1 : Int32)] (c_X10_refuse (I := I) (L := L) (1 : Int32)) dX10_askDeep_10 lk_X10_151 lx_0 rfl cd_X10_refuse rfl rfl (Nat.le_of_ble_eq_true rfl) ⟨rfl, rfl, Nat.le_of_ble_eq_true rfl, Nat.le_of_ble_eq_true rfl⟩ ?_
    cases hf
    exact x_iret dX10_askDeep_13 rfl rfl
set_option maxRecDepth 100000 in
set_option maxHeartbeats 4000000 in
theorem c_X10_dear {I : z_I} {L : z_L} {p0 : Int32}  {r : Int32 × z_I} (hf : f_X10_dear I p0 = some r) : z_C layX yX10_dear cX10_dear 2 (some .int) ({ frames := 3, cells := 0, slots := 0, locals := 78 } : Room) [.ref 0, .int p0] I L (some (.int r.1), r.2, L) := by
  refine z_C.of (by decide) (Nat.le_of_ble_eq_true rfl) ?_
  show z_X layX RX10 cX10_dear 2 (some .int) ({ frames := 3, cells := 0, slots := 0, locals := 78 } : Room) 0 [(0, .ref 0), (1, .int p0)] [] I L (some (.int r.1), r.2, L)
  unfold f_X10_dear at hf
  refine x_aload_n 0 dX10_dear_0 rfl rfl ?_
  refine x_iload_n 1 dX10_dear_1 rfl rfl ?_
  refine x_callVi [.int p0] (c_X10_isSetOfSome (I := I) (L := L) p0) dX10_dear_2 lk_X10_330 lx_0 rfl cd_X10_isSetOfSome rfl rfl (Nat.le_of_ble_eq_true rfl) ⟨rfl, rfl, Nat.le_of_ble_eq_true rfl, Nat.le_of_ble_eq_true rfl⟩ ?_
  refine x_if_neB 14 dX10_dear_5 (by decide) (fun hB => ?_) (fun hB => ?_)
  · replace hf := f_if hB hf
    refine x_aload_n 0 dX10_dear_14 rfl rfl ?_
    refine x_getR dX10_dear_15 lx_0 fl_X10_88 rfl ?_
    refine x_iload_n 1 dX10_dear_18 rfl rfl ?_
    refine x_iconst (v := (1)) dX10_dear_19 (by decide) ?_
    obtain ⟨q1, hq2, hf⟩ := f_bd hf
    refine x_callVv [.int p0, .int (zb true)] (c_X9_grow (I := I) (L := L)  hq2) dX10_dear_20 lk_X10_333 lx_48 rfl cd_X9_grow rfl rfl (Nat.le_of_ble_eq_true rfl) ⟨rfl, rfl, Nat.le_of_ble_eq_true rfl, Nat.le_of_ble_eq_true rfl⟩ ?_
    refine x_aload_n 0 dX10_dear_23 rfl rfl ?_
    refine x_aload_n 0 dX10_dear_24 rfl rfl ?_
    refine x_getR dX10_dear_25 lx_0 fl_X10_88 rfl ?_
    refine x_getR dX10_dear_28 lx_48 fl_X10_337 rfl ?_
    refine x_iload_n 1 dX10_dear_31 rfl rfl ?_
    obtain ⟨h3, hf⟩ := f_gd hf
    refine x_iald (j := (p0).toNatClampNeg) (v := (q1 49 (p0).toNatClampNeg)) dX10_dear_32 lx_49 h3 rfl rfl ?_
    refine x_callVi [.int (q1 49 (p0).toNatClampNeg)] (c_X10_giveIfAny (I := q1) (L := L) (q1 49 (p0).toNatClampNeg)) dX10_dear_33 lk_X10_324 lx_0 rfl cd_X10_giveIfAny rfl rfl (Nat.le_of_ble_eq_true rfl) ⟨rfl, rfl, Nat.le_of_ble_eq_true rfl, Nat.le_of_ble_eq_true rfl⟩ ?_
    cases hf
    exact x_iret dX10_dear_36 rfl rfl
  · replace hf := f_el hB hf
    refine x_aload_n 0 dX10_dear_8 rfl rfl ?_
    refine x_iconst (v := (1)) dX10_dear_9 (by decide) ?_
    refine x_callVi [.int (1 : Int32)] (c_X10_refuse (I := I) (L := L) (1 : Int32)) dX10_dear_10 lk_X10_151 lx_0 rfl cd_X10_refuse rfl rfl (Nat.le_of_ble_eq_true rfl) ⟨rfl, rfl, Nat.le_of_ble_eq_true rfl, Nat.le_of_ble_eq_true rfl⟩ ?_
    cases hf
    exact x_iret dX10_dear_13 rfl rfl
set_option maxRecDepth 100000 in
set_option maxHeartbeats 4000000 in
theorem c_X10_askDear {I : z_I} {L : z_L} {p0 : Int32}  {r : Int32 × z_I} (hf : f_X10_askDear I p0 = some r) : z_C layX yX10_askDear cX10_askDear 2 (some .int) ({ frames := 3, cells := 0, slots := 0, locals := 78 } : Room) [.ref 0, .int p0] I L (some (.int r.1), r.2, L) := by
  refine z_C.of (by decide) (Nat.le_of_ble_eq_true rfl) ?_
  show z_X layX RX10 cX10_askDear 2 (some .int) ({ frames := 3, cells := 0, slots := 0, locals := 78 } : Room) 0 [(0, .ref 0), (1, .int p0)] [] I L (some (.int r.1), r.2, L)
  unfold f_X10_askDear at hf
  refine x_aload_n 0 dX10_askDear_0 rfl rfl ?_
  refine x_iload_n 1 dX10_askDear_1 rfl rfl ?_
  refine x_callVi [.int p0] (c_X10_isSetOfSome (I := I) (L := L) p0) dX10_askDear_2 lk_X10_330 lx_0 rfl cd_X10_isSetOfSome rfl rfl (Nat.le_of_ble_eq_true rfl) ⟨rfl, rfl, Nat.le_of_ble_eq_true rfl, Nat.le_of_ble_eq_true rfl⟩ ?_
  refine x_if_neB 14 dX10_askDear_5 (by decide) (fun hB => ?_) (fun hB => ?_)
  · replace hf := f_if hB hf
    refine x_aload_n 0 dX10_askDear_14 rfl rfl ?_
    refine x_getR dX10_askDear_15 lx_0 fl_X10_88 rfl ?_
    refine x_iload_n 1 dX10_askDear_18 rfl rfl ?_
    refine x_iconst (v := (1)) dX10_askDear_19 (by decide) ?_
    obtain ⟨q1, hq2, hf⟩ := f_bd hf
    refine x_callVv [.int p0, .int (zb true)] (c_X9_grow (I := I) (L := L)  hq2) dX10_askDear_20 lk_X10_333 lx_48 rfl cd_X9_grow rfl rfl (Nat.le_of_ble_eq_true rfl) ⟨rfl, rfl, Nat.le_of_ble_eq_true rfl, Nat.le_of_ble_eq_true rfl⟩ ?_
    refine x_aload_n 0 dX10_askDear_23 rfl rfl ?_
    refine x_aload_n 0 dX10_askDear_24 rfl rfl ?_
    refine x_getR dX10_askDear_25 lx_0 fl_X10_88 rfl ?_
    refine x_getR dX10_askDear_28 lx_48 fl_X10_340 rfl ?_
    refine x_iload_n 1 dX10_askDear_31 rfl rfl ?_
    obtain ⟨h3, hf⟩ := f_gd hf
    refine x_iald (j := (p0).toNatClampNeg) (v := (q1 50 (p0).toNatClampNeg)) dX10_askDear_32 lx_50 h3 rfl rfl ?_
    refine x_callVi [.int (q1 50 (p0).toNatClampNeg)] (c_X10_giveIfAny (I := q1) (L := L) (q1 50 (p0).toNatClampNeg)) dX10_askDear_33 lk_X10_324 lx_0 rfl cd_X10_giveIfAny rfl rfl (Nat.le_of_ble_eq_true rfl) ⟨rfl, rfl, Nat.le_of_ble_eq_true rfl, Nat.le_of_ble_eq_true rfl⟩ ?_
    cases hf
    exact x_iret dX10_askDear_36 rfl rfl
  · replace hf := f_el hB hf
    refine x_aload_n 0 dX10_askDear_8 rfl rfl ?_
    refine x_iconst (v := (1)) dX10_askDear_9 (by decide) ?_
    refine x_callVi [.int (1 : Int32)] (c_X10_refuse (I := I) (L := L) (1 : Int32)) dX10_askDear_10 lk_X10_151 lx_0 rfl cd_X10_refuse rfl rfl (Nat.le_of_ble_eq_true rfl) ⟨rfl, rfl, Nat.le_of_ble_eq_true rfl, Nat.le_of_ble_eq_true rfl⟩ ?_
    cases hf
    exact x_iret dX10_askDear_13 rfl rfl
set_option maxRecDepth 100000 in
set_option maxHeartbeats 4000000 in
theorem l_X10_hindranceToFit_51   (r3 : Nat) (hr3 : z_tr r3) (v2 : Int32) (I : z_I) (L : z_L) {r : Int32}  : ∀ (n : Nat) (v4 : Int32), g_X10_hindranceToFit_51 r3 v2 I L  n v4 = some r → z_X layX RX10 cX10_hindranceToFit 9 (some .int) ({ frames := 2, cells := 0, slots := 0, locals := 42 } : Room) 51 [(0, .ref 0), (2, .int v2), (3, .ref r3), (4, .int v4)] [] I L (some (.int r), I, L) := by
  intro n
  induction n with
  | zero => intro v4 hf; cases hf
  | succ n ih =>
    intro v4 hf
    rw [g_X10_hindranceToFit_51] at hf
    refine x_iload 3 dX10_hindranceToFit_51 rfl ?_
    refine x_iload_n 1 dX10_hindranceToFit_53 rfl rfl ?_
    refine x_icmp_ge 124 dX10_hindranceToFit_54 (by decide) (fun hB => ?_) (fun hB => ?_)
    · replace hf := f_if hB hf
      refine x_iconst (v := (0)) dX10_hindranceToFit_124 (by decide) ?_
      cases hf
      exact x_iret dX10_hindranceToFit_125 rfl rfl
    · replace hf := f_el hB hf
      refine x_aload_n 2 dX10_hindranceToFit_57 rfl rfl ?_
      refine x_getR dX10_hindranceToFit_58 hr3.1 fl_X10_155 rfl ?_
      refine x_iconst (v := (2)) dX10_hindranceToFit_61 (by decide) ?_
      refine x_iload 3 dX10_hindranceToFit_62 rfl ?_
      refine x_imul dX10_hindranceToFit_64 ?_
      obtain ⟨h2, hf⟩ := f_gd hf
      refine x_lald (j := (((2 : Int32) * v4)).toNatClampNeg) (v := (L (r3 + 1) (((2 : Int32) * v4)).toNatClampNeg)) dX10_hindranceToFit_65 hr3.2.1 h2 rfl rfl ?_
      obtain ⟨w3, hw3, hf⟩ := f_lt hf
      refine x_topL hw3 ?_
      refine x_lstore [(5, .long w3), (0, .ref 0), (2, .int v2), (3, .ref r3), (4, .int v4)] dX10_hindranceToFit_66 (by decide) rfl ?_
      refine x_aload_n 3 dX10_hindranceToFit_68 rfl rfl ?_
      refine x_getR dX10_hindranceToFit_69 hr3.1 fl_X10_155 rfl ?_
      refine x_iconst (v := (2)) dX10_hindranceToFit_72 (by decide) ?_
      refine x_iload 4 dX10_hindranceToFit_73 rfl ?_
      refine x_imul dX10_hindranceToFit_75 ?_
      refine x_iconst (v := (1)) dX10_hindranceToFit_76 (by decide) ?_
      refine x_iadd dX10_hindranceToFit_77 ?_
      obtain ⟨h4, hf⟩ := f_gd hf
      refine x_lald (j := ((((2 : Int32) * v4) + (1 : Int32))).toNatClampNeg) (v := (L (r3 + 1) ((((2 : Int32) * v4) + (1 : Int32))).toNatClampNeg)) dX10_hindranceToFit_78 hr3.2.1 h4 rfl rfl ?_
      obtain ⟨w5, hw5, hf⟩ := f_lt hf
      refine x_topL hw5 ?_
      refine x_lstore [(7, .long w5), (5, .long w3), (0, .ref 0), (2, .int v2), (3, .ref r3), (4, .int v4)] dX10_hindranceToFit_79 (by decide) rfl ?_
      refine x_lload 1 dX10_hindranceToFit_81 rfl ?_
      refine x_lconst (v := (0)) dX10_hindranceToFit_83 (by decide) ?_
      refine x_lcmp_lt 116 dX10_hindranceToFit_84 dX10_hindranceToFit_85 (by decide) (fun hB => ?_) (fun hB => ?_)
      · replace hf := f_if hB hf
        refine x_iconst (v := (5)) dX10_hindranceToFit_116 (by decide) ?_
        cases hf
        exact x_iret dX10_hindranceToFit_117 rfl rfl
      · replace hf := f_el hB hf
        refine x_lload 1 dX10_hindranceToFit_88 rfl ?_
        refine x_aload_n 2 dX10_hindranceToFit_90 rfl rfl ?_
        refine x_getR dX10_hindranceToFit_91 lx_0 fl_X10_22 rfl ?_
        refine x_getI (v := (I 3 12)) dX10_hindranceToFit_94 lx_3 fl_X10_196 rfl rfl ?_
        refine x_i2l dX10_hindranceToFit_97 ?_
        refine x_lcmp_ge 116 dX10_hindranceToFit_98 dX10_hindranceToFit_99 (by decide) (fun hB => ?_) (fun hB => ?_)
        · replace hf := f_if hB hf
          refine x_iconst (v := (5)) dX10_hindranceToFit_116 (by decide) ?_
          cases hf
          exact x_iret dX10_hindranceToFit_117 rfl rfl
        · replace hf := f_el hB hf
          refine x_lload 0 dX10_hindranceToFit_102 rfl ?_
          refine x_lconst (v := (0)) dX10_hindranceToFit_104 (by decide) ?_
          refine x_lcmp_lt 116 dX10_hindranceToFit_105 dX10_hindranceToFit_106 (by decide) (fun hB => ?_) (fun hB => ?_)
          · replace hf := f_if hB hf
            refine x_iconst (v := (5)) dX10_hindranceToFit_116 (by decide) ?_
            cases hf
            exact x_iret dX10_hindranceToFit_117 rfl rfl
          · replace hf := f_el hB hf
            refine x_lload 0 dX10_hindranceToFit_109 rfl ?_
            refine x_lconst (v := (1)) dX10_hindranceToFit_111 (by decide) ?_
            refine x_lcmp_le 118 dX10_hindranceToFit_112 dX10_hindranceToFit_113 (by decide) (fun hB => ?_) (fun hB => ?_)
            · replace hf := f_if hB hf
              refine x_iinc 5 [(4, .int (v4 + (1 : Int32))), (7, .long w5), (5, .long w3), (0, .ref 0), (2, .int v2), (3, .ref r3)] dX10_hindranceToFit_118 rfl rfl (by decide) rfl ?_
              refine x_goto 51 dX10_hindranceToFit_121 (by decide) ?_
              refine x_lv [(0, .ref 0), (2, .int v2), (3, .ref r3), (4, .int (v4 + (1 : Int32)))] [3, 4, 5, 0] rfl ?_
              exact ih _ hf
            · replace hf := f_el hB hf
              refine x_iconst (v := (5)) dX10_hindranceToFit_116 (by decide) ?_
              cases hf
              exact x_iret dX10_hindranceToFit_117 rfl rfl
set_option maxRecDepth 100000 in
set_option maxHeartbeats 4000000 in
theorem c_X10_hindranceToFit {I : z_I} {L : z_L} {p0 : Int32} {p1 : Int32}  {r : Int32} (hf : f_X10_hindranceToFit I L p0 p1 = some r) : z_C layX yX10_hindranceToFit cX10_hindranceToFit 9 (some .int) ({ frames := 2, cells := 0, slots := 0, locals := 42 } : Room) [.ref 0, .int p0, .int p1] I L (some (.int r), I, L) := by
  refine z_C.of (by decide) (Nat.le_of_ble_eq_true rfl) ?_
  show z_X layX RX10 cX10_hindranceToFit 9 (some .int) ({ frames := 2, cells := 0, slots := 0, locals := 42 } : Room) 0 [(0, .ref 0), (1, .int p0), (2, .int p1)] [] I L (some (.int r), I, L)
  unfold f_X10_hindranceToFit at hf
  refine x_iload_n 1 dX10_hindranceToFit_0 rfl rfl ?_
  refine x_callSi [.int p0] (c_X10_isTray (I := I) (L := L) p0) dX10_hindranceToFit_1 lk_X10_124 cd_X10_isTray rfl rfl (Nat.le_of_ble_eq_true rfl) ⟨rfl, rfl, Nat.le_of_ble_eq_true rfl, Nat.le_of_ble_eq_true rfl⟩ ?_
  refine x_if_eqB 17 dX10_hindranceToFit_4 (by decide) (fun hB => ?_) (fun hB => ?_)
  · replace hf := f_el hB hf
    refine x_iconst (v := (1)) dX10_hindranceToFit_17 (by decide) ?_
    cases hf
    exact x_iret dX10_hindranceToFit_18 rfl rfl
  · replace hf := f_if hB hf
    refine x_iload_n 2 dX10_hindranceToFit_7 rfl rfl ?_
    refine x_iconst (v := (0)) dX10_hindranceToFit_8 (by decide) ?_
    refine x_bipush (v := (20)) dX10_hindranceToFit_9 (by decide) ?_
    refine x_callSi [.int p1, .int (0 : Int32), .int (20 : Int32)] (c_X10_isWithin (I := I) (L := L) p1 (0 : Int32) (20 : Int32)) dX10_hindranceToFit_11 lk_X10_128 cd_X10_isWithin rfl rfl (Nat.le_of_ble_eq_true rfl) ⟨rfl, rfl, Nat.le_of_ble_eq_true rfl, Nat.le_of_ble_eq_true rfl⟩ ?_
    refine x_if_neB 19 dX10_hindranceToFit_14 (by decide) (fun hB => ?_) (fun hB => ?_)
    · replace hf := f_if hB hf
      refine x_aload_n 0 dX10_hindranceToFit_19 rfl rfl ?_
      refine x_getR dX10_hindranceToFit_20 lx_0 fl_X10_11 rfl ?_
      refine x_iload_n 1 dX10_hindranceToFit_23 rfl rfl ?_
      obtain ⟨h1, hf⟩ := f_gd hf
      refine x_aald (v := ([55, 57, 59, 61].getD (p0).toNatClampNeg 0)) 3 dX10_hindranceToFit_24 lx_1 (fun _ => rfl) h1 (zt_gd h1 rfl) ?_
      refine x_astore_n [(3, .ref ([55, 57, 59, 61].getD (p0).toNatClampNeg 0)), (0, .ref 0), (1, .int p0), (2, .int p1)] dX10_hindranceToFit_25 rfl (by decide) rfl ?_
      refine x_aload_n 0 dX10_hindranceToFit_26 rfl rfl ?_
      refine x_getB (v := (zn (I ([55, 57, 59, 61].getD (p0).toNatClampNeg 0) 1))) dX10_hindranceToFit_27 (zt_tr h1).1 fl_X10_159 rfl rfl ?_
      refine x_if_neB 35 dX10_hindranceToFit_30 (by decide) (fun hB => ?_) (fun hB => ?_)
      · replace hf := f_if hB hf
        refine x_aload_n 0 dX10_hindranceToFit_35 rfl rfl ?_
        refine x_iconst (v := (0)) dX10_hindranceToFit_36 (by decide) ?_
        refine x_iconst (v := (2)) dX10_hindranceToFit_37 (by decide) ?_
        refine x_iload_n 3 dX10_hindranceToFit_38 rfl rfl ?_
        refine x_imul dX10_hindranceToFit_39 ?_
        refine x_callVi [.int (0 : Int32), .int ((2 : Int32) * p1)] (c_X8_spans (I := I) (L := L) ([55, 57, 59, 61].getD (p0).toNatClampNeg 0) (0 : Int32) ((2 : Int32) * p1) (zt_tr h1)) dX10_hindranceToFit_40 lk_X10_166 (zt_tr h1).1 rfl cd_X8_spans rfl rfl (Nat.le_of_ble_eq_true rfl) ⟨rfl, rfl, Nat.le_of_ble_eq_true rfl, Nat.le_of_ble_eq_true rfl⟩ ?_
        refine x_if_neB 48 dX10_hindranceToFit_43 (by decide) (fun hB => ?_) (fun hB => ?_)
        · replace hf := f_if hB hf
          refine x_iconst (v := (0)) dX10_hindranceToFit_48 (by decide) ?_
          refine x_istore [(4, .int (0 : Int32)), (3, .ref ([55, 57, 59, 61].getD (p0).toNatClampNeg 0)), (0, .ref 0), (1, .int p0), (2, .int p1)] dX10_hindranceToFit_49 (by decide) rfl ?_
          refine x_lv [(0, .ref 0), (2, .int p1), (3, .ref ([55, 57, 59, 61].getD (p0).toNatClampNeg 0)), (4, .int (0 : Int32))] [2, 4, 1, 0] rfl ?_
          refine l_X10_hindranceToFit_51 ([55, 57, 59, 61].getD (p0).toNatClampNeg 0) (zt_tr h1) p1 (I) (L)   _ _ hf
        · replace hf := f_el hB hf
          refine x_iconst (v := (3)) dX10_hindranceToFit_46 (by decide) ?_
          cases hf
          exact x_iret dX10_hindranceToFit_47 rfl rfl
      · replace hf := f_el hB hf
        refine x_iconst (v := (2)) dX10_hindranceToFit_33 (by decide) ?_
        cases hf
        exact x_iret dX10_hindranceToFit_34 rfl rfl
    · replace hf := f_el hB hf
      refine x_iconst (v := (1)) dX10_hindranceToFit_17 (by decide) ?_
      cases hf
      exact x_iret dX10_hindranceToFit_18 rfl rfl
set_option maxRecDepth 100000 in
set_option maxHeartbeats 4000000 in
theorem l_X10_fitting_11 (p0 : Nat) (hp0 : z_tr p0) (v2 : Int32) (I : z_I) (L : z_L) {r : Int32}  : ∀ (n : Nat) (v3 : Int32) (v4 : Int32), g_X10_fitting_11 p0 v2 I L  n v3 v4 = some r → z_X layX RX10 cX10_fitting 6 (some .int) ({ frames := 1, cells := 0, slots := 0, locals := 20 } : Room) 11 [(0, .ref 0), (1, .ref p0), (2, .int v2), (3, .int v3), (4, .int v4)] [] I L (some (.int r), I, L) := by
  intro n
  induction n with
  | zero => intro v3 v4 hf; cases hf
  | succ n ih =>
    intro v3 v4 hf
    rw [g_X10_fitting_11] at hf
    refine x_iload 4 dX10_fitting_11 rfl ?_
    refine x_iload_n 2 dX10_fitting_13 rfl rfl ?_
    refine x_icmp_ge 71 dX10_fitting_14 (by decide) (fun hB => ?_) (fun hB => ?_)
    · replace hf := f_if hB hf
      refine x_iload_n 3 dX10_fitting_71 rfl rfl ?_
      cases hf
      exact x_iret dX10_fitting_72 rfl rfl
    · replace hf := f_el hB hf
      refine x_aload_n 0 dX10_fitting_17 rfl rfl ?_
      refine x_getR dX10_fitting_18 lx_0 fl_X10_22 rfl ?_
      refine x_getR dX10_fitting_21 lx_3 fl_X10_265 rfl ?_
      refine x_aload_n 1 dX10_fitting_24 rfl rfl ?_
      refine x_getR dX10_fitting_25 hp0.1 fl_X10_155 rfl ?_
      refine x_iconst (v := (2)) dX10_fitting_28 (by decide) ?_
      refine x_iload 4 dX10_fitting_29 rfl ?_
      refine x_imul dX10_fitting_31 ?_
      obtain ⟨h1, hf⟩ := f_gd hf
      refine x_lald (j := (((2 : Int32) * v4)).toNatClampNeg) (v := (L (p0 + 1) (((2 : Int32) * v4)).toNatClampNeg)) dX10_fitting_32 hp0.2.1 h1 rfl rfl ?_
      refine x_l2i dX10_fitting_33 ?_
      obtain ⟨h2, hf⟩ := f_gd hf
      refine x_iald (j := (((L (p0 + 1) (((2 : Int32) * v4)).toNatClampNeg).toInt32)).toNatClampNeg) (v := (I 9 (((L (p0 + 1) (((2 : Int32) * v4)).toNatClampNeg).toInt32)).toNatClampNeg)) dX10_fitting_34 lx_9 h2 rfl rfl ?_
      obtain ⟨w3, hw3, hf⟩ := f_lt hf
      refine x_topI hw3 ?_
      refine x_istore [(5, .int w3), (0, .ref 0), (1, .ref p0), (2, .int v2), (3, .int v3), (4, .int v4)] dX10_fitting_35 (by decide) rfl ?_
      refine x_iload_n 4 dX10_fitting_37 rfl rfl ?_
      refine x_aload_n 2 dX10_fitting_38 rfl rfl ?_
      refine x_getR dX10_fitting_39 hp0.1 fl_X10_155 rfl ?_
      refine x_iconst (v := (2)) dX10_fitting_42 (by decide) ?_
      refine x_iload 5 dX10_fitting_43 rfl ?_
      refine x_imul dX10_fitting_45 ?_
      refine x_iconst (v := (1)) dX10_fitting_46 (by decide) ?_
      refine x_iadd dX10_fitting_47 ?_
      obtain ⟨h4, hf⟩ := f_gd hf
      refine x_lald (j := ((((2 : Int32) * v4) + (1 : Int32))).toNatClampNeg) (v := (L (p0 + 1) ((((2 : Int32) * v4) + (1 : Int32))).toNatClampNeg)) dX10_fitting_48 hp0.2.1 h4 rfl rfl ?_
      refine x_lconst (v := (1)) dX10_fitting_49 (by decide) ?_
      refine x_lcmp_ne 59 dX10_fitting_50 dX10_fitting_51 (by decide) (fun hB => ?_) (fun hB => ?_)
      · replace hf := f_el hB hf
        refine x_iload 0 dX10_fitting_59 rfl ?_
        refine x_iconst (v := (-1)) dX10_fitting_61 (by decide) ?_
        refine x_ixor dX10_fitting_62 ?_
        refine x_iand dX10_fitting_63 ?_
        refine x_istore_n [(3, .int (v3 &&& (w3 ^^^ (-1 : Int32)))), (5, .int w3), (0, .ref 0), (1, .ref p0), (2, .int v2), (4, .int v4)] dX10_fitting_64 rfl (by decide) rfl ?_
        refine x_iinc 5 [(4, .int (v4 + (1 : Int32))), (3, .int (v3 &&& (w3 ^^^ (-1 : Int32)))), (5, .int w3), (0, .ref 0), (1, .ref p0), (2, .int v2)] dX10_fitting_65 rfl rfl (by decide) rfl ?_
        refine x_goto 11 dX10_fitting_68 (by decide) ?_
        refine x_lv [(0, .ref 0), (1, .ref p0), (2, .int v2), (3, .int (v3 &&& (w3 ^^^ (-1 : Int32)))), (4, .int (v4 + (1 : Int32)))] [3, 4, 5, 1, 0] rfl ?_
        exact ih _ _ hf
      · replace hf := f_if hB hf
        refine x_iload 0 dX10_fitting_54 rfl ?_
        refine x_goto 63 dX10_fitting_56 (by decide) ?_
        refine x_iand dX10_fitting_63 ?_
        refine x_istore_n [(3, .int (v3 &&& w3)), (5, .int w3), (0, .ref 0), (1, .ref p0), (2, .int v2), (4, .int v4)] dX10_fitting_64 rfl (by decide) rfl ?_
        refine x_iinc 5 [(4, .int (v4 + (1 : Int32))), (3, .int (v3 &&& w3)), (5, .int w3), (0, .ref 0), (1, .ref p0), (2, .int v2)] dX10_fitting_65 rfl rfl (by decide) rfl ?_
        refine x_goto 11 dX10_fitting_68 (by decide) ?_
        refine x_lv [(0, .ref 0), (1, .ref p0), (2, .int v2), (3, .int (v3 &&& w3)), (4, .int (v4 + (1 : Int32)))] [3, 4, 5, 1, 0] rfl ?_
        exact ih _ _ hf
set_option maxRecDepth 100000 in
set_option maxHeartbeats 4000000 in
theorem c_X10_fitting {I : z_I} {L : z_L} {p0 : Nat} {p1 : Int32} (hp0 : z_tr p0) {r : Int32} (hf : f_X10_fitting I L p0 p1 = some r) : z_C layX yX10_fitting cX10_fitting 6 (some .int) ({ frames := 1, cells := 0, slots := 0, locals := 20 } : Room) [.ref 0, .ref p0, .int p1] I L (some (.int r), I, L) := by
  refine z_C.of (by decide) (Nat.le_of_ble_eq_true rfl) ?_
  show z_X layX RX10 cX10_fitting 6 (some .int) ({ frames := 1, cells := 0, slots := 0, locals := 20 } : Room) 0 [(0, .ref 0), (1, .ref p0), (2, .int p1)] [] I L (some (.int r), I, L)
  unfold f_X10_fitting at hf
  refine x_aload_n 0 dX10_fitting_0 rfl rfl ?_
  refine x_getR dX10_fitting_1 lx_0 fl_X10_22 rfl ?_
  refine x_callVi [] (c_X0_setOfAll (I := I) (L := L) 3 zt_3) dX10_fitting_4 lk_X10_403 lx_3 rfl cd_X0_setOfAll rfl rfl (Nat.le_of_ble_eq_true rfl) ⟨rfl, rfl, Nat.le_of_ble_eq_true rfl, Nat.le_of_ble_eq_true rfl⟩ ?_
  refine x_istore_n [(3, .int (f_X0_setOfAll I 3)), (0, .ref 0), (1, .ref p0), (2, .int p1)] dX10_fitting_7 rfl (by decide) rfl ?_
  refine x_iconst (v := (0)) dX10_fitting_8 (by decide) ?_
  refine x_istore [(4, .int (0 : Int32)), (3, .int (f_X0_setOfAll I 3)), (0, .ref 0), (1, .ref p0), (2, .int p1)] dX10_fitting_9 (by decide) rfl ?_
  refine x_lv [(0, .ref 0), (1, .ref p0), (2, .int p1), (3, .int (f_X0_setOfAll I 3)), (4, .int (0 : Int32))] [2, 3, 4, 1, 0] rfl ?_
  refine l_X10_fitting_11 p0 hp0 p1 (I) (L)   _ _ _ hf
set_option maxRecDepth 100000 in
set_option maxHeartbeats 4000000 in
theorem c_X10_fits {I : z_I} {L : z_L} {p0 : Int32} {p1 : Int32}  {r : Int32 × z_I} (hf : f_X10_fits I L p0 p1 = some r) : z_C layX yX10_fits cX10_fits 4 (some .int) ({ frames := 3, cells := 0, slots := 0, locals := 70 } : Room) [.ref 0, .int p0, .int p1] I L (some (.int r.1), r.2, L) := by
  refine z_C.of (by decide) (Nat.le_of_ble_eq_true rfl) ?_
  show z_X layX RX10 cX10_fits 4 (some .int) ({ frames := 3, cells := 0, slots := 0, locals := 70 } : Room) 0 [(0, .ref 0), (1, .int p0), (2, .int p1)] [] I L (some (.int r.1), r.2, L)
  unfold f_X10_fits at hf
  refine x_aload_n 0 dX10_fits_0 rfl rfl ?_
  refine x_iload_n 1 dX10_fits_1 rfl rfl ?_
  refine x_iload_n 2 dX10_fits_2 rfl rfl ?_
  obtain ⟨q1, hq2, hf⟩ := f_bd hf
  refine x_callVi [.int p0, .int p1] (c_X10_hindranceToFit (I := I) (L := L)  hq2) dX10_fits_3 lk_X10_343 lx_0 rfl cd_X10_hindranceToFit rfl rfl (Nat.le_of_ble_eq_true rfl) ⟨rfl, rfl, Nat.le_of_ble_eq_true rfl, Nat.le_of_ble_eq_true rfl⟩ ?_
  refine x_istore_n [(3, .int q1), (0, .ref 0), (1, .int p0), (2, .int p1)] dX10_fits_6 rfl (by decide) rfl ?_
  refine x_iload_n 0 dX10_fits_7 rfl rfl ?_
  refine x_if_ne 29 dX10_fits_8 (by decide) (fun hB => ?_) (fun hB => ?_)
  · replace hf := f_el hB hf
    refine x_aload_n 1 dX10_fits_29 rfl rfl ?_
    refine x_iload_n 0 dX10_fits_30 rfl rfl ?_
    refine x_callVi [.int q1] (c_X10_refuse (I := I) (L := L) q1) dX10_fits_31 lk_X10_151 lx_0 rfl cd_X10_refuse rfl rfl (Nat.le_of_ble_eq_true rfl) ⟨rfl, rfl, Nat.le_of_ble_eq_true rfl, Nat.le_of_ble_eq_true rfl⟩ ?_
    cases hf
    exact x_iret dX10_fits_34 rfl rfl
  · replace hf := f_if hB hf
    refine x_aload_n 1 dX10_fits_11 rfl rfl ?_
    refine x_aload_n 1 dX10_fits_12 rfl rfl ?_
    refine x_aload_n 1 dX10_fits_13 rfl rfl ?_
    refine x_getR dX10_fits_14 lx_0 fl_X10_11 rfl ?_
    refine x_iload_n 2 dX10_fits_17 rfl rfl ?_
    obtain ⟨h3, hf⟩ := f_gd hf
    refine x_aald (v := ([55, 57, 59, 61].getD (p0).toNatClampNeg 0)) 3 dX10_fits_18 lx_1 (fun _ => rfl) h3 (zt_gd h3 rfl) ?_
    refine x_iload_n 3 dX10_fits_19 rfl rfl ?_
    obtain ⟨q4, hq5, hf⟩ := f_bd hf
    refine x_callVi [.ref ([55, 57, 59, 61].getD (p0).toNatClampNeg 0), .int p1] (c_X10_fitting (I := I) (L := L) (zt_tr h3) hq5) dX10_fits_20 lk_X10_346 lx_0 rfl cd_X10_fitting rfl rfl (Nat.le_of_ble_eq_true rfl) ⟨rfl, rfl, Nat.le_of_ble_eq_true rfl, Nat.le_of_ble_eq_true rfl⟩ ?_
    refine x_callVi [.int q4] (c_X10_give (I := I) (L := L) q4) dX10_fits_23 lk_X10_199 lx_0 rfl cd_X10_give rfl rfl (Nat.le_of_ble_eq_true rfl) ⟨rfl, rfl, Nat.le_of_ble_eq_true rfl, Nat.le_of_ble_eq_true rfl⟩ ?_
    refine x_goto 34 dX10_fits_26 (by decide) ?_
    cases hf
    exact x_iret dX10_fits_34 rfl rfl
set_option maxRecDepth 100000 in
set_option maxHeartbeats 4000000 in
theorem c_X10_likely {I : z_I} {L : z_L} {p0 : Int32} {p1 : Int32}  {r : Int32 × z_I} (hf : f_X10_likely I L p0 p1 = some r) : z_C layX yX10_likely cX10_likely 4 (some .int) ({ frames := 3, cells := 0, slots := 0, locals := 70 } : Room) [.ref 0, .int p0, .int p1] I L (some (.int r.1), r.2, L) := by
  refine z_C.of (by decide) (Nat.le_of_ble_eq_true rfl) ?_
  show z_X layX RX10 cX10_likely 4 (some .int) ({ frames := 3, cells := 0, slots := 0, locals := 70 } : Room) 0 [(0, .ref 0), (1, .int p0), (2, .int p1)] [] I L (some (.int r.1), r.2, L)
  unfold f_X10_likely at hf
  refine x_aload_n 0 dX10_likely_0 rfl rfl ?_
  refine x_iload_n 1 dX10_likely_1 rfl rfl ?_
  refine x_iload_n 2 dX10_likely_2 rfl rfl ?_
  obtain ⟨q1, hq2, hf⟩ := f_bd hf
  refine x_callVi [.int p0, .int p1] (c_X10_hindranceToFit (I := I) (L := L)  hq2) dX10_likely_3 lk_X10_343 lx_0 rfl cd_X10_hindranceToFit rfl rfl (Nat.le_of_ble_eq_true rfl) ⟨rfl, rfl, Nat.le_of_ble_eq_true rfl, Nat.le_of_ble_eq_true rfl⟩ ?_
  refine x_istore_n [(3, .int q1), (0, .ref 0), (1, .int p0), (2, .int p1)] dX10_likely_6 rfl (by decide) rfl ?_
  refine x_iload_n 0 dX10_likely_7 rfl rfl ?_
  refine x_if_eq 17 dX10_likely_8 (by decide) (fun hB => ?_) (fun hB => ?_)
  · replace hf := f_if hB hf
    refine x_aload_n 1 dX10_likely_17 rfl rfl ?_
    refine x_aload_n 1 dX10_likely_18 rfl rfl ?_
    refine x_getR dX10_likely_19 lx_0 fl_X10_22 rfl ?_
    refine x_aload_n 1 dX10_likely_22 rfl rfl ?_
    refine x_aload_n 1 dX10_likely_23 rfl rfl ?_
    refine x_getR dX10_likely_24 lx_0 fl_X10_11 rfl ?_
    refine x_iload_n 2 dX10_likely_27 rfl rfl ?_
    obtain ⟨h3, hf⟩ := f_gd hf
    refine x_aald (v := ([55, 57, 59, 61].getD (p0).toNatClampNeg 0)) 3 dX10_likely_28 lx_1 (fun _ => rfl) h3 (zt_gd h3 rfl) ?_
    refine x_iload_n 3 dX10_likely_29 rfl rfl ?_
    obtain ⟨q4, hq5, hf⟩ := f_bd hf
    refine x_callVi [.ref ([55, 57, 59, 61].getD (p0).toNatClampNeg 0), .int p1] (c_X10_fitting (I := I) (L := L) (zt_tr h3) hq5) dX10_likely_30 lk_X10_346 lx_0 rfl cd_X10_fitting rfl rfl (Nat.le_of_ble_eq_true rfl) ⟨rfl, rfl, Nat.le_of_ble_eq_true rfl, Nat.le_of_ble_eq_true rfl⟩ ?_
    obtain ⟨q6, hq7, hf⟩ := f_bd hf
    refine x_callVi [.int q4] (c_X0_heaviestOf (I := I) (L := L) zt_3 hq7) dX10_likely_33 lk_X10_350 lx_3 rfl cd_X0_heaviestOf rfl rfl (Nat.le_of_ble_eq_true rfl) ⟨rfl, rfl, Nat.le_of_ble_eq_true rfl, Nat.le_of_ble_eq_true rfl⟩ ?_
    refine x_callVi [.int q6] (c_X10_giveIfAny (I := I) (L := L) q6) dX10_likely_36 lk_X10_324 lx_0 rfl cd_X10_giveIfAny rfl rfl (Nat.le_of_ble_eq_true rfl) ⟨rfl, rfl, Nat.le_of_ble_eq_true rfl, Nat.le_of_ble_eq_true rfl⟩ ?_
    cases hf
    exact x_iret dX10_likely_39 rfl rfl
  · replace hf := f_el hB hf
    refine x_aload_n 1 dX10_likely_11 rfl rfl ?_
    refine x_iload_n 0 dX10_likely_12 rfl rfl ?_
    refine x_callVi [.int q1] (c_X10_refuse (I := I) (L := L) q1) dX10_likely_13 lk_X10_151 lx_0 rfl cd_X10_refuse rfl rfl (Nat.le_of_ble_eq_true rfl) ⟨rfl, rfl, Nat.le_of_ble_eq_true rfl, Nat.le_of_ble_eq_true rfl⟩ ?_
    cases hf
    exact x_iret dX10_likely_16 rfl rfl
set_option maxRecDepth 100000 in
set_option maxHeartbeats 4000000 in
theorem c_X10_oddsThat {I : z_I} {L : z_L} {p0 : Int32} {p1 : Int32} {p2 : Int32}  {r : Bool × z_I × z_L} (hf : f_X10_oddsThat I L p0 p1 p2 = some r) : z_C layX yX10_oddsThat cX10_oddsThat 6 (some .boolean) ({ frames := 3, cells := 0, slots := 0, locals := 70 } : Room) [.ref 0, .int p0, .int p1, .int p2] I L (some (.int (zb r.1)), r.2.1, r.2.2) := by
  refine z_C.of (by decide) (Nat.le_of_ble_eq_true rfl) ?_
  show z_X layX RX10 cX10_oddsThat 6 (some .boolean) ({ frames := 3, cells := 0, slots := 0, locals := 70 } : Room) 0 [(0, .ref 0), (1, .int p0), (2, .int p1), (3, .int p2)] [] I L (some (.int (zb r.1)), r.2.1, r.2.2)
  unfold f_X10_oddsThat at hf
  refine x_aload_n 0 dX10_oddsThat_0 rfl rfl ?_
  refine x_getR dX10_oddsThat_1 lx_0 fl_X10_22 rfl ?_
  refine x_iload_n 3 dX10_oddsThat_4 rfl rfl ?_
  refine x_callVi [.int p2] (c_X0_hasCase (I := I) (L := L) 3 p2 zt_3) dX10_oddsThat_5 lk_X10_250 lx_3 rfl cd_X0_hasCase rfl rfl (Nat.le_of_ble_eq_true rfl) ⟨rfl, rfl, Nat.le_of_ble_eq_true rfl, Nat.le_of_ble_eq_true rfl⟩ ?_
  refine x_if_neB 17 dX10_oddsThat_8 (by decide) (fun hB => ?_) (fun hB => ?_)
  · replace hf := f_if hB hf
    refine x_aload_n 0 dX10_oddsThat_17 rfl rfl ?_
    refine x_iload_n 1 dX10_oddsThat_18 rfl rfl ?_
    refine x_iload_n 2 dX10_oddsThat_19 rfl rfl ?_
    obtain ⟨q1, hq2, hf⟩ := f_bd hf
    refine x_callVi [.int p0, .int p1] (c_X10_hindranceToFit (I := I) (L := L)  hq2) dX10_oddsThat_20 lk_X10_343 lx_0 rfl cd_X10_hindranceToFit rfl rfl (Nat.le_of_ble_eq_true rfl) ⟨rfl, rfl, Nat.le_of_ble_eq_true rfl, Nat.le_of_ble_eq_true rfl⟩ ?_
    refine x_istore [(4, .int q1), (0, .ref 0), (1, .int p0), (2, .int p1), (3, .int p2)] dX10_oddsThat_23 (by decide) rfl ?_
    refine x_iload 0 dX10_oddsThat_25 rfl ?_
    refine x_if_eq 37 dX10_oddsThat_27 (by decide) (fun hB => ?_) (fun hB => ?_)
    · replace hf := f_if hB hf
      refine x_aload_n 1 dX10_oddsThat_37 rfl rfl ?_
      refine x_aload_n 1 dX10_oddsThat_38 rfl rfl ?_
      refine x_getR dX10_oddsThat_39 lx_0 fl_X10_11 rfl ?_
      refine x_iload_n 2 dX10_oddsThat_42 rfl rfl ?_
      obtain ⟨h3, hf⟩ := f_gd hf
      refine x_aald (v := ([55, 57, 59, 61].getD (p0).toNatClampNeg 0)) 3 dX10_oddsThat_43 lx_1 (fun _ => rfl) h3 (zt_gd h3 rfl) ?_
      refine x_iload_n 3 dX10_oddsThat_44 rfl rfl ?_
      obtain ⟨q4, hq5, hf⟩ := f_bd hf
      refine x_callVi [.ref ([55, 57, 59, 61].getD (p0).toNatClampNeg 0), .int p1] (c_X10_fitting (I := I) (L := L) (zt_tr h3) hq5) dX10_oddsThat_45 lk_X10_346 lx_0 rfl cd_X10_fitting rfl rfl (Nat.le_of_ble_eq_true rfl) ⟨rfl, rfl, Nat.le_of_ble_eq_true rfl, Nat.le_of_ble_eq_true rfl⟩ ?_
      refine x_istore [(5, .int q4), (4, .int q1), (0, .ref 0), (1, .int p0), (2, .int p1), (3, .int p2)] dX10_oddsThat_48 (by decide) rfl ?_
      refine x_iload 0 dX10_oddsThat_50 rfl ?_
      refine x_if_ne 62 dX10_oddsThat_52 (by decide) (fun hB => ?_) (fun hB => ?_)
      · replace hf := f_el hB hf
        refine x_aload_n 2 dX10_oddsThat_62 rfl rfl ?_
        refine x_getR dX10_oddsThat_63 lx_0 fl_X10_102 rfl ?_
        refine x_aload_n 2 dX10_oddsThat_66 rfl rfl ?_
        refine x_getR dX10_oddsThat_67 lx_0 fl_X10_22 rfl ?_
        refine x_iload 0 dX10_oddsThat_70 rfl ?_
        refine x_iconst (v := (1)) dX10_oddsThat_72 (by decide) ?_
        refine x_iload_n 5 dX10_oddsThat_73 rfl rfl ?_
        refine x_ishl dX10_oddsThat_74 ?_
        refine x_iand dX10_oddsThat_75 ?_
        obtain ⟨q6, hq7, hf⟩ := f_bd hf
        refine x_callVi [.int (q4 &&& ((1 : Int32) <<< (p2 &&& 31)))] (c_X0_weightOf (I := I) (L := L) zt_3 hq7) dX10_oddsThat_76 lk_X10_353 lx_3 rfl cd_X0_weightOf rfl rfl (Nat.le_of_ble_eq_true rfl) ⟨rfl, rfl, Nat.le_of_ble_eq_true rfl, Nat.le_of_ble_eq_true rfl⟩ ?_
        refine x_i2l dX10_oddsThat_79 ?_
        refine x_aload_n 2 dX10_oddsThat_80 rfl rfl ?_
        refine x_getR dX10_oddsThat_81 lx_0 fl_X10_22 rfl ?_
        refine x_iload 0 dX10_oddsThat_84 rfl ?_
        obtain ⟨q8, hq9, hf⟩ := f_bd hf
        refine x_callVi [.int q4] (c_X0_weightOf (I := I) (L := L) zt_3 hq9) dX10_oddsThat_86 lk_X10_353 lx_3 rfl cd_X0_weightOf rfl rfl (Nat.le_of_ble_eq_true rfl) ⟨rfl, rfl, Nat.le_of_ble_eq_true rfl, Nat.le_of_ble_eq_true rfl⟩ ?_
        refine x_i2l dX10_oddsThat_89 ?_
        obtain ⟨q10, hq11, hf⟩ := f_bd hf
        refine x_callVv [.long (q6.toInt64), .long (q8.toInt64)] (c_X3_tell (I := I) (L := L)  hq11) dX10_oddsThat_90 lk_X10_356 lx_54 rfl cd_X3_tell rfl rfl (Nat.le_of_ble_eq_true rfl) ⟨rfl, rfl, Nat.le_of_ble_eq_true rfl, Nat.le_of_ble_eq_true rfl⟩ ?_
        refine x_aload_n 2 dX10_oddsThat_93 rfl rfl ?_
        refine x_callVi [] (c_X10_grant (I := I) (L := q10) ) dX10_oddsThat_94 lk_X10_139 lx_0 rfl cd_X10_grant rfl rfl (Nat.le_of_ble_eq_true rfl) ⟨rfl, rfl, Nat.le_of_ble_eq_true rfl, Nat.le_of_ble_eq_true rfl⟩ ?_
        cases hf
        exact x_zret dX10_oddsThat_97 rfl rfl
      · replace hf := f_if hB hf
        refine x_aload_n 2 dX10_oddsThat_55 rfl rfl ?_
        refine x_bipush (v := (6)) dX10_oddsThat_56 (by decide) ?_
        refine x_callVi [.int (6 : Int32)] (c_X10_deny (I := I) (L := L) (6 : Int32)) dX10_oddsThat_58 lk_X10_132 lx_0 rfl cd_X10_deny rfl rfl (Nat.le_of_ble_eq_true rfl) ⟨rfl, rfl, Nat.le_of_ble_eq_true rfl, Nat.le_of_ble_eq_true rfl⟩ ?_
        cases hf
        exact x_zret dX10_oddsThat_61 rfl rfl
    · replace hf := f_el hB hf
      refine x_aload_n 1 dX10_oddsThat_30 rfl rfl ?_
      refine x_iload 0 dX10_oddsThat_31 rfl ?_
      refine x_callVi [.int q1] (c_X10_deny (I := I) (L := L) q1) dX10_oddsThat_33 lk_X10_132 lx_0 rfl cd_X10_deny rfl rfl (Nat.le_of_ble_eq_true rfl) ⟨rfl, rfl, Nat.le_of_ble_eq_true rfl, Nat.le_of_ble_eq_true rfl⟩ ?_
      cases hf
      exact x_zret dX10_oddsThat_36 rfl rfl
  · replace hf := f_el hB hf
    refine x_aload_n 0 dX10_oddsThat_11 rfl rfl ?_
    refine x_iconst (v := (1)) dX10_oddsThat_12 (by decide) ?_
    refine x_callVi [.int (1 : Int32)] (c_X10_deny (I := I) (L := L) (1 : Int32)) dX10_oddsThat_13 lk_X10_132 lx_0 rfl cd_X10_deny rfl rfl (Nat.le_of_ble_eq_true rfl) ⟨rfl, rfl, Nat.le_of_ble_eq_true rfl, Nat.le_of_ble_eq_true rfl⟩ ?_
    cases hf
    exact x_zret dX10_oddsThat_16 rfl rfl
set_option maxRecDepth 100000 in
set_option maxHeartbeats 4000000 in
theorem l_X10_bestParting_13   (v1 : Int32) (v2 : Int32) (I : z_I) (L : z_L) {r : Int32}  : ∀ (n : Nat) (v3 : Int32) (v4 : Int32) (v5 : Int32), g_X10_bestParting_13 v1 v2 I  n v3 v4 v5 = some r → z_X layX RX10 cX10_bestParting 8 (some .int) ({ frames := 1, cells := 0, slots := 0, locals := 28 } : Room) 13 [(0, .ref 0), (1, .int v1), (2, .int v2), (3, .int v3), (4, .int v4), (5, .int v5)] [] I L (some (.int r), I, L) := by
  intro n
  induction n with
  | zero => intro v3 v4 v5 hf; cases hf
  | succ n ih =>
    intro v3 v4 v5 hf
    rw [g_X10_bestParting_13] at hf
    refine x_iload 5 dX10_bestParting_13 rfl ?_
    refine x_aload_n 0 dX10_bestParting_15 rfl rfl ?_
    refine x_getR dX10_bestParting_16 lx_0 fl_X10_22 rfl ?_
    refine x_getI (v := (I 3 12)) dX10_bestParting_19 lx_3 fl_X10_196 rfl rfl ?_
    refine x_icmp_ge 73 dX10_bestParting_22 (by decide) (fun hB => ?_) (fun hB => ?_)
    · replace hf := f_if hB hf
      refine x_iload_n 3 dX10_bestParting_73 rfl rfl ?_
      cases hf
      exact x_iret dX10_bestParting_74 rfl rfl
    · replace hf := f_el hB hf
      refine x_iload_n 1 dX10_bestParting_25 rfl rfl ?_
      refine x_aload_n 0 dX10_bestParting_26 rfl rfl ?_
      refine x_getR dX10_bestParting_27 lx_0 fl_X10_22 rfl ?_
      refine x_getR dX10_bestParting_30 lx_3 fl_X10_265 rfl ?_
      refine x_iload 5 dX10_bestParting_33 rfl ?_
      obtain ⟨h1, hf⟩ := f_gd hf
      refine x_iald (j := (v5).toNatClampNeg) (v := (I 9 (v5).toNatClampNeg)) dX10_bestParting_35 lx_9 h1 rfl rfl ?_
      refine x_iand dX10_bestParting_36 ?_
      refine x_callSi [.int (v1 &&& (I 9 (v5).toNatClampNeg))] (c_J6_bitCount_0f7a4 (lay := layX) (I := I) (L := L) (v1 &&& (I 9 (v5).toNatClampNeg))) dX10_bestParting_37 lk_X10_286 cd_J6_bitCount_0f7a4 rfl rfl (Nat.le_of_ble_eq_true rfl) ⟨rfl, rfl, Nat.le_of_ble_eq_true rfl, Nat.le_of_ble_eq_true rfl⟩ ?_
      obtain ⟨w2, hw2, hf⟩ := f_lt hf
      refine x_topI hw2 ?_
      refine x_istore [(6, .int w2), (0, .ref 0), (1, .int v1), (2, .int v2), (3, .int v3), (4, .int v4), (5, .int v5)] dX10_bestParting_40 (by decide) rfl ?_
      refine x_iload 0 dX10_bestParting_42 rfl ?_
      refine x_iload_n 3 dX10_bestParting_44 rfl rfl ?_
      refine x_iload 0 dX10_bestParting_45 rfl ?_
      refine x_isub dX10_bestParting_47 ?_
      refine x_mmax dX10_bestParting_48 lk_X10_406 ⟨Nat.le_of_ble_eq_true rfl, Nat.le_of_ble_eq_true rfl⟩ ?_
      refine x_istore [(7, .int (z_max w2 (v2 - w2))), (6, .int w2), (0, .ref 0), (1, .int v1), (2, .int v2), (3, .int v3), (4, .int v4), (5, .int v5)] dX10_bestParting_51 (by decide) rfl ?_
      refine x_iload 0 dX10_bestParting_53 rfl ?_
      refine x_iload 6 dX10_bestParting_55 rfl ?_
      refine x_icmp_ge 67 dX10_bestParting_57 (by decide) (fun hB => ?_) (fun hB => ?_)
      · replace hf := f_if hB hf
        refine x_iinc 7 [(5, .int (v5 + (1 : Int32))), (7, .int (z_max w2 (v2 - w2))), (6, .int w2), (0, .ref 0), (1, .int v1), (2, .int v2), (3, .int v3), (4, .int v4)] dX10_bestParting_67 rfl rfl (by decide) rfl ?_
        refine x_goto 13 dX10_bestParting_70 (by decide) ?_
        refine x_lv [(0, .ref 0), (1, .int v1), (2, .int v2), (3, .int v3), (4, .int v4), (5, .int (v5 + (1 : Int32)))] [3, 4, 5, 6, 7, 0] rfl ?_
        exact ih _ _ _ hf
      · replace hf := f_el hB hf
        refine x_iload 0 dX10_bestParting_60 rfl ?_
        refine x_istore [(4, .int (z_max w2 (v2 - w2))), (7, .int (z_max w2 (v2 - w2))), (6, .int w2), (0, .ref 0), (1, .int v1), (2, .int v2), (3, .int v3), (5, .int v5)] dX10_bestParting_62 (by decide) rfl ?_
        refine x_iload 7 dX10_bestParting_64 rfl ?_
        refine x_istore_n [(3, .int v5), (4, .int (z_max w2 (v2 - w2))), (7, .int (z_max w2 (v2 - w2))), (6, .int w2), (0, .ref 0), (1, .int v1), (2, .int v2), (5, .int v5)] dX10_bestParting_66 rfl (by decide) rfl ?_
        refine x_iinc 7 [(5, .int (v5 + (1 : Int32))), (3, .int v5), (4, .int (z_max w2 (v2 - w2))), (7, .int (z_max w2 (v2 - w2))), (6, .int w2), (0, .ref 0), (1, .int v1), (2, .int v2)] dX10_bestParting_67 rfl rfl (by decide) rfl ?_
        refine x_goto 13 dX10_bestParting_70 (by decide) ?_
        refine x_lv [(0, .ref 0), (1, .int v1), (2, .int v2), (3, .int v5), (4, .int (z_max w2 (v2 - w2))), (5, .int (v5 + (1 : Int32)))] [5, 6, 7, 1, 2, 0] rfl ?_
        exact ih _ _ _ hf
set_option maxRecDepth 100000 in
set_option maxHeartbeats 4000000 in
theorem c_X10_bestParting {I : z_I} {L : z_L} {p0 : Int32}  {r : Int32} (hf : f_X10_bestParting I p0 = some r) : z_C layX yX10_bestParting cX10_bestParting 8 (some .int) ({ frames := 1, cells := 0, slots := 0, locals := 28 } : Room) [.ref 0, .int p0] I L (some (.int r), I, L) := by
  refine z_C.of (by decide) (Nat.le_of_ble_eq_true rfl) ?_
  show z_X layX RX10 cX10_bestParting 8 (some .int) ({ frames := 1, cells := 0, slots := 0, locals := 28 } : Room) 0 [(0, .ref 0), (1, .int p0)] [] I L (some (.int r), I, L)
  unfold f_X10_bestParting at hf
  refine x_iload_n 1 dX10_bestParting_0 rfl rfl ?_
  refine x_callSi [.int p0] (c_J6_bitCount_0f7a4 (lay := layX) (I := I) (L := L) p0) dX10_bestParting_1 lk_X10_286 cd_J6_bitCount_0f7a4 rfl rfl (Nat.le_of_ble_eq_true rfl) ⟨rfl, rfl, Nat.le_of_ble_eq_true rfl, Nat.le_of_ble_eq_true rfl⟩ ?_
  refine x_istore_n [(2, .int (f_J6_bitCount_0f7a4 p0)), (0, .ref 0), (1, .int p0)] dX10_bestParting_4 rfl (by decide) rfl ?_
  refine x_iconst (v := (-1)) dX10_bestParting_5 (by decide) ?_
  refine x_istore_n [(3, .int (-1 : Int32)), (2, .int (f_J6_bitCount_0f7a4 p0)), (0, .ref 0), (1, .int p0)] dX10_bestParting_6 rfl (by decide) rfl ?_
  refine x_iload_n 1 dX10_bestParting_7 rfl rfl ?_
  refine x_istore [(4, .int (f_J6_bitCount_0f7a4 p0)), (3, .int (-1 : Int32)), (2, .int (f_J6_bitCount_0f7a4 p0)), (0, .ref 0), (1, .int p0)] dX10_bestParting_8 (by decide) rfl ?_
  refine x_iconst (v := (0)) dX10_bestParting_10 (by decide) ?_
  refine x_istore [(5, .int (0 : Int32)), (4, .int (f_J6_bitCount_0f7a4 p0)), (3, .int (-1 : Int32)), (2, .int (f_J6_bitCount_0f7a4 p0)), (0, .ref 0), (1, .int p0)] dX10_bestParting_11 (by decide) rfl ?_
  refine x_lv [(0, .ref 0), (1, .int p0), (2, .int (f_J6_bitCount_0f7a4 p0)), (3, .int (-1 : Int32)), (4, .int (f_J6_bitCount_0f7a4 p0)), (5, .int (0 : Int32))] [4, 5, 3, 2, 1, 0] rfl ?_
  refine l_X10_bestParting_13 p0 (f_J6_bitCount_0f7a4 p0) (I) (L)   _ _ _ _ hf
set_option maxRecDepth 100000 in
set_option maxHeartbeats 4000000 in
theorem c_X10_next {I : z_I} {L : z_L} {p0 : Int32} {p1 : Int32}  {r : Int32 × z_I} (hf : f_X10_next I L p0 p1 = some r) : z_C layX yX10_next cX10_next 4 (some .int) ({ frames := 3, cells := 0, slots := 0, locals := 70 } : Room) [.ref 0, .int p0, .int p1] I L (some (.int r.1), r.2, L) := by
  refine z_C.of (by decide) (Nat.le_of_ble_eq_true rfl) ?_
  show z_X layX RX10 cX10_next 4 (some .int) ({ frames := 3, cells := 0, slots := 0, locals := 70 } : Room) 0 [(0, .ref 0), (1, .int p0), (2, .int p1)] [] I L (some (.int r.1), r.2, L)
  unfold f_X10_next at hf
  refine x_aload_n 0 dX10_next_0 rfl rfl ?_
  refine x_iload_n 1 dX10_next_1 rfl rfl ?_
  refine x_iload_n 2 dX10_next_2 rfl rfl ?_
  obtain ⟨q1, hq2, hf⟩ := f_bd hf
  refine x_callVi [.int p0, .int p1] (c_X10_hindranceToFit (I := I) (L := L)  hq2) dX10_next_3 lk_X10_343 lx_0 rfl cd_X10_hindranceToFit rfl rfl (Nat.le_of_ble_eq_true rfl) ⟨rfl, rfl, Nat.le_of_ble_eq_true rfl, Nat.le_of_ble_eq_true rfl⟩ ?_
  refine x_istore_n [(3, .int q1), (0, .ref 0), (1, .int p0), (2, .int p1)] dX10_next_6 rfl (by decide) rfl ?_
  refine x_iload_n 0 dX10_next_7 rfl rfl ?_
  refine x_if_eq 17 dX10_next_8 (by decide) (fun hB => ?_) (fun hB => ?_)
  · replace hf := f_if hB hf
    refine x_aload_n 1 dX10_next_17 rfl rfl ?_
    refine x_aload_n 1 dX10_next_18 rfl rfl ?_
    refine x_aload_n 1 dX10_next_19 rfl rfl ?_
    refine x_aload_n 1 dX10_next_20 rfl rfl ?_
    refine x_getR dX10_next_21 lx_0 fl_X10_11 rfl ?_
    refine x_iload_n 2 dX10_next_24 rfl rfl ?_
    obtain ⟨h3, hf⟩ := f_gd hf
    refine x_aald (v := ([55, 57, 59, 61].getD (p0).toNatClampNeg 0)) 3 dX10_next_25 lx_1 (fun _ => rfl) h3 (zt_gd h3 rfl) ?_
    refine x_iload_n 3 dX10_next_26 rfl rfl ?_
    obtain ⟨q4, hq5, hf⟩ := f_bd hf
    refine x_callVi [.ref ([55, 57, 59, 61].getD (p0).toNatClampNeg 0), .int p1] (c_X10_fitting (I := I) (L := L) (zt_tr h3) hq5) dX10_next_27 lk_X10_346 lx_0 rfl cd_X10_fitting rfl rfl (Nat.le_of_ble_eq_true rfl) ⟨rfl, rfl, Nat.le_of_ble_eq_true rfl, Nat.le_of_ble_eq_true rfl⟩ ?_
    obtain ⟨q6, hq7, hf⟩ := f_bd hf
    refine x_callVi [.int q4] (c_X10_bestParting (I := I) (L := L)  hq7) dX10_next_30 lk_X10_360 lx_0 rfl cd_X10_bestParting rfl rfl (Nat.le_of_ble_eq_true rfl) ⟨rfl, rfl, Nat.le_of_ble_eq_true rfl, Nat.le_of_ble_eq_true rfl⟩ ?_
    refine x_callVi [.int q6] (c_X10_giveIfAny (I := I) (L := L) q6) dX10_next_33 lk_X10_324 lx_0 rfl cd_X10_giveIfAny rfl rfl (Nat.le_of_ble_eq_true rfl) ⟨rfl, rfl, Nat.le_of_ble_eq_true rfl, Nat.le_of_ble_eq_true rfl⟩ ?_
    cases hf
    exact x_iret dX10_next_36 rfl rfl
  · replace hf := f_el hB hf
    refine x_aload_n 1 dX10_next_11 rfl rfl ?_
    refine x_iload_n 0 dX10_next_12 rfl rfl ?_
    refine x_callVi [.int q1] (c_X10_refuse (I := I) (L := L) q1) dX10_next_13 lk_X10_151 lx_0 rfl cd_X10_refuse rfl rfl (Nat.le_of_ble_eq_true rfl) ⟨rfl, rfl, Nat.le_of_ble_eq_true rfl, Nat.le_of_ble_eq_true rfl⟩ ?_
    cases hf
    exact x_iret dX10_next_16 rfl rfl
set_option maxRecDepth 100000 in
set_option maxHeartbeats 4000000 in
theorem c_X10_gather {I : z_I} {L : z_L} {p0 : Int32} {p1 : Int32}  {r : Int32 × z_I} (hf : f_X10_gather I p0 p1 = some r) : z_C layX yX10_gather cX10_gather 3 (some .int) ({ frames := 2, cells := 0, slots := 0, locals := 55 } : Room) [.ref 0, .int p0, .int p1] I L (some (.int r.1), r.2, L) := by
  refine z_C.of (by decide) (Nat.le_of_ble_eq_true rfl) ?_
  show z_X layX RX10 cX10_gather 3 (some .int) ({ frames := 2, cells := 0, slots := 0, locals := 55 } : Room) 0 [(0, .ref 0), (1, .int p0), (2, .int p1)] [] I L (some (.int r.1), r.2, L)
  unfold f_X10_gather at hf
  refine x_aload_n 0 dX10_gather_0 rfl rfl ?_
  refine x_getR dX10_gather_1 lx_0 fl_X10_22 rfl ?_
  refine x_iload_n 1 dX10_gather_4 rfl rfl ?_
  refine x_callVi [.int p0] (c_X0_hasScholar (I := I) (L := L) 3 p0 zt_3) dX10_gather_5 lk_X10_271 lx_3 rfl cd_X0_hasScholar rfl rfl (Nat.le_of_ble_eq_true rfl) ⟨rfl, rfl, Nat.le_of_ble_eq_true rfl, Nat.le_of_ble_eq_true rfl⟩ ?_
  refine x_if_eqB 21 dX10_gather_8 (by decide) (fun hB => ?_) (fun hB => ?_)
  · replace hf := f_el hB hf
    refine x_aload_n 0 dX10_gather_21 rfl rfl ?_
    refine x_iconst (v := (1)) dX10_gather_22 (by decide) ?_
    refine x_callVi [.int (1 : Int32)] (c_X10_refuse (I := I) (L := L) (1 : Int32)) dX10_gather_23 lk_X10_151 lx_0 rfl cd_X10_refuse rfl rfl (Nat.le_of_ble_eq_true rfl) ⟨rfl, rfl, Nat.le_of_ble_eq_true rfl, Nat.le_of_ble_eq_true rfl⟩ ?_
    cases hf
    exact x_iret dX10_gather_26 rfl rfl
  · replace hf := f_if hB hf
    refine x_iload_n 2 dX10_gather_11 rfl rfl ?_
    refine x_iconst (v := (0)) dX10_gather_12 (by decide) ?_
    refine x_bipush (v := (12)) dX10_gather_13 (by decide) ?_
    refine x_callSi [.int p1, .int (0 : Int32), .int (12 : Int32)] (c_X10_isWithin (I := I) (L := L) p1 (0 : Int32) (12 : Int32)) dX10_gather_15 lk_X10_128 cd_X10_isWithin rfl rfl (Nat.le_of_ble_eq_true rfl) ⟨rfl, rfl, Nat.le_of_ble_eq_true rfl, Nat.le_of_ble_eq_true rfl⟩ ?_
    refine x_if_neB 27 dX10_gather_18 (by decide) (fun hB => ?_) (fun hB => ?_)
    · replace hf := f_if hB hf
      refine x_aload_n 0 dX10_gather_27 rfl rfl ?_
      refine x_aload_n 0 dX10_gather_28 rfl rfl ?_
      refine x_getR dX10_gather_29 lx_0 fl_X10_22 rfl ?_
      refine x_aload_n 0 dX10_gather_32 rfl rfl ?_
      refine x_getR dX10_gather_33 lx_0 fl_X10_22 rfl ?_
      refine x_getR dX10_gather_36 lx_3 fl_X10_274 rfl ?_
      refine x_iload_n 1 dX10_gather_39 rfl rfl ?_
      obtain ⟨h1, hf⟩ := f_gd hf
      refine x_iald (j := (p0).toNatClampNeg) (v := (I 11 (p0).toNatClampNeg)) dX10_gather_40 lx_11 h1 rfl rfl ?_
      refine x_iload_n 2 dX10_gather_41 rfl rfl ?_
      obtain ⟨q2, hq3, hf⟩ := f_bd hf
      refine x_callVi [.int (I 11 (p0).toNatClampNeg), .int p1] (c_X0_reapedWithin (I := I) (L := L) zt_3 hq3) dX10_gather_42 lk_X10_363 lx_3 rfl cd_X0_reapedWithin rfl rfl (Nat.le_of_ble_eq_true rfl) ⟨rfl, rfl, Nat.le_of_ble_eq_true rfl, Nat.le_of_ble_eq_true rfl⟩ ?_
      refine x_callVi [.int q2] (c_X10_give (I := I) (L := L) q2) dX10_gather_45 lk_X10_199 lx_0 rfl cd_X10_give rfl rfl (Nat.le_of_ble_eq_true rfl) ⟨rfl, rfl, Nat.le_of_ble_eq_true rfl, Nat.le_of_ble_eq_true rfl⟩ ?_
      cases hf
      exact x_iret dX10_gather_48 rfl rfl
    · replace hf := f_el hB hf
      refine x_aload_n 0 dX10_gather_21 rfl rfl ?_
      refine x_iconst (v := (1)) dX10_gather_22 (by decide) ?_
      refine x_callVi [.int (1 : Int32)] (c_X10_refuse (I := I) (L := L) (1 : Int32)) dX10_gather_23 lk_X10_151 lx_0 rfl cd_X10_refuse rfl rfl (Nat.le_of_ble_eq_true rfl) ⟨rfl, rfl, Nat.le_of_ble_eq_true rfl, Nat.le_of_ble_eq_true rfl⟩ ?_
      cases hf
      exact x_iret dX10_gather_26 rfl rfl
set_option maxRecDepth 100000 in
set_option maxHeartbeats 4000000 in
theorem l_X10_brisk_51   (v2 : Int32) (v3 : Int32) (v4 : Int32) (I : z_I) (L : z_L) {r : Int32 × z_I}  : ∀ (n : Nat) (v5 : Int32), g_X10_brisk_51 v2 v3 v4 I  n v5 = some r → z_X layX RX10 cX10_brisk 6 (some .int) ({ frames := 2, cells := 0, slots := 0, locals := 55 } : Room) 51 [(0, .ref 0), (2, .int v2), (3, .int v3), (4, .int v4), (5, .int v5)] [] I L (some (.int r.1), r.2, L) := by
  intro n
  induction n with
  | zero => intro v5 hf; cases hf
  | succ n ih =>
    intro v5 hf
    rw [g_X10_brisk_51] at hf
    refine x_iload 4 dX10_brisk_51 rfl ?_
    refine x_iload_n 1 dX10_brisk_53 rfl rfl ?_
    refine x_icmp_ge 78 dX10_brisk_54 (by decide) (fun hB => ?_) (fun hB => ?_)
    · replace hf := f_if hB hf
      refine x_aload_n 0 dX10_brisk_78 rfl rfl ?_
      refine x_iload 4 dX10_brisk_79 rfl ?_
      refine x_callVi [.int v5] (c_X10_give (I := I) (L := L) v5) dX10_brisk_81 lk_X10_199 lx_0 rfl cd_X10_give rfl rfl (Nat.le_of_ble_eq_true rfl) ⟨rfl, rfl, Nat.le_of_ble_eq_true rfl, Nat.le_of_ble_eq_true rfl⟩ ?_
      cases hf
      exact x_iret dX10_brisk_84 rfl rfl
    · replace hf := f_el hB hf
      refine x_aload_n 0 dX10_brisk_57 rfl rfl ?_
      refine x_getR dX10_brisk_58 lx_0 fl_X10_22 rfl ?_
      refine x_iload_n 2 dX10_brisk_61 rfl rfl ?_
      refine x_iload 4 dX10_brisk_62 rfl ?_
      obtain ⟨q4, hq5, hf⟩ := f_bd hf
      refine x_callVi [.int v3, .int v5] (c_X0_reapedWithin (I := I) (L := L) zt_3 hq5) dX10_brisk_64 lk_X10_363 lx_3 rfl cd_X0_reapedWithin rfl rfl (Nat.le_of_ble_eq_true rfl) ⟨rfl, rfl, Nat.le_of_ble_eq_true rfl, Nat.le_of_ble_eq_true rfl⟩ ?_
      refine x_iload 3 dX10_brisk_67 rfl ?_
      refine x_icmp_ge 78 dX10_brisk_69 (by decide) (fun hB => ?_) (fun hB => ?_)
      · replace hf := f_if hB hf
        refine x_aload_n 0 dX10_brisk_78 rfl rfl ?_
        refine x_iload 4 dX10_brisk_79 rfl ?_
        refine x_callVi [.int v5] (c_X10_give (I := I) (L := L) v5) dX10_brisk_81 lk_X10_199 lx_0 rfl cd_X10_give rfl rfl (Nat.le_of_ble_eq_true rfl) ⟨rfl, rfl, Nat.le_of_ble_eq_true rfl, Nat.le_of_ble_eq_true rfl⟩ ?_
        cases hf
        exact x_iret dX10_brisk_84 rfl rfl
      · replace hf := f_el hB hf
        refine x_iinc 4 [(5, .int (v5 + (1 : Int32))), (0, .ref 0), (2, .int v2), (3, .int v3), (4, .int v4)] dX10_brisk_72 rfl rfl (by decide) rfl ?_
        refine x_goto 51 dX10_brisk_75 (by decide) ?_
        refine x_lv [(0, .ref 0), (2, .int v2), (3, .int v3), (4, .int v4), (5, .int (v5 + (1 : Int32)))] [1, 2, 3, 4, 0] rfl ?_
        exact ih _ hf
set_option maxRecDepth 100000 in
set_option maxHeartbeats 4000000 in
theorem c_X10_brisk {I : z_I} {L : z_L} {p0 : Int32} {p1 : Int32}  {r : Int32 × z_I} (hf : f_X10_brisk I p0 p1 = some r) : z_C layX yX10_brisk cX10_brisk 6 (some .int) ({ frames := 2, cells := 0, slots := 0, locals := 55 } : Room) [.ref 0, .int p0, .int p1] I L (some (.int r.1), r.2, L) := by
  refine z_C.of (by decide) (Nat.le_of_ble_eq_true rfl) ?_
  show z_X layX RX10 cX10_brisk 6 (some .int) ({ frames := 2, cells := 0, slots := 0, locals := 55 } : Room) 0 [(0, .ref 0), (1, .int p0), (2, .int p1)] [] I L (some (.int r.1), r.2, L)
  unfold f_X10_brisk at hf
  refine x_aload_n 0 dX10_brisk_0 rfl rfl ?_
  refine x_getR dX10_brisk_1 lx_0 fl_X10_22 rfl ?_
  refine x_iload_n 1 dX10_brisk_4 rfl rfl ?_
  refine x_callVi [.int p0] (c_X0_hasScholar (I := I) (L := L) 3 p0 zt_3) dX10_brisk_5 lk_X10_271 lx_3 rfl cd_X0_hasScholar rfl rfl (Nat.le_of_ble_eq_true rfl) ⟨rfl, rfl, Nat.le_of_ble_eq_true rfl, Nat.le_of_ble_eq_true rfl⟩ ?_
  refine x_if_eqB 21 dX10_brisk_8 (by decide) (fun hB => ?_) (fun hB => ?_)
  · replace hf := f_el hB hf
    refine x_aload_n 0 dX10_brisk_21 rfl rfl ?_
    refine x_iconst (v := (1)) dX10_brisk_22 (by decide) ?_
    refine x_callVi [.int (1 : Int32)] (c_X10_refuse (I := I) (L := L) (1 : Int32)) dX10_brisk_23 lk_X10_151 lx_0 rfl cd_X10_refuse rfl rfl (Nat.le_of_ble_eq_true rfl) ⟨rfl, rfl, Nat.le_of_ble_eq_true rfl, Nat.le_of_ble_eq_true rfl⟩ ?_
    cases hf
    exact x_iret dX10_brisk_26 rfl rfl
  · replace hf := f_if hB hf
    refine x_iload_n 2 dX10_brisk_11 rfl rfl ?_
    refine x_iconst (v := (0)) dX10_brisk_12 (by decide) ?_
    refine x_bipush (v := (12)) dX10_brisk_13 (by decide) ?_
    refine x_callSi [.int p1, .int (0 : Int32), .int (12 : Int32)] (c_X10_isWithin (I := I) (L := L) p1 (0 : Int32) (12 : Int32)) dX10_brisk_15 lk_X10_128 cd_X10_isWithin rfl rfl (Nat.le_of_ble_eq_true rfl) ⟨rfl, rfl, Nat.le_of_ble_eq_true rfl, Nat.le_of_ble_eq_true rfl⟩ ?_
    refine x_if_neB 27 dX10_brisk_18 (by decide) (fun hB => ?_) (fun hB => ?_)
    · replace hf := f_if hB hf
      refine x_aload_n 0 dX10_brisk_27 rfl rfl ?_
      refine x_getR dX10_brisk_28 lx_0 fl_X10_22 rfl ?_
      refine x_getR dX10_brisk_31 lx_3 fl_X10_274 rfl ?_
      refine x_iload_n 1 dX10_brisk_34 rfl rfl ?_
      obtain ⟨h1, hf⟩ := f_gd hf
      refine x_iald (j := (p0).toNatClampNeg) (v := (I 11 (p0).toNatClampNeg)) dX10_brisk_35 lx_11 h1 rfl rfl ?_
      refine x_istore_n [(3, .int (I 11 (p0).toNatClampNeg)), (0, .ref 0), (1, .int p0), (2, .int p1)] dX10_brisk_36 rfl (by decide) rfl ?_
      refine x_aload_n 1 dX10_brisk_37 rfl rfl ?_
      refine x_getR dX10_brisk_38 lx_0 fl_X10_22 rfl ?_
      refine x_iload_n 0 dX10_brisk_41 rfl rfl ?_
      refine x_iload_n 3 dX10_brisk_42 rfl rfl ?_
      obtain ⟨q2, hq3, hf⟩ := f_bd hf
      refine x_callVi [.int (I 11 (p0).toNatClampNeg), .int p1] (c_X0_reapedWithin (I := I) (L := L) zt_3 hq3) dX10_brisk_43 lk_X10_363 lx_3 rfl cd_X0_reapedWithin rfl rfl (Nat.le_of_ble_eq_true rfl) ⟨rfl, rfl, Nat.le_of_ble_eq_true rfl, Nat.le_of_ble_eq_true rfl⟩ ?_
      refine x_istore [(4, .int q2), (3, .int (I 11 (p0).toNatClampNeg)), (0, .ref 0), (1, .int p0), (2, .int p1)] dX10_brisk_46 (by decide) rfl ?_
      refine x_iconst (v := (0)) dX10_brisk_48 (by decide) ?_
      refine x_istore [(5, .int (0 : Int32)), (4, .int q2), (3, .int (I 11 (p0).toNatClampNeg)), (0, .ref 0), (1, .int p0), (2, .int p1)] dX10_brisk_49 (by decide) rfl ?_
      refine x_lv [(0, .ref 0), (2, .int p1), (3, .int (I 11 (p0).toNatClampNeg)), (4, .int q2), (5, .int (0 : Int32))] [3, 5, 2, 1, 0] rfl ?_
      refine l_X10_brisk_51 p1 (I 11 (p0).toNatClampNeg) q2 (I) (L)   _ _ hf
    · replace hf := f_el hB hf
      refine x_aload_n 0 dX10_brisk_21 rfl rfl ?_
      refine x_iconst (v := (1)) dX10_brisk_22 (by decide) ?_
      refine x_callVi [.int (1 : Int32)] (c_X10_refuse (I := I) (L := L) (1 : Int32)) dX10_brisk_23 lk_X10_151 lx_0 rfl cd_X10_refuse rfl rfl (Nat.le_of_ble_eq_true rfl) ⟨rfl, rfl, Nat.le_of_ble_eq_true rfl, Nat.le_of_ble_eq_true rfl⟩ ?_
      cases hf
      exact x_iret dX10_brisk_26 rfl rfl
set_option maxRecDepth 100000 in
set_option maxHeartbeats 4000000 in
theorem c_X10_game {I : z_I} {L : z_L} {p0 : Int32}  {r : Int32 × z_I} (hf : f_X10_game I p0 = some r) : z_C layX yX10_game cX10_game 2 (some .int) ({ frames := 4, cells := 0, slots := 0, locals := 102 } : Room) [.ref 0, .int p0] I L (some (.int r.1), r.2, L) := by
  refine z_C.of (by decide) (Nat.le_of_ble_eq_true rfl) ?_
  show z_X layX RX10 cX10_game 2 (some .int) ({ frames := 4, cells := 0, slots := 0, locals := 102 } : Room) 0 [(0, .ref 0), (1, .int p0)] [] I L (some (.int r.1), r.2, L)
  unfold f_X10_game at hf
  refine x_iload_n 1 dX10_game_0 rfl rfl ?_
  refine x_iconst (v := (0)) dX10_game_1 (by decide) ?_
  refine x_iconst (v := (4)) dX10_game_2 (by decide) ?_
  refine x_callSi [.int p0, .int (0 : Int32), .int (4 : Int32)] (c_X10_isWithin (I := I) (L := L) p0 (0 : Int32) (4 : Int32)) dX10_game_3 lk_X10_128 cd_X10_isWithin rfl rfl (Nat.le_of_ble_eq_true rfl) ⟨rfl, rfl, Nat.le_of_ble_eq_true rfl, Nat.le_of_ble_eq_true rfl⟩ ?_
  refine x_if_neB 15 dX10_game_6 (by decide) (fun hB => ?_) (fun hB => ?_)
  · replace hf := f_if hB hf
    refine x_aload_n 0 dX10_game_15 rfl rfl ?_
    refine x_getR dX10_game_16 lx_0 fl_X10_95 rfl ?_
    refine x_iload_n 1 dX10_game_19 rfl rfl ?_
    obtain ⟨q1, hq2, hf⟩ := f_bd hf
    refine x_callVv [.int p0] (c_X2_lookByTurns (I := I) (L := L)  hq2) dX10_game_20 lk_X10_366 lx_51 rfl cd_X2_lookByTurns rfl rfl (Nat.le_of_ble_eq_true rfl) ⟨rfl, rfl, Nat.le_of_ble_eq_true rfl, Nat.le_of_ble_eq_true rfl⟩ ?_
    refine x_aload_n 0 dX10_game_23 rfl rfl ?_
    refine x_aload_n 0 dX10_game_24 rfl rfl ?_
    refine x_getR dX10_game_25 lx_0 fl_X10_95 rfl ?_
    refine x_iload_n 1 dX10_game_28 rfl rfl ?_
    obtain ⟨q3, hq4, hf⟩ := f_bd hf
    refine x_callVi [.int p0] (c_X2_bestBy (I := q1) (L := L)  hq4) dX10_game_29 lk_X10_318 lx_51 rfl cd_X2_bestBy rfl rfl (Nat.le_of_ble_eq_true rfl) ⟨rfl, rfl, Nat.le_of_ble_eq_true rfl, Nat.le_of_ble_eq_true rfl⟩ ?_
    refine x_callVi [.int q3] (c_X10_give (I := q1) (L := L) q3) dX10_game_32 lk_X10_199 lx_0 rfl cd_X10_give rfl rfl (Nat.le_of_ble_eq_true rfl) ⟨rfl, rfl, Nat.le_of_ble_eq_true rfl, Nat.le_of_ble_eq_true rfl⟩ ?_
    cases hf
    exact x_iret dX10_game_35 rfl rfl
  · replace hf := f_el hB hf
    refine x_aload_n 0 dX10_game_9 rfl rfl ?_
    refine x_iconst (v := (1)) dX10_game_10 (by decide) ?_
    refine x_callVi [.int (1 : Int32)] (c_X10_refuse (I := I) (L := L) (1 : Int32)) dX10_game_11 lk_X10_151 lx_0 rfl cd_X10_refuse rfl rfl (Nat.le_of_ble_eq_true rfl) ⟨rfl, rfl, Nat.le_of_ble_eq_true rfl, Nat.le_of_ble_eq_true rfl⟩ ?_
    cases hf
    exact x_iret dX10_game_14 rfl rfl
set_option maxRecDepth 100000 in
set_option maxHeartbeats 4000000 in
theorem c_X10_moveOf {I : z_I} {L : z_L} {p0 : Int32}  {r : Int32 × z_I} (hf : f_X10_moveOf I p0 = some r) : z_C layX yX10_moveOf cX10_moveOf 2 (some .int) ({ frames := 4, cells := 0, slots := 0, locals := 102 } : Room) [.ref 0, .int p0] I L (some (.int r.1), r.2, L) := by
  refine z_C.of (by decide) (Nat.le_of_ble_eq_true rfl) ?_
  show z_X layX RX10 cX10_moveOf 2 (some .int) ({ frames := 4, cells := 0, slots := 0, locals := 102 } : Room) 0 [(0, .ref 0), (1, .int p0)] [] I L (some (.int r.1), r.2, L)
  unfold f_X10_moveOf at hf
  refine x_iload_n 1 dX10_moveOf_0 rfl rfl ?_
  refine x_iconst (v := (1)) dX10_moveOf_1 (by decide) ?_
  refine x_iconst (v := (4)) dX10_moveOf_2 (by decide) ?_
  refine x_callSi [.int p0, .int (1 : Int32), .int (4 : Int32)] (c_X10_isWithin (I := I) (L := L) p0 (1 : Int32) (4 : Int32)) dX10_moveOf_3 lk_X10_128 cd_X10_isWithin rfl rfl (Nat.le_of_ble_eq_true rfl) ⟨rfl, rfl, Nat.le_of_ble_eq_true rfl, Nat.le_of_ble_eq_true rfl⟩ ?_
  refine x_if_neB 15 dX10_moveOf_6 (by decide) (fun hB => ?_) (fun hB => ?_)
  · replace hf := f_if hB hf
    refine x_aload_n 0 dX10_moveOf_15 rfl rfl ?_
    refine x_getR dX10_moveOf_16 lx_0 fl_X10_95 rfl ?_
    refine x_iload_n 1 dX10_moveOf_19 rfl rfl ?_
    obtain ⟨q1, hq2, hf⟩ := f_bd hf
    refine x_callVv [.int p0] (c_X2_lookByTurns (I := I) (L := L)  hq2) dX10_moveOf_20 lk_X10_366 lx_51 rfl cd_X2_lookByTurns rfl rfl (Nat.le_of_ble_eq_true rfl) ⟨rfl, rfl, Nat.le_of_ble_eq_true rfl, Nat.le_of_ble_eq_true rfl⟩ ?_
    refine x_aload_n 0 dX10_moveOf_23 rfl rfl ?_
    refine x_aload_n 0 dX10_moveOf_24 rfl rfl ?_
    refine x_getR dX10_moveOf_25 lx_0 fl_X10_95 rfl ?_
    refine x_iload_n 1 dX10_moveOf_28 rfl rfl ?_
    obtain ⟨q3, hq4, hf⟩ := f_bd hf
    refine x_callVi [.int p0] (c_X2_openingOf (I := q1) (L := L)  hq4) dX10_moveOf_29 lk_X10_369 lx_51 rfl cd_X2_openingOf rfl rfl (Nat.le_of_ble_eq_true rfl) ⟨rfl, rfl, Nat.le_of_ble_eq_true rfl, Nat.le_of_ble_eq_true rfl⟩ ?_
    refine x_callVi [.int q3] (c_X10_giveIfAny (I := q1) (L := L) q3) dX10_moveOf_32 lk_X10_324 lx_0 rfl cd_X10_giveIfAny rfl rfl (Nat.le_of_ble_eq_true rfl) ⟨rfl, rfl, Nat.le_of_ble_eq_true rfl, Nat.le_of_ble_eq_true rfl⟩ ?_
    cases hf
    exact x_iret dX10_moveOf_35 rfl rfl
  · replace hf := f_el hB hf
    refine x_aload_n 0 dX10_moveOf_9 rfl rfl ?_
    refine x_iconst (v := (1)) dX10_moveOf_10 (by decide) ?_
    refine x_callVi [.int (1 : Int32)] (c_X10_refuse (I := I) (L := L) (1 : Int32)) dX10_moveOf_11 lk_X10_151 lx_0 rfl cd_X10_refuse rfl rfl (Nat.le_of_ble_eq_true rfl) ⟨rfl, rfl, Nat.le_of_ble_eq_true rfl, Nat.le_of_ble_eq_true rfl⟩ ?_
    cases hf
    exact x_iret dX10_moveOf_14 rfl rfl
set_option maxRecDepth 100000 in
set_option maxHeartbeats 4000000 in
theorem l_X10_waysToTake_5   (v0 : Int32) (v1 : Int32) (I : z_I) (L : z_L) {r : Int64}  : ∀ (n : Nat) (v2 : Int64) (v4 : Int32), g_X10_waysToTake_5 v0 v1  n v2 v4 = some r → z_X layX RX10 cX10_waysToTake 5 (some .long) ({ frames := 0, cells := 0, slots := 0, locals := 0 } : Room) 5 [(0, .int v0), (1, .int v1), (2, .long v2), (4, .int v4)] [] I L (some (.long r), I, L) := by
  intro n
  induction n with
  | zero => intro v2 v4 hf; cases hf
  | succ n ih =>
    intro v2 v4 hf
    rw [g_X10_waysToTake_5] at hf
    refine x_iload 3 dX10_waysToTake_5 rfl ?_
    refine x_iload_n 1 dX10_waysToTake_7 rfl rfl ?_
    refine x_icmp_ge 31 dX10_waysToTake_8 (by decide) (fun hB => ?_) (fun hB => ?_)
    · replace hf := f_if hB hf
      refine x_lload_n 2 dX10_waysToTake_31 rfl rfl ?_
      cases hf
      exact x_lret dX10_waysToTake_32 rfl rfl
    · replace hf := f_el hB hf
      refine x_lload_n 2 dX10_waysToTake_11 rfl rfl ?_
      refine x_iload_n 0 dX10_waysToTake_12 rfl rfl ?_
      refine x_iload 3 dX10_waysToTake_13 rfl ?_
      refine x_isub dX10_waysToTake_15 ?_
      refine x_i2l dX10_waysToTake_16 ?_
      refine x_lmul dX10_waysToTake_17 ?_
      refine x_iload 3 dX10_waysToTake_18 rfl ?_
      refine x_iconst (v := (1)) dX10_waysToTake_20 (by decide) ?_
      refine x_iadd dX10_waysToTake_21 ?_
      refine x_i2l dX10_waysToTake_22 ?_
      obtain ⟨h1, hf⟩ := f_gd hf
      refine x_ldiv dX10_waysToTake_23 h1 ?_
      obtain ⟨w2, hw2, hf⟩ := f_lt hf
      refine x_topL hw2 ?_
      refine x_lstore_n [(2, .long w2), (0, .int v0), (1, .int v1), (4, .int v4)] dX10_waysToTake_24 rfl (by decide) rfl ?_
      refine x_iinc 3 [(4, .int (v4 + (1 : Int32))), (2, .long w2), (0, .int v0), (1, .int v1)] dX10_waysToTake_25 rfl rfl (by decide) rfl ?_
      refine x_goto 5 dX10_waysToTake_28 (by decide) ?_
      refine x_lv [(0, .int v0), (1, .int v1), (2, .long w2), (4, .int (v4 + (1 : Int32)))] [2, 3, 1, 0] rfl ?_
      exact ih _ _ hf
set_option maxRecDepth 100000 in
set_option maxHeartbeats 4000000 in
theorem c_X10_waysToTake {I : z_I} {L : z_L} {p0 : Int32} {p1 : Int32}  {r : Int64} (hf : f_X10_waysToTake p0 p1 = some r) : z_C layX yX10_waysToTake cX10_waysToTake 5 (some .long) ({ frames := 0, cells := 0, slots := 0, locals := 0 } : Room) [.int p0, .int p1] I L (some (.long r), I, L) := by
  refine z_C.of (by decide) (Nat.le_of_ble_eq_true rfl) ?_
  show z_X layX RX10 cX10_waysToTake 5 (some .long) ({ frames := 0, cells := 0, slots := 0, locals := 0 } : Room) 0 [(0, .int p0), (1, .int p1)] [] I L (some (.long r), I, L)
  unfold f_X10_waysToTake at hf
  refine x_lconst (v := (1)) dX10_waysToTake_0 (by decide) ?_
  refine x_lstore_n [(2, .long (1 : Int64)), (0, .int p0), (1, .int p1)] dX10_waysToTake_1 rfl (by decide) rfl ?_
  refine x_iconst (v := (0)) dX10_waysToTake_2 (by decide) ?_
  refine x_istore [(4, .int (0 : Int32)), (2, .long (1 : Int64)), (0, .int p0), (1, .int p1)] dX10_waysToTake_3 (by decide) rfl ?_
  refine x_lv [(0, .int p0), (1, .int p1), (2, .long (1 : Int64)), (4, .int (0 : Int32))] [2, 3, 1, 0] rfl ?_
  refine l_X10_waysToTake_5 p0 p1 (I) (L)   _ _ _ hf
set_option maxRecDepth 100000 in
set_option maxHeartbeats 4000000 in
theorem l_X10_blind_79   (v2 : Int32) (v4 : Int32) (v5 : Int32) (I : z_I) (L : z_L) {r : Bool × z_I × z_L} (k113 : Int64 → Option (Bool × z_I × z_L)) (hk113 : ∀ (v6 : Int64), k113 v6 = some r → z_X layX RX10 cX10_blind 9 (some .boolean) ({ frames := 2, cells := 0, slots := 0, locals := 56 } : Room) 113 [(0, .ref 0), (2, .int v2), (4, .int v4), (5, .int v5), (6, .long v6)] [] I L (some (.int (zb r.1)), r.2.1, r.2.2)) : ∀ (n : Nat) (v6 : Int64) (v8 : Int32), g_X10_blind_79 v2 v4 v5 I L k113 n v6 v8 = some r → z_X layX RX10 cX10_blind 9 (some .boolean) ({ frames := 2, cells := 0, slots := 0, locals := 56 } : Room) 79 [(0, .ref 0), (2, .int v2), (4, .int v4), (5, .int v5), (6, .long v6), (8, .int v8)] [] I L (some (.int (zb r.1)), r.2.1, r.2.2) := by
  intro n
  induction n with
  | zero => intro v6 v8 hf; cases hf
  | succ n ih =>
    intro v6 v8 hf
    rw [g_X10_blind_79] at hf
    refine x_iload 5 dX10_blind_79 rfl ?_
    refine x_iload_n 1 dX10_blind_81 rfl rfl ?_
    refine x_icmp_gt 113 dX10_blind_82 (by decide) (fun hB => ?_) (fun hB => ?_)
    · replace hf := f_if hB hf
      refine x_lv [(0, .ref 0), (2, .int v2), (4, .int v4), (5, .int v5), (6, .long v6)] [0, 1, 2, 3, 4] rfl ?_
      exact hk113 _ hf
    · replace hf := f_el hB hf
      refine x_lload 4 dX10_blind_85 rfl ?_
      refine x_iload 2 dX10_blind_87 rfl ?_
      refine x_iload 5 dX10_blind_89 rfl ?_
      obtain ⟨q3, hq4, hf⟩ := f_bd hf
      refine x_callSl [.int v4, .int v8] (c_X10_waysToTake (I := I) (L := L)  hq4) dX10_blind_91 lk_X10_372 cd_X10_waysToTake rfl rfl (Nat.le_of_ble_eq_true rfl) ⟨rfl, rfl, Nat.le_of_ble_eq_true rfl, Nat.le_of_ble_eq_true rfl⟩ ?_
      refine x_iload 3 dX10_blind_94 rfl ?_
      refine x_iload_n 1 dX10_blind_96 rfl rfl ?_
      refine x_iload 5 dX10_blind_97 rfl ?_
      refine x_isub dX10_blind_99 ?_
      obtain ⟨q5, hq6, hf⟩ := f_bd hf
      refine x_callSl [.int v5, .int (v2 - v8)] (c_X10_waysToTake (I := I) (L := L)  hq6) dX10_blind_100 lk_X10_372 cd_X10_waysToTake rfl rfl (Nat.le_of_ble_eq_true rfl) ⟨rfl, rfl, Nat.le_of_ble_eq_true rfl, Nat.le_of_ble_eq_true rfl⟩ ?_
      refine x_lmul dX10_blind_103 ?_
      refine x_ladd dX10_blind_104 ?_
      refine x_lstore [(6, .long (v6 + (q3 * q5))), (0, .ref 0), (2, .int v2), (4, .int v4), (5, .int v5), (8, .int v8)] dX10_blind_105 (by decide) rfl ?_
      refine x_iinc 5 [(8, .int (v8 + (1 : Int32))), (6, .long (v6 + (q3 * q5))), (0, .ref 0), (2, .int v2), (4, .int v4), (5, .int v5)] dX10_blind_107 rfl rfl (by decide) rfl ?_
      refine x_goto 79 dX10_blind_110 (by decide) ?_
      refine x_lv [(0, .ref 0), (2, .int v2), (4, .int v4), (5, .int v5), (6, .long (v6 + (q3 * q5))), (8, .int (v8 + (1 : Int32)))] [2, 3, 4, 5, 1, 0] rfl ?_
      exact ih _ _ hf
set_option maxRecDepth 100000 in
set_option maxHeartbeats 4000000 in
theorem c_X10_blind {I : z_I} {L : z_L} {p0 : Int32} {p1 : Int32} {p2 : Int32}  {r : Bool × z_I × z_L} (hf : f_X10_blind I L p0 p1 p2 = some r) : z_C layX yX10_blind cX10_blind 9 (some .boolean) ({ frames := 2, cells := 0, slots := 0, locals := 56 } : Room) [.ref 0, .int p0, .int p1, .int p2] I L (some (.int (zb r.1)), r.2.1, r.2.2) := by
  refine z_C.of (by decide) (Nat.le_of_ble_eq_true rfl) ?_
  show z_X layX RX10 cX10_blind 9 (some .boolean) ({ frames := 2, cells := 0, slots := 0, locals := 56 } : Room) 0 [(0, .ref 0), (1, .int p0), (2, .int p1), (3, .int p2)] [] I L (some (.int (zb r.1)), r.2.1, r.2.2)
  unfold f_X10_blind at hf
  refine x_aload_n 0 dX10_blind_0 rfl rfl ?_
  refine x_getR dX10_blind_1 lx_0 fl_X10_22 rfl ?_
  refine x_iload_n 1 dX10_blind_4 rfl rfl ?_
  refine x_callVi [.int p0] (c_X0_hasBed (I := I) (L := L) 3 p0 zt_3) dX10_blind_5 lk_X10_240 lx_3 rfl cd_X0_hasBed rfl rfl (Nat.le_of_ble_eq_true rfl) ⟨rfl, rfl, Nat.le_of_ble_eq_true rfl, Nat.le_of_ble_eq_true rfl⟩ ?_
  refine x_if_eqB 29 dX10_blind_8 (by decide) (fun hB => ?_) (fun hB => ?_)
  · replace hf := f_el hB hf
    refine x_aload_n 0 dX10_blind_29 rfl rfl ?_
    refine x_iconst (v := (1)) dX10_blind_30 (by decide) ?_
    refine x_callVi [.int (1 : Int32)] (c_X10_deny (I := I) (L := L) (1 : Int32)) dX10_blind_31 lk_X10_132 lx_0 rfl cd_X10_deny rfl rfl (Nat.le_of_ble_eq_true rfl) ⟨rfl, rfl, Nat.le_of_ble_eq_true rfl, Nat.le_of_ble_eq_true rfl⟩ ?_
    cases hf
    exact x_zret dX10_blind_34 rfl rfl
  · replace hf := f_if hB hf
    refine x_iload_n 2 dX10_blind_11 rfl rfl ?_
    refine x_iconst (v := (0)) dX10_blind_12 (by decide) ?_
    refine x_iconst (v := (4)) dX10_blind_13 (by decide) ?_
    refine x_callSi [.int p1, .int (0 : Int32), .int (4 : Int32)] (c_X10_isWithin (I := I) (L := L) p1 (0 : Int32) (4 : Int32)) dX10_blind_14 lk_X10_128 cd_X10_isWithin rfl rfl (Nat.le_of_ble_eq_true rfl) ⟨rfl, rfl, Nat.le_of_ble_eq_true rfl, Nat.le_of_ble_eq_true rfl⟩ ?_
    refine x_if_eqB 29 dX10_blind_17 (by decide) (fun hB => ?_) (fun hB => ?_)
    · replace hf := f_el hB hf
      refine x_aload_n 0 dX10_blind_29 rfl rfl ?_
      refine x_iconst (v := (1)) dX10_blind_30 (by decide) ?_
      refine x_callVi [.int (1 : Int32)] (c_X10_deny (I := I) (L := L) (1 : Int32)) dX10_blind_31 lk_X10_132 lx_0 rfl cd_X10_deny rfl rfl (Nat.le_of_ble_eq_true rfl) ⟨rfl, rfl, Nat.le_of_ble_eq_true rfl, Nat.le_of_ble_eq_true rfl⟩ ?_
      cases hf
      exact x_zret dX10_blind_34 rfl rfl
    · replace hf := f_if hB hf
      refine x_iload_n 3 dX10_blind_20 rfl rfl ?_
      refine x_iconst (v := (0)) dX10_blind_21 (by decide) ?_
      refine x_iconst (v := (4)) dX10_blind_22 (by decide) ?_
      refine x_callSi [.int p2, .int (0 : Int32), .int (4 : Int32)] (c_X10_isWithin (I := I) (L := L) p2 (0 : Int32) (4 : Int32)) dX10_blind_23 lk_X10_128 cd_X10_isWithin rfl rfl (Nat.le_of_ble_eq_true rfl) ⟨rfl, rfl, Nat.le_of_ble_eq_true rfl, Nat.le_of_ble_eq_true rfl⟩ ?_
      refine x_if_neB 35 dX10_blind_26 (by decide) (fun hB => ?_) (fun hB => ?_)
      · replace hf := f_if hB hf
        refine x_aload_n 0 dX10_blind_35 rfl rfl ?_
        refine x_getR dX10_blind_36 lx_0 fl_X10_22 rfl ?_
        refine x_getR dX10_blind_39 lx_3 fl_X10_243 rfl ?_
        refine x_iload_n 1 dX10_blind_42 rfl rfl ?_
        obtain ⟨h1, hf⟩ := f_gd hf
        refine x_iald (j := (p0).toNatClampNeg) (v := (I 4 (p0).toNatClampNeg)) dX10_blind_43 lx_4 h1 rfl rfl ?_
        refine x_istore [(4, .int (I 4 (p0).toNatClampNeg)), (0, .ref 0), (1, .int p0), (2, .int p1), (3, .int p2)] dX10_blind_44 (by decide) rfl ?_
        refine x_aload_n 1 dX10_blind_46 rfl rfl ?_
        refine x_getR dX10_blind_47 lx_0 fl_X10_22 rfl ?_
        refine x_getR dX10_blind_50 lx_3 fl_X10_247 rfl ?_
        refine x_iload_n 2 dX10_blind_53 rfl rfl ?_
        refine x_iald (j := (p0).toNatClampNeg) (v := (I 5 (p0).toNatClampNeg)) dX10_blind_54 lx_5 h1 rfl rfl ?_
        refine x_istore [(5, .int (I 5 (p0).toNatClampNeg)), (4, .int (I 4 (p0).toNatClampNeg)), (0, .ref 0), (1, .int p0), (2, .int p1), (3, .int p2)] dX10_blind_55 (by decide) rfl ?_
        refine x_iload 1 dX10_blind_57 rfl ?_
        refine x_iload 0 dX10_blind_59 rfl ?_
        refine x_iadd dX10_blind_61 ?_
        refine x_iload_n 4 dX10_blind_62 rfl rfl ?_
        refine x_icmp_ge 73 dX10_blind_63 (by decide) (fun hB => ?_) (fun hB => ?_)
        · replace hf := f_if hB hf
          refine x_lconst (v := (0)) dX10_blind_73 (by decide) ?_
          refine x_lstore [(6, .long (0 : Int64)), (5, .int (I 5 (p0).toNatClampNeg)), (4, .int (I 4 (p0).toNatClampNeg)), (0, .ref 0), (1, .int p0), (2, .int p1), (3, .int p2)] dX10_blind_74 (by decide) rfl ?_
          refine x_iload_n 6 dX10_blind_76 rfl rfl ?_
          refine x_istore [(8, .int p2), (6, .long (0 : Int64)), (5, .int (I 5 (p0).toNatClampNeg)), (4, .int (I 4 (p0).toNatClampNeg)), (0, .ref 0), (1, .int p0), (2, .int p1), (3, .int p2)] dX10_blind_77 (by decide) rfl ?_
          refine x_lv [(0, .ref 0), (2, .int p1), (4, .int (I 4 (p0).toNatClampNeg)), (5, .int (I 5 (p0).toNatClampNeg)), (6, .long (0 : Int64)), (8, .int p2)] [4, 6, 3, 2, 1, 0] rfl ?_
          refine l_X10_blind_79 p1 (I 4 (p0).toNatClampNeg) (I 5 (p0).toNatClampNeg) (I) (L) _ ?_ _ _ _ hf
          · intro v6_7 hf
            refine x_aload_n 0 dX10_blind_113 rfl rfl ?_
            refine x_getR dX10_blind_114 lx_0 fl_X10_102 rfl ?_
            refine x_lload 4 dX10_blind_117 rfl ?_
            refine x_iload 2 dX10_blind_119 rfl ?_
            refine x_iload 3 dX10_blind_121 rfl ?_
            refine x_iadd dX10_blind_123 ?_
            refine x_iload_n 1 dX10_blind_124 rfl rfl ?_
            obtain ⟨q8, hq9, hf⟩ := f_bd hf
            refine x_callSl [.int ((I 4 (p0).toNatClampNeg) + (I 5 (p0).toNatClampNeg)), .int p1] (c_X10_waysToTake (I := I) (L := L)  hq9) dX10_blind_125 lk_X10_372 cd_X10_waysToTake rfl rfl (Nat.le_of_ble_eq_true rfl) ⟨rfl, rfl, Nat.le_of_ble_eq_true rfl, Nat.le_of_ble_eq_true rfl⟩ ?_
            obtain ⟨q10, hq11, hf⟩ := f_bd hf
            refine x_callVv [.long v6_7, .long q8] (c_X3_tell (I := I) (L := L)  hq11) dX10_blind_128 lk_X10_356 lx_54 rfl cd_X3_tell rfl rfl (Nat.le_of_ble_eq_true rfl) ⟨rfl, rfl, Nat.le_of_ble_eq_true rfl, Nat.le_of_ble_eq_true rfl⟩ ?_
            refine x_aload_n 0 dX10_blind_131 rfl rfl ?_
            refine x_callVi [] (c_X10_grant (I := I) (L := q10) ) dX10_blind_132 lk_X10_139 lx_0 rfl cd_X10_grant rfl rfl (Nat.le_of_ble_eq_true rfl) ⟨rfl, rfl, Nat.le_of_ble_eq_true rfl, Nat.le_of_ble_eq_true rfl⟩ ?_
            cases hf
            exact x_zret dX10_blind_135 rfl rfl
        · replace hf := f_el hB hf
          refine x_aload_n 2 dX10_blind_66 rfl rfl ?_
          refine x_bipush (v := (6)) dX10_blind_67 (by decide) ?_
          refine x_callVi [.int (6 : Int32)] (c_X10_deny (I := I) (L := L) (6 : Int32)) dX10_blind_69 lk_X10_132 lx_0 rfl cd_X10_deny rfl rfl (Nat.le_of_ble_eq_true rfl) ⟨rfl, rfl, Nat.le_of_ble_eq_true rfl, Nat.le_of_ble_eq_true rfl⟩ ?_
          cases hf
          exact x_zret dX10_blind_72 rfl rfl
      · replace hf := f_el hB hf
        refine x_aload_n 0 dX10_blind_29 rfl rfl ?_
        refine x_iconst (v := (1)) dX10_blind_30 (by decide) ?_
        refine x_callVi [.int (1 : Int32)] (c_X10_deny (I := I) (L := L) (1 : Int32)) dX10_blind_31 lk_X10_132 lx_0 rfl cd_X10_deny rfl rfl (Nat.le_of_ble_eq_true rfl) ⟨rfl, rfl, Nat.le_of_ble_eq_true rfl, Nat.le_of_ble_eq_true rfl⟩ ?_
        cases hf
        exact x_zret dX10_blind_34 rfl rfl
set_option maxRecDepth 100000 in
set_option maxHeartbeats 4000000 in
theorem c_X10_share {I : z_I} {L : z_L} {p0 : Int32}  {r : Bool × z_I × z_L} (hf : f_X10_share I L p0 = some r) : z_C layX yX10_share cX10_share 3 (some .boolean) ({ frames := 2, cells := 0, slots := 0, locals := 56 } : Room) [.ref 0, .int p0] I L (some (.int (zb r.1)), r.2.1, r.2.2) := by
  refine z_C.of (by decide) (Nat.le_of_ble_eq_true rfl) ?_
  show z_X layX RX10 cX10_share 3 (some .boolean) ({ frames := 2, cells := 0, slots := 0, locals := 56 } : Room) 0 [(0, .ref 0), (1, .int p0)] [] I L (some (.int (zb r.1)), r.2.1, r.2.2)
  unfold f_X10_share at hf
  refine x_aload_n 0 dX10_share_0 rfl rfl ?_
  refine x_getR dX10_share_1 lx_0 fl_X10_22 rfl ?_
  refine x_iload_n 1 dX10_share_4 rfl rfl ?_
  refine x_callVi [.int p0] (c_X0_hasScholar (I := I) (L := L) 3 p0 zt_3) dX10_share_5 lk_X10_271 lx_3 rfl cd_X0_hasScholar rfl rfl (Nat.le_of_ble_eq_true rfl) ⟨rfl, rfl, Nat.le_of_ble_eq_true rfl, Nat.le_of_ble_eq_true rfl⟩ ?_
  refine x_if_neB 17 dX10_share_8 (by decide) (fun hB => ?_) (fun hB => ?_)
  · replace hf := f_if hB hf
    refine x_aload_n 0 dX10_share_17 rfl rfl ?_
    refine x_getR dX10_share_18 lx_0 fl_X10_22 rfl ?_
    obtain ⟨q1, hq2, hf⟩ := f_bd hf
    refine x_callVi [] (c_X0_allGold (I := I) (L := L) zt_3 hq2) dX10_share_21 lk_X10_234 lx_3 rfl cd_X0_allGold rfl rfl (Nat.le_of_ble_eq_true rfl) ⟨rfl, rfl, Nat.le_of_ble_eq_true rfl, Nat.le_of_ble_eq_true rfl⟩ ?_
    refine x_istore_n [(2, .int q1), (0, .ref 0), (1, .int p0)] dX10_share_24 rfl (by decide) rfl ?_
    refine x_iload_n 0 dX10_share_25 rfl rfl ?_
    refine x_if_ne 36 dX10_share_26 (by decide) (fun hB => ?_) (fun hB => ?_)
    · replace hf := f_el hB hf
      refine x_aload_n 1 dX10_share_36 rfl rfl ?_
      refine x_getR dX10_share_37 lx_0 fl_X10_102 rfl ?_
      refine x_aload_n 1 dX10_share_40 rfl rfl ?_
      refine x_getR dX10_share_41 lx_0 fl_X10_22 rfl ?_
      refine x_getR dX10_share_44 lx_3 fl_X10_277 rfl ?_
      refine x_iload_n 2 dX10_share_47 rfl rfl ?_
      obtain ⟨h3, hf⟩ := f_gd hf
      refine x_iald (j := (p0).toNatClampNeg) (v := (I 12 (p0).toNatClampNeg)) dX10_share_48 lx_12 h3 rfl rfl ?_
      refine x_i2l dX10_share_49 ?_
      refine x_iload_n 0 dX10_share_50 rfl rfl ?_
      refine x_i2l dX10_share_51 ?_
      obtain ⟨q4, hq5, hf⟩ := f_bd hf
      refine x_callVv [.long ((I 12 (p0).toNatClampNeg).toInt64), .long (q1.toInt64)] (c_X3_tell (I := I) (L := L)  hq5) dX10_share_52 lk_X10_356 lx_54 rfl cd_X3_tell rfl rfl (Nat.le_of_ble_eq_true rfl) ⟨rfl, rfl, Nat.le_of_ble_eq_true rfl, Nat.le_of_ble_eq_true rfl⟩ ?_
      refine x_aload_n 1 dX10_share_55 rfl rfl ?_
      refine x_callVi [] (c_X10_grant (I := I) (L := q4) ) dX10_share_56 lk_X10_139 lx_0 rfl cd_X10_grant rfl rfl (Nat.le_of_ble_eq_true rfl) ⟨rfl, rfl, Nat.le_of_ble_eq_true rfl, Nat.le_of_ble_eq_true rfl⟩ ?_
      cases hf
      exact x_zret dX10_share_59 rfl rfl
    · replace hf := f_if hB hf
      refine x_aload_n 1 dX10_share_29 rfl rfl ?_
      refine x_bipush (v := (6)) dX10_share_30 (by decide) ?_
      refine x_callVi [.int (6 : Int32)] (c_X10_deny (I := I) (L := L) (6 : Int32)) dX10_share_32 lk_X10_132 lx_0 rfl cd_X10_deny rfl rfl (Nat.le_of_ble_eq_true rfl) ⟨rfl, rfl, Nat.le_of_ble_eq_true rfl, Nat.le_of_ble_eq_true rfl⟩ ?_
      cases hf
      exact x_zret dX10_share_35 rfl rfl
  · replace hf := f_el hB hf
    refine x_aload_n 0 dX10_share_11 rfl rfl ?_
    refine x_iconst (v := (1)) dX10_share_12 (by decide) ?_
    refine x_callVi [.int (1 : Int32)] (c_X10_deny (I := I) (L := L) (1 : Int32)) dX10_share_13 lk_X10_132 lx_0 rfl cd_X10_deny rfl rfl (Nat.le_of_ble_eq_true rfl) ⟨rfl, rfl, Nat.le_of_ble_eq_true rfl, Nat.le_of_ble_eq_true rfl⟩ ?_
    cases hf
    exact x_zret dX10_share_16 rfl rfl
set_option maxRecDepth 100000 in
set_option maxHeartbeats 4000000 in
theorem l_X10_copyBeds_59   (v1 : Int32) (I : z_I) {r : Int32 × z_I × z_L}  : ∀ (n : Nat) (v2 : Int32) (L : z_L), g_X10_copyBeds_59 v1 I  n v2 L = some r → z_X layX RX10 cX10_copyBeds 3 (some .int) ({ frames := 2, cells := 0, slots := 0, locals := 42 } : Room) 59 [(0, .ref 0), (1, .int v1), (2, .int v2)] [] I L (some (.int r.1), r.2.1, r.2.2) := by
  intro n
  induction n with
  | zero => intro v2 L hf; cases hf
  | succ n ih =>
    intro v2 L hf
    rw [g_X10_copyBeds_59] at hf
    refine x_iload_n 2 dX10_copyBeds_59 rfl rfl ?_
    refine x_aload_n 0 dX10_copyBeds_60 rfl rfl ?_
    refine x_getR dX10_copyBeds_61 lx_0 fl_X10_22 rfl ?_
    refine x_getI (v := (I 3 10)) dX10_copyBeds_64 lx_3 fl_X10_209 rfl rfl ?_
    refine x_icmp_ge 96 dX10_copyBeds_67 (by decide) (fun hB => ?_) (fun hB => ?_)
    · replace hf := f_if hB hf
      refine x_aload_n 0 dX10_copyBeds_96 rfl rfl ?_
      refine x_aload_n 0 dX10_copyBeds_97 rfl rfl ?_
      refine x_getR dX10_copyBeds_98 lx_0 fl_X10_22 rfl ?_
      refine x_getI (v := (I 3 10)) dX10_copyBeds_101 lx_3 fl_X10_209 rfl rfl ?_
      refine x_callVi [.int (I 3 10)] (c_X10_give (I := I) (L := L) (I 3 10)) dX10_copyBeds_104 lk_X10_199 lx_0 rfl cd_X10_give rfl rfl (Nat.le_of_ble_eq_true rfl) ⟨rfl, rfl, Nat.le_of_ble_eq_true rfl, Nat.le_of_ble_eq_true rfl⟩ ?_
      cases hf
      exact x_iret dX10_copyBeds_107 rfl rfl
    · replace hf := f_el hB hf
      refine x_aload_n 0 dX10_copyBeds_70 rfl rfl ?_
      refine x_getR dX10_copyBeds_71 lx_0 fl_X10_11 rfl ?_
      refine x_iload_n 1 dX10_copyBeds_74 rfl rfl ?_
      obtain ⟨h3, hf⟩ := f_gd hf
      refine x_aald (v := ([55, 57, 59, 61].getD (v1).toNatClampNeg 0)) 3 dX10_copyBeds_75 lx_1 (fun _ => rfl) h3 (zt_gd h3 rfl) ?_
      refine x_iload_n 2 dX10_copyBeds_76 rfl rfl ?_
      refine x_aload_n 0 dX10_copyBeds_77 rfl rfl ?_
      refine x_getR dX10_copyBeds_78 lx_0 fl_X10_22 rfl ?_
      refine x_getR dX10_copyBeds_81 lx_3 fl_X10_243 rfl ?_
      refine x_iload_n 2 dX10_copyBeds_84 rfl rfl ?_
      obtain ⟨h4, hf⟩ := f_gd hf
      refine x_iald (j := (v2).toNatClampNeg) (v := (I 4 (v2).toNatClampNeg)) dX10_copyBeds_85 lx_4 h4 rfl rfl ?_
      refine x_i2l dX10_copyBeds_86 ?_
      obtain ⟨q5, hq6, hf⟩ := f_bd hf
      refine x_callVv [.int v2, .long ((I 4 (v2).toNatClampNeg).toInt64)] (c_X8_put (I := I) (L := L) (zt_tr h3) hq6) dX10_copyBeds_87 lk_X10_147 (zt_tr h3).1 rfl cd_X8_put rfl rfl (Nat.le_of_ble_eq_true rfl) ⟨rfl, rfl, Nat.le_of_ble_eq_true rfl, Nat.le_of_ble_eq_true rfl⟩ ?_
      refine x_iinc 2 [(2, .int (v2 + (1 : Int32))), (0, .ref 0), (1, .int v1)] dX10_copyBeds_90 rfl rfl (by decide) rfl ?_
      refine x_goto 59 dX10_copyBeds_93 (by decide) ?_
      refine x_lv [(0, .ref 0), (1, .int v1), (2, .int (v2 + (1 : Int32)))] [1, 2, 0] rfl ?_
      exact ih _ _ hf
set_option maxRecDepth 100000 in
set_option maxHeartbeats 4000000 in
theorem c_X10_copyBeds {I : z_I} {L : z_L} {p0 : Int32}  {r : Int32 × z_I × z_L} (hf : f_X10_copyBeds I L p0 = some r) : z_C layX yX10_copyBeds cX10_copyBeds 3 (some .int) ({ frames := 2, cells := 0, slots := 0, locals := 42 } : Room) [.ref 0, .int p0] I L (some (.int r.1), r.2.1, r.2.2) := by
  refine z_C.of (by decide) (Nat.le_of_ble_eq_true rfl) ?_
  show z_X layX RX10 cX10_copyBeds 3 (some .int) ({ frames := 2, cells := 0, slots := 0, locals := 42 } : Room) 0 [(0, .ref 0), (1, .int p0)] [] I L (some (.int r.1), r.2.1, r.2.2)
  unfold f_X10_copyBeds at hf
  refine x_iload_n 1 dX10_copyBeds_0 rfl rfl ?_
  refine x_callSi [.int p0] (c_X10_isTray (I := I) (L := L) p0) dX10_copyBeds_1 lk_X10_124 cd_X10_isTray rfl rfl (Nat.le_of_ble_eq_true rfl) ⟨rfl, rfl, Nat.le_of_ble_eq_true rfl, Nat.le_of_ble_eq_true rfl⟩ ?_
  refine x_if_neB 13 dX10_copyBeds_4 (by decide) (fun hB => ?_) (fun hB => ?_)
  · replace hf := f_if hB hf
    refine x_aload_n 0 dX10_copyBeds_13 rfl rfl ?_
    refine x_getR dX10_copyBeds_14 lx_0 fl_X10_11 rfl ?_
    refine x_iload_n 1 dX10_copyBeds_17 rfl rfl ?_
    obtain ⟨h1, hf⟩ := f_gd hf
    refine x_aald (v := ([55, 57, 59, 61].getD (p0).toNatClampNeg 0)) 3 dX10_copyBeds_18 lx_1 (fun _ => rfl) h1 (zt_gd h1 rfl) ?_
    refine x_getB (v := (zn (I ([55, 57, 59, 61].getD (p0).toNatClampNeg 0) 1))) dX10_copyBeds_19 (zt_tr h1).1 fl_X10_159 rfl rfl ?_
    refine x_if_neB 31 dX10_copyBeds_22 (by decide) (fun hB => ?_) (fun hB => ?_)
    · replace hf := f_if hB hf
      refine x_aload_n 0 dX10_copyBeds_31 rfl rfl ?_
      refine x_getR dX10_copyBeds_32 lx_0 fl_X10_11 rfl ?_
      refine x_iload_n 1 dX10_copyBeds_35 rfl rfl ?_
      refine x_aald (v := ([55, 57, 59, 61].getD (p0).toNatClampNeg 0)) 3 dX10_copyBeds_36 lx_1 (fun _ => rfl) h1 (zt_gd h1 rfl) ?_
      refine x_iconst (v := (0)) dX10_copyBeds_37 (by decide) ?_
      refine x_aload_n 0 dX10_copyBeds_38 rfl rfl ?_
      refine x_getR dX10_copyBeds_39 lx_0 fl_X10_22 rfl ?_
      refine x_getI (v := (I 3 10)) dX10_copyBeds_42 lx_3 fl_X10_209 rfl rfl ?_
      refine x_callVi [.int (0 : Int32), .int (I 3 10)] (c_X8_spans (I := I) (L := L) ([55, 57, 59, 61].getD (p0).toNatClampNeg 0) (0 : Int32) (I 3 10) (zt_tr h1)) dX10_copyBeds_45 lk_X10_166 (zt_tr h1).1 rfl cd_X8_spans rfl rfl (Nat.le_of_ble_eq_true rfl) ⟨rfl, rfl, Nat.le_of_ble_eq_true rfl, Nat.le_of_ble_eq_true rfl⟩ ?_
      refine x_if_neB 57 dX10_copyBeds_48 (by decide) (fun hB => ?_) (fun hB => ?_)
      · replace hf := f_if hB hf
        refine x_iconst (v := (0)) dX10_copyBeds_57 (by decide) ?_
        refine x_istore_n [(2, .int (0 : Int32)), (0, .ref 0), (1, .int p0)] dX10_copyBeds_58 rfl (by decide) rfl ?_
        refine x_lv [(0, .ref 0), (1, .int p0), (2, .int (0 : Int32))] [1, 2, 0] rfl ?_
        refine l_X10_copyBeds_59 p0 (I)   _ _ _ hf
      · replace hf := f_el hB hf
        refine x_aload_n 0 dX10_copyBeds_51 rfl rfl ?_
        refine x_iconst (v := (3)) dX10_copyBeds_52 (by decide) ?_
        refine x_callVi [.int (3 : Int32)] (c_X10_refuse (I := I) (L := L) (3 : Int32)) dX10_copyBeds_53 lk_X10_151 lx_0 rfl cd_X10_refuse rfl rfl (Nat.le_of_ble_eq_true rfl) ⟨rfl, rfl, Nat.le_of_ble_eq_true rfl, Nat.le_of_ble_eq_true rfl⟩ ?_
        cases hf
        exact x_iret dX10_copyBeds_56 rfl rfl
    · replace hf := f_el hB hf
      refine x_aload_n 0 dX10_copyBeds_25 rfl rfl ?_
      refine x_iconst (v := (2)) dX10_copyBeds_26 (by decide) ?_
      refine x_callVi [.int (2 : Int32)] (c_X10_refuse (I := I) (L := L) (2 : Int32)) dX10_copyBeds_27 lk_X10_151 lx_0 rfl cd_X10_refuse rfl rfl (Nat.le_of_ble_eq_true rfl) ⟨rfl, rfl, Nat.le_of_ble_eq_true rfl, Nat.le_of_ble_eq_true rfl⟩ ?_
      cases hf
      exact x_iret dX10_copyBeds_30 rfl rfl
  · replace hf := f_el hB hf
    refine x_aload_n 0 dX10_copyBeds_7 rfl rfl ?_
    refine x_iconst (v := (1)) dX10_copyBeds_8 (by decide) ?_
    refine x_callVi [.int (1 : Int32)] (c_X10_refuse (I := I) (L := L) (1 : Int32)) dX10_copyBeds_9 lk_X10_151 lx_0 rfl cd_X10_refuse rfl rfl (Nat.le_of_ble_eq_true rfl) ⟨rfl, rfl, Nat.le_of_ble_eq_true rfl, Nat.le_of_ble_eq_true rfl⟩ ?_
    cases hf
    exact x_iret dX10_copyBeds_12 rfl rfl
set_option maxRecDepth 100000 in
set_option maxHeartbeats 4000000 in
theorem c_X10_live {I : z_I} {L : z_L} {p0 : Int32}  {r : Int32 × z_I} (hf : f_X10_live I p0 = some r) : z_C layX yX10_live cX10_live 2 (some .int) ({ frames := 7, cells := 0, slots := 0, locals := 168 } : Room) [.ref 0, .int p0] I L (some (.int r.1), r.2, L) := by
  refine z_C.of (by decide) (Nat.le_of_ble_eq_true rfl) ?_
  show z_X layX RX10 cX10_live 2 (some .int) ({ frames := 7, cells := 0, slots := 0, locals := 168 } : Room) 0 [(0, .ref 0), (1, .int p0)] [] I L (some (.int r.1), r.2, L)
  unfold f_X10_live at hf
  refine x_iload_n 1 dX10_live_0 rfl rfl ?_
  refine x_iconst (v := (0)) dX10_live_1 (by decide) ?_
  refine x_sipush (v := (9999)) dX10_live_2 (by decide) ?_
  refine x_callSi [.int p0, .int (0 : Int32), .int (9999 : Int32)] (c_X10_isWithin (I := I) (L := L) p0 (0 : Int32) (9999 : Int32)) dX10_live_5 lk_X10_128 cd_X10_isWithin rfl rfl (Nat.le_of_ble_eq_true rfl) ⟨rfl, rfl, Nat.le_of_ble_eq_true rfl, Nat.le_of_ble_eq_true rfl⟩ ?_
  refine x_if_neB 17 dX10_live_8 (by decide) (fun hB => ?_) (fun hB => ?_)
  · replace hf := f_if hB hf
    refine x_aload_n 0 dX10_live_17 rfl rfl ?_
    refine x_getR dX10_live_18 lx_0 fl_X10_29 rfl ?_
    refine x_getB (v := (zn (I 14 5))) dX10_live_21 lx_14 fl_X10_376 rfl rfl ?_
    refine x_if_neB 34 dX10_live_24 (by decide) (fun hB => ?_) (fun hB => ?_)
    · replace hf := f_if hB hf
      refine x_aload_n 0 dX10_live_34 rfl rfl ?_
      refine x_getR dX10_live_35 lx_0 fl_X10_79 rfl ?_
      refine x_aload_n 0 dX10_live_38 rfl rfl ?_
      refine x_getR dX10_live_39 lx_0 fl_X10_22 rfl ?_
      refine x_iload_n 1 dX10_live_42 rfl rfl ?_
      obtain ⟨q1, hq2, hf⟩ := f_bd hf
      refine x_callVv [.ref 3, .int p0] (c_X4_pass (I := I) (L := L) zt_3 hq2) dX10_live_43 lk_X10_379 lx_45 rfl cd_X4_pass rfl rfl (Nat.le_of_ble_eq_true rfl) ⟨rfl, rfl, Nat.le_of_ble_eq_true rfl, Nat.le_of_ble_eq_true rfl⟩ ?_
      refine x_aload_n 0 dX10_live_46 rfl rfl ?_
      refine x_getR dX10_live_47 lx_0 fl_X10_79 rfl ?_
      refine x_callVv [] (c_X4_keepNumbers (I := q1) (L := L) ) dX10_live_50 lk_X10_383 lx_45 rfl cd_X4_keepNumbers rfl rfl (Nat.le_of_ble_eq_true rfl) ⟨rfl, rfl, Nat.le_of_ble_eq_true rfl, Nat.le_of_ble_eq_true rfl⟩ ?_
      refine x_aload_n 0 dX10_live_53 rfl rfl ?_
      refine x_aload_n 0 dX10_live_54 rfl rfl ?_
      refine x_getR dX10_live_55 lx_0 fl_X10_79 rfl ?_
      refine x_getI (v := ((f_X4_keepNumbers q1) 45 2)) dX10_live_58 lx_45 fl_X10_386 rfl rfl ?_
      refine x_callVi [.int ((f_X4_keepNumbers q1) 45 2)] (c_X10_give (I := (f_X4_keepNumbers q1)) (L := L) ((f_X4_keepNumbers q1) 45 2)) dX10_live_61 lk_X10_199 lx_0 rfl cd_X10_give rfl rfl (Nat.le_of_ble_eq_true rfl) ⟨rfl, rfl, Nat.le_of_ble_eq_true rfl, Nat.le_of_ble_eq_true rfl⟩ ?_
      cases hf
      exact x_iret dX10_live_64 rfl rfl
    · replace hf := f_el hB hf
      refine x_aload_n 0 dX10_live_27 rfl rfl ?_
      refine x_bipush (v := (6)) dX10_live_28 (by decide) ?_
      refine x_callVi [.int (6 : Int32)] (c_X10_refuse (I := I) (L := L) (6 : Int32)) dX10_live_30 lk_X10_151 lx_0 rfl cd_X10_refuse rfl rfl (Nat.le_of_ble_eq_true rfl) ⟨rfl, rfl, Nat.le_of_ble_eq_true rfl, Nat.le_of_ble_eq_true rfl⟩ ?_
      cases hf
      exact x_iret dX10_live_33 rfl rfl
  · replace hf := f_el hB hf
    refine x_aload_n 0 dX10_live_11 rfl rfl ?_
    refine x_iconst (v := (1)) dX10_live_12 (by decide) ?_
    refine x_callVi [.int (1 : Int32)] (c_X10_refuse (I := I) (L := L) (1 : Int32)) dX10_live_13 lk_X10_151 lx_0 rfl cd_X10_refuse rfl rfl (Nat.le_of_ble_eq_true rfl) ⟨rfl, rfl, Nat.le_of_ble_eq_true rfl, Nat.le_of_ble_eq_true rfl⟩ ?_
    cases hf
    exact x_iret dX10_live_16 rfl rfl
set_option maxRecDepth 100000 in
set_option maxHeartbeats 4000000 in
theorem c_X10_lived {I : z_I} {L : z_L} {p0 : Int32}  {r : Int32 × z_I} (hf : f_X10_lived I p0 = some r) : z_C layX yX10_lived cX10_lived 2 (some .int) ({ frames := 1, cells := 0, slots := 0, locals := 22 } : Room) [.ref 0, .int p0] I L (some (.int r.1), r.2, L) := by
  refine z_C.of (by decide) (Nat.le_of_ble_eq_true rfl) ?_
  show z_X layX RX10 cX10_lived 2 (some .int) ({ frames := 1, cells := 0, slots := 0, locals := 22 } : Room) 0 [(0, .ref 0), (1, .int p0)] [] I L (some (.int r.1), r.2, L)
  unfold f_X10_lived at hf
  refine x_iload_n 1 dX10_lived_0 rfl rfl ?_
  refine x_iconst (v := (0)) dX10_lived_1 (by decide) ?_
  refine x_iconst (v := (4)) dX10_lived_2 (by decide) ?_
  refine x_callSi [.int p0, .int (0 : Int32), .int (4 : Int32)] (c_X10_isWithin (I := I) (L := L) p0 (0 : Int32) (4 : Int32)) dX10_lived_3 lk_X10_128 cd_X10_isWithin rfl rfl (Nat.le_of_ble_eq_true rfl) ⟨rfl, rfl, Nat.le_of_ble_eq_true rfl, Nat.le_of_ble_eq_true rfl⟩ ?_
  refine x_if_neB 15 dX10_lived_6 (by decide) (fun hB => ?_) (fun hB => ?_)
  · replace hf := f_if hB hf
    refine x_aload_n 0 dX10_lived_15 rfl rfl ?_
    refine x_getR dX10_lived_16 lx_0 fl_X10_79 rfl ?_
    refine x_getB (v := (zn (I 45 1))) dX10_lived_19 lx_45 fl_X10_389 rfl rfl ?_
    refine x_if_eqB 41 dX10_lived_22 (by decide) (fun hB => ?_) (fun hB => ?_)
    · replace hf := f_el hB hf
      refine x_aload_n 0 dX10_lived_41 rfl rfl ?_
      refine x_bipush (v := (6)) dX10_lived_42 (by decide) ?_
      refine x_callVi [.int (6 : Int32)] (c_X10_refuse (I := I) (L := L) (6 : Int32)) dX10_lived_44 lk_X10_151 lx_0 rfl cd_X10_refuse rfl rfl (Nat.le_of_ble_eq_true rfl) ⟨rfl, rfl, Nat.le_of_ble_eq_true rfl, Nat.le_of_ble_eq_true rfl⟩ ?_
      cases hf
      exact x_iret dX10_lived_47 rfl rfl
    · replace hf := f_if hB hf
      refine x_aload_n 0 dX10_lived_25 rfl rfl ?_
      refine x_aload_n 0 dX10_lived_26 rfl rfl ?_
      refine x_getR dX10_lived_27 lx_0 fl_X10_79 rfl ?_
      refine x_getR dX10_lived_30 lx_45 fl_X10_392 rfl ?_
      refine x_iload_n 1 dX10_lived_33 rfl rfl ?_
      obtain ⟨h1, hf⟩ := f_gd hf
      refine x_iald (j := (p0).toNatClampNeg) (v := (I 46 (p0).toNatClampNeg)) dX10_lived_34 lx_46 h1 rfl rfl ?_
      refine x_callVi [.int (I 46 (p0).toNatClampNeg)] (c_X10_give (I := I) (L := L) (I 46 (p0).toNatClampNeg)) dX10_lived_35 lk_X10_199 lx_0 rfl cd_X10_give rfl rfl (Nat.le_of_ble_eq_true rfl) ⟨rfl, rfl, Nat.le_of_ble_eq_true rfl, Nat.le_of_ble_eq_true rfl⟩ ?_
      refine x_goto 47 dX10_lived_38 (by decide) ?_
      cases hf
      exact x_iret dX10_lived_47 rfl rfl
  · replace hf := f_el hB hf
    refine x_aload_n 0 dX10_lived_9 rfl rfl ?_
    refine x_iconst (v := (1)) dX10_lived_10 (by decide) ?_
    refine x_callVi [.int (1 : Int32)] (c_X10_refuse (I := I) (L := L) (1 : Int32)) dX10_lived_11 lk_X10_151 lx_0 rfl cd_X10_refuse rfl rfl (Nat.le_of_ble_eq_true rfl) ⟨rfl, rfl, Nat.le_of_ble_eq_true rfl, Nat.le_of_ble_eq_true rfl⟩ ?_
    cases hf
    exact x_iret dX10_lived_14 rfl rfl
set_option maxRecDepth 100000 in
set_option maxHeartbeats 4000000 in
theorem l_X10_mean_60   (v1 : Int32) (v2 : Int32)  {r : Bool × z_I × z_L} (k109 : Int64 → z_I → z_L → Option (Bool × z_I × z_L)) (hk109 : ∀ (v3 : Int64) (I : z_I) (L : z_L), k109 v3 I L = some r → z_X layX RX10 cX10_mean 6 (some .boolean) ({ frames := 7, cells := 0, slots := 0, locals := 168 } : Room) 109 [(0, .ref 0), (2, .int v2), (3, .long v3)] [] I L (some (.int (zb r.1)), r.2.1, r.2.2)) : ∀ (n : Nat) (v3 : Int64) (v5 : Int32) (I : z_I) (L : z_L), g_X10_mean_60 v1 v2 k109 n v3 v5 I L = some r → z_X layX RX10 cX10_mean 6 (some .boolean) ({ frames := 7, cells := 0, slots := 0, locals := 168 } : Room) 60 [(0, .ref 0), (1, .int v1), (2, .int v2), (3, .long v3), (5, .int v5)] [] I L (some (.int (zb r.1)), r.2.1, r.2.2) := by
  intro n
  induction n with
  | zero => intro v3 v5 I L hf; cases hf
  | succ n ih =>
    intro v3 v5 I L hf
    rw [g_X10_mean_60] at hf
    refine x_iload 4 dX10_mean_60 rfl ?_
    refine x_iload_n 2 dX10_mean_62 rfl rfl ?_
    refine x_icmp_ge 109 dX10_mean_63 (by decide) (fun hB => ?_) (fun hB => ?_)
    · replace hf := f_if hB hf
      refine x_lv [(0, .ref 0), (2, .int v2), (3, .long v3)] [0, 2, 3] rfl ?_
      exact hk109 _ _ _ hf
    · replace hf := f_el hB hf
      refine x_aload_n 0 dX10_mean_66 rfl rfl ?_
      refine x_getR dX10_mean_67 lx_0 fl_X10_41 rfl ?_
      refine x_aload_n 0 dX10_mean_70 rfl rfl ?_
      refine x_getR dX10_mean_71 lx_0 fl_X10_22 rfl ?_
      refine x_callVv [.ref 3] (c_X0_copyFrom (I := I) (L := L) 22 3 zt_22 zt_3) dX10_mean_74 lk_X10_190 lx_22 rfl cd_X0_copyFrom rfl rfl (Nat.le_of_ble_eq_true rfl) ⟨rfl, rfl, Nat.le_of_ble_eq_true rfl, Nat.le_of_ble_eq_true rfl⟩ ?_
      refine x_aload_n 0 dX10_mean_77 rfl rfl ?_
      refine x_getR dX10_mean_78 lx_0 fl_X10_79 rfl ?_
      refine x_aload_n 0 dX10_mean_81 rfl rfl ?_
      refine x_getR dX10_mean_82 lx_0 fl_X10_41 rfl ?_
      refine x_iload_n 1 dX10_mean_85 rfl rfl ?_
      refine x_iload 4 dX10_mean_86 rfl ?_
      refine x_iadd dX10_mean_88 ?_
      obtain ⟨q1, hq2, hf⟩ := f_bd hf
      refine x_callVv [.ref 22, .int (v1 + v5)] (c_X4_pass (I := (f_X0_copyFrom I L 22 3).1) (L := (f_X0_copyFrom I L 22 3).2) zt_22 hq2) dX10_mean_89 lk_X10_379 lx_45 rfl cd_X4_pass rfl rfl (Nat.le_of_ble_eq_true rfl) ⟨rfl, rfl, Nat.le_of_ble_eq_true rfl, Nat.le_of_ble_eq_true rfl⟩ ?_
      refine x_lload_n 3 dX10_mean_92 rfl rfl ?_
      refine x_aload_n 0 dX10_mean_93 rfl rfl ?_
      refine x_getR dX10_mean_94 lx_0 fl_X10_41 rfl ?_
      obtain ⟨q3, hq4, hf⟩ := f_bd hf
      refine x_callVi [] (c_X0_allGold (I := q1) (L := (f_X0_copyFrom I L 22 3).2) zt_22 hq4) dX10_mean_97 lk_X10_234 lx_22 rfl cd_X0_allGold rfl rfl (Nat.le_of_ble_eq_true rfl) ⟨rfl, rfl, Nat.le_of_ble_eq_true rfl, Nat.le_of_ble_eq_true rfl⟩ ?_
      refine x_i2l dX10_mean_100 ?_
      refine x_ladd dX10_mean_101 ?_
      refine x_lstore_n [(3, .long (v3 + (q3.toInt64))), (0, .ref 0), (1, .int v1), (2, .int v2), (5, .int v5)] dX10_mean_102 rfl (by decide) rfl ?_
      refine x_iinc 4 [(5, .int (v5 + (1 : Int32))), (3, .long (v3 + (q3.toInt64))), (0, .ref 0), (1, .int v1), (2, .int v2)] dX10_mean_103 rfl rfl (by decide) rfl ?_
      refine x_goto 60 dX10_mean_106 (by decide) ?_
      refine x_lv [(0, .ref 0), (1, .int v1), (2, .int v2), (3, .long (v3 + (q3.toInt64))), (5, .int (v5 + (1 : Int32)))] [2, 3, 4, 1, 0] rfl ?_
      exact ih _ _ _ _ hf
set_option maxRecDepth 100000 in
set_option maxHeartbeats 4000000 in
theorem c_X10_mean {I : z_I} {L : z_L} {p0 : Int32} {p1 : Int32}  {r : Bool × z_I × z_L} (hf : f_X10_mean I L p0 p1 = some r) : z_C layX yX10_mean cX10_mean 6 (some .boolean) ({ frames := 7, cells := 0, slots := 0, locals := 168 } : Room) [.ref 0, .int p0, .int p1] I L (some (.int (zb r.1)), r.2.1, r.2.2) := by
  refine z_C.of (by decide) (Nat.le_of_ble_eq_true rfl) ?_
  show z_X layX RX10 cX10_mean 6 (some .boolean) ({ frames := 7, cells := 0, slots := 0, locals := 168 } : Room) 0 [(0, .ref 0), (1, .int p0), (2, .int p1)] [] I L (some (.int (zb r.1)), r.2.1, r.2.2)
  unfold f_X10_mean at hf
  refine x_iload_n 1 dX10_mean_0 rfl rfl ?_
  refine x_iconst (v := (0)) dX10_mean_1 (by decide) ?_
  refine x_sipush (v := (9999)) dX10_mean_2 (by decide) ?_
  refine x_callSi [.int p0, .int (0 : Int32), .int (9999 : Int32)] (c_X10_isWithin (I := I) (L := L) p0 (0 : Int32) (9999 : Int32)) dX10_mean_5 lk_X10_128 cd_X10_isWithin rfl rfl (Nat.le_of_ble_eq_true rfl) ⟨rfl, rfl, Nat.le_of_ble_eq_true rfl, Nat.le_of_ble_eq_true rfl⟩ ?_
  refine x_if_eqB 32 dX10_mean_8 (by decide) (fun hB => ?_) (fun hB => ?_)
  · replace hf := f_el hB hf
    refine x_aload_n 0 dX10_mean_32 rfl rfl ?_
    refine x_iconst (v := (1)) dX10_mean_33 (by decide) ?_
    refine x_callVi [.int (1 : Int32)] (c_X10_deny (I := I) (L := L) (1 : Int32)) dX10_mean_34 lk_X10_132 lx_0 rfl cd_X10_deny rfl rfl (Nat.le_of_ble_eq_true rfl) ⟨rfl, rfl, Nat.le_of_ble_eq_true rfl, Nat.le_of_ble_eq_true rfl⟩ ?_
    cases hf
    exact x_zret dX10_mean_37 rfl rfl
  · replace hf := f_if hB hf
    refine x_iload_n 2 dX10_mean_11 rfl rfl ?_
    refine x_iconst (v := (1)) dX10_mean_12 (by decide) ?_
    refine x_bipush (v := (20)) dX10_mean_13 (by decide) ?_
    refine x_callSi [.int p1, .int (1 : Int32), .int (20 : Int32)] (c_X10_isWithin (I := I) (L := L) p1 (1 : Int32) (20 : Int32)) dX10_mean_15 lk_X10_128 cd_X10_isWithin rfl rfl (Nat.le_of_ble_eq_true rfl) ⟨rfl, rfl, Nat.le_of_ble_eq_true rfl, Nat.le_of_ble_eq_true rfl⟩ ?_
    refine x_if_eqB 32 dX10_mean_18 (by decide) (fun hB => ?_) (fun hB => ?_)
    · replace hf := f_el hB hf
      refine x_aload_n 0 dX10_mean_32 rfl rfl ?_
      refine x_iconst (v := (1)) dX10_mean_33 (by decide) ?_
      refine x_callVi [.int (1 : Int32)] (c_X10_deny (I := I) (L := L) (1 : Int32)) dX10_mean_34 lk_X10_132 lx_0 rfl cd_X10_deny rfl rfl (Nat.le_of_ble_eq_true rfl) ⟨rfl, rfl, Nat.le_of_ble_eq_true rfl, Nat.le_of_ble_eq_true rfl⟩ ?_
      cases hf
      exact x_zret dX10_mean_37 rfl rfl
    · replace hf := f_if hB hf
      refine x_iload_n 1 dX10_mean_21 rfl rfl ?_
      refine x_iload_n 2 dX10_mean_22 rfl rfl ?_
      refine x_iadd dX10_mean_23 ?_
      refine x_iconst (v := (1)) dX10_mean_24 (by decide) ?_
      refine x_isub dX10_mean_25 ?_
      refine x_sipush (v := (9999)) dX10_mean_26 (by decide) ?_
      refine x_icmp_le 38 dX10_mean_29 (by decide) (fun hB => ?_) (fun hB => ?_)
      · replace hf := f_if hB hf
        refine x_aload_n 0 dX10_mean_38 rfl rfl ?_
        refine x_getR dX10_mean_39 lx_0 fl_X10_29 rfl ?_
        refine x_getB (v := (zn (I 14 5))) dX10_mean_42 lx_14 fl_X10_376 rfl rfl ?_
        refine x_if_neB 55 dX10_mean_45 (by decide) (fun hB => ?_) (fun hB => ?_)
        · replace hf := f_if hB hf
          refine x_lconst (v := (0)) dX10_mean_55 (by decide) ?_
          refine x_lstore_n [(3, .long (0 : Int64)), (0, .ref 0), (1, .int p0), (2, .int p1)] dX10_mean_56 rfl (by decide) rfl ?_
          refine x_iconst (v := (0)) dX10_mean_57 (by decide) ?_
          refine x_istore [(5, .int (0 : Int32)), (3, .long (0 : Int64)), (0, .ref 0), (1, .int p0), (2, .int p1)] dX10_mean_58 (by decide) rfl ?_
          refine x_lv [(0, .ref 0), (1, .int p0), (2, .int p1), (3, .long (0 : Int64)), (5, .int (0 : Int32))] [2, 3, 4, 1, 0] rfl ?_
          refine l_X10_mean_60 p0 p1 _ ?_ _ _ _ _ _ hf
          · intro v3_5 I_6 L_7 hf
            refine x_aload_n 0 dX10_mean_109 rfl rfl ?_
            refine x_getR dX10_mean_110 lx_0 fl_X10_102 rfl ?_
            refine x_lload_n 2 dX10_mean_113 rfl rfl ?_
            refine x_iload_n 1 dX10_mean_114 rfl rfl ?_
            refine x_i2l dX10_mean_115 ?_
            obtain ⟨q8, hq9, hf⟩ := f_bd hf
            refine x_callVv [.long v3_5, .long (p1.toInt64)] (c_X3_tell (I := I_6) (L := L_7)  hq9) dX10_mean_116 lk_X10_356 lx_54 rfl cd_X3_tell rfl rfl (Nat.le_of_ble_eq_true rfl) ⟨rfl, rfl, Nat.le_of_ble_eq_true rfl, Nat.le_of_ble_eq_true rfl⟩ ?_
            refine x_aload_n 0 dX10_mean_119 rfl rfl ?_
            refine x_callVi [] (c_X10_grant (I := I_6) (L := q8) ) dX10_mean_120 lk_X10_139 lx_0 rfl cd_X10_grant rfl rfl (Nat.le_of_ble_eq_true rfl) ⟨rfl, rfl, Nat.le_of_ble_eq_true rfl, Nat.le_of_ble_eq_true rfl⟩ ?_
            cases hf
            exact x_zret dX10_mean_123 rfl rfl
        · replace hf := f_el hB hf
          refine x_aload_n 0 dX10_mean_48 rfl rfl ?_
          refine x_bipush (v := (6)) dX10_mean_49 (by decide) ?_
          refine x_callVi [.int (6 : Int32)] (c_X10_deny (I := I) (L := L) (6 : Int32)) dX10_mean_51 lk_X10_132 lx_0 rfl cd_X10_deny rfl rfl (Nat.le_of_ble_eq_true rfl) ⟨rfl, rfl, Nat.le_of_ble_eq_true rfl, Nat.le_of_ble_eq_true rfl⟩ ?_
          cases hf
          exact x_zret dX10_mean_54 rfl rfl
      · replace hf := f_el hB hf
        refine x_aload_n 0 dX10_mean_32 rfl rfl ?_
        refine x_iconst (v := (1)) dX10_mean_33 (by decide) ?_
        refine x_callVi [.int (1 : Int32)] (c_X10_deny (I := I) (L := L) (1 : Int32)) dX10_mean_34 lk_X10_132 lx_0 rfl cd_X10_deny rfl rfl (Nat.le_of_ble_eq_true rfl) ⟨rfl, rfl, Nat.le_of_ble_eq_true rfl, Nat.le_of_ble_eq_true rfl⟩ ?_
        cases hf
        exact x_zret dX10_mean_37 rfl rfl
set_option maxRecDepth 100000 in
set_option maxHeartbeats 4000000 in
theorem c_X10_mark {I : z_I} {L : z_L}   {r : Int32 × z_I × z_L} (hf : f_X10_mark I L = some r) : z_C layX yX10_mark cX10_mark 1 (some .int) ({ frames := 2, cells := 0, slots := 0, locals := 81 } : Room) [.ref 0] I L (some (.int r.1), r.2.1, r.2.2) := by
  refine z_C.of (by decide) (Nat.le_of_ble_eq_true rfl) ?_
  show z_X layX RX10 cX10_mark 1 (some .int) ({ frames := 2, cells := 0, slots := 0, locals := 81 } : Room) 0 [(0, .ref 0)] [] I L (some (.int r.1), r.2.1, r.2.2)
  unfold f_X10_mark at hf
  refine x_aload_n 0 dX10_mark_0 rfl rfl ?_
  refine x_getI (v := (I 0 19)) dX10_mark_1 lx_0 fl_X10_395 rfl rfl ?_
  refine x_iconst (v := (3)) dX10_mark_4 (by decide) ?_
  refine x_icmp_lt 14 dX10_mark_5 (by decide) (fun hB => ?_) (fun hB => ?_)
  · replace hf := f_if hB hf
    refine x_aload_n 0 dX10_mark_14 rfl rfl ?_
    refine x_getR dX10_mark_15 lx_0 fl_X10_33 rfl ?_
    refine x_aload_n 0 dX10_mark_18 rfl rfl ?_
    refine x_getI (v := (I 0 19)) dX10_mark_19 lx_0 fl_X10_395 rfl rfl ?_
    obtain ⟨h1, hf⟩ := f_gd hf
    refine x_aald (v := ([63, 80, 97].getD ((I 0 19)).toNatClampNeg 0)) 4 dX10_mark_22 lx_20 (fun _ => rfl) h1 (zt_gd h1 rfl) ?_
    refine x_aload_n 0 dX10_mark_23 rfl rfl ?_
    refine x_getR dX10_mark_24 lx_0 fl_X10_22 rfl ?_
    refine x_callVv [.ref 3] (c_X0_copyFrom (I := I) (L := L) ([63, 80, 97].getD ((I 0 19)).toNatClampNeg 0) 3 (zt_mc h1) zt_3) dX10_mark_27 lk_X10_190 (zt_mc h1).1 rfl cd_X0_copyFrom rfl rfl (Nat.le_of_ble_eq_true rfl) ⟨rfl, rfl, Nat.le_of_ble_eq_true rfl, Nat.le_of_ble_eq_true rfl⟩ ?_
    refine x_aload_n 0 dX10_mark_30 rfl rfl ?_
    refine x_getR dX10_mark_31 lx_0 fl_X10_37 rfl ?_
    refine x_aload_n 0 dX10_mark_34 rfl rfl ?_
    refine x_getI (v := ((f_X0_copyFrom I L ([63, 80, 97].getD ((I 0 19)).toNatClampNeg 0) 3).1 0 19)) dX10_mark_35 lx_0 fl_X10_395 rfl rfl ?_
    obtain ⟨h2, hf⟩ := f_gd hf
    refine x_aald (v := ([74, 91, 108].getD (((f_X0_copyFrom I L ([63, 80, 97].getD ((I 0 19)).toNatClampNeg 0) 3).1 0 19)).toNatClampNeg 0)) 5 dX10_mark_38 lx_21 (fun _ => rfl) h2 (zt_gd h2 rfl) ?_
    refine x_aload_n 0 dX10_mark_39 rfl rfl ?_
    refine x_getR dX10_mark_40 lx_0 fl_X10_29 rfl ?_
    refine x_callVv [.ref 14] (c_X5_copyFrom (I := (f_X0_copyFrom I L ([63, 80, 97].getD ((I 0 19)).toNatClampNeg 0) 3).1) (L := (f_X0_copyFrom I L ([63, 80, 97].getD ((I 0 19)).toNatClampNeg 0) 3).2) ([74, 91, 108].getD (((f_X0_copyFrom I L ([63, 80, 97].getD ((I 0 19)).toNatClampNeg 0) 3).1 0 19)).toNatClampNeg 0) 14 (zt_mt h2) zt_14) dX10_mark_43 lk_X10_203 (zt_mt h2).1 rfl cd_X5_copyFrom rfl rfl (Nat.le_of_ble_eq_true rfl) ⟨rfl, rfl, Nat.le_of_ble_eq_true rfl, Nat.le_of_ble_eq_true rfl⟩ ?_
    refine x_aload_n 0 dX10_mark_46 rfl rfl ?_
    refine x_dup dX10_mark_47 rfl ?_
    refine x_getI (v := ((f_X5_copyFrom (f_X0_copyFrom I L ([63, 80, 97].getD ((I 0 19)).toNatClampNeg 0) 3).1 ([74, 91, 108].getD (((f_X0_copyFrom I L ([63, 80, 97].getD ((I 0 19)).toNatClampNeg 0) 3).1 0 19)).toNatClampNeg 0) 14) 0 19)) dX10_mark_48 lx_0 fl_X10_395 rfl rfl ?_
    refine x_iconst (v := (1)) dX10_mark_51 (by decide) ?_
    refine x_iadd dX10_mark_52 ?_
    obtain ⟨I3, hI3, hf⟩ := f_lt hf
    refine x_putI dX10_mark_53 lx_0 fl_X10_395 rfl rfl rfl hI3 ?_
    refine x_aload_n 0 dX10_mark_56 rfl rfl ?_
    refine x_aload_n 0 dX10_mark_57 rfl rfl ?_
    refine x_getI (v := (((f_X5_copyFrom (f_X0_copyFrom I L ([63, 80, 97].getD ((I 0 19)).toNatClampNeg 0) 3).1 ([74, 91, 108].getD (((f_X0_copyFrom I L ([63, 80, 97].getD ((I 0 19)).toNatClampNeg 0) 3).1 0 19)).toNatClampNeg 0) 14) 0 19) + (1 : Int32))) dX10_mark_58 lx_0 fl_X10_395 rfl (by rw [hI3, z2_s, z1_s]) ?_
    refine x_callVi [.int (((f_X5_copyFrom (f_X0_copyFrom I L ([63, 80, 97].getD ((I 0 19)).toNatClampNeg 0) 3).1 ([74, 91, 108].getD (((f_X0_copyFrom I L ([63, 80, 97].getD ((I 0 19)).toNatClampNeg 0) 3).1 0 19)).toNatClampNeg 0) 14) 0 19) + (1 : Int32))] (c_X10_give (I := I3) (L := (f_X0_copyFrom I L ([63, 80, 97].getD ((I 0 19)).toNatClampNeg 0) 3).2) (((f_X5_copyFrom (f_X0_copyFrom I L ([63, 80, 97].getD ((I 0 19)).toNatClampNeg 0) 3).1 ([74, 91, 108].getD (((f_X0_copyFrom I L ([63, 80, 97].getD ((I 0 19)).toNatClampNeg 0) 3).1 0 19)).toNatClampNeg 0) 14) 0 19) + (1 : Int32))) dX10_mark_61 lk_X10_199 lx_0 rfl cd_X10_give rfl rfl (Nat.le_of_ble_eq_true rfl) ⟨rfl, rfl, Nat.le_of_ble_eq_true rfl, Nat.le_of_ble_eq_true rfl⟩ ?_
    cases hf
    exact x_iret dX10_mark_64 rfl rfl
  · replace hf := f_el hB hf
    refine x_aload_n 0 dX10_mark_8 rfl rfl ?_
    refine x_iconst (v := (4)) dX10_mark_9 (by decide) ?_
    refine x_callVi [.int (4 : Int32)] (c_X10_refuse (I := I) (L := L) (4 : Int32)) dX10_mark_10 lk_X10_151 lx_0 rfl cd_X10_refuse rfl rfl (Nat.le_of_ble_eq_true rfl) ⟨rfl, rfl, Nat.le_of_ble_eq_true rfl, Nat.le_of_ble_eq_true rfl⟩ ?_
    cases hf
    exact x_iret dX10_mark_13 rfl rfl
set_option maxRecDepth 100000 in
set_option maxHeartbeats 4000000 in
theorem c_X10_undo {I : z_I} {L : z_L}   {r : Int32 × z_I × z_L} (hf : f_X10_undo I L = some r) : z_C layX yX10_undo cX10_undo 1 (some .int) ({ frames := 2, cells := 0, slots := 0, locals := 81 } : Room) [.ref 0] I L (some (.int r.1), r.2.1, r.2.2) := by
  refine z_C.of (by decide) (Nat.le_of_ble_eq_true rfl) ?_
  show z_X layX RX10 cX10_undo 1 (some .int) ({ frames := 2, cells := 0, slots := 0, locals := 81 } : Room) 0 [(0, .ref 0)] [] I L (some (.int r.1), r.2.1, r.2.2)
  unfold f_X10_undo at hf
  refine x_aload_n 0 dX10_undo_0 rfl rfl ?_
  refine x_getI (v := (I 0 19)) dX10_undo_1 lx_0 fl_X10_395 rfl rfl ?_
  refine x_if_ne 14 dX10_undo_4 (by decide) (fun hB => ?_) (fun hB => ?_)
  · replace hf := f_el hB hf
    refine x_aload_n 0 dX10_undo_14 rfl rfl ?_
    refine x_dup dX10_undo_15 rfl ?_
    refine x_getI (v := (I 0 19)) dX10_undo_16 lx_0 fl_X10_395 rfl rfl ?_
    refine x_iconst (v := (1)) dX10_undo_19 (by decide) ?_
    refine x_isub dX10_undo_20 ?_
    obtain ⟨I1, hI1, hf⟩ := f_lt hf
    refine x_putI dX10_undo_21 lx_0 fl_X10_395 rfl rfl rfl hI1 ?_
    refine x_aload_n 0 dX10_undo_24 rfl rfl ?_
    refine x_getR dX10_undo_25 lx_0 fl_X10_22 rfl ?_
    refine x_aload_n 0 dX10_undo_28 rfl rfl ?_
    refine x_getR dX10_undo_29 lx_0 fl_X10_33 rfl ?_
    refine x_aload_n 0 dX10_undo_32 rfl rfl ?_
    refine x_getI (v := ((I 0 19) - (1 : Int32))) dX10_undo_33 lx_0 fl_X10_395 rfl (by rw [hI1, z2_s, z1_s]) ?_
    obtain ⟨h2, hf⟩ := f_gd hf
    refine x_aald (v := ([63, 80, 97].getD (((I 0 19) - (1 : Int32))).toNatClampNeg 0)) 4 dX10_undo_36 lx_20 (fun _ => rfl) h2 (zt_gd h2 rfl) ?_
    refine x_callVv [.ref ([63, 80, 97].getD (((I 0 19) - (1 : Int32))).toNatClampNeg 0)] (c_X0_copyFrom (I := I1) (L := L) 3 ([63, 80, 97].getD (((I 0 19) - (1 : Int32))).toNatClampNeg 0) zt_3 (zt_mc h2)) dX10_undo_37 lk_X10_190 lx_3 rfl cd_X0_copyFrom rfl rfl (Nat.le_of_ble_eq_true rfl) ⟨rfl, rfl, Nat.le_of_ble_eq_true rfl, Nat.le_of_ble_eq_true rfl⟩ ?_
    refine x_aload_n 0 dX10_undo_40 rfl rfl ?_
    refine x_getR dX10_undo_41 lx_0 fl_X10_29 rfl ?_
    refine x_aload_n 0 dX10_undo_44 rfl rfl ?_
    refine x_getR dX10_undo_45 lx_0 fl_X10_37 rfl ?_
    refine x_aload_n 0 dX10_undo_48 rfl rfl ?_
    refine x_getI (v := ((f_X0_copyFrom I1 L 3 ([63, 80, 97].getD (((I 0 19) - (1 : Int32))).toNatClampNeg 0)).1 0 19)) dX10_undo_49 lx_0 fl_X10_395 rfl rfl ?_
    obtain ⟨h3, hf⟩ := f_gd hf
    refine x_aald (v := ([74, 91, 108].getD (((f_X0_copyFrom I1 L 3 ([63, 80, 97].getD (((I 0 19) - (1 : Int32))).toNatClampNeg 0)).1 0 19)).toNatClampNeg 0)) 5 dX10_undo_52 lx_21 (fun _ => rfl) h3 (zt_gd h3 rfl) ?_
    refine x_callVv [.ref ([74, 91, 108].getD (((f_X0_copyFrom I1 L 3 ([63, 80, 97].getD (((I 0 19) - (1 : Int32))).toNatClampNeg 0)).1 0 19)).toNatClampNeg 0)] (c_X5_copyFrom (I := (f_X0_copyFrom I1 L 3 ([63, 80, 97].getD (((I 0 19) - (1 : Int32))).toNatClampNeg 0)).1) (L := (f_X0_copyFrom I1 L 3 ([63, 80, 97].getD (((I 0 19) - (1 : Int32))).toNatClampNeg 0)).2) 14 ([74, 91, 108].getD (((f_X0_copyFrom I1 L 3 ([63, 80, 97].getD (((I 0 19) - (1 : Int32))).toNatClampNeg 0)).1 0 19)).toNatClampNeg 0) zt_14 (zt_mt h3)) dX10_undo_53 lk_X10_203 lx_14 rfl cd_X5_copyFrom rfl rfl (Nat.le_of_ble_eq_true rfl) ⟨rfl, rfl, Nat.le_of_ble_eq_true rfl, Nat.le_of_ble_eq_true rfl⟩ ?_
    refine x_aload_n 0 dX10_undo_56 rfl rfl ?_
    refine x_aload_n 0 dX10_undo_57 rfl rfl ?_
    refine x_getI (v := ((f_X5_copyFrom (f_X0_copyFrom I1 L 3 ([63, 80, 97].getD (((I 0 19) - (1 : Int32))).toNatClampNeg 0)).1 14 ([74, 91, 108].getD (((f_X0_copyFrom I1 L 3 ([63, 80, 97].getD (((I 0 19) - (1 : Int32))).toNatClampNeg 0)).1 0 19)).toNatClampNeg 0)) 0 19)) dX10_undo_58 lx_0 fl_X10_395 rfl rfl ?_
    refine x_callVi [.int ((f_X5_copyFrom (f_X0_copyFrom I1 L 3 ([63, 80, 97].getD (((I 0 19) - (1 : Int32))).toNatClampNeg 0)).1 14 ([74, 91, 108].getD (((f_X0_copyFrom I1 L 3 ([63, 80, 97].getD (((I 0 19) - (1 : Int32))).toNatClampNeg 0)).1 0 19)).toNatClampNeg 0)) 0 19)] (c_X10_give (I := (f_X5_copyFrom (f_X0_copyFrom I1 L 3 ([63, 80, 97].getD (((I 0 19) - (1 : Int32))).toNatClampNeg 0)).1 14 ([74, 91, 108].getD (((f_X0_copyFrom I1 L 3 ([63, 80, 97].getD (((I 0 19) - (1 : Int32))).toNatClampNeg 0)).1 0 19)).toNatClampNeg 0))) (L := (f_X0_copyFrom I1 L 3 ([63, 80, 97].getD (((I 0 19) - (1 : Int32))).toNatClampNeg 0)).2) ((f_X5_copyFrom (f_X0_copyFrom I1 L 3 ([63, 80, 97].getD (((I 0 19) - (1 : Int32))).toNatClampNeg 0)).1 14 ([74, 91, 108].getD (((f_X0_copyFrom I1 L 3 ([63, 80, 97].getD (((I 0 19) - (1 : Int32))).toNatClampNeg 0)).1 0 19)).toNatClampNeg 0)) 0 19)) dX10_undo_61 lk_X10_199 lx_0 rfl cd_X10_give rfl rfl (Nat.le_of_ble_eq_true rfl) ⟨rfl, rfl, Nat.le_of_ble_eq_true rfl, Nat.le_of_ble_eq_true rfl⟩ ?_
    cases hf
    exact x_iret dX10_undo_64 rfl rfl
  · replace hf := f_if hB hf
    refine x_aload_n 0 dX10_undo_7 rfl rfl ?_
    refine x_bipush (v := (6)) dX10_undo_8 (by decide) ?_
    refine x_callVi [.int (6 : Int32)] (c_X10_refuse (I := I) (L := L) (6 : Int32)) dX10_undo_10 lk_X10_151 lx_0 rfl cd_X10_refuse rfl rfl (Nat.le_of_ble_eq_true rfl) ⟨rfl, rfl, Nat.le_of_ble_eq_true rfl, Nat.le_of_ble_eq_true rfl⟩ ?_
    cases hf
    exact x_iret dX10_undo_13 rfl rfl
