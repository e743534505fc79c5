theorem z_0.le {n m : Nat} {I : z_I} {L : z_L} (h : z_0 n I L) (hm : n ≤ m) : z_0 m I L := fun c j hj => h c j (Nat.le_trans hm hj)
set_option maxRecDepth 100000 in
set_option maxHeartbeats 4000000 in
theorem k_X0_init_3 {I : z_I} {L : z_L} : z_CI 4 yl_4 yX0_init cX0_init 1 ({ frames := 1, cells := 10, slots := 60, locals := 12 } : Room) [.ref 3] I L yl_24 (none, (z2 I 3 14 (8)), L) 10 60 := by
  refine z_CI.of (by decide) rfl (Nat.le_of_ble_eq_true rfl) ?_
  show z_Y 4 yl_4 RX0 cX0_init 1 ({ frames := 1, cells := 10, slots := 60, locals := 12 } : Room) 0 [(0, .ref 3)] [] I L 0 0 yl_24 (none, (z2 I 3 14 (8)), L) 10 60
  refine y_aload_n 0 dX0_init_0 rfl rfl ?_
  refine y_obj dX0_init_1 oi_X0_3 ⟨Nat.le_of_ble_eq_true rfl, Nat.le_of_ble_eq_true rfl⟩ ?_
  refine y_aload_n 0 dX0_init_4 rfl rfl ?_
  refine y_bipush (v := (6)) dX0_init_5 (by decide) ?_
  refine y_newaI (n := 4) (N0 := 6) (lay2 := yl_5) dX0_init_7 ar_int (by decide) (by decide) (Nat.le_of_ble_eq_true rfl) rfl (by decide) rfl (by decide) (by decide) rfl rfl (Nat.le_of_ble_eq_true rfl) (Nat.le_of_ble_eq_true rfl) ?_
  refine y_putF (lay2 := yl_6) dX0_init_9 rfl fl_X0_9 rfl zo_0_0 (fun _ => rfl) (fun _ => rfl) rfl ?_
  refine y_aload_n 0 dX0_init_12 rfl rfl ?_
  refine y_bipush (v := (6)) dX0_init_13 (by decide) ?_
  refine y_newaI (n := 5) (N0 := 6) (lay2 := yl_7) dX0_init_15 ar_int (by decide) (by decide) (Nat.le_of_ble_eq_true rfl) rfl (by decide) rfl (by decide) (by decide) rfl rfl (Nat.le_of_ble_eq_true rfl) (Nat.le_of_ble_eq_true rfl) ?_
  refine y_putF (lay2 := yl_8) dX0_init_17 rfl fl_X0_15 rfl zo_0_1 (fun _ => rfl) (fun _ => rfl) rfl ?_
  refine y_aload_n 0 dX0_init_20 rfl rfl ?_
  refine y_bipush (v := (8)) dX0_init_21 (by decide) ?_
  refine y_newaI (n := 6) (N0 := 8) (lay2 := yl_9) dX0_init_23 ar_int (by decide) (by decide) (Nat.le_of_ble_eq_true rfl) rfl (by decide) rfl (by decide) (by decide) rfl rfl (Nat.le_of_ble_eq_true rfl) (Nat.le_of_ble_eq_true rfl) ?_
  refine y_putF (lay2 := yl_10) dX0_init_25 rfl fl_X0_18 rfl zo_0_2 (fun _ => rfl) (fun _ => rfl) rfl ?_
  refine y_aload_n 0 dX0_init_28 rfl rfl ?_
  refine y_bipush (v := (7)) dX0_init_29 (by decide) ?_
  refine y_newaI (n := 7) (N0 := 7) (lay2 := yl_11) dX0_init_31 ar_int (by decide) (by decide) (Nat.le_of_ble_eq_true rfl) rfl (by decide) rfl (by decide) (by decide) rfl rfl (Nat.le_of_ble_eq_true rfl) (Nat.le_of_ble_eq_true rfl) ?_
  refine y_putF (lay2 := yl_12) dX0_init_33 rfl fl_X0_21 rfl zo_0_3 (fun _ => rfl) (fun _ => rfl) rfl ?_
  refine y_aload_n 0 dX0_init_36 rfl rfl ?_
  refine y_bipush (v := (7)) dX0_init_37 (by decide) ?_
  refine y_newaI (n := 8) (N0 := 7) (lay2 := yl_13) dX0_init_39 ar_int (by decide) (by decide) (Nat.le_of_ble_eq_true rfl) rfl (by decide) rfl (by decide) (by decide) rfl rfl (Nat.le_of_ble_eq_true rfl) (Nat.le_of_ble_eq_true rfl) ?_
  refine y_putF (lay2 := yl_14) dX0_init_41 rfl fl_X0_24 rfl zo_0_4 (fun _ => rfl) (fun _ => rfl) rfl ?_
  refine y_aload_n 0 dX0_init_44 rfl rfl ?_
  refine y_bipush (v := (7)) dX0_init_45 (by decide) ?_
  refine y_newaI (n := 9) (N0 := 7) (lay2 := yl_15) dX0_init_47 ar_int (by decide) (by decide) (Nat.le_of_ble_eq_true rfl) rfl (by decide) rfl (by decide) (by decide) rfl rfl (Nat.le_of_ble_eq_true rfl) (Nat.le_of_ble_eq_true rfl) ?_
  refine y_putF (lay2 := yl_16) dX0_init_49 rfl fl_X0_27 rfl zo_0_5 (fun _ => rfl) (fun _ => rfl) rfl ?_
  refine y_aload_n 0 dX0_init_52 rfl rfl ?_
  refine y_bipush (v := (7)) dX0_init_53 (by decide) ?_
  refine y_newaL (n := 10) (N0 := 7) (lay2 := yl_17) dX0_init_55 ar_long (by decide) (by decide) (Nat.le_of_ble_eq_true rfl) rfl (by decide) rfl (by decide) (by decide) rfl rfl (Nat.le_of_ble_eq_true rfl) (Nat.le_of_ble_eq_true rfl) ?_
  refine y_putF (lay2 := yl_18) dX0_init_57 rfl fl_X0_30 rfl zo_0_6 (fun _ => rfl) (fun _ => rfl) rfl ?_
  refine y_aload_n 0 dX0_init_60 rfl rfl ?_
  refine y_iconst (v := (4)) dX0_init_61 (by decide) ?_
  refine y_newaI (n := 11) (N0 := 4) (lay2 := yl_19) dX0_init_62 ar_int (by decide) (by decide) (Nat.le_of_ble_eq_true rfl) rfl (by decide) rfl (by decide) (by decide) rfl rfl (Nat.le_of_ble_eq_true rfl) (Nat.le_of_ble_eq_true rfl) ?_
  refine y_putF (lay2 := yl_20) dX0_init_64 rfl fl_X0_34 rfl zo_0_7 (fun _ => rfl) (fun _ => rfl) rfl ?_
  refine y_aload_n 0 dX0_init_67 rfl rfl ?_
  refine y_iconst (v := (4)) dX0_init_68 (by decide) ?_
  refine y_newaI (n := 12) (N0 := 4) (lay2 := yl_21) dX0_init_69 ar_int (by decide) (by decide) (Nat.le_of_ble_eq_true rfl) rfl (by decide) rfl (by decide) (by decide) rfl rfl (Nat.le_of_ble_eq_true rfl) (Nat.le_of_ble_eq_true rfl) ?_
  refine y_putF (lay2 := yl_22) dX0_init_71 rfl fl_X0_37 rfl zo_0_8 (fun _ => rfl) (fun _ => rfl) rfl ?_
  refine y_aload_n 0 dX0_init_74 rfl rfl ?_
  refine y_iconst (v := (4)) dX0_init_75 (by decide) ?_
  refine y_newaL (n := 13) (N0 := 4) (lay2 := yl_23) dX0_init_76 ar_long (by decide) (by decide) (Nat.le_of_ble_eq_true rfl) rfl (by decide) rfl (by decide) (by decide) rfl rfl (Nat.le_of_ble_eq_true rfl) (Nat.le_of_ble_eq_true rfl) ?_
  refine y_putF (lay2 := yl_24) dX0_init_78 rfl fl_X0_40 rfl zo_0_9 (fun _ => rfl) (fun _ => rfl) rfl ?_
  refine y_aload_n 0 dX0_init_81 rfl rfl ?_
  refine y_bipush (v := (8)) dX0_init_82 (by decide) ?_
  refine y_putI dX0_init_84 rfl fl_X0_43 rfl rfl rfl rfl ?_
  exact y_vret dX0_init_87 rfl rfl rfl rfl
set_option maxRecDepth 100000 in
set_option maxHeartbeats 4000000 in
theorem k_X5_init_14 {I : z_I} {L : z_L} : z_CI 15 yl_26 yX5_init cX5_init 1 ({ frames := 1, cells := 5, slots := 300, locals := 12 } : Room) [.ref 14] I L yl_36 (none, I, L) 5 300 := by
  refine z_CI.of (by decide) rfl (Nat.le_of_ble_eq_true rfl) ?_
  show z_Y 15 yl_26 RX5 cX5_init 1 ({ frames := 1, cells := 5, slots := 300, locals := 12 } : Room) 0 [(0, .ref 14)] [] I L 0 0 yl_36 (none, I, L) 5 300
  refine y_aload_n 0 dX5_init_0 rfl rfl ?_
  refine y_obj dX5_init_1 oi_X5_3 ⟨Nat.le_of_ble_eq_true rfl, Nat.le_of_ble_eq_true rfl⟩ ?_
  refine y_aload_n 0 dX5_init_4 rfl rfl ?_
  refine y_bipush (v := (60)) dX5_init_5 (by decide) ?_
  refine y_newaI (n := 15) (N0 := 60) (lay2 := yl_27) dX5_init_7 ar_int (by decide) (by decide) (Nat.le_of_ble_eq_true rfl) rfl (by decide) rfl (by decide) (by decide) rfl rfl (Nat.le_of_ble_eq_true rfl) (Nat.le_of_ble_eq_true rfl) ?_
  refine y_putF (lay2 := yl_28) dX5_init_9 rfl fl_X5_11 rfl zo_5_0 (fun _ => rfl) (fun _ => rfl) rfl ?_
  refine y_aload_n 0 dX5_init_12 rfl rfl ?_
  refine y_bipush (v := (60)) dX5_init_13 (by decide) ?_
  refine y_newaI (n := 16) (N0 := 60) (lay2 := yl_29) dX5_init_15 ar_int (by decide) (by decide) (Nat.le_of_ble_eq_true rfl) rfl (by decide) rfl (by decide) (by decide) rfl rfl (Nat.le_of_ble_eq_true rfl) (Nat.le_of_ble_eq_true rfl) ?_
  refine y_putF (lay2 := yl_30) dX5_init_17 rfl fl_X5_15 rfl zo_5_1 (fun _ => rfl) (fun _ => rfl) rfl ?_
  refine y_aload_n 0 dX5_init_20 rfl rfl ?_
  refine y_bipush (v := (60)) dX5_init_21 (by decide) ?_
  refine y_newaI (n := 17) (N0 := 60) (lay2 := yl_31) dX5_init_23 ar_int (by decide) (by decide) (Nat.le_of_ble_eq_true rfl) rfl (by decide) rfl (by decide) (by decide) rfl rfl (Nat.le_of_ble_eq_true rfl) (Nat.le_of_ble_eq_true rfl) ?_
  refine y_putF (lay2 := yl_32) dX5_init_25 rfl fl_X5_18 rfl zo_5_2 (fun _ => rfl) (fun _ => rfl) rfl ?_
  refine y_aload_n 0 dX5_init_28 rfl rfl ?_
  refine y_bipush (v := (60)) dX5_init_29 (by decide) ?_
  refine y_newaI (n := 18) (N0 := 60) (lay2 := yl_33) dX5_init_31 ar_int (by decide) (by decide) (Nat.le_of_ble_eq_true rfl) rfl (by decide) rfl (by decide) (by decide) rfl rfl (Nat.le_of_ble_eq_true rfl) (Nat.le_of_ble_eq_true rfl) ?_
  refine y_putF (lay2 := yl_34) dX5_init_33 rfl fl_X5_21 rfl zo_5_3 (fun _ => rfl) (fun _ => rfl) rfl ?_
  refine y_aload_n 0 dX5_init_36 rfl rfl ?_
  refine y_bipush (v := (60)) dX5_init_37 (by decide) ?_
  refine y_newaI (n := 19) (N0 := 60) (lay2 := yl_35) dX5_init_39 ar_int (by decide) (by decide) (Nat.le_of_ble_eq_true rfl) rfl (by decide) rfl (by decide) (by decide) rfl rfl (Nat.le_of_ble_eq_true rfl) (Nat.le_of_ble_eq_true rfl) ?_
  refine y_putF (lay2 := yl_36) dX5_init_41 rfl fl_X5_24 rfl zo_5_4 (fun _ => rfl) (fun _ => rfl) rfl ?_
  exact y_vret dX5_init_44 rfl rfl rfl rfl
set_option maxRecDepth 100000 in
set_option maxHeartbeats 4000000 in
theorem k_X0_init_22 {I : z_I} {L : z_L} : z_CI 23 yl_42 yX0_init cX0_init 1 ({ frames := 1, cells := 10, slots := 60, locals := 12 } : Room) [.ref 22] I L yl_62 (none, (z2 I 22 14 (8)), L) 10 60 := by
  refine z_CI.of (by decide) rfl (Nat.le_of_ble_eq_true rfl) ?_
  show z_Y 23 yl_42 RX0 cX0_init 1 ({ frames := 1, cells := 10, slots := 60, locals := 12 } : Room) 0 [(0, .ref 22)] [] I L 0 0 yl_62 (none, (z2 I 22 14 (8)), L) 10 60
  refine y_aload_n 0 dX0_init_0 rfl rfl ?_
  refine y_obj dX0_init_1 oi_X0_3 ⟨Nat.le_of_ble_eq_true rfl, Nat.le_of_ble_eq_true rfl⟩ ?_
  refine y_aload_n 0 dX0_init_4 rfl rfl ?_
  refine y_bipush (v := (6)) dX0_init_5 (by decide) ?_
  refine y_newaI (n := 23) (N0 := 6) (lay2 := yl_43) dX0_init_7 ar_int (by decide) (by decide) (Nat.le_of_ble_eq_true rfl) rfl (by decide) rfl (by decide) (by decide) rfl rfl (Nat.le_of_ble_eq_true rfl) (Nat.le_of_ble_eq_true rfl) ?_
  refine y_putF (lay2 := yl_44) dX0_init_9 rfl fl_X0_9 rfl zo_0_0 (fun _ => rfl) (fun _ => rfl) rfl ?_
  refine y_aload_n 0 dX0_init_12 rfl rfl ?_
  refine y_bipush (v := (6)) dX0_init_13 (by decide) ?_
  refine y_newaI (n := 24) (N0 := 6) (lay2 := yl_45) dX0_init_15 ar_int (by decide) (by decide) (Nat.le_of_ble_eq_true rfl) rfl (by decide) rfl (by decide) (by decide) rfl rfl (Nat.le_of_ble_eq_true rfl) (Nat.le_of_ble_eq_true rfl) ?_
  refine y_putF (lay2 := yl_46) dX0_init_17 rfl fl_X0_15 rfl zo_0_1 (fun _ => rfl) (fun _ => rfl) rfl ?_
  refine y_aload_n 0 dX0_init_20 rfl rfl ?_
  refine y_bipush (v := (8)) dX0_init_21 (by decide) ?_
  refine y_newaI (n := 25) (N0 := 8) (lay2 := yl_47) dX0_init_23 ar_int (by decide) (by decide) (Nat.le_of_ble_eq_true rfl) rfl (by decide) rfl (by decide) (by decide) rfl rfl (Nat.le_of_ble_eq_true rfl) (Nat.le_of_ble_eq_true rfl) ?_
  refine y_putF (lay2 := yl_48) dX0_init_25 rfl fl_X0_18 rfl zo_0_2 (fun _ => rfl) (fun _ => rfl) rfl ?_
  refine y_aload_n 0 dX0_init_28 rfl rfl ?_
  refine y_bipush (v := (7)) dX0_init_29 (by decide) ?_
  refine y_newaI (n := 26) (N0 := 7) (lay2 := yl_49) dX0_init_31 ar_int (by decide) (by decide) (Nat.le_of_ble_eq_true rfl) rfl (by decide) rfl (by decide) (by decide) rfl rfl (Nat.le_of_ble_eq_true rfl) (Nat.le_of_ble_eq_true rfl) ?_
  refine y_putF (lay2 := yl_50) dX0_init_33 rfl fl_X0_21 rfl zo_0_3 (fun _ => rfl) (fun _ => rfl) rfl ?_
  refine y_aload_n 0 dX0_init_36 rfl rfl ?_
  refine y_bipush (v := (7)) dX0_init_37 (by decide) ?_
  refine y_newaI (n := 27) (N0 := 7) (lay2 := yl_51) dX0_init_39 ar_int (by decide) (by decide) (Nat.le_of_ble_eq_true rfl) rfl (by decide) rfl (by decide) (by decide) rfl rfl (Nat.le_of_ble_eq_true rfl) (Nat.le_of_ble_eq_true rfl) ?_
  refine y_putF (lay2 := yl_52) dX0_init_41 rfl fl_X0_24 rfl zo_0_4 (fun _ => rfl) (fun _ => rfl) rfl ?_
  refine y_aload_n 0 dX0_init_44 rfl rfl ?_
  refine y_bipush (v := (7)) dX0_init_45 (by decide) ?_
  refine y_newaI (n := 28) (N0 := 7) (lay2 := yl_53) dX0_init_47 ar_int (by decide) (by decide) (Nat.le_of_ble_eq_true rfl) rfl (by decide) rfl (by decide) (by decide) rfl rfl (Nat.le_of_ble_eq_true rfl) (Nat.le_of_ble_eq_true rfl) ?_
  refine y_putF (lay2 := yl_54) dX0_init_49 rfl fl_X0_27 rfl zo_0_5 (fun _ => rfl) (fun _ => rfl) rfl ?_
  refine y_aload_n 0 dX0_init_52 rfl rfl ?_
  refine y_bipush (v := (7)) dX0_init_53 (by decide) ?_
  refine y_newaL (n := 29) (N0 := 7) (lay2 := yl_55) dX0_init_55 ar_long (by decide) (by decide) (Nat.le_of_ble_eq_true rfl) rfl (by decide) rfl (by decide) (by decide) rfl rfl (Nat.le_of_ble_eq_true rfl) (Nat.le_of_ble_eq_true rfl) ?_
  refine y_putF (lay2 := yl_56) dX0_init_57 rfl fl_X0_30 rfl zo_0_6 (fun _ => rfl) (fun _ => rfl) rfl ?_
  refine y_aload_n 0 dX0_init_60 rfl rfl ?_
  refine y_iconst (v := (4)) dX0_init_61 (by decide) ?_
  refine y_newaI (n := 30) (N0 := 4) (lay2 := yl_57) dX0_init_62 ar_int (by decide) (by decide) (Nat.le_of_ble_eq_true rfl) rfl (by decide) rfl (by decide) (by decide) rfl rfl (Nat.le_of_ble_eq_true rfl) (Nat.le_of_ble_eq_true rfl) ?_
  refine y_putF (lay2 := yl_58) dX0_init_64 rfl fl_X0_34 rfl zo_0_7 (fun _ => rfl) (fun _ => rfl) rfl ?_
  refine y_aload_n 0 dX0_init_67 rfl rfl ?_
  refine y_iconst (v := (4)) dX0_init_68 (by decide) ?_
  refine y_newaI (n := 31) (N0 := 4) (lay2 := yl_59) dX0_init_69 ar_int (by decide) (by decide) (Nat.le_of_ble_eq_true rfl) rfl (by decide) rfl (by decide) (by decide) rfl rfl (Nat.le_of_ble_eq_true rfl) (Nat.le_of_ble_eq_true rfl) ?_
  refine y_putF (lay2 := yl_60) dX0_init_71 rfl fl_X0_37 rfl zo_0_8 (fun _ => rfl) (fun _ => rfl) rfl ?_
  refine y_aload_n 0 dX0_init_74 rfl rfl ?_
  refine y_iconst (v := (4)) dX0_init_75 (by decide) ?_
  refine y_newaL (n := 32) (N0 := 4) (lay2 := yl_61) dX0_init_76 ar_long (by decide) (by decide) (Nat.le_of_ble_eq_true rfl) rfl (by decide) rfl (by decide) (by decide) rfl rfl (Nat.le_of_ble_eq_true rfl) (Nat.le_of_ble_eq_true rfl) ?_
  refine y_putF (lay2 := yl_62) dX0_init_78 rfl fl_X0_40 rfl zo_0_9 (fun _ => rfl) (fun _ => rfl) rfl ?_
  refine y_aload_n 0 dX0_init_81 rfl rfl ?_
  refine y_bipush (v := (8)) dX0_init_82 (by decide) ?_
  refine y_putI dX0_init_84 rfl fl_X0_43 rfl rfl rfl rfl ?_
  exact y_vret dX0_init_87 rfl rfl rfl rfl
set_option maxRecDepth 100000 in
set_option maxHeartbeats 4000000 in
theorem k_X5_init_33 {I : z_I} {L : z_L} : z_CI 34 yl_64 yX5_init cX5_init 1 ({ frames := 1, cells := 5, slots := 300, locals := 12 } : Room) [.ref 33] I L yl_74 (none, I, L) 5 300 := by
  refine z_CI.of (by decide) rfl (Nat.le_of_ble_eq_true rfl) ?_
  show z_Y 34 yl_64 RX5 cX5_init 1 ({ frames := 1, cells := 5, slots := 300, locals := 12 } : Room) 0 [(0, .ref 33)] [] I L 0 0 yl_74 (none, I, L) 5 300
  refine y_aload_n 0 dX5_init_0 rfl rfl ?_
  refine y_obj dX5_init_1 oi_X5_3 ⟨Nat.le_of_ble_eq_true rfl, Nat.le_of_ble_eq_true rfl⟩ ?_
  refine y_aload_n 0 dX5_init_4 rfl rfl ?_
  refine y_bipush (v := (60)) dX5_init_5 (by decide) ?_
  refine y_newaI (n := 34) (N0 := 60) (lay2 := yl_65) dX5_init_7 ar_int (by decide) (by decide) (Nat.le_of_ble_eq_true rfl) rfl (by decide) rfl (by decide) (by decide) rfl rfl (Nat.le_of_ble_eq_true rfl) (Nat.le_of_ble_eq_true rfl) ?_
  refine y_putF (lay2 := yl_66) dX5_init_9 rfl fl_X5_11 rfl zo_5_0 (fun _ => rfl) (fun _ => rfl) rfl ?_
  refine y_aload_n 0 dX5_init_12 rfl rfl ?_
  refine y_bipush (v := (60)) dX5_init_13 (by decide) ?_
  refine y_newaI (n := 35) (N0 := 60) (lay2 := yl_67) dX5_init_15 ar_int (by decide) (by decide) (Nat.le_of_ble_eq_true rfl) rfl (by decide) rfl (by decide) (by decide) rfl rfl (Nat.le_of_ble_eq_true rfl) (Nat.le_of_ble_eq_true rfl) ?_
  refine y_putF (lay2 := yl_68) dX5_init_17 rfl fl_X5_15 rfl zo_5_1 (fun _ => rfl) (fun _ => rfl) rfl ?_
  refine y_aload_n 0 dX5_init_20 rfl rfl ?_
  refine y_bipush (v := (60)) dX5_init_21 (by decide) ?_
  refine y_newaI (n := 36) (N0 := 60) (lay2 := yl_69) dX5_init_23 ar_int (by decide) (by decide) (Nat.le_of_ble_eq_true rfl) rfl (by decide) rfl (by decide) (by decide) rfl rfl (Nat.le_of_ble_eq_true rfl) (Nat.le_of_ble_eq_true rfl) ?_
  refine y_putF (lay2 := yl_70) dX5_init_25 rfl fl_X5_18 rfl zo_5_2 (fun _ => rfl) (fun _ => rfl) rfl ?_
  refine y_aload_n 0 dX5_init_28 rfl rfl ?_
  refine y_bipush (v := (60)) dX5_init_29 (by decide) ?_
  refine y_newaI (n := 37) (N0 := 60) (lay2 := yl_71) dX5_init_31 ar_int (by decide) (by decide) (Nat.le_of_ble_eq_true rfl) rfl (by decide) rfl (by decide) (by decide) rfl rfl (Nat.le_of_ble_eq_true rfl) (Nat.le_of_ble_eq_true rfl) ?_
  refine y_putF (lay2 := yl_72) dX5_init_33 rfl fl_X5_21 rfl zo_5_3 (fun _ => rfl) (fun _ => rfl) rfl ?_
  refine y_aload_n 0 dX5_init_36 rfl rfl ?_
  refine y_bipush (v := (60)) dX5_init_37 (by decide) ?_
  refine y_newaI (n := 38) (N0 := 60) (lay2 := yl_73) dX5_init_39 ar_int (by decide) (by decide) (Nat.le_of_ble_eq_true rfl) rfl (by decide) rfl (by decide) (by decide) rfl rfl (Nat.le_of_ble_eq_true rfl) (Nat.le_of_ble_eq_true rfl) ?_
  refine y_putF (lay2 := yl_74) dX5_init_41 rfl fl_X5_24 rfl zo_5_4 (fun _ => rfl) (fun _ => rfl) rfl ?_
  exact y_vret dX5_init_44 rfl rfl rfl rfl
set_option maxRecDepth 100000 in
set_option maxHeartbeats 4000000 in
theorem k_X7_init_39 {I : z_I} {L : z_L} {L1 : z_L} (hf : f_X7_tail L = some L1) : z_CI 40 yl_76 yX7_init cX7_init 7 ({ frames := 4, cells := 1, slots := 23, locals := 90 } : Room) [.ref 39, .ref 2] I L yl_79 (none, I, L1) 1 23 := by
  refine z_CI.of (by decide) rfl (Nat.le_of_ble_eq_true rfl) ?_
  show z_Y 40 yl_76 RX7 cX7_init 7 ({ frames := 4, cells := 1, slots := 23, locals := 90 } : Room) 0 [(0, .ref 39), (1, .ref 2)] [] I L 0 0 yl_79 (none, I, L1) 1 23
  refine y_aload_n 0 dX7_init_0 rfl rfl ?_
  refine y_obj dX7_init_1 oi_X7_3 ⟨Nat.le_of_ble_eq_true rfl, Nat.le_of_ble_eq_true rfl⟩ ?_
  refine y_aload_n 0 dX7_init_4 rfl rfl ?_
  refine y_bipush (v := (23)) dX7_init_5 (by decide) ?_
  refine y_newaL (n := 40) (N0 := 23) (lay2 := yl_77) dX7_init_7 ar_long (by decide) (by decide) (Nat.le_of_ble_eq_true rfl) rfl (by decide) rfl (by decide) (by decide) rfl rfl (Nat.le_of_ble_eq_true rfl) (Nat.le_of_ble_eq_true rfl) ?_
  refine y_putF (lay2 := yl_78) dX7_init_9 rfl fl_X7_9 rfl zo_7_1 (fun _ => rfl) (fun _ => rfl) rfl ?_
  refine y_aload_n 0 dX7_init_12 rfl rfl ?_
  refine y_aload_n 1 dX7_init_13 rfl rfl ?_
  refine y_putF (lay2 := yl_79) dX7_init_14 rfl fl_X7_15 rfl zo_7_0 (fun _ => rfl) (fun _ => rfl) rfl ?_
  exact y_toX (x_X7_tail hf) rfl rfl rfl (Nat.le_of_ble_eq_true rfl) (Nat.le_of_ble_eq_true rfl)
set_option maxRecDepth 100000 in
set_option maxHeartbeats 4000000 in
theorem k_X1_init_41 {I : z_I} {L : z_L} : z_CI 42 yl_81 yX1_init cX1_init 3 ({ frames := 1, cells := 1, slots := 8, locals := 12 } : Room) [.ref 41, .ref 39, .ref 22] I L yl_85 (none, I, L) 1 8 := by
  refine z_CI.of (by decide) rfl (Nat.le_of_ble_eq_true rfl) ?_
  show z_Y 42 yl_81 RX1 cX1_init 3 ({ frames := 1, cells := 1, slots := 8, locals := 12 } : Room) 0 [(0, .ref 41), (1, .ref 39), (2, .ref 22)] [] I L 0 0 yl_85 (none, I, L) 1 8
  refine y_aload_n 0 dX1_init_0 rfl rfl ?_
  refine y_obj dX1_init_1 oi_X1_3 ⟨Nat.le_of_ble_eq_true rfl, Nat.le_of_ble_eq_true rfl⟩ ?_
  refine y_aload_n 0 dX1_init_4 rfl rfl ?_
  refine y_bipush (v := (8)) dX1_init_5 (by decide) ?_
  refine y_newaL (n := 42) (N0 := 8) (lay2 := yl_82) dX1_init_7 ar_long (by decide) (by decide) (Nat.le_of_ble_eq_true rfl) rfl (by decide) rfl (by decide) (by decide) rfl rfl (Nat.le_of_ble_eq_true rfl) (Nat.le_of_ble_eq_true rfl) ?_
  refine y_putF (lay2 := yl_83) dX1_init_9 rfl fl_X1_9 rfl zo_1_2 (fun _ => rfl) (fun _ => rfl) rfl ?_
  refine y_aload_n 0 dX1_init_12 rfl rfl ?_
  refine y_aload_n 1 dX1_init_13 rfl rfl ?_
  refine y_putF (lay2 := yl_84) dX1_init_14 rfl fl_X1_15 rfl zo_1_0 (fun _ => rfl) (fun _ => rfl) rfl ?_
  refine y_aload_n 0 dX1_init_17 rfl rfl ?_
  refine y_aload_n 2 dX1_init_18 rfl rfl ?_
  refine y_putF (lay2 := yl_85) dX1_init_19 rfl fl_X1_19 rfl zo_1_1 (fun _ => rfl) (fun _ => rfl) rfl ?_
  exact y_vret dX1_init_22 rfl rfl rfl rfl
set_option maxRecDepth 100000 in
set_option maxHeartbeats 4000000 in
theorem k_X6_init_43 {I : z_I} {L : z_L} : z_CI 44 yl_87 yX6_init cX6_init 4 ({ frames := 1, cells := 1, slots := 3, locals := 12 } : Room) [.ref 43, .ref 39, .ref 33, .ref 3] I L yl_92 (none, I, L) 1 3 := by
  refine z_CI.of (by decide) rfl (Nat.le_of_ble_eq_true rfl) ?_
  show z_Y 44 yl_87 RX6 cX6_init 4 ({ frames := 1, cells := 1, slots := 3, locals := 12 } : Room) 0 [(0, .ref 43), (1, .ref 39), (2, .ref 33), (3, .ref 3)] [] I L 0 0 yl_92 (none, I, L) 1 3
  refine y_aload_n 0 dX6_init_0 rfl rfl ?_
  refine y_obj dX6_init_1 oi_X6_3 ⟨Nat.le_of_ble_eq_true rfl, Nat.le_of_ble_eq_true rfl⟩ ?_
  refine y_aload_n 0 dX6_init_4 rfl rfl ?_
  refine y_iconst (v := (3)) dX6_init_5 (by decide) ?_
  refine y_newaI (n := 44) (N0 := 3) (lay2 := yl_88) dX6_init_6 ar_int (by decide) (by decide) (Nat.le_of_ble_eq_true rfl) rfl (by decide) rfl (by decide) (by decide) rfl rfl (Nat.le_of_ble_eq_true rfl) (Nat.le_of_ble_eq_true rfl) ?_
  refine y_putF (lay2 := yl_89) dX6_init_8 rfl fl_X6_9 rfl zo_6_3 (fun _ => rfl) (fun _ => rfl) rfl ?_
  refine y_aload_n 0 dX6_init_11 rfl rfl ?_
  refine y_aload_n 1 dX6_init_12 rfl rfl ?_
  refine y_putF (lay2 := yl_90) dX6_init_13 rfl fl_X6_15 rfl zo_6_0 (fun _ => rfl) (fun _ => rfl) rfl ?_
  refine y_aload_n 0 dX6_init_16 rfl rfl ?_
  refine y_aload_n 2 dX6_init_17 rfl rfl ?_
  refine y_putF (lay2 := yl_91) dX6_init_18 rfl fl_X6_19 rfl zo_6_1 (fun _ => rfl) (fun _ => rfl) rfl ?_
  refine y_aload_n 0 dX6_init_21 rfl rfl ?_
  refine y_aload_n 3 dX6_init_22 rfl rfl ?_
  refine y_putF (lay2 := yl_92) dX6_init_23 rfl fl_X6_23 rfl zo_6_2 (fun _ => rfl) (fun _ => rfl) rfl ?_
  exact y_vret dX6_init_26 rfl rfl rfl rfl
set_option maxRecDepth 100000 in
set_option maxHeartbeats 4000000 in
theorem k_X4_init_45 {I : z_I} {L : z_L} : z_CI 46 yl_94 yX4_init cX4_init 3 ({ frames := 1, cells := 2, slots := 65, locals := 12 } : Room) [.ref 45, .ref 14, .ref 3] I L yl_100 (none, I, L) 2 65 := by
  refine z_CI.of (by decide) rfl (Nat.le_of_ble_eq_true rfl) ?_
  show z_Y 46 yl_94 RX4 cX4_init 3 ({ frames := 1, cells := 2, slots := 65, locals := 12 } : Room) 0 [(0, .ref 45), (1, .ref 14), (2, .ref 3)] [] I L 0 0 yl_100 (none, I, L) 2 65
  refine y_aload_n 0 dX4_init_0 rfl rfl ?_
  refine y_obj dX4_init_1 oi_X4_3 ⟨Nat.le_of_ble_eq_true rfl, Nat.le_of_ble_eq_true rfl⟩ ?_
  refine y_aload_n 0 dX4_init_4 rfl rfl ?_
  refine y_iconst (v := (5)) dX4_init_5 (by decide) ?_
  refine y_newaI (n := 46) (N0 := 5) (lay2 := yl_95) dX4_init_6 ar_int (by decide) (by decide) (Nat.le_of_ble_eq_true rfl) rfl (by decide) rfl (by decide) (by decide) rfl rfl (Nat.le_of_ble_eq_true rfl) (Nat.le_of_ble_eq_true rfl) ?_
  refine y_putF (lay2 := yl_96) dX4_init_8 rfl fl_X4_9 rfl zo_4_0 (fun _ => rfl) (fun _ => rfl) rfl ?_
  refine y_aload_n 0 dX4_init_11 rfl rfl ?_
  refine y_bipush (v := (60)) dX4_init_12 (by decide) ?_
  refine y_newaI (n := 47) (N0 := 60) (lay2 := yl_97) dX4_init_14 ar_int (by decide) (by decide) (Nat.le_of_ble_eq_true rfl) rfl (by decide) rfl (by decide) (by decide) rfl rfl (Nat.le_of_ble_eq_true rfl) (Nat.le_of_ble_eq_true rfl) ?_
  refine y_putF (lay2 := yl_98) dX4_init_16 rfl fl_X4_17 rfl zo_4_4 (fun _ => rfl) (fun _ => rfl) rfl ?_
  refine y_aload_n 0 dX4_init_19 rfl rfl ?_
  refine y_aload_n 1 dX4_init_20 rfl rfl ?_
  refine y_putF (lay2 := yl_99) dX4_init_21 rfl fl_X4_20 rfl zo_4_3 (fun _ => rfl) (fun _ => rfl) rfl ?_
  refine y_aload_n 0 dX4_init_24 rfl rfl ?_
  refine y_aload_n 2 dX4_init_25 rfl rfl ?_
  refine y_putR (lay2 := yl_100) dX4_init_26 rfl fl_X4_24 rfl (fun _ => rfl) (fun _ => rfl) rfl ?_
  exact y_vret dX4_init_29 rfl rfl rfl rfl
set_option maxRecDepth 100000 in
set_option maxHeartbeats 4000000 in
theorem k_X9_init_48 {I : z_I} {L : z_L} : z_CI 49 yl_102 yX9_init cX9_init 2 ({ frames := 1, cells := 2, slots := 512, locals := 12 } : Room) [.ref 48, .ref 3] I L yl_107 (none, I, L) 2 512 := by
  refine z_CI.of (by decide) rfl (Nat.le_of_ble_eq_true rfl) ?_
  show z_Y 49 yl_102 RX9 cX9_init 2 ({ frames := 1, cells := 2, slots := 512, locals := 12 } : Room) 0 [(0, .ref 48), (1, .ref 3)] [] I L 0 0 yl_107 (none, I, L) 2 512
  refine y_aload_n 0 dX9_init_0 rfl rfl ?_
  refine y_obj dX9_init_1 oi_X9_3 ⟨Nat.le_of_ble_eq_true rfl, Nat.le_of_ble_eq_true rfl⟩ ?_
  refine y_aload_n 0 dX9_init_4 rfl rfl ?_
  refine y_sipush (v := (256)) dX9_init_5 (by decide) ?_
  refine y_newaI (n := 49) (N0 := 256) (lay2 := yl_103) dX9_init_8 ar_int (by decide) (by decide) (Nat.le_of_ble_eq_true rfl) rfl (by decide) rfl (by decide) (by decide) rfl rfl (Nat.le_of_ble_eq_true rfl) (Nat.le_of_ble_eq_true rfl) ?_
  refine y_putF (lay2 := yl_104) dX9_init_10 rfl fl_X9_9 rfl zo_9_0 (fun _ => rfl) (fun _ => rfl) rfl ?_
  refine y_aload_n 0 dX9_init_13 rfl rfl ?_
  refine y_sipush (v := (256)) dX9_init_14 (by decide) ?_
  refine y_newaI (n := 50) (N0 := 256) (lay2 := yl_105) dX9_init_17 ar_int (by decide) (by decide) (Nat.le_of_ble_eq_true rfl) rfl (by decide) rfl (by decide) (by decide) rfl rfl (Nat.le_of_ble_eq_true rfl) (Nat.le_of_ble_eq_true rfl) ?_
  refine y_putF (lay2 := yl_106) dX9_init_19 rfl fl_X9_15 rfl zo_9_1 (fun _ => rfl) (fun _ => rfl) rfl ?_
  refine y_aload_n 0 dX9_init_22 rfl rfl ?_
  refine y_aload_n 1 dX9_init_23 rfl rfl ?_
  refine y_putF (lay2 := yl_107) dX9_init_24 rfl fl_X9_18 rfl zo_9_2 (fun _ => rfl) (fun _ => rfl) rfl ?_
  exact y_vret dX9_init_27 rfl rfl rfl rfl
set_option maxRecDepth 100000 in
set_option maxHeartbeats 4000000 in
theorem k_X2_init_51 {I : z_I} {L : z_L} : z_CI 52 yl_109 yX2_init cX2_init 2 ({ frames := 1, cells := 2, slots := 1536, locals := 12 } : Room) [.ref 51, .ref 3] I L yl_114 (none, I, L) 2 1536 := by
  refine z_CI.of (by decide) rfl (Nat.le_of_ble_eq_true rfl) ?_
  show z_Y 52 yl_109 RX2 cX2_init 2 ({ frames := 1, cells := 2, slots := 1536, locals := 12 } : Room) 0 [(0, .ref 51), (1, .ref 3)] [] I L 0 0 yl_114 (none, I, L) 2 1536
  refine y_aload_n 0 dX2_init_0 rfl rfl ?_
  refine y_obj dX2_init_1 oi_X2_3 ⟨Nat.le_of_ble_eq_true rfl, Nat.le_of_ble_eq_true rfl⟩ ?_
  refine y_aload_n 0 dX2_init_4 rfl rfl ?_
  refine y_sipush (v := (896)) dX2_init_5 (by decide) ?_
  refine y_newaI (n := 52) (N0 := 896) (lay2 := yl_110) dX2_init_8 ar_int (by decide) (by decide) (Nat.le_of_ble_eq_true rfl) rfl (by decide) rfl (by decide) (by decide) rfl rfl (Nat.le_of_ble_eq_true rfl) (Nat.le_of_ble_eq_true rfl) ?_
  refine y_putF (lay2 := yl_111) dX2_init_10 rfl fl_X2_9 rfl zo_2_1 (fun _ => rfl) (fun _ => rfl) rfl ?_
  refine y_aload_n 0 dX2_init_13 rfl rfl ?_
  refine y_sipush (v := (640)) dX2_init_14 (by decide) ?_
  refine y_newaI (n := 53) (N0 := 640) (lay2 := yl_112) dX2_init_17 ar_int (by decide) (by decide) (Nat.le_of_ble_eq_true rfl) rfl (by decide) rfl (by decide) (by decide) rfl rfl (Nat.le_of_ble_eq_true rfl) (Nat.le_of_ble_eq_true rfl) ?_
  refine y_putF (lay2 := yl_113) dX2_init_19 rfl fl_X2_15 rfl zo_2_2 (fun _ => rfl) (fun _ => rfl) rfl ?_
  refine y_aload_n 0 dX2_init_22 rfl rfl ?_
  refine y_aload_n 1 dX2_init_23 rfl rfl ?_
  refine y_putF (lay2 := yl_114) dX2_init_24 rfl fl_X2_18 rfl zo_2_0 (fun _ => rfl) (fun _ => rfl) rfl ?_
  exact y_vret dX2_init_27 rfl rfl rfl rfl
set_option maxRecDepth 100000 in
set_option maxHeartbeats 4000000 in
theorem k_X3_init_54 {I : z_I} {L : z_L} : z_CI 55 yl_116 yX3_init cX3_init 1 ({ frames := 1, cells := 0, slots := 0, locals := 12 } : Room) [.ref 54] I L yl_116 (none, I, (z2 L 54 1 (1))) 0 0 := by
  refine z_CI.of (by decide) rfl (Nat.le_of_ble_eq_true rfl) ?_
  show z_Y 55 yl_116 RX3 cX3_init 1 ({ frames := 1, cells := 0, slots := 0, locals := 12 } : Room) 0 [(0, .ref 54)] [] I L 0 0 yl_116 (none, I, (z2 L 54 1 (1))) 0 0
  refine y_aload_n 0 dX3_init_0 rfl rfl ?_
  refine y_obj dX3_init_1 oi_X3_1 ⟨Nat.le_of_ble_eq_true rfl, Nat.le_of_ble_eq_true rfl⟩ ?_
  refine y_aload_n 0 dX3_init_4 rfl rfl ?_
  refine y_lconst (v := (1)) dX3_init_5 (by decide) ?_
  refine y_putL dX3_init_6 rfl fl_X3_7 rfl rfl rfl rfl ?_
  exact y_vret dX3_init_9 rfl rfl rfl rfl
set_option maxRecDepth 100000 in
set_option maxHeartbeats 4000000 in
theorem k_X8_init_55 {I : z_I} {L : z_L} : z_CI 56 yl_118 yX8_init cX8_init 1 ({ frames := 1, cells := 1, slots := 60, locals := 12 } : Room) [.ref 55] I L yl_120 (none, I, L) 1 60 := by
  refine z_CI.of (by decide) rfl (Nat.le_of_ble_eq_true rfl) ?_
  show z_Y 56 yl_118 RX8 cX8_init 1 ({ frames := 1, cells := 1, slots := 60, locals := 12 } : Room) 0 [(0, .ref 55)] [] I L 0 0 yl_120 (none, I, L) 1 60
  refine y_aload_n 0 dX8_init_0 rfl rfl ?_
  refine y_obj dX8_init_1 oi_X8_3 ⟨Nat.le_of_ble_eq_true rfl, Nat.le_of_ble_eq_true rfl⟩ ?_
  refine y_aload_n 0 dX8_init_4 rfl rfl ?_
  refine y_bipush (v := (60)) dX8_init_5 (by decide) ?_
  refine y_newaL (n := 56) (N0 := 60) (lay2 := yl_119) dX8_init_7 ar_long (by decide) (by decide) (Nat.le_of_ble_eq_true rfl) rfl (by decide) rfl (by decide) (by decide) rfl rfl (Nat.le_of_ble_eq_true rfl) (Nat.le_of_ble_eq_true rfl) ?_
  refine y_putF (lay2 := yl_120) dX8_init_9 rfl fl_X8_9 rfl zo_8_0 (fun _ => rfl) (fun _ => rfl) rfl ?_
  exact y_vret dX8_init_12 rfl rfl rfl rfl
set_option maxRecDepth 100000 in
set_option maxHeartbeats 4000000 in
theorem k_X8_init_57 {I : z_I} {L : z_L} : z_CI 58 yl_122 yX8_init cX8_init 1 ({ frames := 1, cells := 1, slots := 60, locals := 12 } : Room) [.ref 57] I L yl_124 (none, I, L) 1 60 := by
  refine z_CI.of (by decide) rfl (Nat.le_of_ble_eq_true rfl) ?_
  show z_Y 58 yl_122 RX8 cX8_init 1 ({ frames := 1, cells := 1, slots := 60, locals := 12 } : Room) 0 [(0, .ref 57)] [] I L 0 0 yl_124 (none, I, L) 1 60
  refine y_aload_n 0 dX8_init_0 rfl rfl ?_
  refine y_obj dX8_init_1 oi_X8_3 ⟨Nat.le_of_ble_eq_true rfl, Nat.le_of_ble_eq_true rfl⟩ ?_
  refine y_aload_n 0 dX8_init_4 rfl rfl ?_
  refine y_bipush (v := (60)) dX8_init_5 (by decide) ?_
  refine y_newaL (n := 58) (N0 := 60) (lay2 := yl_123) dX8_init_7 ar_long (by decide) (by decide) (Nat.le_of_ble_eq_true rfl) rfl (by decide) rfl (by decide) (by decide) rfl rfl (Nat.le_of_ble_eq_true rfl) (Nat.le_of_ble_eq_true rfl) ?_
  refine y_putF (lay2 := yl_124) dX8_init_9 rfl fl_X8_9 rfl zo_8_0 (fun _ => rfl) (fun _ => rfl) rfl ?_
  exact y_vret dX8_init_12 rfl rfl rfl rfl
set_option maxRecDepth 100000 in
set_option maxHeartbeats 4000000 in
theorem k_X8_init_59 {I : z_I} {L : z_L} : z_CI 60 yl_126 yX8_init cX8_init 1 ({ frames := 1, cells := 1, slots := 60, locals := 12 } : Room) [.ref 59] I L yl_128 (none, I, L) 1 60 := by
  refine z_CI.of (by decide) rfl (Nat.le_of_ble_eq_true rfl) ?_
  show z_Y 60 yl_126 RX8 cX8_init 1 ({ frames := 1, cells := 1, slots := 60, locals := 12 } : Room) 0 [(0, .ref 59)] [] I L 0 0 yl_128 (none, I, L) 1 60
  refine y_aload_n 0 dX8_init_0 rfl rfl ?_
  refine y_obj dX8_init_1 oi_X8_3 ⟨Nat.le_of_ble_eq_true rfl, Nat.le_of_ble_eq_true rfl⟩ ?_
  refine y_aload_n 0 dX8_init_4 rfl rfl ?_
  refine y_bipush (v := (60)) dX8_init_5 (by decide) ?_
  refine y_newaL (n := 60) (N0 := 60) (lay2 := yl_127) dX8_init_7 ar_long (by decide) (by decide) (Nat.le_of_ble_eq_true rfl) rfl (by decide) rfl (by decide) (by decide) rfl rfl (Nat.le_of_ble_eq_true rfl) (Nat.le_of_ble_eq_true rfl) ?_
  refine y_putF (lay2 := yl_128) dX8_init_9 rfl fl_X8_9 rfl zo_8_0 (fun _ => rfl) (fun _ => rfl) rfl ?_
  exact y_vret dX8_init_12 rfl rfl rfl rfl
set_option maxRecDepth 100000 in
set_option maxHeartbeats 4000000 in
theorem k_X8_init_61 {I : z_I} {L : z_L} : z_CI 62 yl_130 yX8_init cX8_init 1 ({ frames := 1, cells := 1, slots := 60, locals := 12 } : Room) [.ref 61] I L yl_132 (none, I, L) 1 60 := by
  refine z_CI.of (by decide) rfl (Nat.le_of_ble_eq_true rfl) ?_
  show z_Y 62 yl_130 RX8 cX8_init 1 ({ frames := 1, cells := 1, slots := 60, locals := 12 } : Room) 0 [(0, .ref 61)] [] I L 0 0 yl_132 (none, I, L) 1 60
  refine y_aload_n 0 dX8_init_0 rfl rfl ?_
  refine y_obj dX8_init_1 oi_X8_3 ⟨Nat.le_of_ble_eq_true rfl, Nat.le_of_ble_eq_true rfl⟩ ?_
  refine y_aload_n 0 dX8_init_4 rfl rfl ?_
  refine y_bipush (v := (60)) dX8_init_5 (by decide) ?_
  refine y_newaL (n := 62) (N0 := 60) (lay2 := yl_131) dX8_init_7 ar_long (by decide) (by decide) (Nat.le_of_ble_eq_true rfl) rfl (by decide) rfl (by decide) (by decide) rfl rfl (Nat.le_of_ble_eq_true rfl) (Nat.le_of_ble_eq_true rfl) ?_
  refine y_putF (lay2 := yl_132) dX8_init_9 rfl fl_X8_9 rfl zo_8_0 (fun _ => rfl) (fun _ => rfl) rfl ?_
  exact y_vret dX8_init_12 rfl rfl rfl rfl
set_option maxRecDepth 100000 in
set_option maxHeartbeats 4000000 in
theorem k_X0_init_63 {I : z_I} {L : z_L} : z_CI 64 yl_134 yX0_init cX0_init 1 ({ frames := 1, cells := 10, slots := 60, locals := 12 } : Room) [.ref 63] I L yl_154 (none, (z2 I 63 14 (8)), L) 10 60 := by
  refine z_CI.of (by decide) rfl (Nat.le_of_ble_eq_true rfl) ?_
  show z_Y 64 yl_134 RX0 cX0_init 1 ({ frames := 1, cells := 10, slots := 60, locals := 12 } : Room) 0 [(0, .ref 63)] [] I L 0 0 yl_154 (none, (z2 I 63 14 (8)), L) 10 60
  refine y_aload_n 0 dX0_init_0 rfl rfl ?_
  refine y_obj dX0_init_1 oi_X0_3 ⟨Nat.le_of_ble_eq_true rfl, Nat.le_of_ble_eq_true rfl⟩ ?_
  refine y_aload_n 0 dX0_init_4 rfl rfl ?_
  refine y_bipush (v := (6)) dX0_init_5 (by decide) ?_
  refine y_newaI (n := 64) (N0 := 6) (lay2 := yl_135) dX0_init_7 ar_int (by decide) (by decide) (Nat.le_of_ble_eq_true rfl) rfl (by decide) rfl (by decide) (by decide) rfl rfl (Nat.le_of_ble_eq_true rfl) (Nat.le_of_ble_eq_true rfl) ?_
  refine y_putF (lay2 := yl_136) dX0_init_9 rfl fl_X0_9 rfl zo_0_0 (fun _ => rfl) (fun _ => rfl) rfl ?_
  refine y_aload_n 0 dX0_init_12 rfl rfl ?_
  refine y_bipush (v := (6)) dX0_init_13 (by decide) ?_
  refine y_newaI (n := 65) (N0 := 6) (lay2 := yl_137) dX0_init_15 ar_int (by decide) (by decide) (Nat.le_of_ble_eq_true rfl) rfl (by decide) rfl (by decide) (by decide) rfl rfl (Nat.le_of_ble_eq_true rfl) (Nat.le_of_ble_eq_true rfl) ?_
  refine y_putF (lay2 := yl_138) dX0_init_17 rfl fl_X0_15 rfl zo_0_1 (fun _ => rfl) (fun _ => rfl) rfl ?_
  refine y_aload_n 0 dX0_init_20 rfl rfl ?_
  refine y_bipush (v := (8)) dX0_init_21 (by decide) ?_
  refine y_newaI (n := 66) (N0 := 8) (lay2 := yl_139) dX0_init_23 ar_int (by decide) (by decide) (Nat.le_of_ble_eq_true rfl) rfl (by decide) rfl (by decide) (by decide) rfl rfl (Nat.le_of_ble_eq_true rfl) (Nat.le_of_ble_eq_true rfl) ?_
  refine y_putF (lay2 := yl_140) dX0_init_25 rfl fl_X0_18 rfl zo_0_2 (fun _ => rfl) (fun _ => rfl) rfl ?_
  refine y_aload_n 0 dX0_init_28 rfl rfl ?_
  refine y_bipush (v := (7)) dX0_init_29 (by decide) ?_
  refine y_newaI (n := 67) (N0 := 7) (lay2 := yl_141) dX0_init_31 ar_int (by decide) (by decide) (Nat.le_of_ble_eq_true rfl) rfl (by decide) rfl (by decide) (by decide) rfl rfl (Nat.le_of_ble_eq_true rfl) (Nat.le_of_ble_eq_true rfl) ?_
  refine y_putF (lay2 := yl_142) dX0_init_33 rfl fl_X0_21 rfl zo_0_3 (fun _ => rfl) (fun _ => rfl) rfl ?_
  refine y_aload_n 0 dX0_init_36 rfl rfl ?_
  refine y_bipush (v := (7)) dX0_init_37 (by decide) ?_
  refine y_newaI (n := 68) (N0 := 7) (lay2 := yl_143) dX0_init_39 ar_int (by decide) (by decide) (Nat.le_of_ble_eq_true rfl) rfl (by decide) rfl (by decide) (by decide) rfl rfl (Nat.le_of_ble_eq_true rfl) (Nat.le_of_ble_eq_true rfl) ?_
  refine y_putF (lay2 := yl_144) dX0_init_41 rfl fl_X0_24 rfl zo_0_4 (fun _ => rfl) (fun _ => rfl) rfl ?_
  refine y_aload_n 0 dX0_init_44 rfl rfl ?_
  refine y_bipush (v := (7)) dX0_init_45 (by decide) ?_
  refine y_newaI (n := 69) (N0 := 7) (lay2 := yl_145) dX0_init_47 ar_int (by decide) (by decide) (Nat.le_of_ble_eq_true rfl) rfl (by decide) rfl (by decide) (by decide) rfl rfl (Nat.le_of_ble_eq_true rfl) (Nat.le_of_ble_eq_true rfl) ?_
  refine y_putF (lay2 := yl_146) dX0_init_49 rfl fl_X0_27 rfl zo_0_5 (fun _ => rfl) (fun _ => rfl) rfl ?_
  refine y_aload_n 0 dX0_init_52 rfl rfl ?_
  refine y_bipush (v := (7)) dX0_init_53 (by decide) ?_
  refine y_newaL (n := 70) (N0 := 7) (lay2 := yl_147) dX0_init_55 ar_long (by decide) (by decide) (Nat.le_of_ble_eq_true rfl) rfl (by decide) rfl (by decide) (by decide) rfl rfl (Nat.le_of_ble_eq_true rfl) (Nat.le_of_ble_eq_true rfl) ?_
  refine y_putF (lay2 := yl_148) dX0_init_57 rfl fl_X0_30 rfl zo_0_6 (fun _ => rfl) (fun _ => rfl) rfl ?_
  refine y_aload_n 0 dX0_init_60 rfl rfl ?_
  refine y_iconst (v := (4)) dX0_init_61 (by decide) ?_
  refine y_newaI (n := 71) (N0 := 4) (lay2 := yl_149) dX0_init_62 ar_int (by decide) (by decide) (Nat.le_of_ble_eq_true rfl) rfl (by decide) rfl (by decide) (by decide) rfl rfl (Nat.le_of_ble_eq_true rfl) (Nat.le_of_ble_eq_true rfl) ?_
  refine y_putF (lay2 := yl_150) dX0_init_64 rfl fl_X0_34 rfl zo_0_7 (fun _ => rfl) (fun _ => rfl) rfl ?_
  refine y_aload_n 0 dX0_init_67 rfl rfl ?_
  refine y_iconst (v := (4)) dX0_init_68 (by decide) ?_
  refine y_newaI (n := 72) (N0 := 4) (lay2 := yl_151) dX0_init_69 ar_int (by decide) (by decide) (Nat.le_of_ble_eq_true rfl) rfl (by decide) rfl (by decide) (by decide) rfl rfl (Nat.le_of_ble_eq_true rfl) (Nat.le_of_ble_eq_true rfl) ?_
  refine y_putF (lay2 := yl_152) dX0_init_71 rfl fl_X0_37 rfl zo_0_8 (fun _ => rfl) (fun _ => rfl) rfl ?_
  refine y_aload_n 0 dX0_init_74 rfl rfl ?_
  refine y_iconst (v := (4)) dX0_init_75 (by decide) ?_
  refine y_newaL (n := 73) (N0 := 4) (lay2 := yl_153) dX0_init_76 ar_long (by decide) (by decide) (Nat.le_of_ble_eq_true rfl) rfl (by decide) rfl (by decide) (by decide) rfl rfl (Nat.le_of_ble_eq_true rfl) (Nat.le_of_ble_eq_true rfl) ?_
  refine y_putF (lay2 := yl_154) dX0_init_78 rfl fl_X0_40 rfl zo_0_9 (fun _ => rfl) (fun _ => rfl) rfl ?_
  refine y_aload_n 0 dX0_init_81 rfl rfl ?_
  refine y_bipush (v := (8)) dX0_init_82 (by decide) ?_
  refine y_putI dX0_init_84 rfl fl_X0_43 rfl rfl rfl rfl ?_
  exact y_vret dX0_init_87 rfl rfl rfl rfl
set_option maxRecDepth 100000 in
set_option maxHeartbeats 4000000 in
theorem k_X5_init_74 {I : z_I} {L : z_L} : z_CI 75 yl_156 yX5_init cX5_init 1 ({ frames := 1, cells := 5, slots := 300, locals := 12 } : Room) [.ref 74] I L yl_166 (none, I, L) 5 300 := by
  refine z_CI.of (by decide) rfl (Nat.le_of_ble_eq_true rfl) ?_
  show z_Y 75 yl_156 RX5 cX5_init 1 ({ frames := 1, cells := 5, slots := 300, locals := 12 } : Room) 0 [(0, .ref 74)] [] I L 0 0 yl_166 (none, I, L) 5 300
  refine y_aload_n 0 dX5_init_0 rfl rfl ?_
  refine y_obj dX5_init_1 oi_X5_3 ⟨Nat.le_of_ble_eq_true rfl, Nat.le_of_ble_eq_true rfl⟩ ?_
  refine y_aload_n 0 dX5_init_4 rfl rfl ?_
  refine y_bipush (v := (60)) dX5_init_5 (by decide) ?_
  refine y_newaI (n := 75) (N0 := 60) (lay2 := yl_157) dX5_init_7 ar_int (by decide) (by decide) (Nat.le_of_ble_eq_true rfl) rfl (by decide) rfl (by decide) (by decide) rfl rfl (Nat.le_of_ble_eq_true rfl) (Nat.le_of_ble_eq_true rfl) ?_
  refine y_putF (lay2 := yl_158) dX5_init_9 rfl fl_X5_11 rfl zo_5_0 (fun _ => rfl) (fun _ => rfl) rfl ?_
  refine y_aload_n 0 dX5_init_12 rfl rfl ?_
  refine y_bipush (v := (60)) dX5_init_13 (by decide) ?_
  refine y_newaI (n := 76) (N0 := 60) (lay2 := yl_159) dX5_init_15 ar_int (by decide) (by decide) (Nat.le_of_ble_eq_true rfl) rfl (by decide) rfl (by decide) (by decide) rfl rfl (Nat.le_of_ble_eq_true rfl) (Nat.le_of_ble_eq_true rfl) ?_
  refine y_putF (lay2 := yl_160) dX5_init_17 rfl fl_X5_15 rfl zo_5_1 (fun _ => rfl) (fun _ => rfl) rfl ?_
  refine y_aload_n 0 dX5_init_20 rfl rfl ?_
  refine y_bipush (v := (60)) dX5_init_21 (by decide) ?_
  refine y_newaI (n := 77) (N0 := 60) (lay2 := yl_161) dX5_init_23 ar_int (by decide) (by decide) (Nat.le_of_ble_eq_true rfl) rfl (by decide) rfl (by decide) (by decide) rfl rfl (Nat.le_of_ble_eq_true rfl) (Nat.le_of_ble_eq_true rfl) ?_
  refine y_putF (lay2 := yl_162) dX5_init_25 rfl fl_X5_18 rfl zo_5_2 (fun _ => rfl) (fun _ => rfl) rfl ?_
  refine y_aload_n 0 dX5_init_28 rfl rfl ?_
  refine y_bipush (v := (60)) dX5_init_29 (by decide) ?_
  refine y_newaI (n := 78) (N0 := 60) (lay2 := yl_163) dX5_init_31 ar_int (by decide) (by decide) (Nat.le_of_ble_eq_true rfl) rfl (by decide) rfl (by decide) (by decide) rfl rfl (Nat.le_of_ble_eq_true rfl) (Nat.le_of_ble_eq_true rfl) ?_
  refine y_putF (lay2 := yl_164) dX5_init_33 rfl fl_X5_21 rfl zo_5_3 (fun _ => rfl) (fun _ => rfl) rfl ?_
  refine y_aload_n 0 dX5_init_36 rfl rfl ?_
  refine y_bipush (v := (60)) dX5_init_37 (by decide) ?_
  refine y_newaI (n := 79) (N0 := 60) (lay2 := yl_165) dX5_init_39 ar_int (by decide) (by decide) (Nat.le_of_ble_eq_true rfl) rfl (by decide) rfl (by decide) (by decide) rfl rfl (Nat.le_of_ble_eq_true rfl) (Nat.le_of_ble_eq_true rfl) ?_
  refine y_putF (lay2 := yl_166) dX5_init_41 rfl fl_X5_24 rfl zo_5_4 (fun _ => rfl) (fun _ => rfl) rfl ?_
  exact y_vret dX5_init_44 rfl rfl rfl rfl
set_option maxRecDepth 100000 in
set_option maxHeartbeats 4000000 in
theorem k_X0_init_80 {I : z_I} {L : z_L} : z_CI 81 yl_168 yX0_init cX0_init 1 ({ frames := 1, cells := 10, slots := 60, locals := 12 } : Room) [.ref 80] I L yl_188 (none, (z2 I 80 14 (8)), L) 10 60 := by
  refine z_CI.of (by decide) rfl (Nat.le_of_ble_eq_true rfl) ?_
  show z_Y 81 yl_168 RX0 cX0_init 1 ({ frames := 1, cells := 10, slots := 60, locals := 12 } : Room) 0 [(0, .ref 80)] [] I L 0 0 yl_188 (none, (z2 I 80 14 (8)), L) 10 60
  refine y_aload_n 0 dX0_init_0 rfl rfl ?_
  refine y_obj dX0_init_1 oi_X0_3 ⟨Nat.le_of_ble_eq_true rfl, Nat.le_of_ble_eq_true rfl⟩ ?_
  refine y_aload_n 0 dX0_init_4 rfl rfl ?_
  refine y_bipush (v := (6)) dX0_init_5 (by decide) ?_
  refine y_newaI (n := 81) (N0 := 6) (lay2 := yl_169) dX0_init_7 ar_int (by decide) (by decide) (Nat.le_of_ble_eq_true rfl) rfl (by decide) rfl (by decide) (by decide) rfl rfl (Nat.le_of_ble_eq_true rfl) (Nat.le_of_ble_eq_true rfl) ?_
  refine y_putF (lay2 := yl_170) dX0_init_9 rfl fl_X0_9 rfl zo_0_0 (fun _ => rfl) (fun _ => rfl) rfl ?_
  refine y_aload_n 0 dX0_init_12 rfl rfl ?_
  refine y_bipush (v := (6)) dX0_init_13 (by decide) ?_
  refine y_newaI (n := 82) (N0 := 6) (lay2 := yl_171) dX0_init_15 ar_int (by decide) (by decide) (Nat.le_of_ble_eq_true rfl) rfl (by decide) rfl (by decide) (by decide) rfl rfl (Nat.le_of_ble_eq_true rfl) (Nat.le_of_ble_eq_true rfl) ?_
  refine y_putF (lay2 := yl_172) dX0_init_17 rfl fl_X0_15 rfl zo_0_1 (fun _ => rfl) (fun _ => rfl) rfl ?_
  refine y_aload_n 0 dX0_init_20 rfl rfl ?_
  refine y_bipush (v := (8)) dX0_init_21 (by decide) ?_
  refine y_newaI (n := 83) (N0 := 8) (lay2 := yl_173) dX0_init_23 ar_int (by decide) (by decide) (Nat.le_of_ble_eq_true rfl) rfl (by decide) rfl (by decide) (by decide) rfl rfl (Nat.le_of_ble_eq_true rfl) (Nat.le_of_ble_eq_true rfl) ?_
  refine y_putF (lay2 := yl_174) dX0_init_25 rfl fl_X0_18 rfl zo_0_2 (fun _ => rfl) (fun _ => rfl) rfl ?_
  refine y_aload_n 0 dX0_init_28 rfl rfl ?_
  refine y_bipush (v := (7)) dX0_init_29 (by decide) ?_
  refine y_newaI (n := 84) (N0 := 7) (lay2 := yl_175) dX0_init_31 ar_int (by decide) (by decide) (Nat.le_of_ble_eq_true rfl) rfl (by decide) rfl (by decide) (by decide) rfl rfl (Nat.le_of_ble_eq_true rfl) (Nat.le_of_ble_eq_true rfl) ?_
  refine y_putF (lay2 := yl_176) dX0_init_33 rfl fl_X0_21 rfl zo_0_3 (fun _ => rfl) (fun _ => rfl) rfl ?_
  refine y_aload_n 0 dX0_init_36 rfl rfl ?_
  refine y_bipush (v := (7)) dX0_init_37 (by decide) ?_
  refine y_newaI (n := 85) (N0 := 7) (lay2 := yl_177) dX0_init_39 ar_int (by decide) (by decide) (Nat.le_of_ble_eq_true rfl) rfl (by decide) rfl (by decide) (by decide) rfl rfl (Nat.le_of_ble_eq_true rfl) (Nat.le_of_ble_eq_true rfl) ?_
  refine y_putF (lay2 := yl_178) dX0_init_41 rfl fl_X0_24 rfl zo_0_4 (fun _ => rfl) (fun _ => rfl) rfl ?_
  refine y_aload_n 0 dX0_init_44 rfl rfl ?_
  refine y_bipush (v := (7)) dX0_init_45 (by decide) ?_
  refine y_newaI (n := 86) (N0 := 7) (lay2 := yl_179) dX0_init_47 ar_int (by decide) (by decide) (Nat.le_of_ble_eq_true rfl) rfl (by decide) rfl (by decide) (by decide) rfl rfl (Nat.le_of_ble_eq_true rfl) (Nat.le_of_ble_eq_true rfl) ?_
  refine y_putF (lay2 := yl_180) dX0_init_49 rfl fl_X0_27 rfl zo_0_5 (fun _ => rfl) (fun _ => rfl) rfl ?_
  refine y_aload_n 0 dX0_init_52 rfl rfl ?_
  refine y_bipush (v := (7)) dX0_init_53 (by decide) ?_
  refine y_newaL (n := 87) (N0 := 7) (lay2 := yl_181) dX0_init_55 ar_long (by decide) (by decide) (Nat.le_of_ble_eq_true rfl) rfl (by decide) rfl (by decide) (by decide) rfl rfl (Nat.le_of_ble_eq_true rfl) (Nat.le_of_ble_eq_true rfl) ?_
  refine y_putF (lay2 := yl_182) dX0_init_57 rfl fl_X0_30 rfl zo_0_6 (fun _ => rfl) (fun _ => rfl) rfl ?_
  refine y_aload_n 0 dX0_init_60 rfl rfl ?_
  refine y_iconst (v := (4)) dX0_init_61 (by decide) ?_
  refine y_newaI (n := 88) (N0 := 4) (lay2 := yl_183) dX0_init_62 ar_int (by decide) (by decide) (Nat.le_of_ble_eq_true rfl) rfl (by decide) rfl (by decide) (by decide) rfl rfl (Nat.le_of_ble_eq_true rfl) (Nat.le_of_ble_eq_true rfl) ?_
  refine y_putF (lay2 := yl_184) dX0_init_64 rfl fl_X0_34 rfl zo_0_7 (fun _ => rfl) (fun _ => rfl) rfl ?_
  refine y_aload_n 0 dX0_init_67 rfl rfl ?_
  refine y_iconst (v := (4)) dX0_init_68 (by decide) ?_
  refine y_newaI (n := 89) (N0 := 4) (lay2 := yl_185) dX0_init_69 ar_int (by decide) (by decide) (Nat.le_of_ble_eq_true rfl) rfl (by decide) rfl (by decide) (by decide) rfl rfl (Nat.le_of_ble_eq_true rfl) (Nat.le_of_ble_eq_true rfl) ?_
  refine y_putF (lay2 := yl_186) dX0_init_71 rfl fl_X0_37 rfl zo_0_8 (fun _ => rfl) (fun _ => rfl) rfl ?_
  refine y_aload_n 0 dX0_init_74 rfl rfl ?_
  refine y_iconst (v := (4)) dX0_init_75 (by decide) ?_
  refine y_newaL (n := 90) (N0 := 4) (lay2 := yl_187) dX0_init_76 ar_long (by decide) (by decide) (Nat.le_of_ble_eq_true rfl) rfl (by decide) rfl (by decide) (by decide) rfl rfl (Nat.le_of_ble_eq_true rfl) (Nat.le_of_ble_eq_true rfl) ?_
  refine y_putF (lay2 := yl_188) dX0_init_78 rfl fl_X0_40 rfl zo_0_9 (fun _ => rfl) (fun _ => rfl) rfl ?_
  refine y_aload_n 0 dX0_init_81 rfl rfl ?_
  refine y_bipush (v := (8)) dX0_init_82 (by decide) ?_
  refine y_putI dX0_init_84 rfl fl_X0_43 rfl rfl rfl rfl ?_
  exact y_vret dX0_init_87 rfl rfl rfl rfl
set_option maxRecDepth 100000 in
set_option maxHeartbeats 4000000 in
theorem k_X5_init_91 {I : z_I} {L : z_L} : z_CI 92 yl_190 yX5_init cX5_init 1 ({ frames := 1, cells := 5, slots := 300, locals := 12 } : Room) [.ref 91] I L yl_200 (none, I, L) 5 300 := by
  refine z_CI.of (by decide) rfl (Nat.le_of_ble_eq_true rfl) ?_
  show z_Y 92 yl_190 RX5 cX5_init 1 ({ frames := 1, cells := 5, slots := 300, locals := 12 } : Room) 0 [(0, .ref 91)] [] I L 0 0 yl_200 (none, I, L) 5 300
  refine y_aload_n 0 dX5_init_0 rfl rfl ?_
  refine y_obj dX5_init_1 oi_X5_3 ⟨Nat.le_of_ble_eq_true rfl, Nat.le_of_ble_eq_true rfl⟩ ?_
  refine y_aload_n 0 dX5_init_4 rfl rfl ?_
  refine y_bipush (v := (60)) dX5_init_5 (by decide) ?_
  refine y_newaI (n := 92) (N0 := 60) (lay2 := yl_191) dX5_init_7 ar_int (by decide) (by decide) (Nat.le_of_ble_eq_true rfl) rfl (by decide) rfl (by decide) (by decide) rfl rfl (Nat.le_of_ble_eq_true rfl) (Nat.le_of_ble_eq_true rfl) ?_
  refine y_putF (lay2 := yl_192) dX5_init_9 rfl fl_X5_11 rfl zo_5_0 (fun _ => rfl) (fun _ => rfl) rfl ?_
  refine y_aload_n 0 dX5_init_12 rfl rfl ?_
  refine y_bipush (v := (60)) dX5_init_13 (by decide) ?_
  refine y_newaI (n := 93) (N0 := 60) (lay2 := yl_193) dX5_init_15 ar_int (by decide) (by decide) (Nat.le_of_ble_eq_true rfl) rfl (by decide) rfl (by decide) (by decide) rfl rfl (Nat.le_of_ble_eq_true rfl) (Nat.le_of_ble_eq_true rfl) ?_
  refine y_putF (lay2 := yl_194) dX5_init_17 rfl fl_X5_15 rfl zo_5_1 (fun _ => rfl) (fun _ => rfl) rfl ?_
  refine y_aload_n 0 dX5_init_20 rfl rfl ?_
  refine y_bipush (v := (60)) dX5_init_21 (by decide) ?_
  refine y_newaI (n := 94) (N0 := 60) (lay2 := yl_195) dX5_init_23 ar_int (by decide) (by decide) (Nat.le_of_ble_eq_true rfl) rfl (by decide) rfl (by decide) (by decide) rfl rfl (Nat.le_of_ble_eq_true rfl) (Nat.le_of_ble_eq_true rfl) ?_
  refine y_putF (lay2 := yl_196) dX5_init_25 rfl fl_X5_18 rfl zo_5_2 (fun _ => rfl) (fun _ => rfl) rfl ?_
  refine y_aload_n 0 dX5_init_28 rfl rfl ?_
  refine y_bipush (v := (60)) dX5_init_29 (by decide) ?_
  refine y_newaI (n := 95) (N0 := 60) (lay2 := yl_197) dX5_init_31 ar_int (by decide) (by decide) (Nat.le_of_ble_eq_true rfl) rfl (by decide) rfl (by decide) (by decide) rfl rfl (Nat.le_of_ble_eq_true rfl) (Nat.le_of_ble_eq_true rfl) ?_
  refine y_putF (lay2 := yl_198) dX5_init_33 rfl fl_X5_21 rfl zo_5_3 (fun _ => rfl) (fun _ => rfl) rfl ?_
  refine y_aload_n 0 dX5_init_36 rfl rfl ?_
  refine y_bipush (v := (60)) dX5_init_37 (by decide) ?_
  refine y_newaI (n := 96) (N0 := 60) (lay2 := yl_199) dX5_init_39 ar_int (by decide) (by decide) (Nat.le_of_ble_eq_true rfl) rfl (by decide) rfl (by decide) (by decide) rfl rfl (Nat.le_of_ble_eq_true rfl) (Nat.le_of_ble_eq_true rfl) ?_
  refine y_putF (lay2 := yl_200) dX5_init_41 rfl fl_X5_24 rfl zo_5_4 (fun _ => rfl) (fun _ => rfl) rfl ?_
  exact y_vret dX5_init_44 rfl rfl rfl rfl
set_option maxRecDepth 100000 in
set_option maxHeartbeats 4000000 in
theorem k_X0_init_97 {I : z_I} {L : z_L} : z_CI 98 yl_202 yX0_init cX0_init 1 ({ frames := 1, cells := 10, slots := 60, locals := 12 } : Room) [.ref 97] I L yl_222 (none, (z2 I 97 14 (8)), L) 10 60 := by
  refine z_CI.of (by decide) rfl (Nat.le_of_ble_eq_true rfl) ?_
  show z_Y 98 yl_202 RX0 cX0_init 1 ({ frames := 1, cells := 10, slots := 60, locals := 12 } : Room) 0 [(0, .ref 97)] [] I L 0 0 yl_222 (none, (z2 I 97 14 (8)), L) 10 60
  refine y_aload_n 0 dX0_init_0 rfl rfl ?_
  refine y_obj dX0_init_1 oi_X0_3 ⟨Nat.le_of_ble_eq_true rfl, Nat.le_of_ble_eq_true rfl⟩ ?_
  refine y_aload_n 0 dX0_init_4 rfl rfl ?_
  refine y_bipush (v := (6)) dX0_init_5 (by decide) ?_
  refine y_newaI (n := 98) (N0 := 6) (lay2 := yl_203) dX0_init_7 ar_int (by decide) (by decide) (Nat.le_of_ble_eq_true rfl) rfl (by decide) rfl (by decide) (by decide) rfl rfl (Nat.le_of_ble_eq_true rfl) (Nat.le_of_ble_eq_true rfl) ?_
  refine y_putF (lay2 := yl_204) dX0_init_9 rfl fl_X0_9 rfl zo_0_0 (fun _ => rfl) (fun _ => rfl) rfl ?_
  refine y_aload_n 0 dX0_init_12 rfl rfl ?_
  refine y_bipush (v := (6)) dX0_init_13 (by decide) ?_
  refine y_newaI (n := 99) (N0 := 6) (lay2 := yl_205) dX0_init_15 ar_int (by decide) (by decide) (Nat.le_of_ble_eq_true rfl) rfl (by decide) rfl (by decide) (by decide) rfl rfl (Nat.le_of_ble_eq_true rfl) (Nat.le_of_ble_eq_true rfl) ?_
  refine y_putF (lay2 := yl_206) dX0_init_17 rfl fl_X0_15 rfl zo_0_1 (fun _ => rfl) (fun _ => rfl) rfl ?_
  refine y_aload_n 0 dX0_init_20 rfl rfl ?_
  refine y_bipush (v := (8)) dX0_init_21 (by decide) ?_
  refine y_newaI (n := 100) (N0 := 8) (lay2 := yl_207) dX0_init_23 ar_int (by decide) (by decide) (Nat.le_of_ble_eq_true rfl) rfl (by decide) rfl (by decide) (by decide) rfl rfl (Nat.le_of_ble_eq_true rfl) (Nat.le_of_ble_eq_true rfl) ?_
  refine y_putF (lay2 := yl_208) dX0_init_25 rfl fl_X0_18 rfl zo_0_2 (fun _ => rfl) (fun _ => rfl) rfl ?_
  refine y_aload_n 0 dX0_init_28 rfl rfl ?_
  refine y_bipush (v := (7)) dX0_init_29 (by decide) ?_
  refine y_newaI (n := 101) (N0 := 7) (lay2 := yl_209) dX0_init_31 ar_int (by decide) (by decide) (Nat.le_of_ble_eq_true rfl) rfl (by decide) rfl (by decide) (by decide) rfl rfl (Nat.le_of_ble_eq_true rfl) (Nat.le_of_ble_eq_true rfl) ?_
  refine y_putF (lay2 := yl_210) dX0_init_33 rfl fl_X0_21 rfl zo_0_3 (fun _ => rfl) (fun _ => rfl) rfl ?_
  refine y_aload_n 0 dX0_init_36 rfl rfl ?_
  refine y_bipush (v := (7)) dX0_init_37 (by decide) ?_
  refine y_newaI (n := 102) (N0 := 7) (lay2 := yl_211) dX0_init_39 ar_int (by decide) (by decide) (Nat.le_of_ble_eq_true rfl) rfl (by decide) rfl (by decide) (by decide) rfl rfl (Nat.le_of_ble_eq_true rfl) (Nat.le_of_ble_eq_true rfl) ?_
  refine y_putF (lay2 := yl_212) dX0_init_41 rfl fl_X0_24 rfl zo_0_4 (fun _ => rfl) (fun _ => rfl) rfl ?_
  refine y_aload_n 0 dX0_init_44 rfl rfl ?_
  refine y_bipush (v := (7)) dX0_init_45 (by decide) ?_
  refine y_newaI (n := 103) (N0 := 7) (lay2 := yl_213) dX0_init_47 ar_int (by decide) (by decide) (Nat.le_of_ble_eq_true rfl) rfl (by decide) rfl (by decide) (by decide) rfl rfl (Nat.le_of_ble_eq_true rfl) (Nat.le_of_ble_eq_true rfl) ?_
  refine y_putF (lay2 := yl_214) dX0_init_49 rfl fl_X0_27 rfl zo_0_5 (fun _ => rfl) (fun _ => rfl) rfl ?_
  refine y_aload_n 0 dX0_init_52 rfl rfl ?_
  refine y_bipush (v := (7)) dX0_init_53 (by decide) ?_
  refine y_newaL (n := 104) (N0 := 7) (lay2 := yl_215) dX0_init_55 ar_long (by decide) (by decide) (Nat.le_of_ble_eq_true rfl) rfl (by decide) rfl (by decide) (by decide) rfl rfl (Nat.le_of_ble_eq_true rfl) (Nat.le_of_ble_eq_true rfl) ?_
  refine y_putF (lay2 := yl_216) dX0_init_57 rfl fl_X0_30 rfl zo_0_6 (fun _ => rfl) (fun _ => rfl) rfl ?_
  refine y_aload_n 0 dX0_init_60 rfl rfl ?_
  refine y_iconst (v := (4)) dX0_init_61 (by decide) ?_
  refine y_newaI (n := 105) (N0 := 4) (lay2 := yl_217) dX0_init_62 ar_int (by decide) (by decide) (Nat.le_of_ble_eq_true rfl) rfl (by decide) rfl (by decide) (by decide) rfl rfl (Nat.le_of_ble_eq_true rfl) (Nat.le_of_ble_eq_true rfl) ?_
  refine y_putF (lay2 := yl_218) dX0_init_64 rfl fl_X0_34 rfl zo_0_7 (fun _ => rfl) (fun _ => rfl) rfl ?_
  refine y_aload_n 0 dX0_init_67 rfl rfl ?_
  refine y_iconst (v := (4)) dX0_init_68 (by decide) ?_
  refine y_newaI (n := 106) (N0 := 4) (lay2 := yl_219) dX0_init_69 ar_int (by decide) (by decide) (Nat.le_of_ble_eq_true rfl) rfl (by decide) rfl (by decide) (by decide) rfl rfl (Nat.le_of_ble_eq_true rfl) (Nat.le_of_ble_eq_true rfl) ?_
  refine y_putF (lay2 := yl_220) dX0_init_71 rfl fl_X0_37 rfl zo_0_8 (fun _ => rfl) (fun _ => rfl) rfl ?_
  refine y_aload_n 0 dX0_init_74 rfl rfl ?_
  refine y_iconst (v := (4)) dX0_init_75 (by decide) ?_
  refine y_newaL (n := 107) (N0 := 4) (lay2 := yl_221) dX0_init_76 ar_long (by decide) (by decide) (Nat.le_of_ble_eq_true rfl) rfl (by decide) rfl (by decide) (by decide) rfl rfl (Nat.le_of_ble_eq_true rfl) (Nat.le_of_ble_eq_true rfl) ?_
  refine y_putF (lay2 := yl_222) dX0_init_78 rfl fl_X0_40 rfl zo_0_9 (fun _ => rfl) (fun _ => rfl) rfl ?_
  refine y_aload_n 0 dX0_init_81 rfl rfl ?_
  refine y_bipush (v := (8)) dX0_init_82 (by decide) ?_
  refine y_putI dX0_init_84 rfl fl_X0_43 rfl rfl rfl rfl ?_
  exact y_vret dX0_init_87 rfl rfl rfl rfl
set_option maxRecDepth 100000 in
set_option maxHeartbeats 4000000 in
theorem k_X5_init_108 {I : z_I} {L : z_L} : z_CI 109 yl_224 yX5_init cX5_init 1 ({ frames := 1, cells := 5, slots := 300, locals := 12 } : Room) [.ref 108] I L yl_234 (none, I, L) 5 300 := by
  refine z_CI.of (by decide) rfl (Nat.le_of_ble_eq_true rfl) ?_
  show z_Y 109 yl_224 RX5 cX5_init 1 ({ frames := 1, cells := 5, slots := 300, locals := 12 } : Room) 0 [(0, .ref 108)] [] I L 0 0 yl_234 (none, I, L) 5 300
  refine y_aload_n 0 dX5_init_0 rfl rfl ?_
  refine y_obj dX5_init_1 oi_X5_3 ⟨Nat.le_of_ble_eq_true rfl, Nat.le_of_ble_eq_true rfl⟩ ?_
  refine y_aload_n 0 dX5_init_4 rfl rfl ?_
  refine y_bipush (v := (60)) dX5_init_5 (by decide) ?_
  refine y_newaI (n := 109) (N0 := 60) (lay2 := yl_225) dX5_init_7 ar_int (by decide) (by decide) (Nat.le_of_ble_eq_true rfl) rfl (by decide) rfl (by decide) (by decide) rfl rfl (Nat.le_of_ble_eq_true rfl) (Nat.le_of_ble_eq_true rfl) ?_
  refine y_putF (lay2 := yl_226) dX5_init_9 rfl fl_X5_11 rfl zo_5_0 (fun _ => rfl) (fun _ => rfl) rfl ?_
  refine y_aload_n 0 dX5_init_12 rfl rfl ?_
  refine y_bipush (v := (60)) dX5_init_13 (by decide) ?_
  refine y_newaI (n := 110) (N0 := 60) (lay2 := yl_227) dX5_init_15 ar_int (by decide) (by decide) (Nat.le_of_ble_eq_true rfl) rfl (by decide) rfl (by decide) (by decide) rfl rfl (Nat.le_of_ble_eq_true rfl) (Nat.le_of_ble_eq_true rfl) ?_
  refine y_putF (lay2 := yl_228) dX5_init_17 rfl fl_X5_15 rfl zo_5_1 (fun _ => rfl) (fun _ => rfl) rfl ?_
  refine y_aload_n 0 dX5_init_20 rfl rfl ?_
  refine y_bipush (v := (60)) dX5_init_21 (by decide) ?_
  refine y_newaI (n := 111) (N0 := 60) (lay2 := yl_229) dX5_init_23 ar_int (by decide) (by decide) (Nat.le_of_ble_eq_true rfl) rfl (by decide) rfl (by decide) (by decide) rfl rfl (Nat.le_of_ble_eq_true rfl) (Nat.le_of_ble_eq_true rfl) ?_
  refine y_putF (lay2 := yl_230) dX5_init_25 rfl fl_X5_18 rfl zo_5_2 (fun _ => rfl) (fun _ => rfl) rfl ?_
  refine y_aload_n 0 dX5_init_28 rfl rfl ?_
  refine y_bipush (v := (60)) dX5_init_29 (by decide) ?_
  refine y_newaI (n := 112) (N0 := 60) (lay2 := yl_231) dX5_init_31 ar_int (by decide) (by decide) (Nat.le_of_ble_eq_true rfl) rfl (by decide) rfl (by decide) (by decide) rfl rfl (Nat.le_of_ble_eq_true rfl) (Nat.le_of_ble_eq_true rfl) ?_
  refine y_putF (lay2 := yl_232) dX5_init_33 rfl fl_X5_21 rfl zo_5_3 (fun _ => rfl) (fun _ => rfl) rfl ?_
  refine y_aload_n 0 dX5_init_36 rfl rfl ?_
  refine y_bipush (v := (60)) dX5_init_37 (by decide) ?_
  refine y_newaI (n := 113) (N0 := 60) (lay2 := yl_233) dX5_init_39 ar_int (by decide) (by decide) (Nat.le_of_ble_eq_true rfl) rfl (by decide) rfl (by decide) (by decide) rfl rfl (Nat.le_of_ble_eq_true rfl) (Nat.le_of_ble_eq_true rfl) ?_
  refine y_putF (lay2 := yl_234) dX5_init_41 rfl fl_X5_24 rfl zo_5_4 (fun _ => rfl) (fun _ => rfl) rfl ?_
  exact y_vret dX5_init_44 rfl rfl rfl rfl
set_option maxRecDepth 100000 in
set_option maxHeartbeats 4000000 in
theorem k_X10_init_0 {I : z_I} {L : z_L} {L1 : z_L} (hf : f_X7_tail L = some L1) (hz7 : ∀ I : z_I, z_0 40 I L → z_0 41 I L1) : z_CI 1 yl_236 yX10_init cX10_init 2 ({ frames := 5, cells := 113, slots := 5281, locals := 116 } : Room) [.ref 0] I L yl_235 (none, (z2 (z2 (z2 (z2 (z2 (z2 (z2 I 3 14 (8)) 22 14 (8)) 0 16 (-1)) 0 17 (-1)) 63 14 (8)) 80 14 (8)) 97 14 (8)), (z2 L1 54 1 (1))) 113 5281 := by
  refine z_CI.of (by decide) rfl (Nat.le_of_ble_eq_true rfl) ?_
  show z_Y 1 yl_236 RX10 cX10_init 2 ({ frames := 5, cells := 113, slots := 5281, locals := 116 } : Room) 0 [(0, .ref 0)] [] I L 0 0 yl_235 (none, (z2 (z2 (z2 (z2 (z2 (z2 (z2 I 3 14 (8)) 22 14 (8)) 0 16 (-1)) 0 17 (-1)) 63 14 (8)) 80 14 (8)) 97 14 (8)), (z2 L1 54 1 (1))) 113 5281
  refine y_aload_n 0 dX10_init_0 rfl rfl ?_
  refine y_obj dX10_init_1 oi_X10_1 ⟨Nat.le_of_ble_eq_true rfl, Nat.le_of_ble_eq_true rfl⟩ ?_
  refine y_aload_n 0 dX10_init_4 rfl rfl ?_
  refine y_iconst (v := (4)) dX10_init_5 (by decide) ?_
  refine y_newqT (n := 1) (N0 := 4) (lay2 := yl_0) dX10_init_6 cl_X10_9 (by decide) (by decide) (Nat.le_of_ble_eq_true rfl) rfl (by decide) rfl (by decide) (by decide) rfl rfl (Nat.le_of_ble_eq_true rfl) (Nat.le_of_ble_eq_true rfl) ?_
  refine y_putF (lay2 := yl_1) dX10_init_9 rfl fl_X10_11 rfl zo_10_0 (fun _ => rfl) (fun _ => rfl) rfl ?_
  refine y_aload_n 0 dX10_init_12 rfl rfl ?_
  refine y_sipush (v := (900)) dX10_init_13 (by decide) ?_
  refine y_newaB (n := 2) (N0 := 900) (lay2 := yl_2) dX10_init_16 ar_byte (by decide) (by decide) (Nat.le_of_ble_eq_true rfl) rfl (by decide) rfl (by decide) (by decide) rfl rfl (Nat.le_of_ble_eq_true rfl) (Nat.le_of_ble_eq_true rfl) ?_
  refine y_putF (lay2 := yl_3) dX10_init_18 rfl fl_X10_15 rfl zo_10_1 (fun _ => rfl) (fun _ => rfl) rfl ?_
  refine y_aload_n 0 dX10_init_21 rfl rfl ?_
  refine y_new (n := 3) (lay2 := yl_4) dX10_init_22 lw_X10_19 rfl (by decide) rfl (by decide) (by decide) rfl rfl (Nat.le_of_ble_eq_true rfl) (Nat.le_of_ble_eq_true rfl) ?_
  refine y_dup dX10_init_25 rfl ?_
  refine y_callJ (n9 := 4) (lay2 := yl_24) (I1 := (z2 I 3 14 (8))) (L1 := L) [] (k_X0_init_3 (I := I) (L := L)) dX10_init_26 li_X10_21 cd_X0_init rfl rfl (Nat.le_of_ble_eq_true rfl) ⟨rfl, rfl, Nat.le_of_ble_eq_true rfl, Nat.le_of_ble_eq_true rfl⟩ (Nat.le_of_ble_eq_true rfl) (Nat.le_of_ble_eq_true rfl) rfl (by decide) rfl rfl (fun h => z_0.le (h.put (by decide)) (by decide)) ?_
  refine y_putF (lay2 := yl_25) dX10_init_29 rfl fl_X10_22 rfl zo_10_2 (fun _ => rfl) (fun _ => rfl) rfl ?_
  refine y_aload_n 0 dX10_init_32 rfl rfl ?_
  refine y_new (n := 14) (lay2 := yl_26) dX10_init_33 lw_X10_26 rfl (by decide) rfl (by decide) (by decide) rfl rfl (Nat.le_of_ble_eq_true rfl) (Nat.le_of_ble_eq_true rfl) ?_
  refine y_dup dX10_init_36 rfl ?_
  refine y_callJ (n9 := 15) (lay2 := yl_36) (I1 := (z2 I 3 14 (8))) (L1 := L) [] (k_X5_init_14 (I := (z2 I 3 14 (8))) (L := L)) dX10_init_37 li_X10_28 cd_X5_init rfl rfl (Nat.le_of_ble_eq_true rfl) ⟨rfl, rfl, Nat.le_of_ble_eq_true rfl, Nat.le_of_ble_eq_true rfl⟩ (Nat.le_of_ble_eq_true rfl) (Nat.le_of_ble_eq_true rfl) rfl (by decide) rfl rfl (fun h => z_0.le h (by decide)) ?_
  refine y_putF (lay2 := yl_37) dX10_init_40 rfl fl_X10_29 rfl zo_10_3 (fun _ => rfl) (fun _ => rfl) rfl ?_
  refine y_aload_n 0 dX10_init_43 rfl rfl ?_
  refine y_iconst (v := (3)) dX10_init_44 (by decide) ?_
  refine y_newqC (n := 20) (N0 := 3) (lay2 := yl_38) dX10_init_45 cl_X10_19 (by decide) (by decide) (Nat.le_of_ble_eq_true rfl) rfl (by decide) rfl (by decide) (by decide) rfl rfl (Nat.le_of_ble_eq_true rfl) (Nat.le_of_ble_eq_true rfl) ?_
  refine y_putF (lay2 := yl_39) dX10_init_48 rfl fl_X10_33 rfl zo_10_4 (fun _ => rfl) (fun _ => rfl) rfl ?_
  refine y_aload_n 0 dX10_init_51 rfl rfl ?_
  refine y_iconst (v := (3)) dX10_init_52 (by decide) ?_
  refine y_newqM (n := 21) (N0 := 3) (lay2 := yl_40) dX10_init_53 cl_X10_26 (by decide) (by decide) (Nat.le_of_ble_eq_true rfl) rfl (by decide) rfl (by decide) (by decide) rfl rfl (Nat.le_of_ble_eq_true rfl) (Nat.le_of_ble_eq_true rfl) ?_
  refine y_putF (lay2 := yl_41) dX10_init_56 rfl fl_X10_37 rfl zo_10_5 (fun _ => rfl) (fun _ => rfl) rfl ?_
  refine y_aload_n 0 dX10_init_59 rfl rfl ?_
  refine y_new (n := 22) (lay2 := yl_42) dX10_init_60 lw_X10_19 rfl (by decide) rfl (by decide) (by decide) rfl rfl (Nat.le_of_ble_eq_true rfl) (Nat.le_of_ble_eq_true rfl) ?_
  refine y_dup dX10_init_63 rfl ?_
  refine y_callJ (n9 := 23) (lay2 := yl_62) (I1 := (z2 (z2 I 3 14 (8)) 22 14 (8))) (L1 := L) [] (k_X0_init_22 (I := (z2 I 3 14 (8))) (L := L)) dX10_init_64 li_X10_21 cd_X0_init rfl rfl (Nat.le_of_ble_eq_true rfl) ⟨rfl, rfl, Nat.le_of_ble_eq_true rfl, Nat.le_of_ble_eq_true rfl⟩ (Nat.le_of_ble_eq_true rfl) (Nat.le_of_ble_eq_true rfl) rfl (by decide) rfl rfl (fun h => z_0.le (h.put (by decide)) (by decide)) ?_
  refine y_putF (lay2 := yl_63) dX10_init_67 rfl fl_X10_41 rfl zo_10_6 (fun _ => rfl) (fun _ => rfl) rfl ?_
  refine y_aload_n 0 dX10_init_70 rfl rfl ?_
  refine y_new (n := 33) (lay2 := yl_64) dX10_init_71 lw_X10_26 rfl (by decide) rfl (by decide) (by decide) rfl rfl (Nat.le_of_ble_eq_true rfl) (Nat.le_of_ble_eq_true rfl) ?_
  refine y_dup dX10_init_74 rfl ?_
  refine y_callJ (n9 := 34) (lay2 := yl_74) (I1 := (z2 (z2 I 3 14 (8)) 22 14 (8))) (L1 := L) [] (k_X5_init_33 (I := (z2 (z2 I 3 14 (8)) 22 14 (8))) (L := L)) dX10_init_75 li_X10_28 cd_X5_init rfl rfl (Nat.le_of_ble_eq_true rfl) ⟨rfl, rfl, Nat.le_of_ble_eq_true rfl, Nat.le_of_ble_eq_true rfl⟩ (Nat.le_of_ble_eq_true rfl) (Nat.le_of_ble_eq_true rfl) rfl (by decide) rfl rfl (fun h => z_0.le h (by decide)) ?_
  refine y_putF (lay2 := yl_75) dX10_init_78 rfl fl_X10_44 rfl zo_10_7 (fun _ => rfl) (fun _ => rfl) rfl ?_
  refine y_aload_n 0 dX10_init_81 rfl rfl ?_
  refine y_new (n := 39) (lay2 := yl_76) dX10_init_82 lw_X10_47 rfl (by decide) rfl (by decide) (by decide) rfl rfl (Nat.le_of_ble_eq_true rfl) (Nat.le_of_ble_eq_true rfl) ?_
  refine y_dup dX10_init_85 rfl ?_
  refine y_aload_n 0 dX10_init_86 rfl rfl ?_
  refine y_getR dX10_init_87 rfl fl_X10_15 rfl ?_
  refine y_callI (n9 := 40) (lay2 := yl_79) (I1 := (z2 (z2 I 3 14 (8)) 22 14 (8))) (L1 := L1) [.ref 2] (k_X7_init_39 (I := (z2 (z2 I 3 14 (8)) 22 14 (8))) (L := L) hf) dX10_init_90 li_X10_49 cd_X7_init rfl rfl (Nat.le_of_ble_eq_true rfl) ⟨rfl, rfl, Nat.le_of_ble_eq_true rfl, Nat.le_of_ble_eq_true rfl⟩ (Nat.le_of_ble_eq_true rfl) (Nat.le_of_ble_eq_true rfl) rfl (by decide) rfl rfl (fun h => z_0.le (hz7 _ h) (by decide)) ?_
  refine y_putF (lay2 := yl_80) dX10_init_93 rfl fl_X10_52 rfl zo_10_8 (fun _ => rfl) (fun _ => rfl) rfl ?_
  refine y_aload_n 0 dX10_init_96 rfl rfl ?_
  refine y_new (n := 41) (lay2 := yl_81) dX10_init_97 lw_X10_56 rfl (by decide) rfl (by decide) (by decide) rfl rfl (Nat.le_of_ble_eq_true rfl) (Nat.le_of_ble_eq_true rfl) ?_
  refine y_dup dX10_init_100 rfl ?_
  refine y_aload_n 0 dX10_init_101 rfl rfl ?_
  refine y_getR dX10_init_102 rfl fl_X10_52 rfl ?_
  refine y_aload_n 0 dX10_init_105 rfl rfl ?_
  refine y_getR dX10_init_106 rfl fl_X10_41 rfl ?_
  refine y_callI (n9 := 42) (lay2 := yl_85) (I1 := (z2 (z2 I 3 14 (8)) 22 14 (8))) (L1 := L1) [.ref 39, .ref 22] (k_X1_init_41 (I := (z2 (z2 I 3 14 (8)) 22 14 (8))) (L := L1)) dX10_init_109 li_X10_58 cd_X1_init rfl rfl (Nat.le_of_ble_eq_true rfl) ⟨rfl, rfl, Nat.le_of_ble_eq_true rfl, Nat.le_of_ble_eq_true rfl⟩ (Nat.le_of_ble_eq_true rfl) (Nat.le_of_ble_eq_true rfl) rfl (by decide) rfl rfl (fun h => z_0.le h (by decide)) ?_
  refine y_putF (lay2 := yl_86) dX10_init_112 rfl fl_X10_61 rfl zo_10_9 (fun _ => rfl) (fun _ => rfl) rfl ?_
  refine y_aload_n 0 dX10_init_115 rfl rfl ?_
  refine y_new (n := 43) (lay2 := yl_87) dX10_init_116 lw_X10_65 rfl (by decide) rfl (by decide) (by decide) rfl rfl (Nat.le_of_ble_eq_true rfl) (Nat.le_of_ble_eq_true rfl) ?_
  refine y_dup dX10_init_119 rfl ?_
  refine y_aload_n 0 dX10_init_120 rfl rfl ?_
  refine y_getR dX10_init_121 rfl fl_X10_52 rfl ?_
  refine y_aload_n 0 dX10_init_124 rfl rfl ?_
  refine y_getR dX10_init_125 rfl fl_X10_44 rfl ?_
  refine y_aload_n 0 dX10_init_128 rfl rfl ?_
  refine y_getR dX10_init_129 rfl fl_X10_22 rfl ?_
  refine y_callI (n9 := 44) (lay2 := yl_92) (I1 := (z2 (z2 I 3 14 (8)) 22 14 (8))) (L1 := L1) [.ref 39, .ref 33, .ref 3] (k_X6_init_43 (I := (z2 (z2 I 3 14 (8)) 22 14 (8))) (L := L1)) dX10_init_132 li_X10_67 cd_X6_init rfl rfl (Nat.le_of_ble_eq_true rfl) ⟨rfl, rfl, Nat.le_of_ble_eq_true rfl, Nat.le_of_ble_eq_true rfl⟩ (Nat.le_of_ble_eq_true rfl) (Nat.le_of_ble_eq_true rfl) rfl (by decide) rfl rfl (fun h => z_0.le h (by decide)) ?_
  refine y_putF (lay2 := yl_93) dX10_init_135 rfl fl_X10_70 rfl zo_10_10 (fun _ => rfl) (fun _ => rfl) rfl ?_
  refine y_aload_n 0 dX10_init_138 rfl rfl ?_
  refine y_new (n := 45) (lay2 := yl_94) dX10_init_139 lw_X10_74 rfl (by decide) rfl (by decide) (by decide) rfl rfl (Nat.le_of_ble_eq_true rfl) (Nat.le_of_ble_eq_true rfl) ?_
  refine y_dup dX10_init_142 rfl ?_
  refine y_aload_n 0 dX10_init_143 rfl rfl ?_
  refine y_getR dX10_init_144 rfl fl_X10_29 rfl ?_
  refine y_aload_n 0 dX10_init_147 rfl rfl ?_
  refine y_getR dX10_init_148 rfl fl_X10_22 rfl ?_
  refine y_callI (n9 := 46) (lay2 := yl_100) (I1 := (z2 (z2 I 3 14 (8)) 22 14 (8))) (L1 := L1) [.ref 14, .ref 3] (k_X4_init_45 (I := (z2 (z2 I 3 14 (8)) 22 14 (8))) (L := L1)) dX10_init_151 li_X10_76 cd_X4_init rfl rfl (Nat.le_of_ble_eq_true rfl) ⟨rfl, rfl, Nat.le_of_ble_eq_true rfl, Nat.le_of_ble_eq_true rfl⟩ (Nat.le_of_ble_eq_true rfl) (Nat.le_of_ble_eq_true rfl) rfl (by decide) rfl rfl (fun h => z_0.le h (by decide)) ?_
  refine y_putF (lay2 := yl_101) dX10_init_154 rfl fl_X10_79 rfl zo_10_11 (fun _ => rfl) (fun _ => rfl) rfl ?_
  refine y_aload_n 0 dX10_init_157 rfl rfl ?_
  refine y_new (n := 48) (lay2 := yl_102) dX10_init_158 lw_X10_83 rfl (by decide) rfl (by decide) (by decide) rfl rfl (Nat.le_of_ble_eq_true rfl) (Nat.le_of_ble_eq_true rfl) ?_
  refine y_dup dX10_init_161 rfl ?_
  refine y_aload_n 0 dX10_init_162 rfl rfl ?_
  refine y_getR dX10_init_163 rfl fl_X10_22 rfl ?_
  refine y_callI (n9 := 49) (lay2 := yl_107) (I1 := (z2 (z2 I 3 14 (8)) 22 14 (8))) (L1 := L1) [.ref 3] (k_X9_init_48 (I := (z2 (z2 I 3 14 (8)) 22 14 (8))) (L := L1)) dX10_init_166 li_X10_85 cd_X9_init rfl rfl (Nat.le_of_ble_eq_true rfl) ⟨rfl, rfl, Nat.le_of_ble_eq_true rfl, Nat.le_of_ble_eq_true rfl⟩ (Nat.le_of_ble_eq_true rfl) (Nat.le_of_ble_eq_true rfl) rfl (by decide) rfl rfl (fun h => z_0.le h (by decide)) ?_
  refine y_putF (lay2 := yl_108) dX10_init_169 rfl fl_X10_88 rfl zo_10_12 (fun _ => rfl) (fun _ => rfl) rfl ?_
  refine y_aload_n 0 dX10_init_172 rfl rfl ?_
  refine y_new (n := 51) (lay2 := yl_109) dX10_init_173 lw_X10_92 rfl (by decide) rfl (by decide) (by decide) rfl rfl (Nat.le_of_ble_eq_true rfl) (Nat.le_of_ble_eq_true rfl) ?_
  refine y_dup dX10_init_176 rfl ?_
  refine y_aload_n 0 dX10_init_177 rfl rfl ?_
  refine y_getR dX10_init_178 rfl fl_X10_22 rfl ?_
  refine y_callI (n9 := 52) (lay2 := yl_114) (I1 := (z2 (z2 I 3 14 (8)) 22 14 (8))) (L1 := L1) [.ref 3] (k_X2_init_51 (I := (z2 (z2 I 3 14 (8)) 22 14 (8))) (L := L1)) dX10_init_181 li_X10_94 cd_X2_init rfl rfl (Nat.le_of_ble_eq_true rfl) ⟨rfl, rfl, Nat.le_of_ble_eq_true rfl, Nat.le_of_ble_eq_true rfl⟩ (Nat.le_of_ble_eq_true rfl) (Nat.le_of_ble_eq_true rfl) rfl (by decide) rfl rfl (fun h => z_0.le h (by decide)) ?_
  refine y_putF (lay2 := yl_115) dX10_init_184 rfl fl_X10_95 rfl zo_10_13 (fun _ => rfl) (fun _ => rfl) rfl ?_
  refine y_aload_n 0 dX10_init_187 rfl rfl ?_
  refine y_new (n := 54) (lay2 := yl_116) dX10_init_188 lw_X10_99 rfl (by decide) rfl (by decide) (by decide) rfl rfl (Nat.le_of_ble_eq_true rfl) (Nat.le_of_ble_eq_true rfl) ?_
  refine y_dup dX10_init_191 rfl ?_
  refine y_callJ (n9 := 55) (lay2 := yl_116) (I1 := (z2 (z2 I 3 14 (8)) 22 14 (8))) (L1 := (z2 L1 54 1 (1))) [] (k_X3_init_54 (I := (z2 (z2 I 3 14 (8)) 22 14 (8))) (L := L1)) dX10_init_192 li_X10_101 cd_X3_init rfl rfl (Nat.le_of_ble_eq_true rfl) ⟨rfl, rfl, Nat.le_of_ble_eq_true rfl, Nat.le_of_ble_eq_true rfl⟩ (Nat.le_of_ble_eq_true rfl) (Nat.le_of_ble_eq_true rfl) rfl (by decide) rfl rfl (fun h => z_0.le (h.putL (by decide)) (by decide)) ?_
  refine y_putF (lay2 := yl_117) dX10_init_195 rfl fl_X10_102 rfl zo_10_14 (fun _ => rfl) (fun _ => rfl) rfl ?_
  refine y_aload_n 0 dX10_init_198 rfl rfl ?_
  refine y_iconst (v := (-1)) dX10_init_199 (by decide) ?_
  refine y_putI dX10_init_200 rfl fl_X10_106 rfl rfl rfl rfl ?_
  refine y_aload_n 0 dX10_init_203 rfl rfl ?_
  refine y_iconst (v := (-1)) dX10_init_204 (by decide) ?_
  refine y_putI dX10_init_205 rfl fl_X10_110 rfl rfl rfl rfl ?_
  refine y_iconst (v := (0)) dX10_init_208 (by decide) ?_
  refine y_istore_n [(1, .int (0)), (0, .ref 0)] dX10_init_209 rfl (by decide) rfl ?_
  refine y_iload_n 0 dX10_init_210 rfl rfl ?_
  refine y_iconst (v := (4)) dX10_init_211 (by decide) ?_
  refine y_icmp_ge 234 dX10_init_212 (by decide) (fun h => absurd h (by decide)) (fun _ => ?_)
  refine y_aload_n 1 dX10_init_215 rfl rfl ?_
  refine y_getR dX10_init_216 rfl fl_X10_11 rfl ?_
  refine y_iload_n 0 dX10_init_219 rfl rfl ?_
  refine y_new (n := 55) (lay2 := yl_118) dX10_init_220 lw_X10_9 rfl (by decide) rfl (by decide) (by decide) rfl rfl (Nat.le_of_ble_eq_true rfl) (Nat.le_of_ble_eq_true rfl) ?_
  refine y_dup dX10_init_223 rfl ?_
  refine y_callJ (n9 := 56) (lay2 := yl_120) (I1 := (z2 (z2 (z2 (z2 I 3 14 (8)) 22 14 (8)) 0 16 (-1)) 0 17 (-1))) (L1 := (z2 L1 54 1 (1))) [] (k_X8_init_55 (I := (z2 (z2 (z2 (z2 I 3 14 (8)) 22 14 (8)) 0 16 (-1)) 0 17 (-1))) (L := (z2 L1 54 1 (1)))) dX10_init_224 li_X10_113 cd_X8_init rfl rfl (Nat.le_of_ble_eq_true rfl) ⟨rfl, rfl, Nat.le_of_ble_eq_true rfl, Nat.le_of_ble_eq_true rfl⟩ (Nat.le_of_ble_eq_true rfl) (Nat.le_of_ble_eq_true rfl) rfl (by decide) rfl rfl (fun h => z_0.le h (by decide)) ?_
  refine y_aast (lay2 := yl_121) 3 dX10_init_227 rfl (fun _ => rfl) rfl ⟨_, rfl, rfl⟩ (by decide) (by decide) rfl ?_
  refine y_iinc (v := 1) 0 [(1, .int (1)), (0, .ref 0)] dX10_init_228 rfl (by decide) (by decide) rfl ?_
  refine y_goto 210 dX10_init_231 (by decide) ?_
  refine y_iload_n 0 dX10_init_210 rfl rfl ?_
  refine y_iconst (v := (4)) dX10_init_211 (by decide) ?_
  refine y_icmp_ge 234 dX10_init_212 (by decide) (fun h => absurd h (by decide)) (fun _ => ?_)
  refine y_aload_n 1 dX10_init_215 rfl rfl ?_
  refine y_getR dX10_init_216 rfl fl_X10_11 rfl ?_
  refine y_iload_n 0 dX10_init_219 rfl rfl ?_
  refine y_new (n := 57) (lay2 := yl_122) dX10_init_220 lw_X10_9 rfl (by decide) rfl (by decide) (by decide) rfl rfl (Nat.le_of_ble_eq_true rfl) (Nat.le_of_ble_eq_true rfl) ?_
  refine y_dup dX10_init_223 rfl ?_
  refine y_callJ (n9 := 58) (lay2 := yl_124) (I1 := (z2 (z2 (z2 (z2 I 3 14 (8)) 22 14 (8)) 0 16 (-1)) 0 17 (-1))) (L1 := (z2 L1 54 1 (1))) [] (k_X8_init_57 (I := (z2 (z2 (z2 (z2 I 3 14 (8)) 22 14 (8)) 0 16 (-1)) 0 17 (-1))) (L := (z2 L1 54 1 (1)))) dX10_init_224 li_X10_113 cd_X8_init rfl rfl (Nat.le_of_ble_eq_true rfl) ⟨rfl, rfl, Nat.le_of_ble_eq_true rfl, Nat.le_of_ble_eq_true rfl⟩ (Nat.le_of_ble_eq_true rfl) (Nat.le_of_ble_eq_true rfl) rfl (by decide) rfl rfl (fun h => z_0.le h (by decide)) ?_
  refine y_aast (lay2 := yl_125) 3 dX10_init_227 rfl (fun _ => rfl) rfl ⟨_, rfl, rfl⟩ (by decide) (by decide) rfl ?_
  refine y_iinc (v := 2) 0 [(1, .int (2)), (0, .ref 0)] dX10_init_228 rfl (by decide) (by decide) rfl ?_
  refine y_goto 210 dX10_init_231 (by decide) ?_
  refine y_iload_n 0 dX10_init_210 rfl rfl ?_
  refine y_iconst (v := (4)) dX10_init_211 (by decide) ?_
  refine y_icmp_ge 234 dX10_init_212 (by decide) (fun h => absurd h (by decide)) (fun _ => ?_)
  refine y_aload_n 1 dX10_init_215 rfl rfl ?_
  refine y_getR dX10_init_216 rfl fl_X10_11 rfl ?_
  refine y_iload_n 0 dX10_init_219 rfl rfl ?_
  refine y_new (n := 59) (lay2 := yl_126) dX10_init_220 lw_X10_9 rfl (by decide) rfl (by decide) (by decide) rfl rfl (Nat.le_of_ble_eq_true rfl) (Nat.le_of_ble_eq_true rfl) ?_
  refine y_dup dX10_init_223 rfl ?_
  refine y_callJ (n9 := 60) (lay2 := yl_128) (I1 := (z2 (z2 (z2 (z2 I 3 14 (8)) 22 14 (8)) 0 16 (-1)) 0 17 (-1))) (L1 := (z2 L1 54 1 (1))) [] (k_X8_init_59 (I := (z2 (z2 (z2 (z2 I 3 14 (8)) 22 14 (8)) 0 16 (-1)) 0 17 (-1))) (L := (z2 L1 54 1 (1)))) dX10_init_224 li_X10_113 cd_X8_init rfl rfl (Nat.le_of_ble_eq_true rfl) ⟨rfl, rfl, Nat.le_of_ble_eq_true rfl, Nat.le_of_ble_eq_true rfl⟩ (Nat.le_of_ble_eq_true rfl) (Nat.le_of_ble_eq_true rfl) rfl (by decide) rfl rfl (fun h => z_0.le h (by decide)) ?_
  refine y_aast (lay2 := yl_129) 3 dX10_init_227 rfl (fun _ => rfl) rfl ⟨_, rfl, rfl⟩ (by decide) (by decide) rfl ?_
  refine y_iinc (v := 3) 0 [(1, .int (3)), (0, .ref 0)] dX10_init_228 rfl (by decide) (by decide) rfl ?_
  refine y_goto 210 dX10_init_231 (by decide) ?_
  refine y_iload_n 0 dX10_init_210 rfl rfl ?_
  refine y_iconst (v := (4)) dX10_init_211 (by decide) ?_
  refine y_icmp_ge 234 dX10_init_212 (by decide) (fun h => absurd h (by decide)) (fun _ => ?_)
  refine y_aload_n 1 dX10_init_215 rfl rfl ?_
  refine y_getR dX10_init_216 rfl fl_X10_11 rfl ?_
  refine y_iload_n 0 dX10_init_219 rfl rfl ?_
  refine y_new (n := 61) (lay2 := yl_130) dX10_init_220 lw_X10_9 rfl (by decide) rfl (by decide) (by decide) rfl rfl (Nat.le_of_ble_eq_true rfl) (Nat.le_of_ble_eq_true rfl) ?_
  refine y_dup dX10_init_223 rfl ?_
  refine y_callJ (n9 := 62) (lay2 := yl_132) (I1 := (z2 (z2 (z2 (z2 I 3 14 (8)) 22 14 (8)) 0 16 (-1)) 0 17 (-1))) (L1 := (z2 L1 54 1 (1))) [] (k_X8_init_61 (I := (z2 (z2 (z2 (z2 I 3 14 (8)) 22 14 (8)) 0 16 (-1)) 0 17 (-1))) (L := (z2 L1 54 1 (1)))) dX10_init_224 li_X10_113 cd_X8_init rfl rfl (Nat.le_of_ble_eq_true rfl) ⟨rfl, rfl, Nat.le_of_ble_eq_true rfl, Nat.le_of_ble_eq_true rfl⟩ (Nat.le_of_ble_eq_true rfl) (Nat.le_of_ble_eq_true rfl) rfl (by decide) rfl rfl (fun h => z_0.le h (by decide)) ?_
  refine y_aast (lay2 := yl_133) 3 dX10_init_227 rfl (fun _ => rfl) rfl ⟨_, rfl, rfl⟩ (by decide) (by decide) rfl ?_
  refine y_iinc (v := 4) 0 [(1, .int (4)), (0, .ref 0)] dX10_init_228 rfl (by decide) (by decide) rfl ?_
  refine y_goto 210 dX10_init_231 (by decide) ?_
  refine y_iload_n 0 dX10_init_210 rfl rfl ?_
  refine y_iconst (v := (4)) dX10_init_211 (by decide) ?_
  refine y_icmp_ge 234 dX10_init_212 (by decide) (fun _ => ?_) (fun h => absurd (by decide) h)
  refine y_iconst (v := (0)) dX10_init_234 (by decide) ?_
  refine y_istore_n [(1, .int (0)), (0, .ref 0)] dX10_init_235 rfl (by decide) rfl ?_
  refine y_iload_n 0 dX10_init_236 rfl rfl ?_
  refine y_iconst (v := (3)) dX10_init_237 (by decide) ?_
  refine y_icmp_ge 273 dX10_init_238 (by decide) (fun h => absurd h (by decide)) (fun _ => ?_)
  refine y_aload_n 1 dX10_init_241 rfl rfl ?_
  refine y_getR dX10_init_242 rfl fl_X10_33 rfl ?_
  refine y_iload_n 0 dX10_init_245 rfl rfl ?_
  refine y_new (n := 63) (lay2 := yl_134) dX10_init_246 lw_X10_19 rfl (by decide) rfl (by decide) (by decide) rfl rfl (Nat.le_of_ble_eq_true rfl) (Nat.le_of_ble_eq_true rfl) ?_
  refine y_dup dX10_init_249 rfl ?_
  refine y_callJ (n9 := 64) (lay2 := yl_154) (I1 := (z2 (z2 (z2 (z2 (z2 I 3 14 (8)) 22 14 (8)) 0 16 (-1)) 0 17 (-1)) 63 14 (8))) (L1 := (z2 L1 54 1 (1))) [] (k_X0_init_63 (I := (z2 (z2 (z2 (z2 I 3 14 (8)) 22 14 (8)) 0 16 (-1)) 0 17 (-1))) (L := (z2 L1 54 1 (1)))) dX10_init_250 li_X10_21 cd_X0_init rfl rfl (Nat.le_of_ble_eq_true rfl) ⟨rfl, rfl, Nat.le_of_ble_eq_true rfl, Nat.le_of_ble_eq_true rfl⟩ (Nat.le_of_ble_eq_true rfl) (Nat.le_of_ble_eq_true rfl) rfl (by decide) rfl rfl (fun h => z_0.le (h.put (by decide)) (by decide)) ?_
  refine y_aast (lay2 := yl_155) 4 dX10_init_253 rfl (fun _ => rfl) rfl ⟨_, rfl, rfl⟩ (by decide) (by decide) rfl ?_
  refine y_aload_n 1 dX10_init_254 rfl rfl ?_
  refine y_getR dX10_init_255 rfl fl_X10_37 rfl ?_
  refine y_iload_n 0 dX10_init_258 rfl rfl ?_
  refine y_new (n := 74) (lay2 := yl_156) dX10_init_259 lw_X10_26 rfl (by decide) rfl (by decide) (by decide) rfl rfl (Nat.le_of_ble_eq_true rfl) (Nat.le_of_ble_eq_true rfl) ?_
  refine y_dup dX10_init_262 rfl ?_
  refine y_callJ (n9 := 75) (lay2 := yl_166) (I1 := (z2 (z2 (z2 (z2 (z2 I 3 14 (8)) 22 14 (8)) 0 16 (-1)) 0 17 (-1)) 63 14 (8))) (L1 := (z2 L1 54 1 (1))) [] (k_X5_init_74 (I := (z2 (z2 (z2 (z2 (z2 I 3 14 (8)) 22 14 (8)) 0 16 (-1)) 0 17 (-1)) 63 14 (8))) (L := (z2 L1 54 1 (1)))) dX10_init_263 li_X10_28 cd_X5_init rfl rfl (Nat.le_of_ble_eq_true rfl) ⟨rfl, rfl, Nat.le_of_ble_eq_true rfl, Nat.le_of_ble_eq_true rfl⟩ (Nat.le_of_ble_eq_true rfl) (Nat.le_of_ble_eq_true rfl) rfl (by decide) rfl rfl (fun h => z_0.le h (by decide)) ?_
  refine y_aast (lay2 := yl_167) 5 dX10_init_266 rfl (fun _ => rfl) rfl ⟨_, rfl, rfl⟩ (by decide) (by decide) rfl ?_
  refine y_iinc (v := 1) 0 [(1, .int (1)), (0, .ref 0)] dX10_init_267 rfl (by decide) (by decide) rfl ?_
  refine y_goto 236 dX10_init_270 (by decide) ?_
  refine y_iload_n 0 dX10_init_236 rfl rfl ?_
  refine y_iconst (v := (3)) dX10_init_237 (by decide) ?_
  refine y_icmp_ge 273 dX10_init_238 (by decide) (fun h => absurd h (by decide)) (fun _ => ?_)
  refine y_aload_n 1 dX10_init_241 rfl rfl ?_
  refine y_getR dX10_init_242 rfl fl_X10_33 rfl ?_
  refine y_iload_n 0 dX10_init_245 rfl rfl ?_
  refine y_new (n := 80) (lay2 := yl_168) dX10_init_246 lw_X10_19 rfl (by decide) rfl (by decide) (by decide) rfl rfl (Nat.le_of_ble_eq_true rfl) (Nat.le_of_ble_eq_true rfl) ?_
  refine y_dup dX10_init_249 rfl ?_
  refine y_callJ (n9 := 81) (lay2 := yl_188) (I1 := (z2 (z2 (z2 (z2 (z2 (z2 I 3 14 (8)) 22 14 (8)) 0 16 (-1)) 0 17 (-1)) 63 14 (8)) 80 14 (8))) (L1 := (z2 L1 54 1 (1))) [] (k_X0_init_80 (I := (z2 (z2 (z2 (z2 (z2 I 3 14 (8)) 22 14 (8)) 0 16 (-1)) 0 17 (-1)) 63 14 (8))) (L := (z2 L1 54 1 (1)))) dX10_init_250 li_X10_21 cd_X0_init rfl rfl (Nat.le_of_ble_eq_true rfl) ⟨rfl, rfl, Nat.le_of_ble_eq_true rfl, Nat.le_of_ble_eq_true rfl⟩ (Nat.le_of_ble_eq_true rfl) (Nat.le_of_ble_eq_true rfl) rfl (by decide) rfl rfl (fun h => z_0.le (h.put (by decide)) (by decide)) ?_
  refine y_aast (lay2 := yl_189) 4 dX10_init_253 rfl (fun _ => rfl) rfl ⟨_, rfl, rfl⟩ (by decide) (by decide) rfl ?_
  refine y_aload_n 1 dX10_init_254 rfl rfl ?_
  refine y_getR dX10_init_255 rfl fl_X10_37 rfl ?_
  refine y_iload_n 0 dX10_init_258 rfl rfl ?_
  refine y_new (n := 91) (lay2 := yl_190) dX10_init_259 lw_X10_26 rfl (by decide) rfl (by decide) (by decide) rfl rfl (Nat.le_of_ble_eq_true rfl) (Nat.le_of_ble_eq_true rfl) ?_
  refine y_dup dX10_init_262 rfl ?_
  refine y_callJ (n9 := 92) (lay2 := yl_200) (I1 := (z2 (z2 (z2 (z2 (z2 (z2 I 3 14 (8)) 22 14 (8)) 0 16 (-1)) 0 17 (-1)) 63 14 (8)) 80 14 (8))) (L1 := (z2 L1 54 1 (1))) [] (k_X5_init_91 (I := (z2 (z2 (z2 (z2 (z2 (z2 I 3 14 (8)) 22 14 (8)) 0 16 (-1)) 0 17 (-1)) 63 14 (8)) 80 14 (8))) (L := (z2 L1 54 1 (1)))) dX10_init_263 li_X10_28 cd_X5_init rfl rfl (Nat.le_of_ble_eq_true rfl) ⟨rfl, rfl, Nat.le_of_ble_eq_true rfl, Nat.le_of_ble_eq_true rfl⟩ (Nat.le_of_ble_eq_true rfl) (Nat.le_of_ble_eq_true rfl) rfl (by decide) rfl rfl (fun h => z_0.le h (by decide)) ?_
  refine y_aast (lay2 := yl_201) 5 dX10_init_266 rfl (fun _ => rfl) rfl ⟨_, rfl, rfl⟩ (by decide) (by decide) rfl ?_
  refine y_iinc (v := 2) 0 [(1, .int (2)), (0, .ref 0)] dX10_init_267 rfl (by decide) (by decide) rfl ?_
  refine y_goto 236 dX10_init_270 (by decide) ?_
  refine y_iload_n 0 dX10_init_236 rfl rfl ?_
  refine y_iconst (v := (3)) dX10_init_237 (by decide) ?_
  refine y_icmp_ge 273 dX10_init_238 (by decide) (fun h => absurd h (by decide)) (fun _ => ?_)
  refine y_aload_n 1 dX10_init_241 rfl rfl ?_
  refine y_getR dX10_init_242 rfl fl_X10_33 rfl ?_
  refine y_iload_n 0 dX10_init_245 rfl rfl ?_
  refine y_new (n := 97) (lay2 := yl_202) dX10_init_246 lw_X10_19 rfl (by decide) rfl (by decide) (by decide) rfl rfl (Nat.le_of_ble_eq_true rfl) (Nat.le_of_ble_eq_true rfl) ?_
  refine y_dup dX10_init_249 rfl ?_
  refine y_callJ (n9 := 98) (lay2 := yl_222) (I1 := (z2 (z2 (z2 (z2 (z2 (z2 (z2 I 3 14 (8)) 22 14 (8)) 0 16 (-1)) 0 17 (-1)) 63 14 (8)) 80 14 (8)) 97 14 (8))) (L1 := (z2 L1 54 1 (1))) [] (k_X0_init_97 (I := (z2 (z2 (z2 (z2 (z2 (z2 I 3 14 (8)) 22 14 (8)) 0 16 (-1)) 0 17 (-1)) 63 14 (8)) 80 14 (8))) (L := (z2 L1 54 1 (1)))) dX10_init_250 li_X10_21 cd_X0_init rfl rfl (Nat.le_of_ble_eq_true rfl) ⟨rfl, rfl, Nat.le_of_ble_eq_true rfl, Nat.le_of_ble_eq_true rfl⟩ (Nat.le_of_ble_eq_true rfl) (Nat.le_of_ble_eq_true rfl) rfl (by decide) rfl rfl (fun h => z_0.le (h.put (by decide)) (by decide)) ?_
  refine y_aast (lay2 := yl_223) 4 dX10_init_253 rfl (fun _ => rfl) rfl ⟨_, rfl, rfl⟩ (by decide) (by decide) rfl ?_
  refine y_aload_n 1 dX10_init_254 rfl rfl ?_
  refine y_getR dX10_init_255 rfl fl_X10_37 rfl ?_
  refine y_iload_n 0 dX10_init_258 rfl rfl ?_
  refine y_new (n := 108) (lay2 := yl_224) dX10_init_259 lw_X10_26 rfl (by decide) rfl (by decide) (by decide) rfl rfl (Nat.le_of_ble_eq_true rfl) (Nat.le_of_ble_eq_true rfl) ?_
  refine y_dup dX10_init_262 rfl ?_
  refine y_callJ (n9 := 109) (lay2 := yl_234) (I1 := (z2 (z2 (z2 (z2 (z2 (z2 (z2 I 3 14 (8)) 22 14 (8)) 0 16 (-1)) 0 17 (-1)) 63 14 (8)) 80 14 (8)) 97 14 (8))) (L1 := (z2 L1 54 1 (1))) [] (k_X5_init_108 (I := (z2 (z2 (z2 (z2 (z2 (z2 (z2 I 3 14 (8)) 22 14 (8)) 0 16 (-1)) 0 17 (-1)) 63 14 (8)) 80 14 (8)) 97 14 (8))) (L := (z2 L1 54 1 (1)))) dX10_init_263 li_X10_28 cd_X5_init rfl rfl (Nat.le_of_ble_eq_true rfl) ⟨rfl, rfl, Nat.le_of_ble_eq_true rfl, Nat.le_of_ble_eq_true rfl⟩ (Nat.le_of_ble_eq_true rfl) (Nat.le_of_ble_eq_true rfl) rfl (by decide) rfl rfl (fun h => z_0.le h (by decide)) ?_
  refine y_aast (lay2 := yl_235) 5 dX10_init_266 rfl (fun _ => rfl) rfl ⟨_, rfl, rfl⟩ (by decide) (by decide) rfl ?_
  refine y_iinc (v := 3) 0 [(1, .int (3)), (0, .ref 0)] dX10_init_267 rfl (by decide) (by decide) rfl ?_
  refine y_goto 236 dX10_init_270 (by decide) ?_
  refine y_iload_n 0 dX10_init_236 rfl rfl ?_
  refine y_iconst (v := (3)) dX10_init_237 (by decide) ?_
  refine y_icmp_ge 273 dX10_init_238 (by decide) (fun _ => ?_) (fun h => absurd (by decide) h)
  exact y_vret dX10_init_273 rfl rfl rfl rfl
set_option maxRecDepth 100000 in
set_option maxHeartbeats 4000000 in
theorem k_X11_init_0 {I : z_I} {L : z_L} {I9 : z_I} (hf : f_X11_plain (z2 (z2 (z2 (z2 (z2 (z2 I 4 0 (-1)) 4 1 (-1)) 4 2 (-1)) 4 3 (-1)) 0 16 (-1)) 0 17 (-1)) (0 : Int32) = some I9) (hz9 : z_0 23 (z2 (z2 (z2 (z2 (z2 (z2 I 4 0 (-1)) 4 1 (-1)) 4 2 (-1)) 4 3 (-1)) 0 16 (-1)) 0 17 (-1)) (z2 L 0 4 (1)) → z_0 23 I9 (z2 L 0 4 (1))) : z_CI 1 yl_281 yX11_init cX11_init 1 ({ frames := 1, cells := 22, slots := 5007, locals := 22 } : Room) [.ref 0] I L yl_280 (none, I9, (z2 L 0 4 (1))) 22 5007 := by
  refine z_CI.of (by decide) rfl (Nat.le_of_ble_eq_true rfl) ?_
  show z_Y 1 yl_281 RX11 cX11_init 1 ({ frames := 1, cells := 22, slots := 5007, locals := 22 } : Room) 0 [(0, .ref 0)] [] I L 0 0 yl_280 (none, I9, (z2 L 0 4 (1))) 22 5007
  refine y_aload_n 0 dX11_init_0 rfl rfl ?_
  refine y_obj dX11_init_1 oi_X11_1 ⟨Nat.le_of_ble_eq_true rfl, Nat.le_of_ble_eq_true rfl⟩ ?_
  refine y_aload_n 0 dX11_init_4 rfl rfl ?_
  refine y_sipush (v := (2200)) dX11_init_5 (by decide) ?_
  refine y_newaI (n := 1) (N0 := 2200) (lay2 := yl_237) dX11_init_8 ar_int (by decide) (by decide) (Nat.le_of_ble_eq_true rfl) rfl (by decide) rfl (by decide) (by decide) rfl rfl (Nat.le_of_ble_eq_true rfl) (Nat.le_of_ble_eq_true rfl) ?_
  refine y_putF (lay2 := yl_238) dX11_init_10 rfl fl_X11_7 rfl zo_11_0 (fun _ => rfl) (fun _ => rfl) rfl ?_
  refine y_aload_n 0 dX11_init_13 rfl rfl ?_
  refine y_bipush (v := (114)) dX11_init_14 (by decide) ?_
  refine y_newaL (n := 2) (N0 := 114) (lay2 := yl_239) dX11_init_16 ar_long (by decide) (by decide) (Nat.le_of_ble_eq_true rfl) rfl (by decide) rfl (by decide) (by decide) rfl rfl (Nat.le_of_ble_eq_true rfl) (Nat.le_of_ble_eq_true rfl) ?_
  refine y_putF (lay2 := yl_240) dX11_init_18 rfl fl_X11_13 rfl zo_11_1 (fun _ => rfl) (fun _ => rfl) rfl ?_
  refine y_aload_n 0 dX11_init_21 rfl rfl ?_
  refine y_lconst (v := (1)) dX11_init_22 (by decide) ?_
  refine y_putL dX11_init_23 rfl fl_X11_17 rfl rfl rfl rfl ?_
  refine y_aload_n 0 dX11_init_26 rfl rfl ?_
  refine y_iconst (v := (4)) dX11_init_27 (by decide) ?_
  refine y_newaI (n := 3) (N0 := 4) (lay2 := yl_241) dX11_init_28 ar_int (by decide) (by decide) (Nat.le_of_ble_eq_true rfl) rfl (by decide) rfl (by decide) (by decide) rfl rfl (Nat.le_of_ble_eq_true rfl) (Nat.le_of_ble_eq_true rfl) ?_
  refine y_putF (lay2 := yl_242) dX11_init_30 rfl fl_X11_21 rfl zo_11_5 (fun _ => rfl) (fun _ => rfl) rfl ?_
  refine y_aload_n 0 dX11_init_33 rfl rfl ?_
  refine y_iconst (v := (4)) dX11_init_34 (by decide) ?_
  refine y_newaI (n := 4) (N0 := 4) (lay2 := yl_243) dX11_init_35 ar_int (by decide) (by decide) (Nat.le_of_ble_eq_true rfl) rfl (by decide) rfl (by decide) (by decide) rfl rfl (Nat.le_of_ble_eq_true rfl) (Nat.le_of_ble_eq_true rfl) ?_
  refine y_dup dX11_init_37 rfl ?_
  refine y_iconst (v := (0)) dX11_init_38 (by decide) ?_
  refine y_iconst (v := (-1)) dX11_init_39 (by decide) ?_
  refine y_iast (j0 := 0) dX11_init_40 rfl (by decide) (by decide) rfl ?_
  refine y_dup dX11_init_41 rfl ?_
  refine y_iconst (v := (1)) dX11_init_42 (by decide) ?_
  refine y_iconst (v := (-1)) dX11_init_43 (by decide) ?_
  refine y_iast (j0 := 1) dX11_init_44 rfl (by decide) (by decide) rfl ?_
  refine y_dup dX11_init_45 rfl ?_
  refine y_iconst (v := (2)) dX11_init_46 (by decide) ?_
  refine y_iconst (v := (-1)) dX11_init_47 (by decide) ?_
  refine y_iast (j0 := 2) dX11_init_48 rfl (by decide) (by decide) rfl ?_
  refine y_dup dX11_init_49 rfl ?_
  refine y_iconst (v := (3)) dX11_init_50 (by decide) ?_
  refine y_iconst (v := (-1)) dX11_init_51 (by decide) ?_
  refine y_iast (j0 := 3) dX11_init_52 rfl (by decide) (by decide) rfl ?_
  refine y_putF (lay2 := yl_244) dX11_init_53 rfl fl_X11_24 rfl zo_11_6 (fun _ => rfl) (fun _ => rfl) rfl ?_
  refine y_aload_n 0 dX11_init_56 rfl rfl ?_
  refine y_sipush (v := (240)) dX11_init_57 (by decide) ?_
  refine y_newaL (n := 5) (N0 := 240) (lay2 := yl_245) dX11_init_60 ar_long (by decide) (by decide) (Nat.le_of_ble_eq_true rfl) rfl (by decide) rfl (by decide) (by decide) rfl rfl (Nat.le_of_ble_eq_true rfl) (Nat.le_of_ble_eq_true rfl) ?_
  refine y_putF (lay2 := yl_246) dX11_init_62 rfl fl_X11_27 rfl zo_11_7 (fun _ => rfl) (fun _ => rfl) rfl ?_
  refine y_aload_n 0 dX11_init_65 rfl rfl ?_
  refine y_sipush (v := (900)) dX11_init_66 (by decide) ?_
  refine y_newaB (n := 6) (N0 := 900) (lay2 := yl_247) dX11_init_69 ar_byte (by decide) (by decide) (Nat.le_of_ble_eq_true rfl) rfl (by decide) rfl (by decide) (by decide) rfl rfl (Nat.le_of_ble_eq_true rfl) (Nat.le_of_ble_eq_true rfl) ?_
  refine y_putF (lay2 := yl_248) dX11_init_71 rfl fl_X11_30 rfl zo_11_8 (fun _ => rfl) (fun _ => rfl) rfl ?_
  refine y_aload_n 0 dX11_init_74 rfl rfl ?_
  refine y_sipush (v := (900)) dX11_init_75 (by decide) ?_
  refine y_newaB (n := 7) (N0 := 900) (lay2 := yl_249) dX11_init_78 ar_byte (by decide) (by decide) (Nat.le_of_ble_eq_true rfl) rfl (by decide) rfl (by decide) (by decide) rfl rfl (Nat.le_of_ble_eq_true rfl) (Nat.le_of_ble_eq_true rfl) ?_
  refine y_putF (lay2 := yl_250) dX11_init_80 rfl fl_X11_34 rfl zo_11_9 (fun _ => rfl) (fun _ => rfl) rfl ?_
  refine y_aload_n 0 dX11_init_83 rfl rfl ?_
  refine y_iconst (v := (-1)) dX11_init_84 (by decide) ?_
  refine y_putI dX11_init_85 rfl fl_X11_37 rfl rfl rfl rfl ?_
  refine y_aload_n 0 dX11_init_88 rfl rfl ?_
  refine y_iconst (v := (-1)) dX11_init_89 (by decide) ?_
  refine y_putI dX11_init_90 rfl fl_X11_41 rfl rfl rfl rfl ?_
  refine y_aload_n 0 dX11_init_93 rfl rfl ?_
  refine y_iconst (v := (3)) dX11_init_94 (by decide) ?_
  refine y_newaI (n := 8) (N0 := 3) (lay2 := yl_251) dX11_init_95 ar_int (by decide) (by decide) (Nat.le_of_ble_eq_true rfl) rfl (by decide) rfl (by decide) (by decide) rfl rfl (Nat.le_of_ble_eq_true rfl) (Nat.le_of_ble_eq_true rfl) ?_
  refine y_putF (lay2 := yl_252) dX11_init_97 rfl fl_X11_44 rfl zo_11_21 (fun _ => rfl) (fun _ => rfl) rfl ?_
  refine y_aload_n 0 dX11_init_100 rfl rfl ?_
  refine y_iconst (v := (4)) dX11_init_101 (by decide) ?_
  refine y_newaI (n := 9) (N0 := 4) (lay2 := yl_253) dX11_init_102 ar_int (by decide) (by decide) (Nat.le_of_ble_eq_true rfl) rfl (by decide) rfl (by decide) (by decide) rfl rfl (Nat.le_of_ble_eq_true rfl) (Nat.le_of_ble_eq_true rfl) ?_
  refine y_putF (lay2 := yl_254) dX11_init_104 rfl fl_X11_47 rfl zo_11_24 (fun _ => rfl) (fun _ => rfl) rfl ?_
  refine y_aload_n 0 dX11_init_107 rfl rfl ?_
  refine y_iconst (v := (4)) dX11_init_108 (by decide) ?_
  refine y_newaI (n := 10) (N0 := 4) (lay2 := yl_255) dX11_init_109 ar_int (by decide) (by decide) (Nat.le_of_ble_eq_true rfl) rfl (by decide) rfl (by decide) (by decide) rfl rfl (Nat.le_of_ble_eq_true rfl) (Nat.le_of_ble_eq_true rfl) ?_
  refine y_putF (lay2 := yl_256) dX11_init_111 rfl fl_X11_50 rfl zo_11_25 (fun _ => rfl) (fun _ => rfl) rfl ?_
  refine y_aload_n 0 dX11_init_114 rfl rfl ?_
  refine y_iconst (v := (4)) dX11_init_115 (by decide) ?_
  refine y_newaI (n := 11) (N0 := 4) (lay2 := yl_257) dX11_init_116 ar_int (by decide) (by decide) (Nat.le_of_ble_eq_true rfl) rfl (by decide) rfl (by decide) (by decide) rfl rfl (Nat.le_of_ble_eq_true rfl) (Nat.le_of_ble_eq_true rfl) ?_
  refine y_putF (lay2 := yl_258) dX11_init_118 rfl fl_X11_53 rfl zo_11_26 (fun _ => rfl) (fun _ => rfl) rfl ?_
  refine y_aload_n 0 dX11_init_121 rfl rfl ?_
  refine y_iconst (v := (3)) dX11_init_122 (by decide) ?_
  refine y_newaI (n := 12) (N0 := 3) (lay2 := yl_259) dX11_init_123 ar_int (by decide) (by decide) (Nat.le_of_ble_eq_true rfl) rfl (by decide) rfl (by decide) (by decide) rfl rfl (Nat.le_of_ble_eq_true rfl) (Nat.le_of_ble_eq_true rfl) ?_
  refine y_putF (lay2 := yl_260) dX11_init_125 rfl fl_X11_56 rfl zo_11_27 (fun _ => rfl) (fun _ => rfl) rfl ?_
  refine y_aload_n 0 dX11_init_128 rfl rfl ?_
  refine y_sipush (v := (256)) dX11_init_129 (by decide) ?_
  refine y_newaI (n := 13) (N0 := 256) (lay2 := yl_261) dX11_init_132 ar_int (by decide) (by decide) (Nat.le_of_ble_eq_true rfl) rfl (by decide) rfl (by decide) (by decide) rfl rfl (Nat.le_of_ble_eq_true rfl) (Nat.le_of_ble_eq_true rfl) ?_
  refine y_putF (lay2 := yl_262) dX11_init_134 rfl fl_X11_59 rfl zo_11_30 (fun _ => rfl) (fun _ => rfl) rfl ?_
  refine y_aload_n 0 dX11_init_137 rfl rfl ?_
  refine y_sipush (v := (256)) dX11_init_138 (by decide) ?_
  refine y_newaI (n := 14) (N0 := 256) (lay2 := yl_263) dX11_init_141 ar_int (by decide) (by decide) (Nat.le_of_ble_eq_true rfl) rfl (by decide) rfl (by decide) (by decide) rfl rfl (Nat.le_of_ble_eq_true rfl) (Nat.le_of_ble_eq_true rfl) ?_
  refine y_putF (lay2 := yl_264) dX11_init_143 rfl fl_X11_62 rfl zo_11_31 (fun _ => rfl) (fun _ => rfl) rfl ?_
  refine y_aload_n 0 dX11_init_146 rfl rfl ?_
  refine y_iconst (v := (5)) dX11_init_147 (by decide) ?_
  refine y_newaI (n := 15) (N0 := 5) (lay2 := yl_265) dX11_init_148 ar_int (by decide) (by decide) (Nat.le_of_ble_eq_true rfl) rfl (by decide) rfl (by decide) (by decide) rfl rfl (Nat.le_of_ble_eq_true rfl) (Nat.le_of_ble_eq_true rfl) ?_
  refine y_putF (lay2 := yl_266) dX11_init_150 rfl fl_X11_65 rfl zo_11_34 (fun _ => rfl) (fun _ => rfl) rfl ?_
  refine y_aload_n 0 dX11_init_153 rfl rfl ?_
  refine y_iconst (v := (5)) dX11_init_154 (by decide) ?_
  refine y_newaI (n := 16) (N0 := 5) (lay2 := yl_267) dX11_init_155 ar_int (by decide) (by decide) (Nat.le_of_ble_eq_true rfl) rfl (by decide) rfl (by decide) (by decide) rfl rfl (Nat.le_of_ble_eq_true rfl) (Nat.le_of_ble_eq_true rfl) ?_
  refine y_putF (lay2 := yl_268) dX11_init_157 rfl fl_X11_68 rfl zo_11_35 (fun _ => rfl) (fun _ => rfl) rfl ?_
  refine y_aload_n 0 dX11_init_160 rfl rfl ?_
  refine y_iconst (v := (5)) dX11_init_161 (by decide) ?_
  refine y_newaI (n := 17) (N0 := 5) (lay2 := yl_269) dX11_init_162 ar_int (by decide) (by decide) (Nat.le_of_ble_eq_true rfl) rfl (by decide) rfl (by decide) (by decide) rfl rfl (Nat.le_of_ble_eq_true rfl) (Nat.le_of_ble_eq_true rfl) ?_
  refine y_putF (lay2 := yl_270) dX11_init_164 rfl fl_X11_71 rfl zo_11_36 (fun _ => rfl) (fun _ => rfl) rfl ?_
  refine y_aload_n 0 dX11_init_167 rfl rfl ?_
  refine y_iconst (v := (5)) dX11_init_168 (by decide) ?_
  refine y_newaI (n := 18) (N0 := 5) (lay2 := yl_271) dX11_init_169 ar_int (by decide) (by decide) (Nat.le_of_ble_eq_true rfl) rfl (by decide) rfl (by decide) (by decide) rfl rfl (Nat.le_of_ble_eq_true rfl) (Nat.le_of_ble_eq_true rfl) ?_
  refine y_putF (lay2 := yl_272) dX11_init_171 rfl fl_X11_74 rfl zo_11_37 (fun _ => rfl) (fun _ => rfl) rfl ?_
  refine y_aload_n 0 dX11_init_174 rfl rfl ?_
  refine y_iconst (v := (5)) dX11_init_175 (by decide) ?_
  refine y_newaI (n := 19) (N0 := 5) (lay2 := yl_273) dX11_init_176 ar_int (by decide) (by decide) (Nat.le_of_ble_eq_true rfl) rfl (by decide) rfl (by decide) (by decide) rfl rfl (Nat.le_of_ble_eq_true rfl) (Nat.le_of_ble_eq_true rfl) ?_
  refine y_putF (lay2 := yl_274) dX11_init_178 rfl fl_X11_77 rfl zo_11_38 (fun _ => rfl) (fun _ => rfl) rfl ?_
  refine y_aload_n 0 dX11_init_181 rfl rfl ?_
  refine y_bipush (v := (80)) dX11_init_182 (by decide) ?_
  refine y_newaI (n := 20) (N0 := 80) (lay2 := yl_275) dX11_init_184 ar_int (by decide) (by decide) (Nat.le_of_ble_eq_true rfl) rfl (by decide) rfl (by decide) (by decide) rfl rfl (Nat.le_of_ble_eq_true rfl) (Nat.le_of_ble_eq_true rfl) ?_
  refine y_putF (lay2 := yl_276) dX11_init_186 rfl fl_X11_80 rfl zo_11_41 (fun _ => rfl) (fun _ => rfl) rfl ?_
  refine y_aload_n 0 dX11_init_189 rfl rfl ?_
  refine y_iconst (v := (5)) dX11_init_190 (by decide) ?_
  refine y_newaI (n := 21) (N0 := 5) (lay2 := yl_277) dX11_init_191 ar_int (by decide) (by decide) (Nat.le_of_ble_eq_true rfl) rfl (by decide) rfl (by decide) (by decide) rfl rfl (Nat.le_of_ble_eq_true rfl) (Nat.le_of_ble_eq_true rfl) ?_
  refine y_putF (lay2 := yl_278) dX11_init_193 rfl fl_X11_83 rfl zo_11_42 (fun _ => rfl) (fun _ => rfl) rfl ?_
  refine y_aload_n 0 dX11_init_196 rfl rfl ?_
  refine y_iconst (v := (5)) dX11_init_197 (by decide) ?_
  refine y_newaI (n := 22) (N0 := 5) (lay2 := yl_279) dX11_init_198 ar_int (by decide) (by decide) (Nat.le_of_ble_eq_true rfl) rfl (by decide) rfl (by decide) (by decide) rfl rfl (Nat.le_of_ble_eq_true rfl) (Nat.le_of_ble_eq_true rfl) ?_
  refine y_putF (lay2 := yl_280) dX11_init_200 rfl fl_X11_86 rfl zo_11_43 (fun _ => rfl) (fun _ => rfl) rfl ?_
  refine y_aload_n 0 dX11_init_203 rfl rfl ?_
  refine y_iconst (v := (0)) dX11_init_204 (by decide) ?_
  refine y_callV (lay := yl_280) [.int 0] (c_X11_plain (I := (z2 (z2 (z2 (z2 (z2 (z2 I 4 0 (-1)) 4 1 (-1)) 4 2 (-1)) 4 3 (-1)) 0 16 (-1)) 0 17 (-1))) (L := (z2 L 0 4 (1))) hf) dX11_init_205 lk_X11_89 rfl rfl cd_X11_plain rfl rfl (Nat.le_of_ble_eq_true rfl) ⟨rfl, rfl, Nat.le_of_ble_eq_true rfl, Nat.le_of_ble_eq_true rfl⟩ (Nat.le_of_ble_eq_true rfl) (Nat.le_of_ble_eq_true rfl) hz9 ?_
  exact y_vret dX11_init_208 rfl rfl rfl rfl
