set_option maxRecDepth 100000 in
set_option maxHeartbeats 4000000 in
theorem c_X11_claimRow {I : z_I} {L : z_L} (p0 : Int32)  : z_C layM yX11_claimRow cX11_claimRow 1 (some .int) ({ frames := 0, cells := 0, slots := 0, locals := 0 } : Room) [.int p0] I L (some (.int (f_X11_claimRow p0)), I, L) := by
  obtain ⟨r, hf⟩ : ∃ r, f_X11_claimRow p0 = r := ⟨_, rfl⟩
  rw [hf]
  refine z_C.of (by decide) (Nat.le_of_ble_eq_true rfl) ?_
  show z_X layM RX11 cX11_claimRow 1 (some .int) ({ frames := 0, cells := 0, slots := 0, locals := 0 } : Room) 0 [(0, .int p0)] [] I L (some (.int r), I, L)
  unfold f_X11_claimRow at hf
  refine x_bipush (v := (30)) dX11_claimRow_0 (by decide) ?_
  refine x_iconst (v := (3)) dX11_claimRow_2 (by decide) ?_
  refine x_iload_n 0 dX11_claimRow_3 rfl rfl ?_
  refine x_imul dX11_claimRow_4 ?_
  refine x_iadd dX11_claimRow_5 ?_
  subst hf
  exact x_iret dX11_claimRow_6 rfl rfl
set_option maxRecDepth 100000 in
set_option maxHeartbeats 4000000 in
theorem c_X11_scholarRow {I : z_I} {L : z_L} (p0 : Int32)  : z_C layM yX11_scholarRow cX11_scholarRow 1 (some .int) ({ frames := 0, cells := 0, slots := 0, locals := 0 } : Room) [.int p0] I L (some (.int (f_X11_scholarRow p0)), I, L) := by
  obtain ⟨r, hf⟩ : ∃ r, f_X11_scholarRow p0 = r := ⟨_, rfl⟩
  rw [hf]
  refine z_C.of (by decide) (Nat.le_of_ble_eq_true rfl) ?_
  show z_X layM RX11 cX11_scholarRow 1 (some .int) ({ frames := 0, cells := 0, slots := 0, locals := 0 } : Room) 0 [(0, .int p0)] [] I L (some (.int r), I, L)
  unfold f_X11_scholarRow at hf
  refine x_bipush (v := (51)) dX11_scholarRow_0 (by decide) ?_
  refine x_iconst (v := (2)) dX11_scholarRow_2 (by decide) ?_
  refine x_iload_n 0 dX11_scholarRow_3 rfl rfl ?_
  refine x_imul dX11_scholarRow_4 ?_
  refine x_iadd dX11_scholarRow_5 ?_
  subst hf
  exact x_iret dX11_scholarRow_6 rfl rfl
set_option maxRecDepth 100000 in
set_option maxHeartbeats 4000000 in
theorem c_X11_isIn {I : z_I} {L : z_L} (p0 : Int32) (p1 : Int32)  : z_C layM yX11_isIn cX11_isIn 3 (some .boolean) ({ frames := 0, cells := 0, slots := 0, locals := 0 } : Room) [.ref 0, .int p0, .int p1] I L (some (.int (zb (f_X11_isIn p0 p1))), I, L) := by
  obtain ⟨r, hf⟩ : ∃ r, f_X11_isIn p0 p1 = r := ⟨_, rfl⟩
  rw [hf]
  refine z_C.of (by decide) (Nat.le_of_ble_eq_true rfl) ?_
  show z_X layM RX11 cX11_isIn 3 (some .boolean) ({ frames := 0, cells := 0, slots := 0, locals := 0 } : Room) 0 [(0, .ref 0), (1, .int p0), (2, .int p1)] [] I L (some (.int (zb r)), I, L)
  unfold f_X11_isIn at hf
  refine x_iload_n 1 dX11_isIn_0 rfl rfl ?_
  refine x_iload_n 2 dX11_isIn_1 rfl rfl ?_
  refine x_ishr dX11_isIn_2 ?_
  refine x_iconst (v := (1)) dX11_isIn_3 (by decide) ?_
  refine x_iand dX11_isIn_4 ?_
  refine x_iconst (v := (1)) dX11_isIn_5 (by decide) ?_
  refine x_icmp_ne 13 dX11_isIn_6 (by decide) (fun hB => ?_) (fun hB => ?_)
  · replace hf := t_el hB hf
    refine x_iconst (v := (0)) dX11_isIn_13 (by decide) ?_
    subst hf
    exact x_zret (b := false) dX11_isIn_14 rfl rfl
  · replace hf := t_if hB hf
    refine x_iconst (v := (1)) dX11_isIn_9 (by decide) ?_
    refine x_goto 14 dX11_isIn_10 (by decide) ?_
    subst hf
    exact x_zret (b := true) dX11_isIn_14 rfl rfl
set_option maxRecDepth 100000 in
set_option maxHeartbeats 4000000 in
theorem c_X11_isThere {I : z_I} {L : z_L} {p0 : Int32}  {r : Bool × z_I} (hf : f_X11_isThere I p0 = some r) : z_C layM yX11_isThere cX11_isThere 2 (some .boolean) ({ frames := 5, cells := 0, slots := 0, locals := 116 } : Room) [.ref 0, .int p0] I L (some (.int (zb r.1)), r.2, L) := by
  refine z_C.of (by decide) (Nat.le_of_ble_eq_true rfl) ?_
  show z_X layM RX11 cX11_isThere 2 (some .boolean) ({ frames := 5, cells := 0, slots := 0, locals := 116 } : Room) 0 [(0, .ref 0), (1, .int p0)] [] I L (some (.int (zb r.1)), r.2, L)
  unfold f_X11_isThere at hf
  refine x_aload_n 0 dX11_isThere_0 rfl rfl ?_
  refine x_ldcS dX11_isThere_1 ?_
  obtain ⟨q1, hq2, hf⟩ := f_bd hf
  refine x_callVi [.ref 9001] (c_X11_inWords (I := I) (L := L)  hq2) dX11_isThere_3 lk_X11_184 lm_0 rfl cd_X11_inWords rfl rfl (Nat.le_of_ble_eq_true rfl) ⟨rfl, rfl, Nat.le_of_ble_eq_true rfl, Nat.le_of_ble_eq_true rfl⟩ ?_
  refine x_iload_n 1 dX11_isThere_6 rfl rfl ?_
  refine x_icmp_eq 12 dX11_isThere_7 (by decide) (fun hB => ?_) (fun hB => ?_)
  · replace hf := f_if hB hf
    refine x_aload_n 0 dX11_isThere_12 rfl rfl ?_
    obtain ⟨q3, hq4, hf⟩ := f_bd hf
    refine x_callVv [] (c_X11_ahead (I := I) (L := L)  hq4) dX11_isThere_13 lk_X11_175 lm_0 rfl cd_X11_ahead rfl rfl (Nat.le_of_ble_eq_true rfl) ⟨rfl, rfl, Nat.le_of_ble_eq_true rfl, Nat.le_of_ble_eq_true rfl⟩ ?_
    refine x_iconst (v := (1)) dX11_isThere_16 (by decide) ?_
    cases hf
    exact x_zret (b := true) dX11_isThere_17 rfl rfl
  · replace hf := f_el hB hf
    refine x_iconst (v := (0)) dX11_isThere_10 (by decide) ?_
    cases hf
    exact x_zret (b := false) dX11_isThere_11 rfl rfl
set_option maxRecDepth 100000 in
set_option maxHeartbeats 4000000 in
theorem c_X11_perhaps {I : z_I} {L : z_L} {p0 : Int32} {p1 : Int32} {p2 : Int32} {p3 : Int32} {p4 : Int32}  {r : Bool × z_I} (hf : f_X11_perhaps I p0 p1 p2 p3 p4 = some r) : z_C layM yX11_perhaps cX11_perhaps 6 (some .boolean) ({ frames := 6, cells := 0, slots := 0, locals := 137 } : Room) [.ref 0, .int p0, .int p1, .int p2, .int p3, .int p4] I L (some (.int (zb r.1)), r.2, L) := by
  refine z_C.of (by decide) (Nat.le_of_ble_eq_true rfl) ?_
  show z_X layM RX11 cX11_perhaps 6 (some .boolean) ({ frames := 6, cells := 0, slots := 0, locals := 137 } : Room) 0 [(0, .ref 0), (1, .int p0), (2, .int p1), (3, .int p2), (4, .int p3), (5, .int p4)] [] I L (some (.int (zb r.1)), r.2, L)
  unfold f_X11_perhaps at hf
  refine x_aload_n 0 dX11_perhaps_0 rfl rfl ?_
  refine x_iload_n 1 dX11_perhaps_1 rfl rfl ?_
  obtain ⟨q1, hq2, hf⟩ := f_bd hf
  refine x_callVi [.int p0] (c_X11_isThere (I := I) (L := L)  hq2) dX11_perhaps_2 lk_X11_194 lm_0 rfl cd_X11_isThere rfl rfl (Nat.le_of_ble_eq_true rfl) ⟨rfl, rfl, Nat.le_of_ble_eq_true rfl, Nat.le_of_ble_eq_true rfl⟩ ?_
  refine x_if_eqB 17 dX11_perhaps_5 (by decide) (fun hB => ?_) (fun hB => ?_)
  · replace hf := f_el hB hf
    refine x_aload_n 0 dX11_perhaps_17 rfl rfl ?_
    refine x_getR dX11_perhaps_18 lm_0 fl_X11_7 rfl ?_
    refine x_iload_n 2 dX11_perhaps_21 rfl rfl ?_
    refine x_iload 5 dX11_perhaps_22 rfl ?_
    obtain ⟨h5, hf⟩ := f_gd hf
    obtain ⟨I6, hI6, hf⟩ := f_lt hf
    refine x_iast (j0 := (p1).toNatClampNeg) dX11_perhaps_24 lm_1 h5 rfl hI6 ?_
    refine x_iconst (v := (1)) dX11_perhaps_25 (by decide) ?_
    cases hf
    exact x_zret (b := true) dX11_perhaps_26 rfl rfl
  · replace hf := f_if hB hf
    refine x_aload_n 0 dX11_perhaps_8 rfl rfl ?_
    refine x_iload_n 2 dX11_perhaps_9 rfl rfl ?_
    refine x_iload_n 3 dX11_perhaps_10 rfl rfl ?_
    refine x_iload 4 dX11_perhaps_11 rfl ?_
    obtain ⟨q3, hq4, hf⟩ := f_bd hf
    refine x_callVi [.int p1, .int p2, .int p3] (c_X11_number (I := q1.2) (L := L)  hq4) dX11_perhaps_13 lk_X11_197 lm_0 rfl cd_X11_number rfl rfl (Nat.le_of_ble_eq_true rfl) ⟨rfl, rfl, Nat.le_of_ble_eq_true rfl, Nat.le_of_ble_eq_true rfl⟩ ?_
    cases hf
    exact x_zret dX11_perhaps_16 rfl rfl
set_option maxRecDepth 100000 in
set_option maxHeartbeats 4000000 in
theorem c_X11_isFull {I : z_I} {L : z_L} {p0 : Int32} {p1 : Int32}  {r : Bool} (hf : f_X11_isFull I p0 p1 = some r) : z_C layM yX11_isFull cX11_isFull 3 (some .boolean) ({ frames := 0, cells := 0, slots := 0, locals := 0 } : Room) [.ref 0, .int p0, .int p1] I L (some (.int (zb r)), I, L) := by
  refine z_C.of (by decide) (Nat.le_of_ble_eq_true rfl) ?_
  show z_X layM RX11 cX11_isFull 3 (some .boolean) ({ frames := 0, cells := 0, slots := 0, locals := 0 } : Room) 0 [(0, .ref 0), (1, .int p0), (2, .int p1)] [] I L (some (.int (zb r)), I, L)
  unfold f_X11_isFull at hf
  refine x_aload_n 0 dX11_isFull_0 rfl rfl ?_
  refine x_getR dX11_isFull_1 lm_0 fl_X11_7 rfl ?_
  refine x_sipush (v := (1712)) dX11_isFull_4 (by decide) ?_
  refine x_iload_n 1 dX11_isFull_7 rfl rfl ?_
  refine x_iadd dX11_isFull_8 ?_
  obtain ⟨h1, hf⟩ := f_gd hf
  refine x_iald (j := (((1712 : Int32) + p0)).toNatClampNeg) (v := (I 1 (((1712 : Int32) + p0)).toNatClampNeg)) dX11_isFull_9 lm_1 h1 rfl rfl ?_
  refine x_iload_n 2 dX11_isFull_10 rfl rfl ?_
  refine x_icmp_ne 18 dX11_isFull_11 (by decide) (fun hB => ?_) (fun hB => ?_)
  · replace hf := f_el hB hf
    refine x_iconst (v := (0)) dX11_isFull_18 (by decide) ?_
    cases hf
    exact x_zret (b := false) dX11_isFull_19 rfl rfl
  · replace hf := f_if hB hf
    refine x_iconst (v := (1)) dX11_isFull_14 (by decide) ?_
    refine x_goto 19 dX11_isFull_15 (by decide) ?_
    cases hf
    exact x_zret (b := true) dX11_isFull_19 rfl rfl
set_option maxRecDepth 100000 in
set_option maxHeartbeats 4000000 in
theorem c_X11_isOld {I : z_I} {L : z_L}   {r : Bool} (hf : f_X11_isOld I L = some r) : z_C layM yX11_isOld cX11_isOld 1 (some .boolean) ({ frames := 3, cells := 0, slots := 0, locals := 67 } : Room) [.ref 0] I L (some (.int (zb r)), I, L) := by
  refine z_C.of (by decide) (Nat.le_of_ble_eq_true rfl) ?_
  show z_X layM RX11 cX11_isOld 1 (some .boolean) ({ frames := 3, cells := 0, slots := 0, locals := 67 } : Room) 0 [(0, .ref 0)] [] I L (some (.int (zb r)), I, L)
  unfold f_X11_isOld at hf
  refine x_aload_n 0 dX11_isOld_0 rfl rfl ?_
  refine x_bipush (v := (76)) dX11_isOld_1 (by decide) ?_
  refine x_aload_n 0 dX11_isOld_3 rfl rfl ?_
  refine x_getR dX11_isOld_4 lm_0 fl_X11_7 rfl ?_
  refine x_sipush (v := (1713)) dX11_isOld_7 (by decide) ?_
  refine x_iald (j := 1713) (v := (I 1 1713)) dX11_isOld_10 lm_1 (by decide +kernel) (by decide +kernel) rfl ?_
  obtain ⟨q2, hq3, hf⟩ := f_bd hf
  refine x_callVi [.int (76 : Int32), .int (I 1 1713)] (c_X11_findHere (I := I) (L := L)  hq3) dX11_isOld_11 lk_X11_201 lm_0 rfl cd_X11_findHere rfl rfl (Nat.le_of_ble_eq_true rfl) ⟨rfl, rfl, Nat.le_of_ble_eq_true rfl, Nat.le_of_ble_eq_true rfl⟩ ?_
  refine x_iconst (v := (-1)) dX11_isOld_14 (by decide) ?_
  refine x_icmp_ne 36 dX11_isOld_15 (by decide) (fun hB => ?_) (fun hB => ?_)
  · replace hf := f_el hB hf
    refine x_iconst (v := (1)) dX11_isOld_36 (by decide) ?_
    cases hf
    exact x_zret (b := true) dX11_isOld_37 rfl rfl
  · replace hf := f_if hB hf
    refine x_aload_n 0 dX11_isOld_18 rfl rfl ?_
    refine x_bipush (v := (84)) dX11_isOld_19 (by decide) ?_
    refine x_aload_n 0 dX11_isOld_21 rfl rfl ?_
    refine x_getR dX11_isOld_22 lm_0 fl_X11_7 rfl ?_
    refine x_sipush (v := (1714)) dX11_isOld_25 (by decide) ?_
    refine x_iald (j := 1714) (v := (I 1 1714)) dX11_isOld_28 lm_1 (by decide +kernel) (by decide +kernel) rfl ?_
    obtain ⟨q5, hq6, hf⟩ := f_bd hf
    refine x_callVi [.int (84 : Int32), .int (I 1 1714)] (c_X11_findHere (I := I) (L := L)  hq6) dX11_isOld_29 lk_X11_201 lm_0 rfl cd_X11_findHere rfl rfl (Nat.le_of_ble_eq_true rfl) ⟨rfl, rfl, Nat.le_of_ble_eq_true rfl, Nat.le_of_ble_eq_true rfl⟩ ?_
    refine x_iconst (v := (-1)) dX11_isOld_32 (by decide) ?_
    refine x_icmp_eq 38 dX11_isOld_33 (by decide) (fun hB => ?_) (fun hB => ?_)
    · replace hf := f_if hB hf
      refine x_aload_n 0 dX11_isOld_38 rfl rfl ?_
      refine x_bipush (v := (91)) dX11_isOld_39 (by decide) ?_
      refine x_aload_n 0 dX11_isOld_41 rfl rfl ?_
      refine x_getR dX11_isOld_42 lm_0 fl_X11_7 rfl ?_
      refine x_sipush (v := (1715)) dX11_isOld_45 (by decide) ?_
      refine x_iald (j := 1715) (v := (I 1 1715)) dX11_isOld_48 lm_1 (by decide +kernel) (by decide +kernel) rfl ?_
      obtain ⟨q8, hq9, hf⟩ := f_bd hf
      refine x_callVi [.int (91 : Int32), .int (I 1 1715)] (c_X11_findHere (I := I) (L := L)  hq9) dX11_isOld_49 lk_X11_201 lm_0 rfl cd_X11_findHere rfl rfl (Nat.le_of_ble_eq_true rfl) ⟨rfl, rfl, Nat.le_of_ble_eq_true rfl, Nat.le_of_ble_eq_true rfl⟩ ?_
      refine x_iconst (v := (-1)) dX11_isOld_52 (by decide) ?_
      refine x_icmp_eq 60 dX11_isOld_53 (by decide) (fun hB => ?_) (fun hB => ?_)
      · replace hf := f_if hB hf
        refine x_iconst (v := (0)) dX11_isOld_60 (by decide) ?_
        cases hf
        exact x_zret (b := false) dX11_isOld_61 rfl rfl
      · replace hf := f_el hB hf
        refine x_iconst (v := (1)) dX11_isOld_56 (by decide) ?_
        refine x_goto 61 dX11_isOld_57 (by decide) ?_
        cases hf
        exact x_zret (b := true) dX11_isOld_61 rfl rfl
    · replace hf := f_el hB hf
      refine x_iconst (v := (1)) dX11_isOld_36 (by decide) ?_
      cases hf
      exact x_zret (b := true) dX11_isOld_37 rfl rfl
set_option maxRecDepth 100000 in
set_option maxHeartbeats 4000000 in
theorem c_X11_newOne {I : z_I} {L : z_L} {p0 : Int32} {p1 : Int32} {p2 : Int32}  {r : Bool × z_I × z_L} (hf : f_X11_newOne I L p0 p1 p2 = some r) : z_C layM yX11_newOne cX11_newOne 4 (some .boolean) ({ frames := 6, cells := 0, slots := 0, locals := 137 } : Room) [.ref 0, .int p0, .int p1, .int p2] I L (some (.int (zb r.1)), r.2.1, r.2.2) := by
  refine z_C.of (by decide) (Nat.le_of_ble_eq_true rfl) ?_
  show z_X layM RX11 cX11_newOne 4 (some .boolean) ({ frames := 6, cells := 0, slots := 0, locals := 137 } : Room) 0 [(0, .ref 0), (1, .int p0), (2, .int p1), (3, .int p2)] [] I L (some (.int (zb r.1)), r.2.1, r.2.2)
  unfold f_X11_newOne at hf
  refine x_aload_n 0 dX11_newOne_0 rfl rfl ?_
  refine x_iload_n 1 dX11_newOne_1 rfl rfl ?_
  refine x_iload_n 2 dX11_newOne_2 rfl rfl ?_
  obtain ⟨q1, hq2, hf⟩ := f_bd hf
  refine x_callVi [.int p0, .int p1] (c_X11_isFull (I := I) (L := L)  hq2) dX11_newOne_3 lk_X11_204 lm_0 rfl cd_X11_isFull rfl rfl (Nat.le_of_ble_eq_true rfl) ⟨rfl, rfl, Nat.le_of_ble_eq_true rfl, Nat.le_of_ble_eq_true rfl⟩ ?_
  refine x_if_eqB 16 dX11_newOne_6 (by decide) (fun hB => ?_) (fun hB => ?_)
  · replace hf := f_el hB hf
    refine x_aload_n 0 dX11_newOne_16 rfl rfl ?_
    obtain ⟨q3, hq4, hf⟩ := f_bd hf
    refine x_callVv [] (c_X11_ahead (I := I) (L := L)  hq4) dX11_newOne_17 lk_X11_175 lm_0 rfl cd_X11_ahead rfl rfl (Nat.le_of_ble_eq_true rfl) ⟨rfl, rfl, Nat.le_of_ble_eq_true rfl, Nat.le_of_ble_eq_true rfl⟩ ?_
    refine x_aload_n 0 dX11_newOne_20 rfl rfl ?_
    refine x_ldcS dX11_newOne_21 ?_
    obtain ⟨q5, hq6, hf⟩ := f_bd hf
    refine x_callVi [.ref 9001] (c_X11_isName (I := q3) (L := L)  hq6) dX11_newOne_23 lk_X11_208 lm_0 rfl cd_X11_isName rfl rfl (Nat.le_of_ble_eq_true rfl) ⟨rfl, rfl, Nat.le_of_ble_eq_true rfl, Nat.le_of_ble_eq_true rfl⟩ ?_
    refine x_if_neB 35 dX11_newOne_26 (by decide) (fun hB => ?_) (fun hB => ?_)
    · replace hf := f_if hB hf
      refine x_aload_n 0 dX11_newOne_35 rfl rfl ?_
      obtain ⟨q7, hq8, hf⟩ := f_bd hf
      refine x_callVi [] (c_X11_isOld (I := q3) (L := L)  hq8) dX11_newOne_36 lk_X11_212 lm_0 rfl cd_X11_isOld rfl rfl (Nat.le_of_ble_eq_true rfl) ⟨rfl, rfl, Nat.le_of_ble_eq_true rfl, Nat.le_of_ble_eq_true rfl⟩ ?_
      refine x_if_eqB 48 dX11_newOne_39 (by decide) (fun hB => ?_) (fun hB => ?_)
      · replace hf := f_el hB hf
        refine x_aload_n 0 dX11_newOne_48 rfl rfl ?_
        refine x_getR dX11_newOne_49 lm_0 fl_X11_13 rfl ?_
        refine x_bipush (v := (76)) dX11_newOne_52 (by decide) ?_
        refine x_iload_n 3 dX11_newOne_54 rfl rfl ?_
        refine x_iadd dX11_newOne_55 ?_
        refine x_aload_n 0 dX11_newOne_56 rfl rfl ?_
        refine x_getR dX11_newOne_57 lm_0 fl_X11_7 rfl ?_
        refine x_sipush (v := (1712)) dX11_newOne_60 (by decide) ?_
        refine x_iload_n 1 dX11_newOne_63 rfl rfl ?_
        refine x_iadd dX11_newOne_64 ?_
        obtain ⟨h9, hf⟩ := f_gd hf
        refine x_iald (j := (((1712 : Int32) + p0)).toNatClampNeg) (v := (q3 1 (((1712 : Int32) + p0)).toNatClampNeg)) dX11_newOne_65 lm_1 h9 rfl rfl ?_
        refine x_iadd dX11_newOne_66 ?_
        refine x_aload_n 0 dX11_newOne_67 rfl rfl ?_
        obtain ⟨q10, hq11, hf⟩ := f_bd hf
        refine x_callVl [] (c_X11_nameHere (I := q3) (L := L)  hq11) dX11_newOne_68 lk_X11_188 lm_0 rfl cd_X11_nameHere rfl rfl (Nat.le_of_ble_eq_true rfl) ⟨rfl, rfl, Nat.le_of_ble_eq_true rfl, Nat.le_of_ble_eq_true rfl⟩ ?_
        obtain ⟨h12, hf⟩ := f_gd hf
        obtain ⟨L13, hL13, hf⟩ := f_lt hf
        refine x_last (j0 := ((((76 : Int32) + p2) + (q3 1 (((1712 : Int32) + p0)).toNatClampNeg))).toNatClampNeg) dX11_newOne_71 lm_2 h12 rfl hL13 ?_
        refine x_aload_n 0 dX11_newOne_72 rfl rfl ?_
        obtain ⟨q14, hq15, hf⟩ := f_bd hf
        refine x_callVv [] (c_X11_ahead (I := q3) (L := L13)  hq15) dX11_newOne_73 lk_X11_175 lm_0 rfl cd_X11_ahead rfl rfl (Nat.le_of_ble_eq_true rfl) ⟨rfl, rfl, Nat.le_of_ble_eq_true rfl, Nat.le_of_ble_eq_true rfl⟩ ?_
        refine x_iconst (v := (1)) dX11_newOne_76 (by decide) ?_
        cases hf
        exact x_zret (b := true) dX11_newOne_77 rfl rfl
      · replace hf := f_if hB hf
        refine x_aload_n 0 dX11_newOne_42 rfl rfl ?_
        refine x_iconst (v := (3)) dX11_newOne_43 (by decide) ?_
        refine x_callVi [.int (3 : Int32)] (c_X11_fails (I := q3) (L := L) (3 : Int32)) dX11_newOne_44 lk_X11_181 lm_0 rfl cd_X11_fails rfl rfl (Nat.le_of_ble_eq_true rfl) ⟨rfl, rfl, Nat.le_of_ble_eq_true rfl, Nat.le_of_ble_eq_true rfl⟩ ?_
        cases hf
        exact x_zret dX11_newOne_47 rfl rfl
    · replace hf := f_el hB hf
      refine x_aload_n 0 dX11_newOne_29 rfl rfl ?_
      refine x_iconst (v := (2)) dX11_newOne_30 (by decide) ?_
      refine x_callVi [.int (2 : Int32)] (c_X11_fails (I := q3) (L := L) (2 : Int32)) dX11_newOne_31 lk_X11_181 lm_0 rfl cd_X11_fails rfl rfl (Nat.le_of_ble_eq_true rfl) ⟨rfl, rfl, Nat.le_of_ble_eq_true rfl, Nat.le_of_ble_eq_true rfl⟩ ?_
      cases hf
      exact x_zret dX11_newOne_34 rfl rfl
  · replace hf := f_if hB hf
    refine x_aload_n 0 dX11_newOne_9 rfl rfl ?_
    refine x_bipush (v := (6)) dX11_newOne_10 (by decide) ?_
    refine x_callVi [.int (6 : Int32)] (c_X11_fails (I := I) (L := L) (6 : Int32)) dX11_newOne_12 lk_X11_181 lm_0 rfl cd_X11_fails rfl rfl (Nat.le_of_ble_eq_true rfl) ⟨rfl, rfl, Nat.le_of_ble_eq_true rfl, Nat.le_of_ble_eq_true rfl⟩ ?_
    cases hf
    exact x_zret dX11_newOne_15 rfl rfl
set_option maxRecDepth 100000 in
set_option maxHeartbeats 4000000 in
theorem c_X11_oldOne {I : z_I} {L : z_L} {p0 : Int32} {p1 : Int32} {p2 : Int32}  {r : Bool × z_I} (hf : f_X11_oldOne I L p0 p1 p2 = some r) : z_C layM yX11_oldOne cX11_oldOne 4 (some .boolean) ({ frames := 6, cells := 0, slots := 0, locals := 137 } : Room) [.ref 0, .int p0, .int p1, .int p2] I L (some (.int (zb r.1)), r.2, L) := by
  refine z_C.of (by decide) (Nat.le_of_ble_eq_true rfl) ?_
  show z_X layM RX11 cX11_oldOne 4 (some .boolean) ({ frames := 6, cells := 0, slots := 0, locals := 137 } : Room) 0 [(0, .ref 0), (1, .int p0), (2, .int p1), (3, .int p2)] [] I L (some (.int (zb r.1)), r.2, L)
  unfold f_X11_oldOne at hf
  refine x_aload_n 0 dX11_oldOne_0 rfl rfl ?_
  refine x_ldcS dX11_oldOne_1 ?_
  obtain ⟨q1, hq2, hf⟩ := f_bd hf
  refine x_callVi [.ref 9001] (c_X11_isName (I := I) (L := L)  hq2) dX11_oldOne_3 lk_X11_208 lm_0 rfl cd_X11_isName rfl rfl (Nat.le_of_ble_eq_true rfl) ⟨rfl, rfl, Nat.le_of_ble_eq_true rfl, Nat.le_of_ble_eq_true rfl⟩ ?_
  refine x_if_neB 15 dX11_oldOne_6 (by decide) (fun hB => ?_) (fun hB => ?_)
  · replace hf := f_if hB hf
    refine x_aload_n 0 dX11_oldOne_15 rfl rfl ?_
    refine x_getR dX11_oldOne_16 lm_0 fl_X11_7 rfl ?_
    refine x_iload_n 3 dX11_oldOne_19 rfl rfl ?_
    refine x_aload_n 0 dX11_oldOne_20 rfl rfl ?_
    refine x_iload_n 1 dX11_oldOne_21 rfl rfl ?_
    refine x_iload_n 2 dX11_oldOne_22 rfl rfl ?_
    obtain ⟨q3, hq4, hf⟩ := f_bd hf
    refine x_callVi [.int p0, .int p1] (c_X11_findHere (I := I) (L := L)  hq4) dX11_oldOne_23 lk_X11_201 lm_0 rfl cd_X11_findHere rfl rfl (Nat.le_of_ble_eq_true rfl) ⟨rfl, rfl, Nat.le_of_ble_eq_true rfl, Nat.le_of_ble_eq_true rfl⟩ ?_
    obtain ⟨h5, hf⟩ := f_gd hf
    obtain ⟨I6, hI6, hf⟩ := f_lt hf
    refine x_iast (j0 := (p2).toNatClampNeg) dX11_oldOne_26 lm_1 h5 rfl hI6 ?_
    refine x_aload_n 0 dX11_oldOne_27 rfl rfl ?_
    refine x_getR dX11_oldOne_28 lm_0 fl_X11_7 rfl ?_
    refine x_iload_n 3 dX11_oldOne_31 rfl rfl ?_
    refine x_iald (j := (p2).toNatClampNeg) (v := (I6 1 (p2).toNatClampNeg)) dX11_oldOne_32 lm_1 h5 rfl rfl ?_
    refine x_iconst (v := (-1)) dX11_oldOne_33 (by decide) ?_
    refine x_icmp_ne 43 dX11_oldOne_34 (by decide) (fun hB => ?_) (fun hB => ?_)
    · replace hf := f_el hB hf
      refine x_aload_n 0 dX11_oldOne_43 rfl rfl ?_
      obtain ⟨q8, hq9, hf⟩ := f_bd hf
      refine x_callVv [] (c_X11_ahead (I := I6) (L := L)  hq9) dX11_oldOne_44 lk_X11_175 lm_0 rfl cd_X11_ahead rfl rfl (Nat.le_of_ble_eq_true rfl) ⟨rfl, rfl, Nat.le_of_ble_eq_true rfl, Nat.le_of_ble_eq_true rfl⟩ ?_
      refine x_iconst (v := (1)) dX11_oldOne_47 (by decide) ?_
      cases hf
      exact x_zret (b := true) dX11_oldOne_48 rfl rfl
    · replace hf := f_if hB hf
      refine x_aload_n 0 dX11_oldOne_37 rfl rfl ?_
      refine x_iconst (v := (3)) dX11_oldOne_38 (by decide) ?_
      refine x_callVi [.int (3 : Int32)] (c_X11_fails (I := I6) (L := L) (3 : Int32)) dX11_oldOne_39 lk_X11_181 lm_0 rfl cd_X11_fails rfl rfl (Nat.le_of_ble_eq_true rfl) ⟨rfl, rfl, Nat.le_of_ble_eq_true rfl, Nat.le_of_ble_eq_true rfl⟩ ?_
      cases hf
      exact x_zret dX11_oldOne_42 rfl rfl
  · replace hf := f_el hB hf
    refine x_aload_n 0 dX11_oldOne_9 rfl rfl ?_
    refine x_iconst (v := (2)) dX11_oldOne_10 (by decide) ?_
    refine x_callVi [.int (2 : Int32)] (c_X11_fails (I := I) (L := L) (2 : Int32)) dX11_oldOne_11 lk_X11_181 lm_0 rfl cd_X11_fails rfl rfl (Nat.le_of_ble_eq_true rfl) ⟨rfl, rfl, Nat.le_of_ble_eq_true rfl, Nat.le_of_ble_eq_true rfl⟩ ?_
    cases hf
    exact x_zret dX11_oldOne_14 rfl rfl
set_option maxRecDepth 100000 in
set_option maxHeartbeats 4000000 in
theorem c_X11_newBedTo {I : z_I} {L : z_L} {p0 : Int32}  {r : Bool × z_I} (hf : f_X11_newBedTo I p0 = some r) : z_C layM yX11_newBedTo cX11_newBedTo 2 (some .boolean) ({ frames := 3, cells := 0, slots := 0, locals := 72 } : Room) [.ref 0, .int p0] I L (some (.int (zb r.1)), r.2, L) := by
  refine z_C.of (by decide) (Nat.le_of_ble_eq_true rfl) ?_
  show z_X layM RX11 cX11_newBedTo 2 (some .boolean) ({ frames := 3, cells := 0, slots := 0, locals := 72 } : Room) 0 [(0, .ref 0), (1, .int p0)] [] I L (some (.int (zb r.1)), r.2, L)
  unfold f_X11_newBedTo at hf
  refine x_aload_n 0 dX11_newBedTo_0 rfl rfl ?_
  refine x_iload_n 1 dX11_newBedTo_1 rfl rfl ?_
  refine x_iconst (v := (0)) dX11_newBedTo_2 (by decide) ?_
  refine x_aload_n 0 dX11_newBedTo_3 rfl rfl ?_
  refine x_getR dX11_newBedTo_4 lm_0 fl_X11_7 rfl ?_
  refine x_sipush (v := (1712)) dX11_newBedTo_7 (by decide) ?_
  refine x_iald (j := 1712) (v := (I 1 1712)) dX11_newBedTo_10 lm_1 (by decide +kernel) (by decide +kernel) rfl ?_
  refine x_iconst (v := (1)) dX11_newBedTo_11 (by decide) ?_
  refine x_isub dX11_newBedTo_12 ?_
  obtain ⟨q2, hq3, hf⟩ := f_bd hf
  refine x_callVi [.int p0, .int (0 : Int32), .int ((I 1 1712) - (1 : Int32))] (c_X11_number (I := I) (L := L)  hq3) dX11_newBedTo_13 lk_X11_197 lm_0 rfl cd_X11_number rfl rfl (Nat.le_of_ble_eq_true rfl) ⟨rfl, rfl, Nat.le_of_ble_eq_true rfl, Nat.le_of_ble_eq_true rfl⟩ ?_
  cases hf
  exact x_zret dX11_newBedTo_16 rfl rfl
set_option maxRecDepth 100000 in
set_option maxHeartbeats 4000000 in
theorem c_X11_aBed {I : z_I} {L : z_L}   {r : Bool × z_I} (hf : f_X11_aBed I = some r) : z_C layM yX11_aBed cX11_aBed 2 (some .boolean) ({ frames := 7, cells := 0, slots := 0, locals := 162 } : Room) [.ref 0] I L (some (.int (zb r.1)), r.2, L) := by
  refine z_C.of (by decide) (Nat.le_of_ble_eq_true rfl) ?_
  show z_X layM RX11 cX11_aBed 2 (some .boolean) ({ frames := 7, cells := 0, slots := 0, locals := 162 } : Room) 0 [(0, .ref 0)] [] I L (some (.int (zb r.1)), r.2, L)
  unfold f_X11_aBed at hf
  refine x_aload_n 0 dX11_aBed_0 rfl rfl ?_
  refine x_iconst (v := (0)) dX11_aBed_1 (by decide) ?_
  refine x_bipush (v := (6)) dX11_aBed_2 (by decide) ?_
  obtain ⟨q1, hq2, hf⟩ := f_bd hf
  refine x_callVi [.int (0 : Int32), .int (6 : Int32)] (c_X11_isFull (I := I) (L := L)  hq2) dX11_aBed_4 lk_X11_204 lm_0 rfl cd_X11_isFull rfl rfl (Nat.le_of_ble_eq_true rfl) ⟨rfl, rfl, Nat.le_of_ble_eq_true rfl, Nat.le_of_ble_eq_true rfl⟩ ?_
  refine x_if_eqB 17 dX11_aBed_7 (by decide) (fun hB => ?_) (fun hB => ?_)
  · replace hf := f_el hB hf
    refine x_sipush (v := (1712)) dX11_aBed_17 (by decide) ?_
    refine x_aload_n 0 dX11_aBed_20 rfl rfl ?_
    refine x_getR dX11_aBed_21 lm_0 fl_X11_7 rfl ?_
    refine x_sipush (v := (1712)) dX11_aBed_24 (by decide) ?_
    refine x_iald (j := 1712) (v := (I 1 1712)) dX11_aBed_27 lm_1 (by decide +kernel) (by decide +kernel) rfl ?_
    refine x_callSi [.int (I 1 1712)] (c_X11_bedRow (I := I) (L := L) (I 1 1712)) dX11_aBed_28 lk_X11_216 cd_X11_bedRow rfl rfl (Nat.le_of_ble_eq_true rfl) ⟨rfl, rfl, Nat.le_of_ble_eq_true rfl, Nat.le_of_ble_eq_true rfl⟩ ?_
    refine x_iadd dX11_aBed_31 ?_
    refine x_istore_n [(1, .int ((1712 : Int32) + (f_X11_bedRow (I 1 1712)))), (0, .ref 0)] dX11_aBed_32 rfl (by decide) rfl ?_
    refine x_aload_n 1 dX11_aBed_33 rfl rfl ?_
    obtain ⟨q4, hq5, hf⟩ := f_bd hf
    refine x_callVv [] (c_X11_ahead (I := I) (L := L)  hq5) dX11_aBed_34 lk_X11_175 lm_0 rfl cd_X11_ahead rfl rfl (Nat.le_of_ble_eq_true rfl) ⟨rfl, rfl, Nat.le_of_ble_eq_true rfl, Nat.le_of_ble_eq_true rfl⟩ ?_
    refine x_aload_n 1 dX11_aBed_37 rfl rfl ?_
    refine x_iconst (v := (5)) dX11_aBed_38 (by decide) ?_
    refine x_iload_n 0 dX11_aBed_39 rfl rfl ?_
    refine x_iconst (v := (0)) dX11_aBed_40 (by decide) ?_
    refine x_bipush (v := (99)) dX11_aBed_41 (by decide) ?_
    refine x_iconst (v := (0)) dX11_aBed_43 (by decide) ?_
    obtain ⟨q6, hq7, hf⟩ := f_bd hf
    refine x_callVi [.int (5 : Int32), .int ((1712 : Int32) + (f_X11_bedRow (I 1 1712))), .int (0 : Int32), .int (99 : Int32), .int (0 : Int32)] (c_X11_perhaps (I := q4) (L := L)  hq7) dX11_aBed_44 lk_X11_219 lm_0 rfl cd_X11_perhaps rfl rfl (Nat.le_of_ble_eq_true rfl) ⟨rfl, rfl, Nat.le_of_ble_eq_true rfl, Nat.le_of_ble_eq_true rfl⟩ ?_
    refine x_if_eqB 66 dX11_aBed_47 (by decide) (fun hB => ?_) (fun hB => ?_)
    · replace hf := f_el hB hf
      refine x_iconst (v := (0)) dX11_aBed_66 (by decide) ?_
      cases hf
      exact x_zret (b := false) dX11_aBed_67 rfl rfl
    · replace hf := f_if hB hf
      refine x_aload_n 1 dX11_aBed_50 rfl rfl ?_
      refine x_bipush (v := (6)) dX11_aBed_51 (by decide) ?_
      refine x_iload_n 0 dX11_aBed_53 rfl rfl ?_
      refine x_iconst (v := (1)) dX11_aBed_54 (by decide) ?_
      refine x_iadd dX11_aBed_55 ?_
      refine x_iconst (v := (0)) dX11_aBed_56 (by decide) ?_
      refine x_bipush (v := (99)) dX11_aBed_57 (by decide) ?_
      refine x_iconst (v := (0)) dX11_aBed_59 (by decide) ?_
      obtain ⟨q8, hq9, hf⟩ := f_bd hf
      refine x_callVi [.int (6 : Int32), .int (((1712 : Int32) + (f_X11_bedRow (I 1 1712))) + (1 : Int32)), .int (0 : Int32), .int (99 : Int32), .int (0 : Int32)] (c_X11_perhaps (I := q6.2) (L := L)  hq9) dX11_aBed_60 lk_X11_219 lm_0 rfl cd_X11_perhaps rfl rfl (Nat.le_of_ble_eq_true rfl) ⟨rfl, rfl, Nat.le_of_ble_eq_true rfl, Nat.le_of_ble_eq_true rfl⟩ ?_
      refine x_if_neB 68 dX11_aBed_63 (by decide) (fun hB => ?_) (fun hB => ?_)
      · replace hf := f_if hB hf
        refine x_aload_n 1 dX11_aBed_68 rfl rfl ?_
        refine x_getR dX11_aBed_69 lm_0 fl_X11_7 rfl ?_
        refine x_sipush (v := (1712)) dX11_aBed_72 (by decide) ?_
        refine x_dup2 dX11_aBed_75 rfl rfl ?_
        refine x_iald (j := 1712) (v := (q8.2 1 1712)) dX11_aBed_76 lm_1 (by decide +kernel) (by decide +kernel) rfl ?_
        refine x_iconst (v := (1)) dX11_aBed_77 (by decide) ?_
        refine x_iadd dX11_aBed_78 ?_
        obtain ⟨I12, hI12, hf⟩ := f_lt hf
        refine x_iast (j0 := 1712) dX11_aBed_79 lm_1 (by decide +kernel) (by decide +kernel) hI12 ?_
        refine x_iconst (v := (1)) dX11_aBed_80 (by decide) ?_
        cases hf
        exact x_zret (b := true) dX11_aBed_81 rfl rfl
      · replace hf := f_el hB hf
        refine x_iconst (v := (0)) dX11_aBed_66 (by decide) ?_
        cases hf
        exact x_zret (b := false) dX11_aBed_67 rfl rfl
  · replace hf := f_if hB hf
    refine x_aload_n 0 dX11_aBed_10 rfl rfl ?_
    refine x_bipush (v := (6)) dX11_aBed_11 (by decide) ?_
    refine x_callVi [.int (6 : Int32)] (c_X11_fails (I := I) (L := L) (6 : Int32)) dX11_aBed_13 lk_X11_181 lm_0 rfl cd_X11_fails rfl rfl (Nat.le_of_ble_eq_true rfl) ⟨rfl, rfl, Nat.le_of_ble_eq_true rfl, Nat.le_of_ble_eq_true rfl⟩ ?_
    cases hf
    exact x_zret dX11_aBed_16 rfl rfl
set_option maxRecDepth 100000 in
set_option maxHeartbeats 4000000 in
theorem c_X11_aCase {I : z_I} {L : z_L}   {r : Bool × z_I × z_L} (hf : f_X11_aCase I L = some r) : z_C layM yX11_aCase cX11_aCase 1 (some .boolean) ({ frames := 7, cells := 0, slots := 0, locals := 160 } : Room) [.ref 0] I L (some (.int (zb r.1)), r.2.1, r.2.2) := by
  refine z_C.of (by decide) (Nat.le_of_ble_eq_true rfl) ?_
  show z_X layM RX11 cX11_aCase 1 (some .boolean) ({ frames := 7, cells := 0, slots := 0, locals := 160 } : Room) 0 [(0, .ref 0)] [] I L (some (.int (zb r.1)), r.2.1, r.2.2)
  unfold f_X11_aCase at hf
  refine x_aload_n 0 dX11_aCase_0 rfl rfl ?_
  refine x_iconst (v := (1)) dX11_aCase_1 (by decide) ?_
  refine x_bipush (v := (8)) dX11_aCase_2 (by decide) ?_
  refine x_iconst (v := (0)) dX11_aCase_4 (by decide) ?_
  obtain ⟨q1, hq2, hf⟩ := f_bd hf
  refine x_callVi [.int (1 : Int32), .int (8 : Int32), .int (0 : Int32)] (c_X11_newOne (I := I) (L := L)  hq2) dX11_aCase_5 lk_X11_223 lm_0 rfl cd_X11_newOne rfl rfl (Nat.le_of_ble_eq_true rfl) ⟨rfl, rfl, Nat.le_of_ble_eq_true rfl, Nat.le_of_ble_eq_true rfl⟩ ?_
  refine x_if_eqB 44 dX11_aCase_8 (by decide) (fun hB => ?_) (fun hB => ?_)
  · replace hf := f_el hB hf
    refine x_iconst (v := (0)) dX11_aCase_44 (by decide) ?_
    cases hf
    exact x_zret (b := false) dX11_aCase_45 rfl rfl
  · replace hf := f_if hB hf
    refine x_aload_n 0 dX11_aCase_11 rfl rfl ?_
    refine x_ldcS dX11_aCase_12 ?_
    refine x_bipush (v := (7)) dX11_aCase_14 (by decide) ?_
    obtain ⟨q3, hq4, hf⟩ := f_bd hf
    refine x_callVi [.ref 9001, .int (7 : Int32)] (c_X11_wantWord (I := q1.2.1) (L := q1.2.2)  hq4) dX11_aCase_16 lk_X11_226 lm_0 rfl cd_X11_wantWord rfl rfl (Nat.le_of_ble_eq_true rfl) ⟨rfl, rfl, Nat.le_of_ble_eq_true rfl, Nat.le_of_ble_eq_true rfl⟩ ?_
    refine x_if_eqB 44 dX11_aCase_19 (by decide) (fun hB => ?_) (fun hB => ?_)
    · replace hf := f_el hB hf
      refine x_iconst (v := (0)) dX11_aCase_44 (by decide) ?_
      cases hf
      exact x_zret (b := false) dX11_aCase_45 rfl rfl
    · replace hf := f_if hB hf
      refine x_aload_n 0 dX11_aCase_22 rfl rfl ?_
      refine x_sipush (v := (1734)) dX11_aCase_23 (by decide) ?_
      refine x_aload_n 0 dX11_aCase_26 rfl rfl ?_
      refine x_getR dX11_aCase_27 lm_0 fl_X11_7 rfl ?_
      refine x_sipush (v := (1713)) dX11_aCase_30 (by decide) ?_
      refine x_iald (j := 1713) (v := (q3.2 1 1713)) dX11_aCase_33 lm_1 (by decide +kernel) (by decide +kernel) rfl ?_
      refine x_iadd dX11_aCase_34 ?_
      refine x_iconst (v := (1)) dX11_aCase_35 (by decide) ?_
      refine x_bipush (v := (20)) dX11_aCase_36 (by decide) ?_
      obtain ⟨q6, hq7, hf⟩ := f_bd hf
      refine x_callVi [.int ((1734 : Int32) + (q3.2 1 1713)), .int (1 : Int32), .int (20 : Int32)] (c_X11_number (I := q3.2) (L := q1.2.2)  hq7) dX11_aCase_38 lk_X11_197 lm_0 rfl cd_X11_number rfl rfl (Nat.le_of_ble_eq_true rfl) ⟨rfl, rfl, Nat.le_of_ble_eq_true rfl, Nat.le_of_ble_eq_true rfl⟩ ?_
      refine x_if_neB 46 dX11_aCase_41 (by decide) (fun hB => ?_) (fun hB => ?_)
      · replace hf := f_if hB hf
        refine x_aload_n 0 dX11_aCase_46 rfl rfl ?_
        refine x_getR dX11_aCase_47 lm_0 fl_X11_7 rfl ?_
        refine x_sipush (v := (1713)) dX11_aCase_50 (by decide) ?_
        refine x_dup2 dX11_aCase_53 rfl rfl ?_
        refine x_iald (j := 1713) (v := (q6.2 1 1713)) dX11_aCase_54 lm_1 (by decide +kernel) (by decide +kernel) rfl ?_
        refine x_iconst (v := (1)) dX11_aCase_55 (by decide) ?_
        refine x_iadd dX11_aCase_56 ?_
        obtain ⟨I10, hI10, hf⟩ := f_lt hf
        refine x_iast (j0 := 1713) dX11_aCase_57 lm_1 (by decide +kernel) (by decide +kernel) hI10 ?_
        refine x_iconst (v := (1)) dX11_aCase_58 (by decide) ?_
        cases hf
        exact x_zret (b := true) dX11_aCase_59 rfl rfl
      · replace hf := f_el hB hf
        refine x_iconst (v := (0)) dX11_aCase_44 (by decide) ?_
        cases hf
        exact x_zret (b := false) dX11_aCase_45 rfl rfl
set_option maxRecDepth 100000 in
set_option maxHeartbeats 4000000 in
theorem l_X11_aClaim_91   (v1 : Int32) (v2 : Int32) (L : z_L) {r : Bool × z_I × z_L} (k179 : z_I → Option (Bool × z_I × z_L)) (hk179 : ∀ (I : z_I), k179 I = some r → z_X layM RX11 cX11_aClaim 4 (some .boolean) ({ frames := 7, cells := 0, slots := 0, locals := 162 } : Room) 179 [(0, .ref 0)] [] I L (some (.int (zb r.1)), r.2.1, r.2.2)) : ∀ (n : Nat) (I : z_I), g_X11_aClaim_91 v1 v2 L k179 n I = some r → z_X layM RX11 cX11_aClaim 4 (some .boolean) ({ frames := 7, cells := 0, slots := 0, locals := 162 } : Room) 91 [(0, .ref 0), (1, .int v1), (2, .int v2)] [] I L (some (.int (zb r.1)), r.2.1, r.2.2) := by
  intro n
  induction n with
  | zero => intro I hf; cases hf
  | succ n ih =>
    intro I hf
    rw [g_X11_aClaim_91] at hf
    refine x_aload_n 0 dX11_aClaim_91 rfl rfl ?_
    refine x_ldcS dX11_aClaim_92 ?_
    obtain ⟨q15, hq16, hf⟩ := f_bd hf
    refine x_callVi [.ref 9001] (c_X11_isName (I := I) (L := L)  hq16) dX11_aClaim_94 lk_X11_208 lm_0 rfl cd_X11_isName rfl rfl (Nat.le_of_ble_eq_true rfl) ⟨rfl, rfl, Nat.le_of_ble_eq_true rfl, Nat.le_of_ble_eq_true rfl⟩ ?_
    refine x_if_eqB 179 dX11_aClaim_97 (by decide) (fun hB => ?_) (fun hB => ?_)
    · replace hf := f_el hB hf
      refine x_lv [(0, .ref 0)] [0] rfl ?_
      exact hk179 _ hf
    · replace hf := f_if hB hf
      refine x_aload_n 0 dX11_aClaim_100 rfl rfl ?_
      refine x_bipush (v := (76)) dX11_aClaim_101 (by decide) ?_
      refine x_aload_n 0 dX11_aClaim_103 rfl rfl ?_
      refine x_getR dX11_aClaim_104 lm_0 fl_X11_7 rfl ?_
      refine x_sipush (v := (1713)) dX11_aClaim_107 (by decide) ?_
      refine x_iald (j := 1713) (v := (I 1 1713)) dX11_aClaim_110 lm_1 (by decide +kernel) (by decide +kernel) rfl ?_
      obtain ⟨q18, hq19, hf⟩ := f_bd hf
      refine x_callVi [.int (76 : Int32), .int (I 1 1713)] (c_X11_findHere (I := I) (L := L)  hq19) dX11_aClaim_111 lk_X11_201 lm_0 rfl cd_X11_findHere rfl rfl (Nat.le_of_ble_eq_true rfl) ⟨rfl, rfl, Nat.le_of_ble_eq_true rfl, Nat.le_of_ble_eq_true rfl⟩ ?_
      refine x_istore_n [(3, .int q18), (0, .ref 0), (1, .int v1), (2, .int v2)] dX11_aClaim_114 rfl (by decide) rfl ?_
      refine x_iload_n 0 dX11_aClaim_115 rfl rfl ?_
      refine x_iconst (v := (-1)) dX11_aClaim_116 (by decide) ?_
      refine x_icmp_eq 142 dX11_aClaim_117 (by decide) (fun hB => ?_) (fun hB => ?_)
      · replace hf := f_if hB hf
        refine x_aload_n 1 dX11_aClaim_142 rfl rfl ?_
        refine x_bipush (v := (76)) dX11_aClaim_143 (by decide) ?_
        refine x_aload_n 1 dX11_aClaim_145 rfl rfl ?_
        refine x_getR dX11_aClaim_146 lm_0 fl_X11_7 rfl ?_
        refine x_sipush (v := (1713)) dX11_aClaim_149 (by decide) ?_
        refine x_iald (j := 1713) (v := (I 1 1713)) dX11_aClaim_152 lm_1 (by decide +kernel) (by decide +kernel) rfl ?_
        refine x_iload_n 3 dX11_aClaim_153 rfl rfl ?_
        obtain ⟨q21, hq22, hf⟩ := f_bd hf
        refine x_callVi [.int (76 : Int32), .int (I 1 1713), .int v2] (c_X11_oldOne (I := I) (L := L)  hq22) dX11_aClaim_154 lk_X11_239 lm_0 rfl cd_X11_oldOne rfl rfl (Nat.le_of_ble_eq_true rfl) ⟨rfl, rfl, Nat.le_of_ble_eq_true rfl, Nat.le_of_ble_eq_true rfl⟩ ?_
        refine x_if_neB 162 dX11_aClaim_157 (by decide) (fun hB => ?_) (fun hB => ?_)
        · replace hf := f_if hB hf
          refine x_aload_n 1 dX11_aClaim_162 rfl rfl ?_
          refine x_getR dX11_aClaim_163 lm_0 fl_X11_7 rfl ?_
          refine x_iload_n 2 dX11_aClaim_166 rfl rfl ?_
          refine x_iconst (v := (2)) dX11_aClaim_167 (by decide) ?_
          refine x_iadd dX11_aClaim_168 ?_
          refine x_dup2 dX11_aClaim_169 rfl rfl ?_
          obtain ⟨h23, hf⟩ := f_gd hf
          refine x_iald (j := ((v1 + (2 : Int32))).toNatClampNeg) (v := (q21.2 1 ((v1 + (2 : Int32))).toNatClampNeg)) dX11_aClaim_170 lm_1 h23 rfl rfl ?_
          refine x_iconst (v := (1)) dX11_aClaim_171 (by decide) ?_
          refine x_iload_n 0 dX11_aClaim_172 rfl rfl ?_
          refine x_ishl dX11_aClaim_173 ?_
          refine x_ior dX11_aClaim_174 ?_
          obtain ⟨I25, hI25, hf⟩ := f_lt hf
          refine x_iast (j0 := ((v1 + (2 : Int32))).toNatClampNeg) dX11_aClaim_175 lm_1 h23 rfl hI25 ?_
          refine x_goto 91 dX11_aClaim_176 (by decide) ?_
          refine x_lv [(0, .ref 0), (1, .int v1), (2, .int v2)] [1, 2, 3] rfl ?_
          exact ih _ hf
        · replace hf := f_el hB hf
          refine x_iconst (v := (0)) dX11_aClaim_160 (by decide) ?_
          cases hf
          exact x_zret (b := false) dX11_aClaim_161 rfl rfl
      · replace hf := f_el hB hf
        refine x_aload_n 1 dX11_aClaim_120 rfl rfl ?_
        refine x_aload_n 1 dX11_aClaim_121 rfl rfl ?_
        refine x_getR dX11_aClaim_122 lm_0 fl_X11_7 rfl ?_
        refine x_iload_n 2 dX11_aClaim_125 rfl rfl ?_
        refine x_iconst (v := (2)) dX11_aClaim_126 (by decide) ?_
        refine x_iadd dX11_aClaim_127 ?_
        obtain ⟨h26, hf⟩ := f_gd hf
        refine x_iald (j := ((v1 + (2 : Int32))).toNatClampNeg) (v := (I 1 ((v1 + (2 : Int32))).toNatClampNeg)) dX11_aClaim_128 lm_1 h26 rfl rfl ?_
        refine x_iload_n 0 dX11_aClaim_129 rfl rfl ?_
        refine x_callVi [.int (I 1 ((v1 + (2 : Int32))).toNatClampNeg), .int q18] (c_X11_isIn (I := I) (L := L) (I 1 ((v1 + (2 : Int32))).toNatClampNeg) q18) dX11_aClaim_130 lk_X11_236 lm_0 rfl cd_X11_isIn rfl rfl (Nat.le_of_ble_eq_true rfl) ⟨rfl, rfl, Nat.le_of_ble_eq_true rfl, Nat.le_of_ble_eq_true rfl⟩ ?_
        refine x_if_eqB 142 dX11_aClaim_133 (by decide) (fun hB => ?_) (fun hB => ?_)
        · replace hf := f_el hB hf
          refine x_aload_n 1 dX11_aClaim_142 rfl rfl ?_
          refine x_bipush (v := (76)) dX11_aClaim_143 (by decide) ?_
          refine x_aload_n 1 dX11_aClaim_145 rfl rfl ?_
          refine x_getR dX11_aClaim_146 lm_0 fl_X11_7 rfl ?_
          refine x_sipush (v := (1713)) dX11_aClaim_149 (by decide) ?_
          refine x_iald (j := 1713) (v := (I 1 1713)) dX11_aClaim_152 lm_1 (by decide +kernel) (by decide +kernel) rfl ?_
          refine x_iload_n 3 dX11_aClaim_153 rfl rfl ?_
          obtain ⟨q28, hq29, hf⟩ := f_bd hf
          refine x_callVi [.int (76 : Int32), .int (I 1 1713), .int v2] (c_X11_oldOne (I := I) (L := L)  hq29) dX11_aClaim_154 lk_X11_239 lm_0 rfl cd_X11_oldOne rfl rfl (Nat.le_of_ble_eq_true rfl) ⟨rfl, rfl, Nat.le_of_ble_eq_true rfl, Nat.le_of_ble_eq_true rfl⟩ ?_
          refine x_if_neB 162 dX11_aClaim_157 (by decide) (fun hB => ?_) (fun hB => ?_)
          · replace hf := f_if hB hf
            refine x_aload_n 1 dX11_aClaim_162 rfl rfl ?_
            refine x_getR dX11_aClaim_163 lm_0 fl_X11_7 rfl ?_
            refine x_iload_n 2 dX11_aClaim_166 rfl rfl ?_
            refine x_iconst (v := (2)) dX11_aClaim_167 (by decide) ?_
            refine x_iadd dX11_aClaim_168 ?_
            refine x_dup2 dX11_aClaim_169 rfl rfl ?_
            refine x_iald (j := ((v1 + (2 : Int32))).toNatClampNeg) (v := (q28.2 1 ((v1 + (2 : Int32))).toNatClampNeg)) dX11_aClaim_170 lm_1 h26 rfl rfl ?_
            refine x_iconst (v := (1)) dX11_aClaim_171 (by decide) ?_
            refine x_iload_n 0 dX11_aClaim_172 rfl rfl ?_
            refine x_ishl dX11_aClaim_173 ?_
            refine x_ior dX11_aClaim_174 ?_
            obtain ⟨I32, hI32, hf⟩ := f_lt hf
            refine x_iast (j0 := ((v1 + (2 : Int32))).toNatClampNeg) dX11_aClaim_175 lm_1 h26 rfl hI32 ?_
            refine x_goto 91 dX11_aClaim_176 (by decide) ?_
            refine x_lv [(0, .ref 0), (1, .int v1), (2, .int v2)] [1, 2, 3] rfl ?_
            exact ih _ hf
          · replace hf := f_el hB hf
            refine x_iconst (v := (0)) dX11_aClaim_160 (by decide) ?_
            cases hf
            exact x_zret (b := false) dX11_aClaim_161 rfl rfl
        · replace hf := f_if hB hf
          refine x_aload_n 1 dX11_aClaim_136 rfl rfl ?_
          refine x_iconst (v := (5)) dX11_aClaim_137 (by decide) ?_
          refine x_callVi [.int (5 : Int32)] (c_X11_fails (I := I) (L := L) (5 : Int32)) dX11_aClaim_138 lk_X11_181 lm_0 rfl cd_X11_fails rfl rfl (Nat.le_of_ble_eq_true rfl) ⟨rfl, rfl, Nat.le_of_ble_eq_true rfl, Nat.le_of_ble_eq_true rfl⟩ ?_
          cases hf
          exact x_zret dX11_aClaim_141 rfl rfl
set_option maxRecDepth 100000 in
set_option maxHeartbeats 4000000 in
theorem c_X11_aClaim {I : z_I} {L : z_L}   {r : Bool × z_I × z_L} (hf : f_X11_aClaim I L = some r) : z_C layM yX11_aClaim cX11_aClaim 4 (some .boolean) ({ frames := 7, cells := 0, slots := 0, locals := 162 } : Room) [.ref 0] I L (some (.int (zb r.1)), r.2.1, r.2.2) := by
  refine z_C.of (by decide) (Nat.le_of_ble_eq_true rfl) ?_
  show z_X layM RX11 cX11_aClaim 4 (some .boolean) ({ frames := 7, cells := 0, slots := 0, locals := 162 } : Room) 0 [(0, .ref 0)] [] I L (some (.int (zb r.1)), r.2.1, r.2.2)
  unfold f_X11_aClaim at hf
  refine x_sipush (v := (1712)) dX11_aClaim_0 (by decide) ?_
  refine x_aload_n 0 dX11_aClaim_3 rfl rfl ?_
  refine x_getR dX11_aClaim_4 lm_0 fl_X11_7 rfl ?_
  refine x_sipush (v := (1714)) dX11_aClaim_7 (by decide) ?_
  refine x_iald (j := 1714) (v := (I 1 1714)) dX11_aClaim_10 lm_1 (by decide +kernel) (by decide +kernel) rfl ?_
  refine x_callSi [.int (I 1 1714)] (c_X11_claimRow (I := I) (L := L) (I 1 1714)) dX11_aClaim_11 lk_X11_230 cd_X11_claimRow rfl rfl (Nat.le_of_ble_eq_true rfl) ⟨rfl, rfl, Nat.le_of_ble_eq_true rfl, Nat.le_of_ble_eq_true rfl⟩ ?_
  refine x_iadd dX11_aClaim_14 ?_
  obtain ⟨w2, hw2, hf⟩ := f_lt hf
  refine x_topI hw2 ?_
  refine x_istore_n [(1, .int w2), (0, .ref 0)] dX11_aClaim_15 rfl (by decide) rfl ?_
  refine x_sipush (v := (2132)) dX11_aClaim_16 (by decide) ?_
  refine x_istore_n [(2, .int (2132 : Int32)), (1, .int w2), (0, .ref 0)] dX11_aClaim_19 rfl (by decide) rfl ?_
  refine x_aload_n 2 dX11_aClaim_20 rfl rfl ?_
  refine x_iconst (v := (2)) dX11_aClaim_21 (by decide) ?_
  refine x_bipush (v := (7)) dX11_aClaim_22 (by decide) ?_
  refine x_bipush (v := (8)) dX11_aClaim_24 (by decide) ?_
  obtain ⟨q3, hq4, hf⟩ := f_bd hf
  refine x_callVi [.int (2 : Int32), .int (7 : Int32), .int (8 : Int32)] (c_X11_newOne (I := I) (L := L)  hq4) dX11_aClaim_26 lk_X11_223 lm_0 rfl cd_X11_newOne rfl rfl (Nat.le_of_ble_eq_true rfl) ⟨rfl, rfl, Nat.le_of_ble_eq_true rfl, Nat.le_of_ble_eq_true rfl⟩ ?_
  refine x_if_eqB 67 dX11_aClaim_29 (by decide) (fun hB => ?_) (fun hB => ?_)
  · replace hf := f_el hB hf
    refine x_iconst (v := (0)) dX11_aClaim_67 (by decide) ?_
    cases hf
    exact x_zret (b := false) dX11_aClaim_68 rfl rfl
  · replace hf := f_if hB hf
    refine x_aload_n 2 dX11_aClaim_32 rfl rfl ?_
    refine x_ldcS dX11_aClaim_33 ?_
    refine x_bipush (v := (8)) dX11_aClaim_35 (by decide) ?_
    obtain ⟨q5, hq6, hf⟩ := f_bd hf
    refine x_callVi [.ref 9001, .int (8 : Int32)] (c_X11_wantWord (I := q3.2.1) (L := q3.2.2)  hq6) dX11_aClaim_37 lk_X11_226 lm_0 rfl cd_X11_wantWord rfl rfl (Nat.le_of_ble_eq_true rfl) ⟨rfl, rfl, Nat.le_of_ble_eq_true rfl, Nat.le_of_ble_eq_true rfl⟩ ?_
    refine x_if_eqB 67 dX11_aClaim_40 (by decide) (fun hB => ?_) (fun hB => ?_)
    · replace hf := f_el hB hf
      refine x_iconst (v := (0)) dX11_aClaim_67 (by decide) ?_
      cases hf
      exact x_zret (b := false) dX11_aClaim_68 rfl rfl
    · replace hf := f_if hB hf
      refine x_aload_n 2 dX11_aClaim_43 rfl rfl ?_
      refine x_iload_n 1 dX11_aClaim_44 rfl rfl ?_
      obtain ⟨q7, hq8, hf⟩ := f_bd hf
      refine x_callVi [.int w2] (c_X11_newBedTo (I := q5.2) (L := q3.2.2)  hq8) dX11_aClaim_45 lk_X11_233 lm_0 rfl cd_X11_newBedTo rfl rfl (Nat.le_of_ble_eq_true rfl) ⟨rfl, rfl, Nat.le_of_ble_eq_true rfl, Nat.le_of_ble_eq_true rfl⟩ ?_
      refine x_if_eqB 67 dX11_aClaim_48 (by decide) (fun hB => ?_) (fun hB => ?_)
      · replace hf := f_el hB hf
        refine x_iconst (v := (0)) dX11_aClaim_67 (by decide) ?_
        cases hf
        exact x_zret (b := false) dX11_aClaim_68 rfl rfl
      · replace hf := f_if hB hf
        refine x_aload_n 2 dX11_aClaim_51 rfl rfl ?_
        refine x_bipush (v := (9)) dX11_aClaim_52 (by decide) ?_
        refine x_iload_n 1 dX11_aClaim_54 rfl rfl ?_
        refine x_iconst (v := (1)) dX11_aClaim_55 (by decide) ?_
        refine x_iadd dX11_aClaim_56 ?_
        refine x_iconst (v := (1)) dX11_aClaim_57 (by decide) ?_
        refine x_bipush (v := (9)) dX11_aClaim_58 (by decide) ?_
        refine x_iconst (v := (1)) dX11_aClaim_60 (by decide) ?_
        obtain ⟨q9, hq10, hf⟩ := f_bd hf
        refine x_callVi [.int (9 : Int32), .int (w2 + (1 : Int32)), .int (1 : Int32), .int (9 : Int32), .int (1 : Int32)] (c_X11_perhaps (I := q7.2) (L := q3.2.2)  hq10) dX11_aClaim_61 lk_X11_219 lm_0 rfl cd_X11_perhaps rfl rfl (Nat.le_of_ble_eq_true rfl) ⟨rfl, rfl, Nat.le_of_ble_eq_true rfl, Nat.le_of_ble_eq_true rfl⟩ ?_
        refine x_if_neB 69 dX11_aClaim_64 (by decide) (fun hB => ?_) (fun hB => ?_)
        · replace hf := f_if hB hf
          refine x_aload_n 2 dX11_aClaim_69 rfl rfl ?_
          refine x_ldcS dX11_aClaim_70 ?_
          refine x_bipush (v := (10)) dX11_aClaim_72 (by decide) ?_
          obtain ⟨q11, hq12, hf⟩ := f_bd hf
          refine x_callVi [.ref 9001, .int (10 : Int32)] (c_X11_wantWord (I := q9.2) (L := q3.2.2)  hq12) dX11_aClaim_74 lk_X11_226 lm_0 rfl cd_X11_wantWord rfl rfl (Nat.le_of_ble_eq_true rfl) ⟨rfl, rfl, Nat.le_of_ble_eq_true rfl, Nat.le_of_ble_eq_true rfl⟩ ?_
          refine x_if_neB 82 dX11_aClaim_77 (by decide) (fun hB => ?_) (fun hB => ?_)
          · replace hf := f_if hB hf
            refine x_aload_n 2 dX11_aClaim_82 rfl rfl ?_
            refine x_getR dX11_aClaim_83 lm_0 fl_X11_7 rfl ?_
            refine x_iload_n 1 dX11_aClaim_86 rfl rfl ?_
            refine x_iconst (v := (2)) dX11_aClaim_87 (by decide) ?_
            refine x_iadd dX11_aClaim_88 ?_
            refine x_iconst (v := (0)) dX11_aClaim_89 (by decide) ?_
            obtain ⟨h13, hf⟩ := f_gd hf
            obtain ⟨I14, hI14, hf⟩ := f_lt hf
            refine x_iast (j0 := ((w2 + (2 : Int32))).toNatClampNeg) dX11_aClaim_90 lm_1 h13 rfl hI14 ?_
            refine x_lv [(0, .ref 0), (1, .int w2), (2, .int (2132 : Int32))] [2, 1, 0] rfl ?_
            refine l_X11_aClaim_91 w2 (2132 : Int32) (q3.2.2) _ ?_ _ _ hf
            · intro I hf
              refine x_aload_n 0 dX11_aClaim_179 rfl rfl ?_
              refine x_getR dX11_aClaim_180 lm_0 fl_X11_7 rfl ?_
              refine x_sipush (v := (1714)) dX11_aClaim_183 (by decide) ?_
              refine x_dup2 dX11_aClaim_186 rfl rfl ?_
              refine x_iald (j := 1714) (v := (I 1 1714)) dX11_aClaim_187 lm_1 (by decide +kernel) (by decide +kernel) rfl ?_
              refine x_iconst (v := (1)) dX11_aClaim_188 (by decide) ?_
              refine x_iadd dX11_aClaim_189 ?_
              obtain ⟨I35, hI35, hf⟩ := f_lt hf
              refine x_iast (j0 := 1714) dX11_aClaim_190 lm_1 (by decide +kernel) (by decide +kernel) hI35 ?_
              refine x_iconst (v := (1)) dX11_aClaim_191 (by decide) ?_
              cases hf
              exact x_zret (b := true) dX11_aClaim_192 rfl rfl
          · replace hf := f_el hB hf
            refine x_iconst (v := (0)) dX11_aClaim_80 (by decide) ?_
            cases hf
            exact x_zret (b := false) dX11_aClaim_81 rfl rfl
        · replace hf := f_el hB hf
          refine x_iconst (v := (0)) dX11_aClaim_67 (by decide) ?_
          cases hf
          exact x_zret (b := false) dX11_aClaim_68 rfl rfl
set_option maxRecDepth 100000 in
set_option maxHeartbeats 4000000 in
theorem c_X11_aScholar {I : z_I} {L : z_L}   {r : Bool × z_I × z_L} (hf : f_X11_aScholar I L = some r) : z_C layM yX11_aScholar cX11_aScholar 2 (some .boolean) ({ frames := 7, cells := 0, slots := 0, locals := 162 } : Room) [.ref 0] I L (some (.int (zb r.1)), r.2.1, r.2.2) := by
  refine z_C.of (by decide) (Nat.le_of_ble_eq_true rfl) ?_
  show z_X layM RX11 cX11_aScholar 2 (some .boolean) ({ frames := 7, cells := 0, slots := 0, locals := 162 } : Room) 0 [(0, .ref 0)] [] I L (some (.int (zb r.1)), r.2.1, r.2.2)
  unfold f_X11_aScholar at hf
  refine x_sipush (v := (1712)) dX11_aScholar_0 (by decide) ?_
  refine x_aload_n 0 dX11_aScholar_3 rfl rfl ?_
  refine x_getR dX11_aScholar_4 lm_0 fl_X11_7 rfl ?_
  refine x_sipush (v := (1715)) dX11_aScholar_7 (by decide) ?_
  refine x_iald (j := 1715) (v := (I 1 1715)) dX11_aScholar_10 lm_1 (by decide +kernel) (by decide +kernel) rfl ?_
  refine x_callSi [.int (I 1 1715)] (c_X11_scholarRow (I := I) (L := L) (I 1 1715)) dX11_aScholar_11 lk_X11_242 cd_X11_scholarRow rfl rfl (Nat.le_of_ble_eq_true rfl) ⟨rfl, rfl, Nat.le_of_ble_eq_true rfl, Nat.le_of_ble_eq_true rfl⟩ ?_
  refine x_iadd dX11_aScholar_14 ?_
  obtain ⟨w2, hw2, hf⟩ := f_lt hf
  refine x_topI hw2 ?_
  refine x_istore_n [(1, .int w2), (0, .ref 0)] dX11_aScholar_15 rfl (by decide) rfl ?_
  refine x_aload_n 1 dX11_aScholar_16 rfl rfl ?_
  refine x_iconst (v := (3)) dX11_aScholar_17 (by decide) ?_
  refine x_iconst (v := (4)) dX11_aScholar_18 (by decide) ?_
  refine x_bipush (v := (15)) dX11_aScholar_19 (by decide) ?_
  obtain ⟨q3, hq4, hf⟩ := f_bd hf
  refine x_callVi [.int (3 : Int32), .int (4 : Int32), .int (15 : Int32)] (c_X11_newOne (I := I) (L := L)  hq4) dX11_aScholar_21 lk_X11_223 lm_0 rfl cd_X11_newOne rfl rfl (Nat.le_of_ble_eq_true rfl) ⟨rfl, rfl, Nat.le_of_ble_eq_true rfl, Nat.le_of_ble_eq_true rfl⟩ ?_
  refine x_if_eqB 63 dX11_aScholar_24 (by decide) (fun hB => ?_) (fun hB => ?_)
  · replace hf := f_el hB hf
    refine x_iconst (v := (0)) dX11_aScholar_63 (by decide) ?_
    cases hf
    exact x_zret (b := false) dX11_aScholar_64 rfl rfl
  · replace hf := f_if hB hf
    refine x_aload_n 1 dX11_aScholar_27 rfl rfl ?_
    refine x_ldcS dX11_aScholar_28 ?_
    refine x_bipush (v := (8)) dX11_aScholar_30 (by decide) ?_
    obtain ⟨q5, hq6, hf⟩ := f_bd hf
    refine x_callVi [.ref 9001, .int (8 : Int32)] (c_X11_wantWord (I := q3.2.1) (L := q3.2.2)  hq6) dX11_aScholar_32 lk_X11_226 lm_0 rfl cd_X11_wantWord rfl rfl (Nat.le_of_ble_eq_true rfl) ⟨rfl, rfl, Nat.le_of_ble_eq_true rfl, Nat.le_of_ble_eq_true rfl⟩ ?_
    refine x_if_eqB 63 dX11_aScholar_35 (by decide) (fun hB => ?_) (fun hB => ?_)
    · replace hf := f_el hB hf
      refine x_iconst (v := (0)) dX11_aScholar_63 (by decide) ?_
      cases hf
      exact x_zret (b := false) dX11_aScholar_64 rfl rfl
    · replace hf := f_if hB hf
      refine x_aload_n 1 dX11_aScholar_38 rfl rfl ?_
      refine x_iload_n 0 dX11_aScholar_39 rfl rfl ?_
      obtain ⟨q7, hq8, hf⟩ := f_bd hf
      refine x_callVi [.int w2] (c_X11_newBedTo (I := q5.2) (L := q3.2.2)  hq8) dX11_aScholar_40 lk_X11_233 lm_0 rfl cd_X11_newBedTo rfl rfl (Nat.le_of_ble_eq_true rfl) ⟨rfl, rfl, Nat.le_of_ble_eq_true rfl, Nat.le_of_ble_eq_true rfl⟩ ?_
      refine x_if_eqB 63 dX11_aScholar_43 (by decide) (fun hB => ?_) (fun hB => ?_)
      · replace hf := f_el hB hf
        refine x_iconst (v := (0)) dX11_aScholar_63 (by decide) ?_
        cases hf
        exact x_zret (b := false) dX11_aScholar_64 rfl rfl
      · replace hf := f_if hB hf
        refine x_aload_n 1 dX11_aScholar_46 rfl rfl ?_
        refine x_bipush (v := (11)) dX11_aScholar_47 (by decide) ?_
        refine x_iload_n 0 dX11_aScholar_49 rfl rfl ?_
        refine x_iconst (v := (1)) dX11_aScholar_50 (by decide) ?_
        refine x_iadd dX11_aScholar_51 ?_
        refine x_iconst (v := (0)) dX11_aScholar_52 (by decide) ?_
        refine x_sipush (v := (999)) dX11_aScholar_53 (by decide) ?_
        refine x_iconst (v := (0)) dX11_aScholar_56 (by decide) ?_
        obtain ⟨q9, hq10, hf⟩ := f_bd hf
        refine x_callVi [.int (11 : Int32), .int (w2 + (1 : Int32)), .int (0 : Int32), .int (999 : Int32), .int (0 : Int32)] (c_X11_perhaps (I := q7.2) (L := q3.2.2)  hq10) dX11_aScholar_57 lk_X11_219 lm_0 rfl cd_X11_perhaps rfl rfl (Nat.le_of_ble_eq_true rfl) ⟨rfl, rfl, Nat.le_of_ble_eq_true rfl, Nat.le_of_ble_eq_true rfl⟩ ?_
        refine x_if_neB 65 dX11_aScholar_60 (by decide) (fun hB => ?_) (fun hB => ?_)
        · replace hf := f_if hB hf
          refine x_aload_n 1 dX11_aScholar_65 rfl rfl ?_
          refine x_getR dX11_aScholar_66 lm_0 fl_X11_7 rfl ?_
          refine x_sipush (v := (1715)) dX11_aScholar_69 (by decide) ?_
          refine x_dup2 dX11_aScholar_72 rfl rfl ?_
          refine x_iald (j := 1715) (v := (q9.2 1 1715)) dX11_aScholar_73 lm_1 (by decide +kernel) (by decide +kernel) rfl ?_
          refine x_iconst (v := (1)) dX11_aScholar_74 (by decide) ?_
          refine x_iadd dX11_aScholar_75 ?_
          obtain ⟨I13, hI13, hf⟩ := f_lt hf
          refine x_iast (j0 := 1715) dX11_aScholar_76 lm_1 (by decide +kernel) (by decide +kernel) hI13 ?_
          refine x_iconst (v := (1)) dX11_aScholar_77 (by decide) ?_
          cases hf
          exact x_zret (b := true) dX11_aScholar_78 rfl rfl
        · replace hf := f_el hB hf
          refine x_iconst (v := (0)) dX11_aScholar_63 (by decide) ?_
          cases hf
          exact x_zret (b := false) dX11_aScholar_64 rfl rfl
set_option maxRecDepth 100000 in
set_option maxHeartbeats 4000000 in
theorem c_X11_courtPart {I : z_I} {L : z_L}   {r : Bool × z_I × z_L} (hf : f_X11_courtPart I L = some r) : z_C layM yX11_courtPart cX11_courtPart 3 (some .boolean) ({ frames := 8, cells := 0, slots := 0, locals := 185 } : Room) [.ref 0] I L (some (.int (zb r.1)), r.2.1, r.2.2) := by
  refine z_C.of (by decide) (Nat.le_of_ble_eq_true rfl) ?_
  show z_X layM RX11 cX11_courtPart 3 (some .boolean) ({ frames := 8, cells := 0, slots := 0, locals := 185 } : Room) 0 [(0, .ref 0)] [] I L (some (.int (zb r.1)), r.2.1, r.2.2)
  unfold f_X11_courtPart at hf
  refine x_aload_n 0 dX11_courtPart_0 rfl rfl ?_
  refine x_ldcS dX11_courtPart_1 ?_
  obtain ⟨q1, hq2, hf⟩ := f_bd hf
  refine x_callVi [.ref 9001] (c_X11_inWords (I := I) (L := L)  hq2) dX11_courtPart_3 lk_X11_184 lm_0 rfl cd_X11_inWords rfl rfl (Nat.le_of_ble_eq_true rfl) ⟨rfl, rfl, Nat.le_of_ble_eq_true rfl, Nat.le_of_ble_eq_true rfl⟩ ?_
  refine x_istore_n [(1, .int q1), (0, .ref 0)] dX11_courtPart_6 rfl (by decide) rfl ?_
  refine x_iload_n 0 dX11_courtPart_7 rfl rfl ?_
  refine x_if_lt 16 dX11_courtPart_8 (by decide) (fun hB => ?_) (fun hB => ?_)
  · replace hf := f_if hB hf
    refine x_aload_n 1 dX11_courtPart_16 rfl rfl ?_
    refine x_iconst (v := (2)) dX11_courtPart_17 (by decide) ?_
    refine x_callVi [.int (2 : Int32)] (c_X11_fails (I := I) (L := L) (2 : Int32)) dX11_courtPart_18 lk_X11_181 lm_0 rfl cd_X11_fails rfl rfl (Nat.le_of_ble_eq_true rfl) ⟨rfl, rfl, Nat.le_of_ble_eq_true rfl, Nat.le_of_ble_eq_true rfl⟩ ?_
    cases hf
    exact x_zret dX11_courtPart_21 rfl rfl
  · replace hf := f_el hB hf
    refine x_iload_n 0 dX11_courtPart_11 rfl rfl ?_
    refine x_iconst (v := (4)) dX11_courtPart_12 (by decide) ?_
    refine x_icmp_le 22 dX11_courtPart_13 (by decide) (fun hB => ?_) (fun hB => ?_)
    · replace hf := f_if hB hf
      refine x_iload_n 0 dX11_courtPart_22 rfl rfl ?_
      refine x_if_ne 40 dX11_courtPart_23 (by decide) (fun hB => ?_) (fun hB => ?_)
      · replace hf := f_el hB hf
        refine x_iload_n 0 dX11_courtPart_40 rfl rfl ?_
        refine x_if_ne 53 dX11_courtPart_41 (by decide) (fun hB => ?_) (fun hB => ?_)
        · replace hf := f_el hB hf
          refine x_iload_n 0 dX11_courtPart_53 rfl rfl ?_
          by_cases hs85 : q1 = (0)
          · replace hf := f_if hs85 hf
            refine x_tabIn (0) 84 dX11_courtPart_54 hs85 (by decide) (by decide) rfl (by decide) ?_
            refine x_aload_n 1 dX11_courtPart_84 rfl rfl ?_
            refine x_sipush (v := (1716)) dX11_courtPart_85 (by decide) ?_
            refine x_iconst (v := (0)) dX11_courtPart_88 (by decide) ?_
            refine x_bipush (v := (16)) dX11_courtPart_89 (by decide) ?_
            obtain ⟨q81, hq82, hf⟩ := f_bd hf
            refine x_callVi [.int (1716 : Int32), .int (0 : Int32), .int (16 : Int32)] (c_X11_number (I := I) (L := L)  hq82) dX11_courtPart_91 lk_X11_197 lm_0 rfl cd_X11_number rfl rfl (Nat.le_of_ble_eq_true rfl) ⟨rfl, rfl, Nat.le_of_ble_eq_true rfl, Nat.le_of_ble_eq_true rfl⟩ ?_
            refine x_istore_n [(2, .int (zb q81.1)), (1, .int q1), (0, .ref 0)] dX11_courtPart_94 rfl (by decide) rfl ?_
            refine x_goto 127 dX11_courtPart_95 (by decide) ?_
            refine x_iload_n 0 dX11_courtPart_127 rfl rfl ?_
            refine x_if_eqB 144 dX11_courtPart_128 (by decide) (fun hB => ?_) (fun hB => ?_)
            · replace hf := f_el hB hf
              refine x_iconst (v := (0)) dX11_courtPart_144 (by decide) ?_
              cases hf
              exact x_zret (b := false) dX11_courtPart_145 rfl rfl
            · replace hf := f_if hB hf
              refine x_aload_n 2 dX11_courtPart_131 rfl rfl ?_
              refine x_bipush (v := (59)) dX11_courtPart_132 (by decide) ?_
              obtain ⟨q83, hq84, hf⟩ := f_bd hf
              refine x_callVi [.int (59 : Int32)] (c_X11_wantSign (I := q81.2) (L := L)  hq84) dX11_courtPart_134 lk_X11_260 lm_0 rfl cd_X11_wantSign rfl rfl (Nat.le_of_ble_eq_true rfl) ⟨rfl, rfl, Nat.le_of_ble_eq_true rfl, Nat.le_of_ble_eq_true rfl⟩ ?_
              refine x_if_eqB 144 dX11_courtPart_137 (by decide) (fun hB => ?_) (fun hB => ?_)
              · replace hf := f_el hB hf
                refine x_iconst (v := (0)) dX11_courtPart_144 (by decide) ?_
                cases hf
                exact x_zret (b := false) dX11_courtPart_145 rfl rfl
              · replace hf := f_if hB hf
                refine x_iconst (v := (1)) dX11_courtPart_140 (by decide) ?_
                refine x_goto 145 dX11_courtPart_141 (by decide) ?_
                cases hf
                exact x_zret (b := true) dX11_courtPart_145 rfl rfl
          replace hf := f_el hs85 hf
          by_cases hs90 : q1 = (1)
          · replace hf := f_if hs90 hf
            refine x_tabIn (1) 98 dX11_courtPart_54 hs90 (by decide) (by decide) rfl (by decide) ?_
            refine x_aload_n 1 dX11_courtPart_98 rfl rfl ?_
            obtain ⟨q86, hq87, hf⟩ := f_bd hf
            refine x_callVi [] (c_X11_aBed (I := I) (L := L)  hq87) dX11_courtPart_99 lk_X11_248 lm_0 rfl cd_X11_aBed rfl rfl (Nat.le_of_ble_eq_true rfl) ⟨rfl, rfl, Nat.le_of_ble_eq_true rfl, Nat.le_of_ble_eq_true rfl⟩ ?_
            refine x_istore_n [(2, .int (zb q86.1)), (1, .int q1), (0, .ref 0)] dX11_courtPart_102 rfl (by decide) rfl ?_
            refine x_goto 127 dX11_courtPart_103 (by decide) ?_
            refine x_iload_n 0 dX11_courtPart_127 rfl rfl ?_
            refine x_if_eqB 144 dX11_courtPart_128 (by decide) (fun hB => ?_) (fun hB => ?_)
            · replace hf := f_el hB hf
              refine x_iconst (v := (0)) dX11_courtPart_144 (by decide) ?_
              cases hf
              exact x_zret (b := false) dX11_courtPart_145 rfl rfl
            · replace hf := f_if hB hf
              refine x_aload_n 2 dX11_courtPart_131 rfl rfl ?_
              refine x_bipush (v := (59)) dX11_courtPart_132 (by decide) ?_
              obtain ⟨q88, hq89, hf⟩ := f_bd hf
              refine x_callVi [.int (59 : Int32)] (c_X11_wantSign (I := q86.2) (L := L)  hq89) dX11_courtPart_134 lk_X11_260 lm_0 rfl cd_X11_wantSign rfl rfl (Nat.le_of_ble_eq_true rfl) ⟨rfl, rfl, Nat.le_of_ble_eq_true rfl, Nat.le_of_ble_eq_true rfl⟩ ?_
              refine x_if_eqB 144 dX11_courtPart_137 (by decide) (fun hB => ?_) (fun hB => ?_)
              · replace hf := f_el hB hf
                refine x_iconst (v := (0)) dX11_courtPart_144 (by decide) ?_
                cases hf
                exact x_zret (b := false) dX11_courtPart_145 rfl rfl
              · replace hf := f_if hB hf
                refine x_iconst (v := (1)) dX11_courtPart_140 (by decide) ?_
                refine x_goto 145 dX11_courtPart_141 (by decide) ?_
                cases hf
                exact x_zret (b := true) dX11_courtPart_145 rfl rfl
          replace hf := f_el hs90 hf
          by_cases hs95 : q1 = (2)
          · replace hf := f_if hs95 hf
            refine x_tabIn (2) 106 dX11_courtPart_54 hs95 (by decide) (by decide) rfl (by decide) ?_
            refine x_aload_n 1 dX11_courtPart_106 rfl rfl ?_
            obtain ⟨q91, hq92, hf⟩ := f_bd hf
            refine x_callVi [] (c_X11_aCase (I := I) (L := L)  hq92) dX11_courtPart_107 lk_X11_251 lm_0 rfl cd_X11_aCase rfl rfl (Nat.le_of_ble_eq_true rfl) ⟨rfl, rfl, Nat.le_of_ble_eq_true rfl, Nat.le_of_ble_eq_true rfl⟩ ?_
            refine x_istore_n [(2, .int (zb q91.1)), (1, .int q1), (0, .ref 0)] dX11_courtPart_110 rfl (by decide) rfl ?_
            refine x_goto 127 dX11_courtPart_111 (by decide) ?_
            refine x_iload_n 0 dX11_courtPart_127 rfl rfl ?_
            refine x_if_eqB 144 dX11_courtPart_128 (by decide) (fun hB => ?_) (fun hB => ?_)
            · replace hf := f_el hB hf
              refine x_iconst (v := (0)) dX11_courtPart_144 (by decide) ?_
              cases hf
              exact x_zret (b := false) dX11_courtPart_145 rfl rfl
            · replace hf := f_if hB hf
              refine x_aload_n 2 dX11_courtPart_131 rfl rfl ?_
              refine x_bipush (v := (59)) dX11_courtPart_132 (by decide) ?_
              obtain ⟨q93, hq94, hf⟩ := f_bd hf
              refine x_callVi [.int (59 : Int32)] (c_X11_wantSign (I := q91.2.1) (L := q91.2.2)  hq94) dX11_courtPart_134 lk_X11_260 lm_0 rfl cd_X11_wantSign rfl rfl (Nat.le_of_ble_eq_true rfl) ⟨rfl, rfl, Nat.le_of_ble_eq_true rfl, Nat.le_of_ble_eq_true rfl⟩ ?_
              refine x_if_eqB 144 dX11_courtPart_137 (by decide) (fun hB => ?_) (fun hB => ?_)
              · replace hf := f_el hB hf
                refine x_iconst (v := (0)) dX11_courtPart_144 (by decide) ?_
                cases hf
                exact x_zret (b := false) dX11_courtPart_145 rfl rfl
              · replace hf := f_if hB hf
                refine x_iconst (v := (1)) dX11_courtPart_140 (by decide) ?_
                refine x_goto 145 dX11_courtPart_141 (by decide) ?_
                cases hf
                exact x_zret (b := true) dX11_courtPart_145 rfl rfl
          replace hf := f_el hs95 hf
          by_cases hs100 : q1 = (3)
          · replace hf := f_if hs100 hf
            refine x_tabIn (3) 114 dX11_courtPart_54 hs100 (by decide) (by decide) rfl (by decide) ?_
            refine x_aload_n 1 dX11_courtPart_114 rfl rfl ?_
            obtain ⟨q96, hq97, hf⟩ := f_bd hf
            refine x_callVi [] (c_X11_aClaim (I := I) (L := L)  hq97) dX11_courtPart_115 lk_X11_254 lm_0 rfl cd_X11_aClaim rfl rfl (Nat.le_of_ble_eq_true rfl) ⟨rfl, rfl, Nat.le_of_ble_eq_true rfl, Nat.le_of_ble_eq_true rfl⟩ ?_
            refine x_istore_n [(2, .int (zb q96.1)), (1, .int q1), (0, .ref 0)] dX11_courtPart_118 rfl (by decide) rfl ?_
            refine x_goto 127 dX11_courtPart_119 (by decide) ?_
            refine x_iload_n 0 dX11_courtPart_127 rfl rfl ?_
            refine x_if_eqB 144 dX11_courtPart_128 (by decide) (fun hB => ?_) (fun hB => ?_)
            · replace hf := f_el hB hf
              refine x_iconst (v := (0)) dX11_courtPart_144 (by decide) ?_
              cases hf
              exact x_zret (b := false) dX11_courtPart_145 rfl rfl
            · replace hf := f_if hB hf
              refine x_aload_n 2 dX11_courtPart_131 rfl rfl ?_
              refine x_bipush (v := (59)) dX11_courtPart_132 (by decide) ?_
              obtain ⟨q98, hq99, hf⟩ := f_bd hf
              refine x_callVi [.int (59 : Int32)] (c_X11_wantSign (I := q96.2.1) (L := q96.2.2)  hq99) dX11_courtPart_134 lk_X11_260 lm_0 rfl cd_X11_wantSign rfl rfl (Nat.le_of_ble_eq_true rfl) ⟨rfl, rfl, Nat.le_of_ble_eq_true rfl, Nat.le_of_ble_eq_true rfl⟩ ?_
              refine x_if_eqB 144 dX11_courtPart_137 (by decide) (fun hB => ?_) (fun hB => ?_)
              · replace hf := f_el hB hf
                refine x_iconst (v := (0)) dX11_courtPart_144 (by decide) ?_
                cases hf
                exact x_zret (b := false) dX11_courtPart_145 rfl rfl
              · replace hf := f_if hB hf
                refine x_iconst (v := (1)) dX11_courtPart_140 (by decide) ?_
                refine x_goto 145 dX11_courtPart_141 (by decide) ?_
                cases hf
                exact x_zret (b := true) dX11_courtPart_145 rfl rfl
          replace hf := f_el hs100 hf
          refine x_tabOut 122 dX11_courtPart_54 (by have := lv_neT (a := 0) hs85 (by decide); have := lv_neT (a := 1) hs90 (by decide); have := lv_neT (a := 2) hs95 (by decide); have := lv_neT (a := 3) hs100 (by decide); omega) (by decide) ?_
          refine x_aload_n 1 dX11_courtPart_122 rfl rfl ?_
          obtain ⟨q101, hq102, hf⟩ := f_bd hf
          refine x_callVi [] (c_X11_aScholar (I := I) (L := L)  hq102) dX11_courtPart_123 lk_X11_257 lm_0 rfl cd_X11_aScholar rfl rfl (Nat.le_of_ble_eq_true rfl) ⟨rfl, rfl, Nat.le_of_ble_eq_true rfl, Nat.le_of_ble_eq_true rfl⟩ ?_
          refine x_istore_n [(2, .int (zb q101.1)), (1, .int q1), (0, .ref 0)] dX11_courtPart_126 rfl (by decide) rfl ?_
          refine x_iload_n 0 dX11_courtPart_127 rfl rfl ?_
          refine x_if_eqB 144 dX11_courtPart_128 (by decide) (fun hB => ?_) (fun hB => ?_)
          · replace hf := f_el hB hf
            refine x_iconst (v := (0)) dX11_courtPart_144 (by decide) ?_
            cases hf
            exact x_zret (b := false) dX11_courtPart_145 rfl rfl
          · replace hf := f_if hB hf
            refine x_aload_n 2 dX11_courtPart_131 rfl rfl ?_
            refine x_bipush (v := (59)) dX11_courtPart_132 (by decide) ?_
            obtain ⟨q103, hq104, hf⟩ := f_bd hf
            refine x_callVi [.int (59 : Int32)] (c_X11_wantSign (I := q101.2.1) (L := q101.2.2)  hq104) dX11_courtPart_134 lk_X11_260 lm_0 rfl cd_X11_wantSign rfl rfl (Nat.le_of_ble_eq_true rfl) ⟨rfl, rfl, Nat.le_of_ble_eq_true rfl, Nat.le_of_ble_eq_true rfl⟩ ?_
            refine x_if_eqB 144 dX11_courtPart_137 (by decide) (fun hB => ?_) (fun hB => ?_)
            · replace hf := f_el hB hf
              refine x_iconst (v := (0)) dX11_courtPart_144 (by decide) ?_
              cases hf
              exact x_zret (b := false) dX11_courtPart_145 rfl rfl
            · replace hf := f_if hB hf
              refine x_iconst (v := (1)) dX11_courtPart_140 (by decide) ?_
              refine x_goto 145 dX11_courtPart_141 (by decide) ?_
              cases hf
              exact x_zret (b := true) dX11_courtPart_145 rfl rfl
        · replace hf := f_if hB hf
          refine x_aload_n 1 dX11_courtPart_44 rfl rfl ?_
          refine x_iconst (v := (1)) dX11_courtPart_45 (by decide) ?_
          obtain ⟨I54, hI54, hf⟩ := f_lt hf
          refine x_putI dX11_courtPart_46 lm_0 fl_X11_245 rfl rfl rfl hI54 ?_
          refine x_aload_n 1 dX11_courtPart_49 rfl rfl ?_
          obtain ⟨q55, hq56, hf⟩ := f_bd hf
          refine x_callVv [] (c_X11_ahead (I := I54) (L := L)  hq56) dX11_courtPart_50 lk_X11_175 lm_0 rfl cd_X11_ahead rfl rfl (Nat.le_of_ble_eq_true rfl) ⟨rfl, rfl, Nat.le_of_ble_eq_true rfl, Nat.le_of_ble_eq_true rfl⟩ ?_
          refine x_iload_n 0 dX11_courtPart_53 rfl rfl ?_
          by_cases hs61 : q1 = (0)
          · replace hf := f_if hs61 hf
            refine x_tabIn (0) 84 dX11_courtPart_54 hs61 (by decide) (by decide) rfl (by decide) ?_
            refine x_aload_n 1 dX11_courtPart_84 rfl rfl ?_
            refine x_sipush (v := (1716)) dX11_courtPart_85 (by decide) ?_
            refine x_iconst (v := (0)) dX11_courtPart_88 (by decide) ?_
            refine x_bipush (v := (16)) dX11_courtPart_89 (by decide) ?_
            obtain ⟨q57, hq58, hf⟩ := f_bd hf
            refine x_callVi [.int (1716 : Int32), .int (0 : Int32), .int (16 : Int32)] (c_X11_number (I := q55) (L := L)  hq58) dX11_courtPart_91 lk_X11_197 lm_0 rfl cd_X11_number rfl rfl (Nat.le_of_ble_eq_true rfl) ⟨rfl, rfl, Nat.le_of_ble_eq_true rfl, Nat.le_of_ble_eq_true rfl⟩ ?_
            refine x_istore_n [(2, .int (zb q57.1)), (1, .int q1), (0, .ref 0)] dX11_courtPart_94 rfl (by decide) rfl ?_
            refine x_goto 127 dX11_courtPart_95 (by decide) ?_
            refine x_iload_n 0 dX11_courtPart_127 rfl rfl ?_
            refine x_if_eqB 144 dX11_courtPart_128 (by decide) (fun hB => ?_) (fun hB => ?_)
            · replace hf := f_el hB hf
              refine x_iconst (v := (0)) dX11_courtPart_144 (by decide) ?_
              cases hf
              exact x_zret (b := false) dX11_courtPart_145 rfl rfl
            · replace hf := f_if hB hf
              refine x_aload_n 2 dX11_courtPart_131 rfl rfl ?_
              refine x_bipush (v := (59)) dX11_courtPart_132 (by decide) ?_
              obtain ⟨q59, hq60, hf⟩ := f_bd hf
              refine x_callVi [.int (59 : Int32)] (c_X11_wantSign (I := q57.2) (L := L)  hq60) dX11_courtPart_134 lk_X11_260 lm_0 rfl cd_X11_wantSign rfl rfl (Nat.le_of_ble_eq_true rfl) ⟨rfl, rfl, Nat.le_of_ble_eq_true rfl, Nat.le_of_ble_eq_true rfl⟩ ?_
              refine x_if_eqB 144 dX11_courtPart_137 (by decide) (fun hB => ?_) (fun hB => ?_)
              · replace hf := f_el hB hf
                refine x_iconst (v := (0)) dX11_courtPart_144 (by decide) ?_
                cases hf
                exact x_zret (b := false) dX11_courtPart_145 rfl rfl
              · replace hf := f_if hB hf
                refine x_iconst (v := (1)) dX11_courtPart_140 (by decide) ?_
                refine x_goto 145 dX11_courtPart_141 (by decide) ?_
                cases hf
                exact x_zret (b := true) dX11_courtPart_145 rfl rfl
          replace hf := f_el hs61 hf
          by_cases hs66 : q1 = (1)
          · replace hf := f_if hs66 hf
            refine x_tabIn (1) 98 dX11_courtPart_54 hs66 (by decide) (by decide) rfl (by decide) ?_
            refine x_aload_n 1 dX11_courtPart_98 rfl rfl ?_
            obtain ⟨q62, hq63, hf⟩ := f_bd hf
            refine x_callVi [] (c_X11_aBed (I := q55) (L := L)  hq63) dX11_courtPart_99 lk_X11_248 lm_0 rfl cd_X11_aBed rfl rfl (Nat.le_of_ble_eq_true rfl) ⟨rfl, rfl, Nat.le_of_ble_eq_true rfl, Nat.le_of_ble_eq_true rfl⟩ ?_
            refine x_istore_n [(2, .int (zb q62.1)), (1, .int q1), (0, .ref 0)] dX11_courtPart_102 rfl (by decide) rfl ?_
            refine x_goto 127 dX11_courtPart_103 (by decide) ?_
            refine x_iload_n 0 dX11_courtPart_127 rfl rfl ?_
            refine x_if_eqB 144 dX11_courtPart_128 (by decide) (fun hB => ?_) (fun hB => ?_)
            · replace hf := f_el hB hf
              refine x_iconst (v := (0)) dX11_courtPart_144 (by decide) ?_
              cases hf
              exact x_zret (b := false) dX11_courtPart_145 rfl rfl
            · replace hf := f_if hB hf
              refine x_aload_n 2 dX11_courtPart_131 rfl rfl ?_
              refine x_bipush (v := (59)) dX11_courtPart_132 (by decide) ?_
              obtain ⟨q64, hq65, hf⟩ := f_bd hf
              refine x_callVi [.int (59 : Int32)] (c_X11_wantSign (I := q62.2) (L := L)  hq65) dX11_courtPart_134 lk_X11_260 lm_0 rfl cd_X11_wantSign rfl rfl (Nat.le_of_ble_eq_true rfl) ⟨rfl, rfl, Nat.le_of_ble_eq_true rfl, Nat.le_of_ble_eq_true rfl⟩ ?_
              refine x_if_eqB 144 dX11_courtPart_137 (by decide) (fun hB => ?_) (fun hB => ?_)
              · replace hf := f_el hB hf
                refine x_iconst (v := (0)) dX11_courtPart_144 (by decide) ?_
                cases hf
                exact x_zret (b := false) dX11_courtPart_145 rfl rfl
              · replace hf := f_if hB hf
                refine x_iconst (v := (1)) dX11_courtPart_140 (by decide) ?_
                refine x_goto 145 dX11_courtPart_141 (by decide) ?_
                cases hf
                exact x_zret (b := true) dX11_courtPart_145 rfl rfl
          replace hf := f_el hs66 hf
          by_cases hs71 : q1 = (2)
          · replace hf := f_if hs71 hf
            refine x_tabIn (2) 106 dX11_courtPart_54 hs71 (by decide) (by decide) rfl (by decide) ?_
            refine x_aload_n 1 dX11_courtPart_106 rfl rfl ?_
            obtain ⟨q67, hq68, hf⟩ := f_bd hf
            refine x_callVi [] (c_X11_aCase (I := q55) (L := L)  hq68) dX11_courtPart_107 lk_X11_251 lm_0 rfl cd_X11_aCase rfl rfl (Nat.le_of_ble_eq_true rfl) ⟨rfl, rfl, Nat.le_of_ble_eq_true rfl, Nat.le_of_ble_eq_true rfl⟩ ?_
            refine x_istore_n [(2, .int (zb q67.1)), (1, .int q1), (0, .ref 0)] dX11_courtPart_110 rfl (by decide) rfl ?_
            refine x_goto 127 dX11_courtPart_111 (by decide) ?_
            refine x_iload_n 0 dX11_courtPart_127 rfl rfl ?_
            refine x_if_eqB 144 dX11_courtPart_128 (by decide) (fun hB => ?_) (fun hB => ?_)
            · replace hf := f_el hB hf
              refine x_iconst (v := (0)) dX11_courtPart_144 (by decide) ?_
              cases hf
              exact x_zret (b := false) dX11_courtPart_145 rfl rfl
            · replace hf := f_if hB hf
              refine x_aload_n 2 dX11_courtPart_131 rfl rfl ?_
              refine x_bipush (v := (59)) dX11_courtPart_132 (by decide) ?_
              obtain ⟨q69, hq70, hf⟩ := f_bd hf
              refine x_callVi [.int (59 : Int32)] (c_X11_wantSign (I := q67.2.1) (L := q67.2.2)  hq70) dX11_courtPart_134 lk_X11_260 lm_0 rfl cd_X11_wantSign rfl rfl (Nat.le_of_ble_eq_true rfl) ⟨rfl, rfl, Nat.le_of_ble_eq_true rfl, Nat.le_of_ble_eq_true rfl⟩ ?_
              refine x_if_eqB 144 dX11_courtPart_137 (by decide) (fun hB => ?_) (fun hB => ?_)
              · replace hf := f_el hB hf
                refine x_iconst (v := (0)) dX11_courtPart_144 (by decide) ?_
                cases hf
                exact x_zret (b := false) dX11_courtPart_145 rfl rfl
              · replace hf := f_if hB hf
                refine x_iconst (v := (1)) dX11_courtPart_140 (by decide) ?_
                refine x_goto 145 dX11_courtPart_141 (by decide) ?_
                cases hf
                exact x_zret (b := true) dX11_courtPart_145 rfl rfl
          replace hf := f_el hs71 hf
          by_cases hs76 : q1 = (3)
          · replace hf := f_if hs76 hf
            refine x_tabIn (3) 114 dX11_courtPart_54 hs76 (by decide) (by decide) rfl (by decide) ?_
            refine x_aload_n 1 dX11_courtPart_114 rfl rfl ?_
            obtain ⟨q72, hq73, hf⟩ := f_bd hf
            refine x_callVi [] (c_X11_aClaim (I := q55) (L := L)  hq73) dX11_courtPart_115 lk_X11_254 lm_0 rfl cd_X11_aClaim rfl rfl (Nat.le_of_ble_eq_true rfl) ⟨rfl, rfl, Nat.le_of_ble_eq_true rfl, Nat.le_of_ble_eq_true rfl⟩ ?_
            refine x_istore_n [(2, .int (zb q72.1)), (1, .int q1), (0, .ref 0)] dX11_courtPart_118 rfl (by decide) rfl ?_
            refine x_goto 127 dX11_courtPart_119 (by decide) ?_
            refine x_iload_n 0 dX11_courtPart_127 rfl rfl ?_
            refine x_if_eqB 144 dX11_courtPart_128 (by decide) (fun hB => ?_) (fun hB => ?_)
            · replace hf := f_el hB hf
              refine x_iconst (v := (0)) dX11_courtPart_144 (by decide) ?_
              cases hf
              exact x_zret (b := false) dX11_courtPart_145 rfl rfl
            · replace hf := f_if hB hf
              refine x_aload_n 2 dX11_courtPart_131 rfl rfl ?_
              refine x_bipush (v := (59)) dX11_courtPart_132 (by decide) ?_
              obtain ⟨q74, hq75, hf⟩ := f_bd hf
              refine x_callVi [.int (59 : Int32)] (c_X11_wantSign (I := q72.2.1) (L := q72.2.2)  hq75) dX11_courtPart_134 lk_X11_260 lm_0 rfl cd_X11_wantSign rfl rfl (Nat.le_of_ble_eq_true rfl) ⟨rfl, rfl, Nat.le_of_ble_eq_true rfl, Nat.le_of_ble_eq_true rfl⟩ ?_
              refine x_if_eqB 144 dX11_courtPart_137 (by decide) (fun hB => ?_) (fun hB => ?_)
              · replace hf := f_el hB hf
                refine x_iconst (v := (0)) dX11_courtPart_144 (by decide) ?_
                cases hf
                exact x_zret (b := false) dX11_courtPart_145 rfl rfl
              · replace hf := f_if hB hf
                refine x_iconst (v := (1)) dX11_courtPart_140 (by decide) ?_
                refine x_goto 145 dX11_courtPart_141 (by decide) ?_
                cases hf
                exact x_zret (b := true) dX11_courtPart_145 rfl rfl
          replace hf := f_el hs76 hf
          refine x_tabOut 122 dX11_courtPart_54 (by have := lv_neT (a := 0) hs61 (by decide); have := lv_neT (a := 1) hs66 (by decide); have := lv_neT (a := 2) hs71 (by decide); have := lv_neT (a := 3) hs76 (by decide); omega) (by decide) ?_
          refine x_aload_n 1 dX11_courtPart_122 rfl rfl ?_
          obtain ⟨q77, hq78, hf⟩ := f_bd hf
          refine x_callVi [] (c_X11_aScholar (I := q55) (L := L)  hq78) dX11_courtPart_123 lk_X11_257 lm_0 rfl cd_X11_aScholar rfl rfl (Nat.le_of_ble_eq_true rfl) ⟨rfl, rfl, Nat.le_of_ble_eq_true rfl, Nat.le_of_ble_eq_true rfl⟩ ?_
          refine x_istore_n [(2, .int (zb q77.1)), (1, .int q1), (0, .ref 0)] dX11_courtPart_126 rfl (by decide) rfl ?_
          refine x_iload_n 0 dX11_courtPart_127 rfl rfl ?_
          refine x_if_eqB 144 dX11_courtPart_128 (by decide) (fun hB => ?_) (fun hB => ?_)
          · replace hf := f_el hB hf
            refine x_iconst (v := (0)) dX11_courtPart_144 (by decide) ?_
            cases hf
            exact x_zret (b := false) dX11_courtPart_145 rfl rfl
          · replace hf := f_if hB hf
            refine x_aload_n 2 dX11_courtPart_131 rfl rfl ?_
            refine x_bipush (v := (59)) dX11_courtPart_132 (by decide) ?_
            obtain ⟨q79, hq80, hf⟩ := f_bd hf
            refine x_callVi [.int (59 : Int32)] (c_X11_wantSign (I := q77.2.1) (L := q77.2.2)  hq80) dX11_courtPart_134 lk_X11_260 lm_0 rfl cd_X11_wantSign rfl rfl (Nat.le_of_ble_eq_true rfl) ⟨rfl, rfl, Nat.le_of_ble_eq_true rfl, Nat.le_of_ble_eq_true rfl⟩ ?_
            refine x_if_eqB 144 dX11_courtPart_137 (by decide) (fun hB => ?_) (fun hB => ?_)
            · replace hf := f_el hB hf
              refine x_iconst (v := (0)) dX11_courtPart_144 (by decide) ?_
              cases hf
              exact x_zret (b := false) dX11_courtPart_145 rfl rfl
            · replace hf := f_if hB hf
              refine x_iconst (v := (1)) dX11_courtPart_140 (by decide) ?_
              refine x_goto 145 dX11_courtPart_141 (by decide) ?_
              cases hf
              exact x_zret (b := true) dX11_courtPart_145 rfl rfl
      · replace hf := f_if hB hf
        refine x_aload_n 1 dX11_courtPart_26 rfl rfl ?_
        refine x_getI (v := (I 0 20)) dX11_courtPart_27 lm_0 fl_X11_245 rfl rfl ?_
        refine x_iconst (v := (1)) dX11_courtPart_30 (by decide) ?_
        refine x_icmp_ne 40 dX11_courtPart_31 (by decide) (fun hB => ?_) (fun hB => ?_)
        · replace hf := f_el hB hf
          refine x_iload_n 0 dX11_courtPart_40 rfl rfl ?_
          refine x_if_ne 53 dX11_courtPart_41 (by decide) (fun hB => ?_) (fun hB => ?_)
          · replace hf := f_el hB hf
            refine x_iload_n 0 dX11_courtPart_53 rfl rfl ?_
            by_cases hs34 : q1 = (0)
            · replace hf := f_if hs34 hf
              refine x_tabIn (0) 84 dX11_courtPart_54 hs34 (by decide) (by decide) rfl (by decide) ?_
              refine x_aload_n 1 dX11_courtPart_84 rfl rfl ?_
              refine x_sipush (v := (1716)) dX11_courtPart_85 (by decide) ?_
              refine x_iconst (v := (0)) dX11_courtPart_88 (by decide) ?_
              refine x_bipush (v := (16)) dX11_courtPart_89 (by decide) ?_
              obtain ⟨q30, hq31, hf⟩ := f_bd hf
              refine x_callVi [.int (1716 : Int32), .int (0 : Int32), .int (16 : Int32)] (c_X11_number (I := I) (L := L)  hq31) dX11_courtPart_91 lk_X11_197 lm_0 rfl cd_X11_number rfl rfl (Nat.le_of_ble_eq_true rfl) ⟨rfl, rfl, Nat.le_of_ble_eq_true rfl, Nat.le_of_ble_eq_true rfl⟩ ?_
              refine x_istore_n [(2, .int (zb q30.1)), (1, .int q1), (0, .ref 0)] dX11_courtPart_94 rfl (by decide) rfl ?_
              refine x_goto 127 dX11_courtPart_95 (by decide) ?_
              refine x_iload_n 0 dX11_courtPart_127 rfl rfl ?_
              refine x_if_eqB 144 dX11_courtPart_128 (by decide) (fun hB => ?_) (fun hB => ?_)
              · replace hf := f_el hB hf
                refine x_iconst (v := (0)) dX11_courtPart_144 (by decide) ?_
                cases hf
                exact x_zret (b := false) dX11_courtPart_145 rfl rfl
              · replace hf := f_if hB hf
                refine x_aload_n 2 dX11_courtPart_131 rfl rfl ?_
                refine x_bipush (v := (59)) dX11_courtPart_132 (by decide) ?_
                obtain ⟨q32, hq33, hf⟩ := f_bd hf
                refine x_callVi [.int (59 : Int32)] (c_X11_wantSign (I := q30.2) (L := L)  hq33) dX11_courtPart_134 lk_X11_260 lm_0 rfl cd_X11_wantSign rfl rfl (Nat.le_of_ble_eq_true rfl) ⟨rfl, rfl, Nat.le_of_ble_eq_true rfl, Nat.le_of_ble_eq_true rfl⟩ ?_
                refine x_if_eqB 144 dX11_courtPart_137 (by decide) (fun hB => ?_) (fun hB => ?_)
                · replace hf := f_el hB hf
                  refine x_iconst (v := (0)) dX11_courtPart_144 (by decide) ?_
                  cases hf
                  exact x_zret (b := false) dX11_courtPart_145 rfl rfl
                · replace hf := f_if hB hf
                  refine x_iconst (v := (1)) dX11_courtPart_140 (by decide) ?_
                  refine x_goto 145 dX11_courtPart_141 (by decide) ?_
                  cases hf
                  exact x_zret (b := true) dX11_courtPart_145 rfl rfl
            replace hf := f_el hs34 hf
            by_cases hs39 : q1 = (1)
            · replace hf := f_if hs39 hf
              refine x_tabIn (1) 98 dX11_courtPart_54 hs39 (by decide) (by decide) rfl (by decide) ?_
              refine x_aload_n 1 dX11_courtPart_98 rfl rfl ?_
              obtain ⟨q35, hq36, hf⟩ := f_bd hf
              refine x_callVi [] (c_X11_aBed (I := I) (L := L)  hq36) dX11_courtPart_99 lk_X11_248 lm_0 rfl cd_X11_aBed rfl rfl (Nat.le_of_ble_eq_true rfl) ⟨rfl, rfl, Nat.le_of_ble_eq_true rfl, Nat.le_of_ble_eq_true rfl⟩ ?_
              refine x_istore_n [(2, .int (zb q35.1)), (1, .int q1), (0, .ref 0)] dX11_courtPart_102 rfl (by decide) rfl ?_
              refine x_goto 127 dX11_courtPart_103 (by decide) ?_
              refine x_iload_n 0 dX11_courtPart_127 rfl rfl ?_
              refine x_if_eqB 144 dX11_courtPart_128 (by decide) (fun hB => ?_) (fun hB => ?_)
              · replace hf := f_el hB hf
                refine x_iconst (v := (0)) dX11_courtPart_144 (by decide) ?_
                cases hf
                exact x_zret (b := false) dX11_courtPart_145 rfl rfl
              · replace hf := f_if hB hf
                refine x_aload_n 2 dX11_courtPart_131 rfl rfl ?_
                refine x_bipush (v := (59)) dX11_courtPart_132 (by decide) ?_
                obtain ⟨q37, hq38, hf⟩ := f_bd hf
                refine x_callVi [.int (59 : Int32)] (c_X11_wantSign (I := q35.2) (L := L)  hq38) dX11_courtPart_134 lk_X11_260 lm_0 rfl cd_X11_wantSign rfl rfl (Nat.le_of_ble_eq_true rfl) ⟨rfl, rfl, Nat.le_of_ble_eq_true rfl, Nat.le_of_ble_eq_true rfl⟩ ?_
                refine x_if_eqB 144 dX11_courtPart_137 (by decide) (fun hB => ?_) (fun hB => ?_)
                · replace hf := f_el hB hf
                  refine x_iconst (v := (0)) dX11_courtPart_144 (by decide) ?_
                  cases hf
                  exact x_zret (b := false) dX11_courtPart_145 rfl rfl
                · replace hf := f_if hB hf
                  refine x_iconst (v := (1)) dX11_courtPart_140 (by decide) ?_
                  refine x_goto 145 dX11_courtPart_141 (by decide) ?_
                  cases hf
                  exact x_zret (b := true) dX11_courtPart_145 rfl rfl
            replace hf := f_el hs39 hf
            by_cases hs44 : q1 = (2)
            · replace hf := f_if hs44 hf
              refine x_tabIn (2) 106 dX11_courtPart_54 hs44 (by decide) (by decide) rfl (by decide) ?_
              refine x_aload_n 1 dX11_courtPart_106 rfl rfl ?_
              obtain ⟨q40, hq41, hf⟩ := f_bd hf
              refine x_callVi [] (c_X11_aCase (I := I) (L := L)  hq41) dX11_courtPart_107 lk_X11_251 lm_0 rfl cd_X11_aCase rfl rfl (Nat.le_of_ble_eq_true rfl) ⟨rfl, rfl, Nat.le_of_ble_eq_true rfl, Nat.le_of_ble_eq_true rfl⟩ ?_
              refine x_istore_n [(2, .int (zb q40.1)), (1, .int q1), (0, .ref 0)] dX11_courtPart_110 rfl (by decide) rfl ?_
              refine x_goto 127 dX11_courtPart_111 (by decide) ?_
              refine x_iload_n 0 dX11_courtPart_127 rfl rfl ?_
              refine x_if_eqB 144 dX11_courtPart_128 (by decide) (fun hB => ?_) (fun hB => ?_)
              · replace hf := f_el hB hf
                refine x_iconst (v := (0)) dX11_courtPart_144 (by decide) ?_
                cases hf
                exact x_zret (b := false) dX11_courtPart_145 rfl rfl
              · replace hf := f_if hB hf
                refine x_aload_n 2 dX11_courtPart_131 rfl rfl ?_
                refine x_bipush (v := (59)) dX11_courtPart_132 (by decide) ?_
                obtain ⟨q42, hq43, hf⟩ := f_bd hf
                refine x_callVi [.int (59 : Int32)] (c_X11_wantSign (I := q40.2.1) (L := q40.2.2)  hq43) dX11_courtPart_134 lk_X11_260 lm_0 rfl cd_X11_wantSign rfl rfl (Nat.le_of_ble_eq_true rfl) ⟨rfl, rfl, Nat.le_of_ble_eq_true rfl, Nat.le_of_ble_eq_true rfl⟩ ?_
                refine x_if_eqB 144 dX11_courtPart_137 (by decide) (fun hB => ?_) (fun hB => ?_)
                · replace hf := f_el hB hf
                  refine x_iconst (v := (0)) dX11_courtPart_144 (by decide) ?_
                  cases hf
                  exact x_zret (b := false) dX11_courtPart_145 rfl rfl
                · replace hf := f_if hB hf
                  refine x_iconst (v := (1)) dX11_courtPart_140 (by decide) ?_
                  refine x_goto 145 dX11_courtPart_141 (by decide) ?_
                  cases hf
                  exact x_zret (b := true) dX11_courtPart_145 rfl rfl
            replace hf := f_el hs44 hf
            by_cases hs49 : q1 = (3)
            · replace hf := f_if hs49 hf
              refine x_tabIn (3) 114 dX11_courtPart_54 hs49 (by decide) (by decide) rfl (by decide) ?_
              refine x_aload_n 1 dX11_courtPart_114 rfl rfl ?_
              obtain ⟨q45, hq46, hf⟩ := f_bd hf
              refine x_callVi [] (c_X11_aClaim (I := I) (L := L)  hq46) dX11_courtPart_115 lk_X11_254 lm_0 rfl cd_X11_aClaim rfl rfl (Nat.le_of_ble_eq_true rfl) ⟨rfl, rfl, Nat.le_of_ble_eq_true rfl, Nat.le_of_ble_eq_true rfl⟩ ?_
              refine x_istore_n [(2, .int (zb q45.1)), (1, .int q1), (0, .ref 0)] dX11_courtPart_118 rfl (by decide) rfl ?_
              refine x_goto 127 dX11_courtPart_119 (by decide) ?_
              refine x_iload_n 0 dX11_courtPart_127 rfl rfl ?_
              refine x_if_eqB 144 dX11_courtPart_128 (by decide) (fun hB => ?_) (fun hB => ?_)
              · replace hf := f_el hB hf
                refine x_iconst (v := (0)) dX11_courtPart_144 (by decide) ?_
                cases hf
                exact x_zret (b := false) dX11_courtPart_145 rfl rfl
              · replace hf := f_if hB hf
                refine x_aload_n 2 dX11_courtPart_131 rfl rfl ?_
                refine x_bipush (v := (59)) dX11_courtPart_132 (by decide) ?_
                obtain ⟨q47, hq48, hf⟩ := f_bd hf
                refine x_callVi [.int (59 : Int32)] (c_X11_wantSign (I := q45.2.1) (L := q45.2.2)  hq48) dX11_courtPart_134 lk_X11_260 lm_0 rfl cd_X11_wantSign rfl rfl (Nat.le_of_ble_eq_true rfl) ⟨rfl, rfl, Nat.le_of_ble_eq_true rfl, Nat.le_of_ble_eq_true rfl⟩ ?_
                refine x_if_eqB 144 dX11_courtPart_137 (by decide) (fun hB => ?_) (fun hB => ?_)
                · replace hf := f_el hB hf
                  refine x_iconst (v := (0)) dX11_courtPart_144 (by decide) ?_
                  cases hf
                  exact x_zret (b := false) dX11_courtPart_145 rfl rfl
                · replace hf := f_if hB hf
                  refine x_iconst (v := (1)) dX11_courtPart_140 (by decide) ?_
                  refine x_goto 145 dX11_courtPart_141 (by decide) ?_
                  cases hf
                  exact x_zret (b := true) dX11_courtPart_145 rfl rfl
            replace hf := f_el hs49 hf
            refine x_tabOut 122 dX11_courtPart_54 (by have := lv_neT (a := 0) hs34 (by decide); have := lv_neT (a := 1) hs39 (by decide); have := lv_neT (a := 2) hs44 (by decide); have := lv_neT (a := 3) hs49 (by decide); omega) (by decide) ?_
            refine x_aload_n 1 dX11_courtPart_122 rfl rfl ?_
            obtain ⟨q50, hq51, hf⟩ := f_bd hf
            refine x_callVi [] (c_X11_aScholar (I := I) (L := L)  hq51) dX11_courtPart_123 lk_X11_257 lm_0 rfl cd_X11_aScholar rfl rfl (Nat.le_of_ble_eq_true rfl) ⟨rfl, rfl, Nat.le_of_ble_eq_true rfl, Nat.le_of_ble_eq_true rfl⟩ ?_
            refine x_istore_n [(2, .int (zb q50.1)), (1, .int q1), (0, .ref 0)] dX11_courtPart_126 rfl (by decide) rfl ?_
            refine x_iload_n 0 dX11_courtPart_127 rfl rfl ?_
            refine x_if_eqB 144 dX11_courtPart_128 (by decide) (fun hB => ?_) (fun hB => ?_)
            · replace hf := f_el hB hf
              refine x_iconst (v := (0)) dX11_courtPart_144 (by decide) ?_
              cases hf
              exact x_zret (b := false) dX11_courtPart_145 rfl rfl
            · replace hf := f_if hB hf
              refine x_aload_n 2 dX11_courtPart_131 rfl rfl ?_
              refine x_bipush (v := (59)) dX11_courtPart_132 (by decide) ?_
              obtain ⟨q52, hq53, hf⟩ := f_bd hf
              refine x_callVi [.int (59 : Int32)] (c_X11_wantSign (I := q50.2.1) (L := q50.2.2)  hq53) dX11_courtPart_134 lk_X11_260 lm_0 rfl cd_X11_wantSign rfl rfl (Nat.le_of_ble_eq_true rfl) ⟨rfl, rfl, Nat.le_of_ble_eq_true rfl, Nat.le_of_ble_eq_true rfl⟩ ?_
              refine x_if_eqB 144 dX11_courtPart_137 (by decide) (fun hB => ?_) (fun hB => ?_)
              · replace hf := f_el hB hf
                refine x_iconst (v := (0)) dX11_courtPart_144 (by decide) ?_
                cases hf
                exact x_zret (b := false) dX11_courtPart_145 rfl rfl
              · replace hf := f_if hB hf
                refine x_iconst (v := (1)) dX11_courtPart_140 (by decide) ?_
                refine x_goto 145 dX11_courtPart_141 (by decide) ?_
                cases hf
                exact x_zret (b := true) dX11_courtPart_145 rfl rfl
          · replace hf := f_if hB hf
            refine x_aload_n 1 dX11_courtPart_44 rfl rfl ?_
            refine x_iconst (v := (1)) dX11_courtPart_45 (by decide) ?_
            obtain ⟨I3, hI3, hf⟩ := f_lt hf
            refine x_putI dX11_courtPart_46 lm_0 fl_X11_245 rfl rfl rfl hI3 ?_
            refine x_aload_n 1 dX11_courtPart_49 rfl rfl ?_
            obtain ⟨q4, hq5, hf⟩ := f_bd hf
            refine x_callVv [] (c_X11_ahead (I := I3) (L := L)  hq5) dX11_courtPart_50 lk_X11_175 lm_0 rfl cd_X11_ahead rfl rfl (Nat.le_of_ble_eq_true rfl) ⟨rfl, rfl, Nat.le_of_ble_eq_true rfl, Nat.le_of_ble_eq_true rfl⟩ ?_
            refine x_iload_n 0 dX11_courtPart_53 rfl rfl ?_
            by_cases hs10 : q1 = (0)
            · replace hf := f_if hs10 hf
              refine x_tabIn (0) 84 dX11_courtPart_54 hs10 (by decide) (by decide) rfl (by decide) ?_
              refine x_aload_n 1 dX11_courtPart_84 rfl rfl ?_
              refine x_sipush (v := (1716)) dX11_courtPart_85 (by decide) ?_
              refine x_iconst (v := (0)) dX11_courtPart_88 (by decide) ?_
              refine x_bipush (v := (16)) dX11_courtPart_89 (by decide) ?_
              obtain ⟨q6, hq7, hf⟩ := f_bd hf
              refine x_callVi [.int (1716 : Int32), .int (0 : Int32), .int (16 : Int32)] (c_X11_number (I := q4) (L := L)  hq7) dX11_courtPart_91 lk_X11_197 lm_0 rfl cd_X11_number rfl rfl (Nat.le_of_ble_eq_true rfl) ⟨rfl, rfl, Nat.le_of_ble_eq_true rfl, Nat.le_of_ble_eq_true rfl⟩ ?_
              refine x_istore_n [(2, .int (zb q6.1)), (1, .int q1), (0, .ref 0)] dX11_courtPart_94 rfl (by decide) rfl ?_
              refine x_goto 127 dX11_courtPart_95 (by decide) ?_
              refine x_iload_n 0 dX11_courtPart_127 rfl rfl ?_
              refine x_if_eqB 144 dX11_courtPart_128 (by decide) (fun hB => ?_) (fun hB => ?_)
              · replace hf := f_el hB hf
                refine x_iconst (v := (0)) dX11_courtPart_144 (by decide) ?_
                cases hf
                exact x_zret (b := false) dX11_courtPart_145 rfl rfl
              · replace hf := f_if hB hf
                refine x_aload_n 2 dX11_courtPart_131 rfl rfl ?_
                refine x_bipush (v := (59)) dX11_courtPart_132 (by decide) ?_
                obtain ⟨q8, hq9, hf⟩ := f_bd hf
                refine x_callVi [.int (59 : Int32)] (c_X11_wantSign (I := q6.2) (L := L)  hq9) dX11_courtPart_134 lk_X11_260 lm_0 rfl cd_X11_wantSign rfl rfl (Nat.le_of_ble_eq_true rfl) ⟨rfl, rfl, Nat.le_of_ble_eq_true rfl, Nat.le_of_ble_eq_true rfl⟩ ?_
                refine x_if_eqB 144 dX11_courtPart_137 (by decide) (fun hB => ?_) (fun hB => ?_)
                · replace hf := f_el hB hf
                  refine x_iconst (v := (0)) dX11_courtPart_144 (by decide) ?_
                  cases hf
                  exact x_zret (b := false) dX11_courtPart_145 rfl rfl
                · replace hf := f_if hB hf
                  refine x_iconst (v := (1)) dX11_courtPart_140 (by decide) ?_
                  refine x_goto 145 dX11_courtPart_141 (by decide) ?_
                  cases hf
                  exact x_zret (b := true) dX11_courtPart_145 rfl rfl
            replace hf := f_el hs10 hf
            by_cases hs15 : q1 = (1)
            · replace hf := f_if hs15 hf
              refine x_tabIn (1) 98 dX11_courtPart_54 hs15 (by decide) (by decide) rfl (by decide) ?_
              refine x_aload_n 1 dX11_courtPart_98 rfl rfl ?_
              obtain ⟨q11, hq12, hf⟩ := f_bd hf
              refine x_callVi [] (c_X11_aBed (I := q4) (L := L)  hq12) dX11_courtPart_99 lk_X11_248 lm_0 rfl cd_X11_aBed rfl rfl (Nat.le_of_ble_eq_true rfl) ⟨rfl, rfl, Nat.le_of_ble_eq_true rfl, Nat.le_of_ble_eq_true rfl⟩ ?_
              refine x_istore_n [(2, .int (zb q11.1)), (1, .int q1), (0, .ref 0)] dX11_courtPart_102 rfl (by decide) rfl ?_
              refine x_goto 127 dX11_courtPart_103 (by decide) ?_
              refine x_iload_n 0 dX11_courtPart_127 rfl rfl ?_
              refine x_if_eqB 144 dX11_courtPart_128 (by decide) (fun hB => ?_) (fun hB => ?_)
              · replace hf := f_el hB hf
                refine x_iconst (v := (0)) dX11_courtPart_144 (by decide) ?_
                cases hf
                exact x_zret (b := false) dX11_courtPart_145 rfl rfl
              · replace hf := f_if hB hf
                refine x_aload_n 2 dX11_courtPart_131 rfl rfl ?_
                refine x_bipush (v := (59)) dX11_courtPart_132 (by decide) ?_
                obtain ⟨q13, hq14, hf⟩ := f_bd hf
                refine x_callVi [.int (59 : Int32)] (c_X11_wantSign (I := q11.2) (L := L)  hq14) dX11_courtPart_134 lk_X11_260 lm_0 rfl cd_X11_wantSign rfl rfl (Nat.le_of_ble_eq_true rfl) ⟨rfl, rfl, Nat.le_of_ble_eq_true rfl, Nat.le_of_ble_eq_true rfl⟩ ?_
                refine x_if_eqB 144 dX11_courtPart_137 (by decide) (fun hB => ?_) (fun hB => ?_)
                · replace hf := f_el hB hf
                  refine x_iconst (v := (0)) dX11_courtPart_144 (by decide) ?_
                  cases hf
                  exact x_zret (b := false) dX11_courtPart_145 rfl rfl
                · replace hf := f_if hB hf
                  refine x_iconst (v := (1)) dX11_courtPart_140 (by decide) ?_
                  refine x_goto 145 dX11_courtPart_141 (by decide) ?_
                  cases hf
                  exact x_zret (b := true) dX11_courtPart_145 rfl rfl
            replace hf := f_el hs15 hf
            by_cases hs20 : q1 = (2)
            · replace hf := f_if hs20 hf
              refine x_tabIn (2) 106 dX11_courtPart_54 hs20 (by decide) (by decide) rfl (by decide) ?_
              refine x_aload_n 1 dX11_courtPart_106 rfl rfl ?_
              obtain ⟨q16, hq17, hf⟩ := f_bd hf
              refine x_callVi [] (c_X11_aCase (I := q4) (L := L)  hq17) dX11_courtPart_107 lk_X11_251 lm_0 rfl cd_X11_aCase rfl rfl (Nat.le_of_ble_eq_true rfl) ⟨rfl, rfl, Nat.le_of_ble_eq_true rfl, Nat.le_of_ble_eq_true rfl⟩ ?_
              refine x_istore_n [(2, .int (zb q16.1)), (1, .int q1), (0, .ref 0)] dX11_courtPart_110 rfl (by decide) rfl ?_
              refine x_goto 127 dX11_courtPart_111 (by decide) ?_
              refine x_iload_n 0 dX11_courtPart_127 rfl rfl ?_
              refine x_if_eqB 144 dX11_courtPart_128 (by decide) (fun hB => ?_) (fun hB => ?_)
              · replace hf := f_el hB hf
                refine x_iconst (v := (0)) dX11_courtPart_144 (by decide) ?_
                cases hf
                exact x_zret (b := false) dX11_courtPart_145 rfl rfl
              · replace hf := f_if hB hf
                refine x_aload_n 2 dX11_courtPart_131 rfl rfl ?_
                refine x_bipush (v := (59)) dX11_courtPart_132 (by decide) ?_
                obtain ⟨q18, hq19, hf⟩ := f_bd hf
                refine x_callVi [.int (59 : Int32)] (c_X11_wantSign (I := q16.2.1) (L := q16.2.2)  hq19) dX11_courtPart_134 lk_X11_260 lm_0 rfl cd_X11_wantSign rfl rfl (Nat.le_of_ble_eq_true rfl) ⟨rfl, rfl, Nat.le_of_ble_eq_true rfl, Nat.le_of_ble_eq_true rfl⟩ ?_
                refine x_if_eqB 144 dX11_courtPart_137 (by decide) (fun hB => ?_) (fun hB => ?_)
                · replace hf := f_el hB hf
                  refine x_iconst (v := (0)) dX11_courtPart_144 (by decide) ?_
                  cases hf
                  exact x_zret (b := false) dX11_courtPart_145 rfl rfl
                · replace hf := f_if hB hf
                  refine x_iconst (v := (1)) dX11_courtPart_140 (by decide) ?_
                  refine x_goto 145 dX11_courtPart_141 (by decide) ?_
                  cases hf
                  exact x_zret (b := true) dX11_courtPart_145 rfl rfl
            replace hf := f_el hs20 hf
            by_cases hs25 : q1 = (3)
            · replace hf := f_if hs25 hf
              refine x_tabIn (3) 114 dX11_courtPart_54 hs25 (by decide) (by decide) rfl (by decide) ?_
              refine x_aload_n 1 dX11_courtPart_114 rfl rfl ?_
              obtain ⟨q21, hq22, hf⟩ := f_bd hf
              refine x_callVi [] (c_X11_aClaim (I := q4) (L := L)  hq22) dX11_courtPart_115 lk_X11_254 lm_0 rfl cd_X11_aClaim rfl rfl (Nat.le_of_ble_eq_true rfl) ⟨rfl, rfl, Nat.le_of_ble_eq_true rfl, Nat.le_of_ble_eq_true rfl⟩ ?_
              refine x_istore_n [(2, .int (zb q21.1)), (1, .int q1), (0, .ref 0)] dX11_courtPart_118 rfl (by decide) rfl ?_
              refine x_goto 127 dX11_courtPart_119 (by decide) ?_
              refine x_iload_n 0 dX11_courtPart_127 rfl rfl ?_
              refine x_if_eqB 144 dX11_courtPart_128 (by decide) (fun hB => ?_) (fun hB => ?_)
              · replace hf := f_el hB hf
                refine x_iconst (v := (0)) dX11_courtPart_144 (by decide) ?_
                cases hf
                exact x_zret (b := false) dX11_courtPart_145 rfl rfl
              · replace hf := f_if hB hf
                refine x_aload_n 2 dX11_courtPart_131 rfl rfl ?_
                refine x_bipush (v := (59)) dX11_courtPart_132 (by decide) ?_
                obtain ⟨q23, hq24, hf⟩ := f_bd hf
                refine x_callVi [.int (59 : Int32)] (c_X11_wantSign (I := q21.2.1) (L := q21.2.2)  hq24) dX11_courtPart_134 lk_X11_260 lm_0 rfl cd_X11_wantSign rfl rfl (Nat.le_of_ble_eq_true rfl) ⟨rfl, rfl, Nat.le_of_ble_eq_true rfl, Nat.le_of_ble_eq_true rfl⟩ ?_
                refine x_if_eqB 144 dX11_courtPart_137 (by decide) (fun hB => ?_) (fun hB => ?_)
                · replace hf := f_el hB hf
                  refine x_iconst (v := (0)) dX11_courtPart_144 (by decide) ?_
                  cases hf
                  exact x_zret (b := false) dX11_courtPart_145 rfl rfl
                · replace hf := f_if hB hf
                  refine x_iconst (v := (1)) dX11_courtPart_140 (by decide) ?_
                  refine x_goto 145 dX11_courtPart_141 (by decide) ?_
                  cases hf
                  exact x_zret (b := true) dX11_courtPart_145 rfl rfl
            replace hf := f_el hs25 hf
            refine x_tabOut 122 dX11_courtPart_54 (by have := lv_neT (a := 0) hs10 (by decide); have := lv_neT (a := 1) hs15 (by decide); have := lv_neT (a := 2) hs20 (by decide); have := lv_neT (a := 3) hs25 (by decide); omega) (by decide) ?_
            refine x_aload_n 1 dX11_courtPart_122 rfl rfl ?_
            obtain ⟨q26, hq27, hf⟩ := f_bd hf
            refine x_callVi [] (c_X11_aScholar (I := q4) (L := L)  hq27) dX11_courtPart_123 lk_X11_257 lm_0 rfl cd_X11_aScholar rfl rfl (Nat.le_of_ble_eq_true rfl) ⟨rfl, rfl, Nat.le_of_ble_eq_true rfl, Nat.le_of_ble_eq_true rfl⟩ ?_
            refine x_istore_n [(2, .int (zb q26.1)), (1, .int q1), (0, .ref 0)] dX11_courtPart_126 rfl (by decide) rfl ?_
            refine x_iload_n 0 dX11_courtPart_127 rfl rfl ?_
            refine x_if_eqB 144 dX11_courtPart_128 (by decide) (fun hB => ?_) (fun hB => ?_)
            · replace hf := f_el hB hf
              refine x_iconst (v := (0)) dX11_courtPart_144 (by decide) ?_
              cases hf
              exact x_zret (b := false) dX11_courtPart_145 rfl rfl
            · replace hf := f_if hB hf
              refine x_aload_n 2 dX11_courtPart_131 rfl rfl ?_
              refine x_bipush (v := (59)) dX11_courtPart_132 (by decide) ?_
              obtain ⟨q28, hq29, hf⟩ := f_bd hf
              refine x_callVi [.int (59 : Int32)] (c_X11_wantSign (I := q26.2.1) (L := q26.2.2)  hq29) dX11_courtPart_134 lk_X11_260 lm_0 rfl cd_X11_wantSign rfl rfl (Nat.le_of_ble_eq_true rfl) ⟨rfl, rfl, Nat.le_of_ble_eq_true rfl, Nat.le_of_ble_eq_true rfl⟩ ?_
              refine x_if_eqB 144 dX11_courtPart_137 (by decide) (fun hB => ?_) (fun hB => ?_)
              · replace hf := f_el hB hf
                refine x_iconst (v := (0)) dX11_courtPart_144 (by decide) ?_
                cases hf
                exact x_zret (b := false) dX11_courtPart_145 rfl rfl
              · replace hf := f_if hB hf
                refine x_iconst (v := (1)) dX11_courtPart_140 (by decide) ?_
                refine x_goto 145 dX11_courtPart_141 (by decide) ?_
                cases hf
                exact x_zret (b := true) dX11_courtPart_145 rfl rfl
        · replace hf := f_if hB hf
          refine x_aload_n 1 dX11_courtPart_34 rfl rfl ?_
          refine x_iconst (v := (5)) dX11_courtPart_35 (by decide) ?_
          refine x_callVi [.int (5 : Int32)] (c_X11_fails (I := I) (L := L) (5 : Int32)) dX11_courtPart_36 lk_X11_181 lm_0 rfl cd_X11_fails rfl rfl (Nat.le_of_ble_eq_true rfl) ⟨rfl, rfl, Nat.le_of_ble_eq_true rfl, Nat.le_of_ble_eq_true rfl⟩ ?_
          cases hf
          exact x_zret dX11_courtPart_39 rfl rfl
    · replace hf := f_el hB hf
      refine x_aload_n 1 dX11_courtPart_16 rfl rfl ?_
      refine x_iconst (v := (2)) dX11_courtPart_17 (by decide) ?_
      refine x_callVi [.int (2 : Int32)] (c_X11_fails (I := I) (L := L) (2 : Int32)) dX11_courtPart_18 lk_X11_181 lm_0 rfl cd_X11_fails rfl rfl (Nat.le_of_ble_eq_true rfl) ⟨rfl, rfl, Nat.le_of_ble_eq_true rfl, Nat.le_of_ble_eq_true rfl⟩ ?_
      cases hf
      exact x_zret dX11_courtPart_21 rfl rfl
set_option maxRecDepth 100000 in
set_option maxHeartbeats 4000000 in
theorem l_X11_court_31     {r : Int32 × z_I × z_L} (k50 : z_I → z_L → Option (Int32 × z_I × z_L)) (hk50 : ∀ (I : z_I) (L : z_L), k50 I L = some r → z_X layM RX11 cX11_court 4 (some .int) ({ frames := 9, cells := 0, slots := 0, locals := 207 } : Room) 50 [(0, .ref 0)] [] I L (some (.int r.1), r.2.1, r.2.2)) : ∀ (n : Nat) (v2 : Bool) (I : z_I) (L : z_L), g_X11_court_31  k50 n v2 I L = some r → z_X layM RX11 cX11_court 4 (some .int) ({ frames := 9, cells := 0, slots := 0, locals := 207 } : Room) 31 [(0, .ref 0), (2, .int (zb v2))] [] I L (some (.int r.1), r.2.1, r.2.2) := by
  intro n
  induction n with
  | zero => intro v2 I L hf; cases hf
  | succ n ih =>
    intro v2 I L hf
    rw [g_X11_court_31] at hf
    refine x_iload_n 1 dX11_court_31 rfl rfl ?_
    refine x_if_eqB 50 dX11_court_32 (by decide) (fun hB => ?_) (fun hB => ?_)
    · replace hf := f_el hB hf
      refine x_lv [(0, .ref 0)] [0] rfl ?_
      exact hk50 _ _ hf
    · replace hf := f_if hB hf
      refine x_aload_n 0 dX11_court_35 rfl rfl ?_
      refine x_getI (v := (I 0 12)) dX11_court_36 lm_0 fl_X11_144 rfl rfl ?_
      refine x_if_eq 50 dX11_court_39 (by decide) (fun hB => ?_) (fun hB => ?_)
      · replace hf := f_if hB hf
        refine x_lv [(0, .ref 0)] [0] rfl ?_
        exact hk50 _ _ hf
      · replace hf := f_el hB hf
        refine x_aload_n 0 dX11_court_42 rfl rfl ?_
        obtain ⟨q6, hq7, hf⟩ := f_bd hf
        refine x_callVi [] (c_X11_courtPart (I := I) (L := L)  hq7) dX11_court_43 lk_X11_266 lm_0 rfl cd_X11_courtPart rfl rfl (Nat.le_of_ble_eq_true rfl) ⟨rfl, rfl, Nat.le_of_ble_eq_true rfl, Nat.le_of_ble_eq_true rfl⟩ ?_
        refine x_istore_n [(2, .int (zb q6.1)), (0, .ref 0)] dX11_court_46 rfl (by decide) rfl ?_
        refine x_goto 31 dX11_court_47 (by decide) ?_
        refine x_lv [(0, .ref 0), (2, .int (zb q6.1))] [1, 0] rfl ?_
        exact ih _ _ _ hf
set_option maxRecDepth 100000 in
set_option maxHeartbeats 4000000 in
theorem l_X11_court_59    (L : z_L) {r : Int32 × z_I × z_L} (k88 : z_I → Option (Int32 × z_I × z_L)) (hk88 : ∀ (I : z_I), k88 I = some r → z_X layM RX11 cX11_court 4 (some .int) ({ frames := 9, cells := 0, slots := 0, locals := 207 } : Room) 88 [(0, .ref 0)] [] I L (some (.int r.1), r.2.1, r.2.2)) : ∀ (n : Nat) (v3 : Int32) (I : z_I), g_X11_court_59 L k88 n v3 I = some r → z_X layM RX11 cX11_court 4 (some .int) ({ frames := 9, cells := 0, slots := 0, locals := 207 } : Room) 59 [(0, .ref 0), (3, .int v3)] [] I L (some (.int r.1), r.2.1, r.2.2) := by
  intro n
  induction n with
  | zero => intro v3 I hf; cases hf
  | succ n ih =>
    intro v3 I hf
    rw [g_X11_court_59] at hf
    refine x_iload_n 1 dX11_court_59 rfl rfl ?_
    refine x_sipush (v := (428)) dX11_court_60 (by decide) ?_
    refine x_icmp_ge 88 dX11_court_63 (by decide) (fun hB => ?_) (fun hB => ?_)
    · replace hf := f_if hB hf
      refine x_lv [(0, .ref 0)] [0] rfl ?_
      exact hk88 _ hf
    · replace hf := f_el hB hf
      refine x_aload_n 0 dX11_court_66 rfl rfl ?_
      refine x_getR dX11_court_67 lm_0 fl_X11_7 rfl ?_
      refine x_iload_n 1 dX11_court_70 rfl rfl ?_
      refine x_aload_n 0 dX11_court_71 rfl rfl ?_
      refine x_getR dX11_court_72 lm_0 fl_X11_7 rfl ?_
      refine x_sipush (v := (1712)) dX11_court_75 (by decide) ?_
      refine x_iload_n 1 dX11_court_78 rfl rfl ?_
      refine x_iadd dX11_court_79 ?_
      obtain ⟨h8, hf⟩ := f_gd hf
      refine x_iald (j := (((1712 : Int32) + v3)).toNatClampNeg) (v := (I 1 (((1712 : Int32) + v3)).toNatClampNeg)) dX11_court_80 lm_1 h8 rfl rfl ?_
      obtain ⟨h9, hf⟩ := f_gd hf
      obtain ⟨I10, hI10, hf⟩ := f_lt hf
      refine x_iast (j0 := (v3).toNatClampNeg) dX11_court_81 lm_1 h9 rfl hI10 ?_
      refine x_iinc 1 [(3, .int (v3 + (1 : Int32))), (0, .ref 0)] dX11_court_82 rfl rfl (by decide) rfl ?_
      refine x_goto 59 dX11_court_85 (by decide) ?_
      refine x_lv [(0, .ref 0), (3, .int (v3 + (1 : Int32)))] [1, 0] rfl ?_
      exact ih _ _ hf
set_option maxRecDepth 100000 in
set_option maxHeartbeats 4000000 in
theorem l_X11_court_90    (I : z_I) {r : Int32 × z_I × z_L}  : ∀ (n : Nat) (v3 : Int32) (L : z_L), g_X11_court_90 I  n v3 L = some r → z_X layM RX11 cX11_court 4 (some .int) ({ frames := 9, cells := 0, slots := 0, locals := 207 } : Room) 90 [(0, .ref 0), (3, .int v3)] [] I L (some (.int r.1), r.2.1, r.2.2) := by
  intro n
  induction n with
  | zero => intro v3 L hf; cases hf
  | succ n ih =>
    intro v3 L hf
    rw [g_X11_court_90] at hf
    refine x_iload_n 1 dX11_court_90 rfl rfl ?_
    refine x_bipush (v := (19)) dX11_court_91 (by decide) ?_
    refine x_icmp_ge 117 dX11_court_93 (by decide) (fun hB => ?_) (fun hB => ?_)
    · replace hf := f_if hB hf
      refine x_aload_n 0 dX11_court_117 rfl rfl ?_
      refine x_aload_n 0 dX11_court_118 rfl rfl ?_
      refine x_getR dX11_court_119 lm_0 fl_X11_7 rfl ?_
      refine x_iconst (v := (2)) dX11_court_122 (by decide) ?_
      refine x_iald (j := 2) (v := (I 1 2)) dX11_court_123 lm_1 (by decide +kernel) (by decide +kernel) rfl ?_
      refine x_callVi [.int (I 1 2)] (c_X11_taken (I := I) (L := L) (I 1 2)) dX11_court_124 lk_X11_269 lm_0 rfl cd_X11_taken rfl rfl (Nat.le_of_ble_eq_true rfl) ⟨rfl, rfl, Nat.le_of_ble_eq_true rfl, Nat.le_of_ble_eq_true rfl⟩ ?_
      cases hf
      exact x_iret dX11_court_127 rfl rfl
    · replace hf := f_el hB hf
      refine x_aload_n 0 dX11_court_96 rfl rfl ?_
      refine x_getR dX11_court_97 lm_0 fl_X11_13 rfl ?_
      refine x_iload_n 1 dX11_court_100 rfl rfl ?_
      refine x_aload_n 0 dX11_court_101 rfl rfl ?_
      refine x_getR dX11_court_102 lm_0 fl_X11_13 rfl ?_
      refine x_bipush (v := (76)) dX11_court_105 (by decide) ?_
      refine x_iload_n 1 dX11_court_107 rfl rfl ?_
      refine x_iadd dX11_court_108 ?_
      obtain ⟨h12, hf⟩ := f_gd hf
      refine x_lald (j := (((76 : Int32) + v3)).toNatClampNeg) (v := (L 2 (((76 : Int32) + v3)).toNatClampNeg)) dX11_court_109 lm_2 h12 rfl rfl ?_
      obtain ⟨h13, hf⟩ := f_gd hf
      obtain ⟨L14, hL14, hf⟩ := f_lt hf
      refine x_last (j0 := (v3).toNatClampNeg) dX11_court_110 lm_2 h13 rfl hL14 ?_
      refine x_iinc 1 [(3, .int (v3 + (1 : Int32))), (0, .ref 0)] dX11_court_111 rfl rfl (by decide) rfl ?_
      refine x_goto 90 dX11_court_114 (by decide) ?_
      refine x_lv [(0, .ref 0), (3, .int (v3 + (1 : Int32)))] [1, 0] rfl ?_
      exact ih _ _ hf
set_option maxRecDepth 100000 in
set_option maxHeartbeats 4000000 in
theorem c_X11_court {I : z_I} {L : z_L} {p0 : Int32}  {r : Int32 × z_I × z_L} (hf : f_X11_court I L p0 = some r) : z_C layM yX11_court cX11_court 4 (some .int) ({ frames := 9, cells := 0, slots := 0, locals := 207 } : Room) [.ref 0, .int p0] I L (some (.int r.1), r.2.1, r.2.2) := by
  refine z_C.of (by decide) (Nat.le_of_ble_eq_true rfl) ?_
  show z_X layM RX11 cX11_court 4 (some .int) ({ frames := 9, cells := 0, slots := 0, locals := 207 } : Room) 0 [(0, .ref 0), (1, .int p0)] [] I L (some (.int r.1), r.2.1, r.2.2)
  unfold f_X11_court at hf
  refine x_aload_n 0 dX11_court_0 rfl rfl ?_
  refine x_iload_n 1 dX11_court_1 rfl rfl ?_
  refine x_sipush (v := (900)) dX11_court_2 (by decide) ?_
  obtain ⟨q1, hq2, hf⟩ := f_bd hf
  refine x_callVi [.int p0, .int (900 : Int32)] (c_X11_begins (I := I) (L := L)  hq2) dX11_court_5 lk_X11_263 lm_0 rfl cd_X11_begins rfl rfl (Nat.le_of_ble_eq_true rfl) ⟨rfl, rfl, Nat.le_of_ble_eq_true rfl, Nat.le_of_ble_eq_true rfl⟩ ?_
  refine x_if_neB 17 dX11_court_8 (by decide) (fun hB => ?_) (fun hB => ?_)
  · replace hf := f_if hB hf
    refine x_aload_n 0 dX11_court_17 rfl rfl ?_
    refine x_sipush (v := (1712)) dX11_court_18 (by decide) ?_
    obtain ⟨q3, hq4, hf⟩ := f_bd hf
    refine x_callVv [.int (1712 : Int32)] (c_X11_plain (I := q1.2) (L := L)  hq4) dX11_court_21 lk_X11_89 lm_0 rfl cd_X11_plain rfl rfl (Nat.le_of_ble_eq_true rfl) ⟨rfl, rfl, Nat.le_of_ble_eq_true rfl, Nat.le_of_ble_eq_true rfl⟩ ?_
    refine x_aload_n 0 dX11_court_24 rfl rfl ?_
    refine x_iconst (v := (0)) dX11_court_25 (by decide) ?_
    obtain ⟨I5, hI5, hf⟩ := f_lt hf
    refine x_putI dX11_court_26 lm_0 fl_X11_245 rfl rfl rfl hI5 ?_
    refine x_iconst (v := (1)) dX11_court_29 (by decide) ?_
    refine x_istore_n [(2, .int (1 : Int32)), (0, .ref 0), (1, .int p0)] dX11_court_30 rfl (by decide) rfl ?_
    refine x_lv [(0, .ref 0), (2, .int (zb true))] [1, 0] rfl ?_
    refine l_X11_court_31  _ ?_ _ _ _ _ hf
    · intro I L hf
      refine x_aload_n 0 dX11_court_50 rfl rfl ?_
      refine x_getI (v := (I 0 18)) dX11_court_51 lm_0 fl_X11_169 rfl rfl ?_
      refine x_if_ne 117 dX11_court_54 (by decide) (fun hB => ?_) (fun hB => ?_)
      · replace hf := f_el hB hf
        refine x_aload_n 0 dX11_court_117 rfl rfl ?_
        refine x_aload_n 0 dX11_court_118 rfl rfl ?_
        refine x_getR dX11_court_119 lm_0 fl_X11_7 rfl ?_
        refine x_iconst (v := (2)) dX11_court_122 (by decide) ?_
        refine x_iald (j := 2) (v := (I 1 2)) dX11_court_123 lm_1 (by decide +kernel) (by decide +kernel) rfl ?_
        refine x_callVi [.int (I 1 2)] (c_X11_taken (I := I) (L := L) (I 1 2)) dX11_court_124 lk_X11_269 lm_0 rfl cd_X11_taken rfl rfl (Nat.le_of_ble_eq_true rfl) ⟨rfl, rfl, Nat.le_of_ble_eq_true rfl, Nat.le_of_ble_eq_true rfl⟩ ?_
        cases hf
        exact x_iret dX11_court_127 rfl rfl
      · replace hf := f_if hB hf
        refine x_iconst (v := (0)) dX11_court_57 (by decide) ?_
        refine x_istore_n [(3, .int (0 : Int32)), (0, .ref 0)] dX11_court_58 rfl (by decide) rfl ?_
        refine x_lv [(0, .ref 0), (3, .int (0 : Int32))] [1, 0] rfl ?_
        refine l_X11_court_59 (L) _ ?_ _ _ _ hf
        · intro I hf
          refine x_iconst (v := (0)) dX11_court_88 (by decide) ?_
          refine x_istore_n [(3, .int (0 : Int32)), (0, .ref 0)] dX11_court_89 rfl (by decide) rfl ?_
          refine x_lv [(0, .ref 0), (3, .int (0 : Int32))] [1, 0] rfl ?_
          refine l_X11_court_90 (I)   _ _ _ hf
  · replace hf := f_el hB hf
    refine x_aload_n 0 dX11_court_11 rfl rfl ?_
    refine x_iconst (v := (1)) dX11_court_12 (by decide) ?_
    refine x_callVi [.int (1 : Int32)] (c_X11_refuse (I := q1.2) (L := L) (1 : Int32)) dX11_court_13 lk_X11_99 lm_0 rfl cd_X11_refuse rfl rfl (Nat.le_of_ble_eq_true rfl) ⟨rfl, rfl, Nat.le_of_ble_eq_true rfl, Nat.le_of_ble_eq_true rfl⟩ ?_
    cases hf
    exact x_iret dX11_court_16 rfl rfl
set_option maxRecDepth 100000 in
set_option maxHeartbeats 4000000 in
theorem c_X11_claimTo {I : z_I} {L : z_L} {p0 : Int32}  {r : Bool × z_I} (hf : f_X11_claimTo I L p0 = some r) : z_C layM yX11_claimTo cX11_claimTo 2 (some .boolean) ({ frames := 7, cells := 0, slots := 0, locals := 160 } : Room) [.ref 0, .int p0] I L (some (.int (zb r.1)), r.2, L) := by
  refine z_C.of (by decide) (Nat.le_of_ble_eq_true rfl) ?_
  show z_X layM RX11 cX11_claimTo 2 (some .boolean) ({ frames := 7, cells := 0, slots := 0, locals := 160 } : Room) 0 [(0, .ref 0), (1, .int p0)] [] I L (some (.int (zb r.1)), r.2, L)
  unfold f_X11_claimTo at hf
  refine x_aload_n 0 dX11_claimTo_0 rfl rfl ?_
  refine x_bipush (v := (8)) dX11_claimTo_1 (by decide) ?_
  refine x_aload_n 0 dX11_claimTo_3 rfl rfl ?_
  refine x_getR dX11_claimTo_4 lm_0 fl_X11_7 rfl ?_
  refine x_iconst (v := (2)) dX11_claimTo_7 (by decide) ?_
  refine x_iald (j := 2) (v := (I 1 2)) dX11_claimTo_8 lm_1 (by decide +kernel) (by decide +kernel) rfl ?_
  refine x_iload_n 1 dX11_claimTo_9 rfl rfl ?_
  obtain ⟨q2, hq3, hf⟩ := f_bd hf
  refine x_callVi [.int (8 : Int32), .int (I 1 2), .int p0] (c_X11_oldOne (I := I) (L := L)  hq3) dX11_claimTo_10 lk_X11_239 lm_0 rfl cd_X11_oldOne rfl rfl (Nat.le_of_ble_eq_true rfl) ⟨rfl, rfl, Nat.le_of_ble_eq_true rfl, Nat.le_of_ble_eq_true rfl⟩ ?_
  cases hf
  exact x_zret dX11_claimTo_13 rfl rfl
set_option maxRecDepth 100000 in
set_option maxHeartbeats 4000000 in
theorem c_X11_scholarTo {I : z_I} {L : z_L} {p0 : Int32}  {r : Bool × z_I} (hf : f_X11_scholarTo I L p0 = some r) : z_C layM yX11_scholarTo cX11_scholarTo 2 (some .boolean) ({ frames := 7, cells := 0, slots := 0, locals := 160 } : Room) [.ref 0, .int p0] I L (some (.int (zb r.1)), r.2, L) := by
  refine z_C.of (by decide) (Nat.le_of_ble_eq_true rfl) ?_
  show z_X layM RX11 cX11_scholarTo 2 (some .boolean) ({ frames := 7, cells := 0, slots := 0, locals := 160 } : Room) 0 [(0, .ref 0), (1, .int p0)] [] I L (some (.int (zb r.1)), r.2, L)
  unfold f_X11_scholarTo at hf
  refine x_aload_n 0 dX11_scholarTo_0 rfl rfl ?_
  refine x_bipush (v := (15)) dX11_scholarTo_1 (by decide) ?_
  refine x_aload_n 0 dX11_scholarTo_3 rfl rfl ?_
  refine x_getR dX11_scholarTo_4 lm_0 fl_X11_7 rfl ?_
  refine x_iconst (v := (3)) dX11_scholarTo_7 (by decide) ?_
  refine x_iald (j := 3) (v := (I 1 3)) dX11_scholarTo_8 lm_1 (by decide +kernel) (by decide +kernel) rfl ?_
  refine x_iload_n 1 dX11_scholarTo_9 rfl rfl ?_
  obtain ⟨q2, hq3, hf⟩ := f_bd hf
  refine x_callVi [.int (15 : Int32), .int (I 1 3), .int p0] (c_X11_oldOne (I := I) (L := L)  hq3) dX11_scholarTo_10 lk_X11_239 lm_0 rfl cd_X11_oldOne rfl rfl (Nat.le_of_ble_eq_true rfl) ⟨rfl, rfl, Nat.le_of_ble_eq_true rfl, Nat.le_of_ble_eq_true rfl⟩ ?_
  cases hf
  exact x_zret dX11_scholarTo_13 rfl rfl
set_option maxRecDepth 100000 in
set_option maxHeartbeats 4000000 in
theorem c_X11_bedTo {I : z_I} {L : z_L} {p0 : Int32}  {r : Bool × z_I} (hf : f_X11_bedTo I p0 = some r) : z_C layM yX11_bedTo cX11_bedTo 2 (some .boolean) ({ frames := 3, cells := 0, slots := 0, locals := 72 } : Room) [.ref 0, .int p0] I L (some (.int (zb r.1)), r.2, L) := by
  refine z_C.of (by decide) (Nat.le_of_ble_eq_true rfl) ?_
  show z_X layM RX11 cX11_bedTo 2 (some .boolean) ({ frames := 3, cells := 0, slots := 0, locals := 72 } : Room) 0 [(0, .ref 0), (1, .int p0)] [] I L (some (.int (zb r.1)), r.2, L)
  unfold f_X11_bedTo at hf
  refine x_aload_n 0 dX11_bedTo_0 rfl rfl ?_
  refine x_iload_n 1 dX11_bedTo_1 rfl rfl ?_
  refine x_iconst (v := (0)) dX11_bedTo_2 (by decide) ?_
  refine x_aload_n 0 dX11_bedTo_3 rfl rfl ?_
  refine x_getR dX11_bedTo_4 lm_0 fl_X11_7 rfl ?_
  refine x_iconst (v := (0)) dX11_bedTo_7 (by decide) ?_
  refine x_iald (j := 0) (v := (I 1 0)) dX11_bedTo_8 lm_1 (by decide +kernel) (by decide +kernel) rfl ?_
  refine x_iconst (v := (1)) dX11_bedTo_9 (by decide) ?_
  refine x_isub dX11_bedTo_10 ?_
  obtain ⟨q2, hq3, hf⟩ := f_bd hf
  refine x_callVi [.int p0, .int (0 : Int32), .int ((I 1 0) - (1 : Int32))] (c_X11_number (I := I) (L := L)  hq3) dX11_bedTo_11 lk_X11_197 lm_0 rfl cd_X11_number rfl rfl (Nat.le_of_ble_eq_true rfl) ⟨rfl, rfl, Nat.le_of_ble_eq_true rfl, Nat.le_of_ble_eq_true rfl⟩ ?_
  cases hf
  exact x_zret dX11_bedTo_14 rfl rfl
set_option maxRecDepth 100000 in
set_option maxHeartbeats 4000000 in
theorem c_X11_test {I : z_I} {L : z_L} {p0 : Int32}  {r : Bool × z_I} (hf : f_X11_test I L p0 = some r) : z_C layM yX11_test cX11_test 4 (some .boolean) ({ frames := 8, cells := 0, slots := 0, locals := 181 } : Room) [.ref 0, .int p0] I L (some (.int (zb r.1)), r.2, L) := by
  refine z_C.of (by decide) (Nat.le_of_ble_eq_true rfl) ?_
  show z_X layM RX11 cX11_test 4 (some .boolean) ({ frames := 8, cells := 0, slots := 0, locals := 181 } : Room) 0 [(0, .ref 0), (1, .int p0)] [] I L (some (.int (zb r.1)), r.2, L)
  unfold f_X11_test at hf
  refine x_aload_n 0 dX11_test_0 rfl rfl ?_
  refine x_ldcS dX11_test_1 ?_
  obtain ⟨q1, hq2, hf⟩ := f_bd hf
  refine x_callVi [.ref 9001] (c_X11_inWords (I := I) (L := L)  hq2) dX11_test_3 lk_X11_184 lm_0 rfl cd_X11_inWords rfl rfl (Nat.le_of_ble_eq_true rfl) ⟨rfl, rfl, Nat.le_of_ble_eq_true rfl, Nat.le_of_ble_eq_true rfl⟩ ?_
  refine x_istore_n [(2, .int q1), (0, .ref 0), (1, .int p0)] dX11_test_6 rfl (by decide) rfl ?_
  refine x_iload_n 0 dX11_test_7 rfl rfl ?_
  refine x_iconst (v := (5)) dX11_test_8 (by decide) ?_
  refine x_icmp_eq 30 dX11_test_9 (by decide) (fun hB => ?_) (fun hB => ?_)
  · replace hf := f_if hB hf
    refine x_aload_n 1 dX11_test_30 rfl rfl ?_
    refine x_getR dX11_test_31 lm_0 fl_X11_7 rfl ?_
    refine x_iload_n 2 dX11_test_34 rfl rfl ?_
    refine x_sipush (v := (1800)) dX11_test_35 (by decide) ?_
    refine x_iload_n 0 dX11_test_38 rfl rfl ?_
    refine x_iadd dX11_test_39 ?_
    obtain ⟨h3, hf⟩ := f_gd hf
    obtain ⟨I4, hI4, hf⟩ := f_lt hf
    refine x_iast (j0 := (p0).toNatClampNeg) dX11_test_40 lm_1 h3 rfl hI4 ?_
    refine x_aload_n 1 dX11_test_41 rfl rfl ?_
    obtain ⟨q5, hq6, hf⟩ := f_bd hf
    refine x_callVv [] (c_X11_ahead (I := I4) (L := L)  hq6) dX11_test_42 lk_X11_175 lm_0 rfl cd_X11_ahead rfl rfl (Nat.le_of_ble_eq_true rfl) ⟨rfl, rfl, Nat.le_of_ble_eq_true rfl, Nat.le_of_ble_eq_true rfl⟩ ?_
    refine x_iload_n 0 dX11_test_45 rfl rfl ?_
    refine x_bipush (v := (22)) dX11_test_46 (by decide) ?_
    refine x_icmp_ne 59 dX11_test_48 (by decide) (fun hB => ?_) (fun hB => ?_)
    · replace hf := f_el hB hf
      refine x_iload_n 0 dX11_test_59 rfl rfl ?_
      refine x_bipush (v := (11)) dX11_test_60 (by decide) ?_
      refine x_icmp_ne 75 dX11_test_62 (by decide) (fun hB => ?_) (fun hB => ?_)
      · replace hf := f_el hB hf
        refine x_aload_n 1 dX11_test_75 rfl rfl ?_
        refine x_iload_n 2 dX11_test_76 rfl rfl ?_
        refine x_iconst (v := (1)) dX11_test_77 (by decide) ?_
        refine x_iadd dX11_test_78 ?_
        obtain ⟨q29, hq30, hf⟩ := f_bd hf
        refine x_callVi [.int (p0 + (1 : Int32))] (c_X11_bedTo (I := q5) (L := L)  hq30) dX11_test_79 lk_X11_278 lm_0 rfl cd_X11_bedTo rfl rfl (Nat.le_of_ble_eq_true rfl) ⟨rfl, rfl, Nat.le_of_ble_eq_true rfl, Nat.le_of_ble_eq_true rfl⟩ ?_
        refine x_istore_n [(3, .int (zb q29.1)), (2, .int q1), (0, .ref 0), (1, .int p0)] dX11_test_82 rfl (by decide) rfl ?_
        refine x_iload_n 0 dX11_test_83 rfl rfl ?_
        refine x_if_neB 89 dX11_test_84 (by decide) (fun hB => ?_) (fun hB => ?_)
        · replace hf := f_if hB hf
          refine x_aload_n 2 dX11_test_89 rfl rfl ?_
          refine x_bipush (v := (60)) dX11_test_90 (by decide) ?_
          refine x_callVi [.int (60 : Int32)] (c_X11_isSign (I := q29.2) (L := L) (60 : Int32)) dX11_test_92 lk_X11_178 lm_0 rfl cd_X11_isSign rfl rfl (Nat.le_of_ble_eq_true rfl) ⟨rfl, rfl, Nat.le_of_ble_eq_true rfl, Nat.le_of_ble_eq_true rfl⟩ ?_
          refine x_if_neB 122 dX11_test_95 (by decide) (fun hB => ?_) (fun hB => ?_)
          · replace hf := f_if hB hf
            refine x_aload_n 2 dX11_test_122 rfl rfl ?_
            refine x_getR dX11_test_123 lm_0 fl_X11_7 rfl ?_
            refine x_iload_n 3 dX11_test_126 rfl rfl ?_
            refine x_iconst (v := (5)) dX11_test_127 (by decide) ?_
            refine x_iadd dX11_test_128 ?_
            refine x_aload_n 2 dX11_test_129 rfl rfl ?_
            refine x_getI (v := (q29.2 0 15)) dX11_test_130 lm_0 fl_X11_141 rfl rfl ?_
            obtain ⟨h31, hf⟩ := f_gd hf
            obtain ⟨I32, hI32, hf⟩ := f_lt hf
            refine x_iast (j0 := ((p0 + (5 : Int32))).toNatClampNeg) dX11_test_133 lm_1 h31 rfl hI32 ?_
            refine x_aload_n 2 dX11_test_134 rfl rfl ?_
            obtain ⟨q33, hq34, hf⟩ := f_bd hf
            refine x_callVv [] (c_X11_ahead (I := I32) (L := L)  hq34) dX11_test_135 lk_X11_175 lm_0 rfl cd_X11_ahead rfl rfl (Nat.le_of_ble_eq_true rfl) ⟨rfl, rfl, Nat.le_of_ble_eq_true rfl, Nat.le_of_ble_eq_true rfl⟩ ?_
            refine x_aload_n 2 dX11_test_138 rfl rfl ?_
            refine x_iload_n 3 dX11_test_139 rfl rfl ?_
            refine x_iconst (v := (2)) dX11_test_140 (by decide) ?_
            refine x_iadd dX11_test_141 ?_
            refine x_iconst (v := (0)) dX11_test_142 (by decide) ?_
            refine x_sipush (v := (9999)) dX11_test_143 (by decide) ?_
            obtain ⟨q35, hq36, hf⟩ := f_bd hf
            refine x_callVi [.int (p0 + (2 : Int32)), .int (0 : Int32), .int (9999 : Int32)] (c_X11_number (I := q33) (L := L)  hq36) dX11_test_146 lk_X11_197 lm_0 rfl cd_X11_number rfl rfl (Nat.le_of_ble_eq_true rfl) ⟨rfl, rfl, Nat.le_of_ble_eq_true rfl, Nat.le_of_ble_eq_true rfl⟩ ?_
            cases hf
            exact x_zret dX11_test_149 rfl rfl
          · replace hf := f_el hB hf
            refine x_aload_n 2 dX11_test_98 rfl rfl ?_
            refine x_bipush (v := (62)) dX11_test_99 (by decide) ?_
            refine x_callVi [.int (62 : Int32)] (c_X11_isSign (I := q29.2) (L := L) (62 : Int32)) dX11_test_101 lk_X11_178 lm_0 rfl cd_X11_isSign rfl rfl (Nat.le_of_ble_eq_true rfl) ⟨rfl, rfl, Nat.le_of_ble_eq_true rfl, Nat.le_of_ble_eq_true rfl⟩ ?_
            refine x_if_neB 122 dX11_test_104 (by decide) (fun hB => ?_) (fun hB => ?_)
            · replace hf := f_if hB hf
              refine x_aload_n 2 dX11_test_122 rfl rfl ?_
              refine x_getR dX11_test_123 lm_0 fl_X11_7 rfl ?_
              refine x_iload_n 3 dX11_test_126 rfl rfl ?_
              refine x_iconst (v := (5)) dX11_test_127 (by decide) ?_
              refine x_iadd dX11_test_128 ?_
              refine x_aload_n 2 dX11_test_129 rfl rfl ?_
              refine x_getI (v := (q29.2 0 15)) dX11_test_130 lm_0 fl_X11_141 rfl rfl ?_
              obtain ⟨h37, hf⟩ := f_gd hf
              obtain ⟨I38, hI38, hf⟩ := f_lt hf
              refine x_iast (j0 := ((p0 + (5 : Int32))).toNatClampNeg) dX11_test_133 lm_1 h37 rfl hI38 ?_
              refine x_aload_n 2 dX11_test_134 rfl rfl ?_
              obtain ⟨q39, hq40, hf⟩ := f_bd hf
              refine x_callVv [] (c_X11_ahead (I := I38) (L := L)  hq40) dX11_test_135 lk_X11_175 lm_0 rfl cd_X11_ahead rfl rfl (Nat.le_of_ble_eq_true rfl) ⟨rfl, rfl, Nat.le_of_ble_eq_true rfl, Nat.le_of_ble_eq_true rfl⟩ ?_
              refine x_aload_n 2 dX11_test_138 rfl rfl ?_
              refine x_iload_n 3 dX11_test_139 rfl rfl ?_
              refine x_iconst (v := (2)) dX11_test_140 (by decide) ?_
              refine x_iadd dX11_test_141 ?_
              refine x_iconst (v := (0)) dX11_test_142 (by decide) ?_
              refine x_sipush (v := (9999)) dX11_test_143 (by decide) ?_
              obtain ⟨q41, hq42, hf⟩ := f_bd hf
              refine x_callVi [.int (p0 + (2 : Int32)), .int (0 : Int32), .int (9999 : Int32)] (c_X11_number (I := q39) (L := L)  hq42) dX11_test_146 lk_X11_197 lm_0 rfl cd_X11_number rfl rfl (Nat.le_of_ble_eq_true rfl) ⟨rfl, rfl, Nat.le_of_ble_eq_true rfl, Nat.le_of_ble_eq_true rfl⟩ ?_
              cases hf
              exact x_zret dX11_test_149 rfl rfl
            · replace hf := f_el hB hf
              refine x_aload_n 2 dX11_test_107 rfl rfl ?_
              refine x_bipush (v := (61)) dX11_test_108 (by decide) ?_
              refine x_callVi [.int (61 : Int32)] (c_X11_isSign (I := q29.2) (L := L) (61 : Int32)) dX11_test_110 lk_X11_178 lm_0 rfl cd_X11_isSign rfl rfl (Nat.le_of_ble_eq_true rfl) ⟨rfl, rfl, Nat.le_of_ble_eq_true rfl, Nat.le_of_ble_eq_true rfl⟩ ?_
              refine x_if_neB 122 dX11_test_113 (by decide) (fun hB => ?_) (fun hB => ?_)
              · replace hf := f_if hB hf
                refine x_aload_n 2 dX11_test_122 rfl rfl ?_
                refine x_getR dX11_test_123 lm_0 fl_X11_7 rfl ?_
                refine x_iload_n 3 dX11_test_126 rfl rfl ?_
                refine x_iconst (v := (5)) dX11_test_127 (by decide) ?_
                refine x_iadd dX11_test_128 ?_
                refine x_aload_n 2 dX11_test_129 rfl rfl ?_
                refine x_getI (v := (q29.2 0 15)) dX11_test_130 lm_0 fl_X11_141 rfl rfl ?_
                obtain ⟨h43, hf⟩ := f_gd hf
                obtain ⟨I44, hI44, hf⟩ := f_lt hf
                refine x_iast (j0 := ((p0 + (5 : Int32))).toNatClampNeg) dX11_test_133 lm_1 h43 rfl hI44 ?_
                refine x_aload_n 2 dX11_test_134 rfl rfl ?_
                obtain ⟨q45, hq46, hf⟩ := f_bd hf
                refine x_callVv [] (c_X11_ahead (I := I44) (L := L)  hq46) dX11_test_135 lk_X11_175 lm_0 rfl cd_X11_ahead rfl rfl (Nat.le_of_ble_eq_true rfl) ⟨rfl, rfl, Nat.le_of_ble_eq_true rfl, Nat.le_of_ble_eq_true rfl⟩ ?_
                refine x_aload_n 2 dX11_test_138 rfl rfl ?_
                refine x_iload_n 3 dX11_test_139 rfl rfl ?_
                refine x_iconst (v := (2)) dX11_test_140 (by decide) ?_
                refine x_iadd dX11_test_141 ?_
                refine x_iconst (v := (0)) dX11_test_142 (by decide) ?_
                refine x_sipush (v := (9999)) dX11_test_143 (by decide) ?_
                obtain ⟨q47, hq48, hf⟩ := f_bd hf
                refine x_callVi [.int (p0 + (2 : Int32)), .int (0 : Int32), .int (9999 : Int32)] (c_X11_number (I := q45) (L := L)  hq48) dX11_test_146 lk_X11_197 lm_0 rfl cd_X11_number rfl rfl (Nat.le_of_ble_eq_true rfl) ⟨rfl, rfl, Nat.le_of_ble_eq_true rfl, Nat.le_of_ble_eq_true rfl⟩ ?_
                cases hf
                exact x_zret dX11_test_149 rfl rfl
              · replace hf := f_el hB hf
                refine x_aload_n 2 dX11_test_116 rfl rfl ?_
                refine x_iconst (v := (2)) dX11_test_117 (by decide) ?_
                refine x_callVi [.int (2 : Int32)] (c_X11_fails (I := q29.2) (L := L) (2 : Int32)) dX11_test_118 lk_X11_181 lm_0 rfl cd_X11_fails rfl rfl (Nat.le_of_ble_eq_true rfl) ⟨rfl, rfl, Nat.le_of_ble_eq_true rfl, Nat.le_of_ble_eq_true rfl⟩ ?_
                cases hf
                exact x_zret dX11_test_121 rfl rfl
        · replace hf := f_el hB hf
          refine x_iconst (v := (0)) dX11_test_87 (by decide) ?_
          cases hf
          exact x_zret (b := false) dX11_test_88 rfl rfl
      · replace hf := f_if hB hf
        refine x_aload_n 1 dX11_test_65 rfl rfl ?_
        refine x_iload_n 2 dX11_test_66 rfl rfl ?_
        refine x_iconst (v := (1)) dX11_test_67 (by decide) ?_
        refine x_iadd dX11_test_68 ?_
        obtain ⟨q9, hq10, hf⟩ := f_bd hf
        refine x_callVi [.int (p0 + (1 : Int32))] (c_X11_scholarTo (I := q5) (L := L)  hq10) dX11_test_69 lk_X11_275 lm_0 rfl cd_X11_scholarTo rfl rfl (Nat.le_of_ble_eq_true rfl) ⟨rfl, rfl, Nat.le_of_ble_eq_true rfl, Nat.le_of_ble_eq_true rfl⟩ ?_
        refine x_goto 82 dX11_test_72 (by decide) ?_
        refine x_istore_n [(3, .int (zb q9.1)), (2, .int q1), (0, .ref 0), (1, .int p0)] dX11_test_82 rfl (by decide) rfl ?_
        refine x_iload_n 0 dX11_test_83 rfl rfl ?_
        refine x_if_neB 89 dX11_test_84 (by decide) (fun hB => ?_) (fun hB => ?_)
        · replace hf := f_if hB hf
          refine x_aload_n 2 dX11_test_89 rfl rfl ?_
          refine x_bipush (v := (60)) dX11_test_90 (by decide) ?_
          refine x_callVi [.int (60 : Int32)] (c_X11_isSign (I := q9.2) (L := L) (60 : Int32)) dX11_test_92 lk_X11_178 lm_0 rfl cd_X11_isSign rfl rfl (Nat.le_of_ble_eq_true rfl) ⟨rfl, rfl, Nat.le_of_ble_eq_true rfl, Nat.le_of_ble_eq_true rfl⟩ ?_
          refine x_if_neB 122 dX11_test_95 (by decide) (fun hB => ?_) (fun hB => ?_)
          · replace hf := f_if hB hf
            refine x_aload_n 2 dX11_test_122 rfl rfl ?_
            refine x_getR dX11_test_123 lm_0 fl_X11_7 rfl ?_
            refine x_iload_n 3 dX11_test_126 rfl rfl ?_
            refine x_iconst (v := (5)) dX11_test_127 (by decide) ?_
            refine x_iadd dX11_test_128 ?_
            refine x_aload_n 2 dX11_test_129 rfl rfl ?_
            refine x_getI (v := (q9.2 0 15)) dX11_test_130 lm_0 fl_X11_141 rfl rfl ?_
            obtain ⟨h11, hf⟩ := f_gd hf
            obtain ⟨I12, hI12, hf⟩ := f_lt hf
            refine x_iast (j0 := ((p0 + (5 : Int32))).toNatClampNeg) dX11_test_133 lm_1 h11 rfl hI12 ?_
            refine x_aload_n 2 dX11_test_134 rfl rfl ?_
            obtain ⟨q13, hq14, hf⟩ := f_bd hf
            refine x_callVv [] (c_X11_ahead (I := I12) (L := L)  hq14) dX11_test_135 lk_X11_175 lm_0 rfl cd_X11_ahead rfl rfl (Nat.le_of_ble_eq_true rfl) ⟨rfl, rfl, Nat.le_of_ble_eq_true rfl, Nat.le_of_ble_eq_true rfl⟩ ?_
            refine x_aload_n 2 dX11_test_138 rfl rfl ?_
            refine x_iload_n 3 dX11_test_139 rfl rfl ?_
            refine x_iconst (v := (2)) dX11_test_140 (by decide) ?_
            refine x_iadd dX11_test_141 ?_
            refine x_iconst (v := (0)) dX11_test_142 (by decide) ?_
            refine x_sipush (v := (9999)) dX11_test_143 (by decide) ?_
            obtain ⟨q15, hq16, hf⟩ := f_bd hf
            refine x_callVi [.int (p0 + (2 : Int32)), .int (0 : Int32), .int (9999 : Int32)] (c_X11_number (I := q13) (L := L)  hq16) dX11_test_146 lk_X11_197 lm_0 rfl cd_X11_number rfl rfl (Nat.le_of_ble_eq_true rfl) ⟨rfl, rfl, Nat.le_of_ble_eq_true rfl, Nat.le_of_ble_eq_true rfl⟩ ?_
            cases hf
            exact x_zret dX11_test_149 rfl rfl
          · replace hf := f_el hB hf
            refine x_aload_n 2 dX11_test_98 rfl rfl ?_
            refine x_bipush (v := (62)) dX11_test_99 (by decide) ?_
            refine x_callVi [.int (62 : Int32)] (c_X11_isSign (I := q9.2) (L := L) (62 : Int32)) dX11_test_101 lk_X11_178 lm_0 rfl cd_X11_isSign rfl rfl (Nat.le_of_ble_eq_true rfl) ⟨rfl, rfl, Nat.le_of_ble_eq_true rfl, Nat.le_of_ble_eq_true rfl⟩ ?_
            refine x_if_neB 122 dX11_test_104 (by decide) (fun hB => ?_) (fun hB => ?_)
            · replace hf := f_if hB hf
              refine x_aload_n 2 dX11_test_122 rfl rfl ?_
              refine x_getR dX11_test_123 lm_0 fl_X11_7 rfl ?_
              refine x_iload_n 3 dX11_test_126 rfl rfl ?_
              refine x_iconst (v := (5)) dX11_test_127 (by decide) ?_
              refine x_iadd dX11_test_128 ?_
              refine x_aload_n 2 dX11_test_129 rfl rfl ?_
              refine x_getI (v := (q9.2 0 15)) dX11_test_130 lm_0 fl_X11_141 rfl rfl ?_
              obtain ⟨h17, hf⟩ := f_gd hf
              obtain ⟨I18, hI18, hf⟩ := f_lt hf
              refine x_iast (j0 := ((p0 + (5 : Int32))).toNatClampNeg) dX11_test_133 lm_1 h17 rfl hI18 ?_
              refine x_aload_n 2 dX11_test_134 rfl rfl ?_
              obtain ⟨q19, hq20, hf⟩ := f_bd hf
              refine x_callVv [] (c_X11_ahead (I := I18) (L := L)  hq20) dX11_test_135 lk_X11_175 lm_0 rfl cd_X11_ahead rfl rfl (Nat.le_of_ble_eq_true rfl) ⟨rfl, rfl, Nat.le_of_ble_eq_true rfl, Nat.le_of_ble_eq_true rfl⟩ ?_
              refine x_aload_n 2 dX11_test_138 rfl rfl ?_
              refine x_iload_n 3 dX11_test_139 rfl rfl ?_
              refine x_iconst (v := (2)) dX11_test_140 (by decide) ?_
              refine x_iadd dX11_test_141 ?_
              refine x_iconst (v := (0)) dX11_test_142 (by decide) ?_
              refine x_sipush (v := (9999)) dX11_test_143 (by decide) ?_
              obtain ⟨q21, hq22, hf⟩ := f_bd hf
              refine x_callVi [.int (p0 + (2 : Int32)), .int (0 : Int32), .int (9999 : Int32)] (c_X11_number (I := q19) (L := L)  hq22) dX11_test_146 lk_X11_197 lm_0 rfl cd_X11_number rfl rfl (Nat.le_of_ble_eq_true rfl) ⟨rfl, rfl, Nat.le_of_ble_eq_true rfl, Nat.le_of_ble_eq_true rfl⟩ ?_
              cases hf
              exact x_zret dX11_test_149 rfl rfl
            · replace hf := f_el hB hf
              refine x_aload_n 2 dX11_test_107 rfl rfl ?_
              refine x_bipush (v := (61)) dX11_test_108 (by decide) ?_
              refine x_callVi [.int (61 : Int32)] (c_X11_isSign (I := q9.2) (L := L) (61 : Int32)) dX11_test_110 lk_X11_178 lm_0 rfl cd_X11_isSign rfl rfl (Nat.le_of_ble_eq_true rfl) ⟨rfl, rfl, Nat.le_of_ble_eq_true rfl, Nat.le_of_ble_eq_true rfl⟩ ?_
              refine x_if_neB 122 dX11_test_113 (by decide) (fun hB => ?_) (fun hB => ?_)
              · replace hf := f_if hB hf
                refine x_aload_n 2 dX11_test_122 rfl rfl ?_
                refine x_getR dX11_test_123 lm_0 fl_X11_7 rfl ?_
                refine x_iload_n 3 dX11_test_126 rfl rfl ?_
                refine x_iconst (v := (5)) dX11_test_127 (by decide) ?_
                refine x_iadd dX11_test_128 ?_
                refine x_aload_n 2 dX11_test_129 rfl rfl ?_
                refine x_getI (v := (q9.2 0 15)) dX11_test_130 lm_0 fl_X11_141 rfl rfl ?_
                obtain ⟨h23, hf⟩ := f_gd hf
                obtain ⟨I24, hI24, hf⟩ := f_lt hf
                refine x_iast (j0 := ((p0 + (5 : Int32))).toNatClampNeg) dX11_test_133 lm_1 h23 rfl hI24 ?_
                refine x_aload_n 2 dX11_test_134 rfl rfl ?_
                obtain ⟨q25, hq26, hf⟩ := f_bd hf
                refine x_callVv [] (c_X11_ahead (I := I24) (L := L)  hq26) dX11_test_135 lk_X11_175 lm_0 rfl cd_X11_ahead rfl rfl (Nat.le_of_ble_eq_true rfl) ⟨rfl, rfl, Nat.le_of_ble_eq_true rfl, Nat.le_of_ble_eq_true rfl⟩ ?_
                refine x_aload_n 2 dX11_test_138 rfl rfl ?_
                refine x_iload_n 3 dX11_test_139 rfl rfl ?_
                refine x_iconst (v := (2)) dX11_test_140 (by decide) ?_
                refine x_iadd dX11_test_141 ?_
                refine x_iconst (v := (0)) dX11_test_142 (by decide) ?_
                refine x_sipush (v := (9999)) dX11_test_143 (by decide) ?_
                obtain ⟨q27, hq28, hf⟩ := f_bd hf
                refine x_callVi [.int (p0 + (2 : Int32)), .int (0 : Int32), .int (9999 : Int32)] (c_X11_number (I := q25) (L := L)  hq28) dX11_test_146 lk_X11_197 lm_0 rfl cd_X11_number rfl rfl (Nat.le_of_ble_eq_true rfl) ⟨rfl, rfl, Nat.le_of_ble_eq_true rfl, Nat.le_of_ble_eq_true rfl⟩ ?_
                cases hf
                exact x_zret dX11_test_149 rfl rfl
              · replace hf := f_el hB hf
                refine x_aload_n 2 dX11_test_116 rfl rfl ?_
                refine x_iconst (v := (2)) dX11_test_117 (by decide) ?_
                refine x_callVi [.int (2 : Int32)] (c_X11_fails (I := q9.2) (L := L) (2 : Int32)) dX11_test_118 lk_X11_181 lm_0 rfl cd_X11_fails rfl rfl (Nat.le_of_ble_eq_true rfl) ⟨rfl, rfl, Nat.le_of_ble_eq_true rfl, Nat.le_of_ble_eq_true rfl⟩ ?_
                cases hf
                exact x_zret dX11_test_121 rfl rfl
        · replace hf := f_el hB hf
          refine x_iconst (v := (0)) dX11_test_87 (by decide) ?_
          cases hf
          exact x_zret (b := false) dX11_test_88 rfl rfl
    · replace hf := f_if hB hf
      refine x_aload_n 1 dX11_test_51 rfl rfl ?_
      refine x_iload_n 2 dX11_test_52 rfl rfl ?_
      refine x_iconst (v := (1)) dX11_test_53 (by decide) ?_
      refine x_iadd dX11_test_54 ?_
      obtain ⟨q7, hq8, hf⟩ := f_bd hf
      refine x_callVi [.int (p0 + (1 : Int32))] (c_X11_claimTo (I := q5) (L := L)  hq8) dX11_test_55 lk_X11_272 lm_0 rfl cd_X11_claimTo rfl rfl (Nat.le_of_ble_eq_true rfl) ⟨rfl, rfl, Nat.le_of_ble_eq_true rfl, Nat.le_of_ble_eq_true rfl⟩ ?_
      cases hf
      exact x_zret dX11_test_58 rfl rfl
  · replace hf := f_el hB hf
    refine x_iload_n 0 dX11_test_12 rfl rfl ?_
    refine x_bipush (v := (11)) dX11_test_13 (by decide) ?_
    refine x_icmp_eq 30 dX11_test_15 (by decide) (fun hB => ?_) (fun hB => ?_)
    · replace hf := f_if hB hf
      refine x_aload_n 1 dX11_test_30 rfl rfl ?_
      refine x_getR dX11_test_31 lm_0 fl_X11_7 rfl ?_
      refine x_iload_n 2 dX11_test_34 rfl rfl ?_
      refine x_sipush (v := (1800)) dX11_test_35 (by decide) ?_
      refine x_iload_n 0 dX11_test_38 rfl rfl ?_
      refine x_iadd dX11_test_39 ?_
      obtain ⟨h49, hf⟩ := f_gd hf
      obtain ⟨I50, hI50, hf⟩ := f_lt hf
      refine x_iast (j0 := (p0).toNatClampNeg) dX11_test_40 lm_1 h49 rfl hI50 ?_
      refine x_aload_n 1 dX11_test_41 rfl rfl ?_
      obtain ⟨q51, hq52, hf⟩ := f_bd hf
      refine x_callVv [] (c_X11_ahead (I := I50) (L := L)  hq52) dX11_test_42 lk_X11_175 lm_0 rfl cd_X11_ahead rfl rfl (Nat.le_of_ble_eq_true rfl) ⟨rfl, rfl, Nat.le_of_ble_eq_true rfl, Nat.le_of_ble_eq_true rfl⟩ ?_
      refine x_iload_n 0 dX11_test_45 rfl rfl ?_
      refine x_bipush (v := (22)) dX11_test_46 (by decide) ?_
      refine x_icmp_ne 59 dX11_test_48 (by decide) (fun hB => ?_) (fun hB => ?_)
      · replace hf := f_el hB hf
        refine x_iload_n 0 dX11_test_59 rfl rfl ?_
        refine x_bipush (v := (11)) dX11_test_60 (by decide) ?_
        refine x_icmp_ne 75 dX11_test_62 (by decide) (fun hB => ?_) (fun hB => ?_)
        · replace hf := f_el hB hf
          refine x_aload_n 1 dX11_test_75 rfl rfl ?_
          refine x_iload_n 2 dX11_test_76 rfl rfl ?_
          refine x_iconst (v := (1)) dX11_test_77 (by decide) ?_
          refine x_iadd dX11_test_78 ?_
          obtain ⟨q75, hq76, hf⟩ := f_bd hf
          refine x_callVi [.int (p0 + (1 : Int32))] (c_X11_bedTo (I := q51) (L := L)  hq76) dX11_test_79 lk_X11_278 lm_0 rfl cd_X11_bedTo rfl rfl (Nat.le_of_ble_eq_true rfl) ⟨rfl, rfl, Nat.le_of_ble_eq_true rfl, Nat.le_of_ble_eq_true rfl⟩ ?_
          refine x_istore_n [(3, .int (zb q75.1)), (2, .int q1), (0, .ref 0), (1, .int p0)] dX11_test_82 rfl (by decide) rfl ?_
          refine x_iload_n 0 dX11_test_83 rfl rfl ?_
          refine x_if_neB 89 dX11_test_84 (by decide) (fun hB => ?_) (fun hB => ?_)
          · replace hf := f_if hB hf
            refine x_aload_n 2 dX11_test_89 rfl rfl ?_
            refine x_bipush (v := (60)) dX11_test_90 (by decide) ?_
            refine x_callVi [.int (60 : Int32)] (c_X11_isSign (I := q75.2) (L := L) (60 : Int32)) dX11_test_92 lk_X11_178 lm_0 rfl cd_X11_isSign rfl rfl (Nat.le_of_ble_eq_true rfl) ⟨rfl, rfl, Nat.le_of_ble_eq_true rfl, Nat.le_of_ble_eq_true rfl⟩ ?_
            refine x_if_neB 122 dX11_test_95 (by decide) (fun hB => ?_) (fun hB => ?_)
            · replace hf := f_if hB hf
              refine x_aload_n 2 dX11_test_122 rfl rfl ?_
              refine x_getR dX11_test_123 lm_0 fl_X11_7 rfl ?_
              refine x_iload_n 3 dX11_test_126 rfl rfl ?_
              refine x_iconst (v := (5)) dX11_test_127 (by decide) ?_
              refine x_iadd dX11_test_128 ?_
              refine x_aload_n 2 dX11_test_129 rfl rfl ?_
              refine x_getI (v := (q75.2 0 15)) dX11_test_130 lm_0 fl_X11_141 rfl rfl ?_
              obtain ⟨h77, hf⟩ := f_gd hf
              obtain ⟨I78, hI78, hf⟩ := f_lt hf
              refine x_iast (j0 := ((p0 + (5 : Int32))).toNatClampNeg) dX11_test_133 lm_1 h77 rfl hI78 ?_
              refine x_aload_n 2 dX11_test_134 rfl rfl ?_
              obtain ⟨q79, hq80, hf⟩ := f_bd hf
              refine x_callVv [] (c_X11_ahead (I := I78) (L := L)  hq80) dX11_test_135 lk_X11_175 lm_0 rfl cd_X11_ahead rfl rfl (Nat.le_of_ble_eq_true rfl) ⟨rfl, rfl, Nat.le_of_ble_eq_true rfl, Nat.le_of_ble_eq_true rfl⟩ ?_
              refine x_aload_n 2 dX11_test_138 rfl rfl ?_
              refine x_iload_n 3 dX11_test_139 rfl rfl ?_
              refine x_iconst (v := (2)) dX11_test_140 (by decide) ?_
              refine x_iadd dX11_test_141 ?_
              refine x_iconst (v := (0)) dX11_test_142 (by decide) ?_
              refine x_sipush (v := (9999)) dX11_test_143 (by decide) ?_
              obtain ⟨q81, hq82, hf⟩ := f_bd hf
              refine x_callVi [.int (p0 + (2 : Int32)), .int (0 : Int32), .int (9999 : Int32)] (c_X11_number (I := q79) (L := L)  hq82) dX11_test_146 lk_X11_197 lm_0 rfl cd_X11_number rfl rfl (Nat.le_of_ble_eq_true rfl) ⟨rfl, rfl, Nat.le_of_ble_eq_true rfl, Nat.le_of_ble_eq_true rfl⟩ ?_
              cases hf
              exact x_zret dX11_test_149 rfl rfl
            · replace hf := f_el hB hf
              refine x_aload_n 2 dX11_test_98 rfl rfl ?_
              refine x_bipush (v := (62)) dX11_test_99 (by decide) ?_
              refine x_callVi [.int (62 : Int32)] (c_X11_isSign (I := q75.2) (L := L) (62 : Int32)) dX11_test_101 lk_X11_178 lm_0 rfl cd_X11_isSign rfl rfl (Nat.le_of_ble_eq_true rfl) ⟨rfl, rfl, Nat.le_of_ble_eq_true rfl, Nat.le_of_ble_eq_true rfl⟩ ?_
              refine x_if_neB 122 dX11_test_104 (by decide) (fun hB => ?_) (fun hB => ?_)
              · replace hf := f_if hB hf
                refine x_aload_n 2 dX11_test_122 rfl rfl ?_
                refine x_getR dX11_test_123 lm_0 fl_X11_7 rfl ?_
                refine x_iload_n 3 dX11_test_126 rfl rfl ?_
                refine x_iconst (v := (5)) dX11_test_127 (by decide) ?_
                refine x_iadd dX11_test_128 ?_
                refine x_aload_n 2 dX11_test_129 rfl rfl ?_
                refine x_getI (v := (q75.2 0 15)) dX11_test_130 lm_0 fl_X11_141 rfl rfl ?_
                obtain ⟨h83, hf⟩ := f_gd hf
                obtain ⟨I84, hI84, hf⟩ := f_lt hf
                refine x_iast (j0 := ((p0 + (5 : Int32))).toNatClampNeg) dX11_test_133 lm_1 h83 rfl hI84 ?_
                refine x_aload_n 2 dX11_test_134 rfl rfl ?_
                obtain ⟨q85, hq86, hf⟩ := f_bd hf
                refine x_callVv [] (c_X11_ahead (I := I84) (L := L)  hq86) dX11_test_135 lk_X11_175 lm_0 rfl cd_X11_ahead rfl rfl (Nat.le_of_ble_eq_true rfl) ⟨rfl, rfl, Nat.le_of_ble_eq_true rfl, Nat.le_of_ble_eq_true rfl⟩ ?_
                refine x_aload_n 2 dX11_test_138 rfl rfl ?_
                refine x_iload_n 3 dX11_test_139 rfl rfl ?_
                refine x_iconst (v := (2)) dX11_test_140 (by decide) ?_
                refine x_iadd dX11_test_141 ?_
                refine x_iconst (v := (0)) dX11_test_142 (by decide) ?_
                refine x_sipush (v := (9999)) dX11_test_143 (by decide) ?_
                obtain ⟨q87, hq88, hf⟩ := f_bd hf
                refine x_callVi [.int (p0 + (2 : Int32)), .int (0 : Int32), .int (9999 : Int32)] (c_X11_number (I := q85) (L := L)  hq88) dX11_test_146 lk_X11_197 lm_0 rfl cd_X11_number rfl rfl (Nat.le_of_ble_eq_true rfl) ⟨rfl, rfl, Nat.le_of_ble_eq_true rfl, Nat.le_of_ble_eq_true rfl⟩ ?_
                cases hf
                exact x_zret dX11_test_149 rfl rfl
              · replace hf := f_el hB hf
                refine x_aload_n 2 dX11_test_107 rfl rfl ?_
                refine x_bipush (v := (61)) dX11_test_108 (by decide) ?_
                refine x_callVi [.int (61 : Int32)] (c_X11_isSign (I := q75.2) (L := L) (61 : Int32)) dX11_test_110 lk_X11_178 lm_0 rfl cd_X11_isSign rfl rfl (Nat.le_of_ble_eq_true rfl) ⟨rfl, rfl, Nat.le_of_ble_eq_true rfl, Nat.le_of_ble_eq_true rfl⟩ ?_
                refine x_if_neB 122 dX11_test_113 (by decide) (fun hB => ?_) (fun hB => ?_)
                · replace hf := f_if hB hf
                  refine x_aload_n 2 dX11_test_122 rfl rfl ?_
                  refine x_getR dX11_test_123 lm_0 fl_X11_7 rfl ?_
                  refine x_iload_n 3 dX11_test_126 rfl rfl ?_
                  refine x_iconst (v := (5)) dX11_test_127 (by decide) ?_
                  refine x_iadd dX11_test_128 ?_
                  refine x_aload_n 2 dX11_test_129 rfl rfl ?_
                  refine x_getI (v := (q75.2 0 15)) dX11_test_130 lm_0 fl_X11_141 rfl rfl ?_
                  obtain ⟨h89, hf⟩ := f_gd hf
                  obtain ⟨I90, hI90, hf⟩ := f_lt hf
                  refine x_iast (j0 := ((p0 + (5 : Int32))).toNatClampNeg) dX11_test_133 lm_1 h89 rfl hI90 ?_
                  refine x_aload_n 2 dX11_test_134 rfl rfl ?_
                  obtain ⟨q91, hq92, hf⟩ := f_bd hf
                  refine x_callVv [] (c_X11_ahead (I := I90) (L := L)  hq92) dX11_test_135 lk_X11_175 lm_0 rfl cd_X11_ahead rfl rfl (Nat.le_of_ble_eq_true rfl) ⟨rfl, rfl, Nat.le_of_ble_eq_true rfl, Nat.le_of_ble_eq_true rfl⟩ ?_
                  refine x_aload_n 2 dX11_test_138 rfl rfl ?_
                  refine x_iload_n 3 dX11_test_139 rfl rfl ?_
                  refine x_iconst (v := (2)) dX11_test_140 (by decide) ?_
                  refine x_iadd dX11_test_141 ?_
                  refine x_iconst (v := (0)) dX11_test_142 (by decide) ?_
                  refine x_sipush (v := (9999)) dX11_test_143 (by decide) ?_
                  obtain ⟨q93, hq94, hf⟩ := f_bd hf
                  refine x_callVi [.int (p0 + (2 : Int32)), .int (0 : Int32), .int (9999 : Int32)] (c_X11_number (I := q91) (L := L)  hq94) dX11_test_146 lk_X11_197 lm_0 rfl cd_X11_number rfl rfl (Nat.le_of_ble_eq_true rfl) ⟨rfl, rfl, Nat.le_of_ble_eq_true rfl, Nat.le_of_ble_eq_true rfl⟩ ?_
                  cases hf
                  exact x_zret dX11_test_149 rfl rfl
                · replace hf := f_el hB hf
                  refine x_aload_n 2 dX11_test_116 rfl rfl ?_
                  refine x_iconst (v := (2)) dX11_test_117 (by decide) ?_
                  refine x_callVi [.int (2 : Int32)] (c_X11_fails (I := q75.2) (L := L) (2 : Int32)) dX11_test_118 lk_X11_181 lm_0 rfl cd_X11_fails rfl rfl (Nat.le_of_ble_eq_true rfl) ⟨rfl, rfl, Nat.le_of_ble_eq_true rfl, Nat.le_of_ble_eq_true rfl⟩ ?_
                  cases hf
                  exact x_zret dX11_test_121 rfl rfl
          · replace hf := f_el hB hf
            refine x_iconst (v := (0)) dX11_test_87 (by decide) ?_
            cases hf
            exact x_zret (b := false) dX11_test_88 rfl rfl
        · replace hf := f_if hB hf
          refine x_aload_n 1 dX11_test_65 rfl rfl ?_
          refine x_iload_n 2 dX11_test_66 rfl rfl ?_
          refine x_iconst (v := (1)) dX11_test_67 (by decide) ?_
          refine x_iadd dX11_test_68 ?_
          obtain ⟨q55, hq56, hf⟩ := f_bd hf
          refine x_callVi [.int (p0 + (1 : Int32))] (c_X11_scholarTo (I := q51) (L := L)  hq56) dX11_test_69 lk_X11_275 lm_0 rfl cd_X11_scholarTo rfl rfl (Nat.le_of_ble_eq_true rfl) ⟨rfl, rfl, Nat.le_of_ble_eq_true rfl, Nat.le_of_ble_eq_true rfl⟩ ?_
          refine x_goto 82 dX11_test_72 (by decide) ?_
          refine x_istore_n [(3, .int (zb q55.1)), (2, .int q1), (0, .ref 0), (1, .int p0)] dX11_test_82 rfl (by decide) rfl ?_
          refine x_iload_n 0 dX11_test_83 rfl rfl ?_
          refine x_if_neB 89 dX11_test_84 (by decide) (fun hB => ?_) (fun hB => ?_)
          · replace hf := f_if hB hf
            refine x_aload_n 2 dX11_test_89 rfl rfl ?_
            refine x_bipush (v := (60)) dX11_test_90 (by decide) ?_
            refine x_callVi [.int (60 : Int32)] (c_X11_isSign (I := q55.2) (L := L) (60 : Int32)) dX11_test_92 lk_X11_178 lm_0 rfl cd_X11_isSign rfl rfl (Nat.le_of_ble_eq_true rfl) ⟨rfl, rfl, Nat.le_of_ble_eq_true rfl, Nat.le_of_ble_eq_true rfl⟩ ?_
            refine x_if_neB 122 dX11_test_95 (by decide) (fun hB => ?_) (fun hB => ?_)
            · replace hf := f_if hB hf
              refine x_aload_n 2 dX11_test_122 rfl rfl ?_
              refine x_getR dX11_test_123 lm_0 fl_X11_7 rfl ?_
              refine x_iload_n 3 dX11_test_126 rfl rfl ?_
              refine x_iconst (v := (5)) dX11_test_127 (by decide) ?_
              refine x_iadd dX11_test_128 ?_
              refine x_aload_n 2 dX11_test_129 rfl rfl ?_
              refine x_getI (v := (q55.2 0 15)) dX11_test_130 lm_0 fl_X11_141 rfl rfl ?_
              obtain ⟨h57, hf⟩ := f_gd hf
              obtain ⟨I58, hI58, hf⟩ := f_lt hf
              refine x_iast (j0 := ((p0 + (5 : Int32))).toNatClampNeg) dX11_test_133 lm_1 h57 rfl hI58 ?_
              refine x_aload_n 2 dX11_test_134 rfl rfl ?_
              obtain ⟨q59, hq60, hf⟩ := f_bd hf
              refine x_callVv [] (c_X11_ahead (I := I58) (L := L)  hq60) dX11_test_135 lk_X11_175 lm_0 rfl cd_X11_ahead rfl rfl (Nat.le_of_ble_eq_true rfl) ⟨rfl, rfl, Nat.le_of_ble_eq_true rfl, Nat.le_of_ble_eq_true rfl⟩ ?_
              refine x_aload_n 2 dX11_test_138 rfl rfl ?_
              refine x_iload_n 3 dX11_test_139 rfl rfl ?_
              refine x_iconst (v := (2)) dX11_test_140 (by decide) ?_
              refine x_iadd dX11_test_141 ?_
              refine x_iconst (v := (0)) dX11_test_142 (by decide) ?_
              refine x_sipush (v := (9999)) dX11_test_143 (by decide) ?_
              obtain ⟨q61, hq62, hf⟩ := f_bd hf
              refine x_callVi [.int (p0 + (2 : Int32)), .int (0 : Int32), .int (9999 : Int32)] (c_X11_number (I := q59) (L := L)  hq62) dX11_test_146 lk_X11_197 lm_0 rfl cd_X11_number rfl rfl (Nat.le_of_ble_eq_true rfl) ⟨rfl, rfl, Nat.le_of_ble_eq_true rfl, Nat.le_of_ble_eq_true rfl⟩ ?_
              cases hf
              exact x_zret dX11_test_149 rfl rfl
            · replace hf := f_el hB hf
              refine x_aload_n 2 dX11_test_98 rfl rfl ?_
              refine x_bipush (v := (62)) dX11_test_99 (by decide) ?_
              refine x_callVi [.int (62 : Int32)] (c_X11_isSign (I := q55.2) (L := L) (62 : Int32)) dX11_test_101 lk_X11_178 lm_0 rfl cd_X11_isSign rfl rfl (Nat.le_of_ble_eq_true rfl) ⟨rfl, rfl, Nat.le_of_ble_eq_true rfl, Nat.le_of_ble_eq_true rfl⟩ ?_
              refine x_if_neB 122 dX11_test_104 (by decide) (fun hB => ?_) (fun hB => ?_)
              · replace hf := f_if hB hf
                refine x_aload_n 2 dX11_test_122 rfl rfl ?_
                refine x_getR dX11_test_123 lm_0 fl_X11_7 rfl ?_
                refine x_iload_n 3 dX11_test_126 rfl rfl ?_
                refine x_iconst (v := (5)) dX11_test_127 (by decide) ?_
                refine x_iadd dX11_test_128 ?_
                refine x_aload_n 2 dX11_test_129 rfl rfl ?_
                refine x_getI (v := (q55.2 0 15)) dX11_test_130 lm_0 fl_X11_141 rfl rfl ?_
                obtain ⟨h63, hf⟩ := f_gd hf
                obtain ⟨I64, hI64, hf⟩ := f_lt hf
                refine x_iast (j0 := ((p0 + (5 : Int32))).toNatClampNeg) dX11_test_133 lm_1 h63 rfl hI64 ?_
                refine x_aload_n 2 dX11_test_134 rfl rfl ?_
                obtain ⟨q65, hq66, hf⟩ := f_bd hf
                refine x_callVv [] (c_X11_ahead (I := I64) (L := L)  hq66) dX11_test_135 lk_X11_175 lm_0 rfl cd_X11_ahead rfl rfl (Nat.le_of_ble_eq_true rfl) ⟨rfl, rfl, Nat.le_of_ble_eq_true rfl, Nat.le_of_ble_eq_true rfl⟩ ?_
                refine x_aload_n 2 dX11_test_138 rfl rfl ?_
                refine x_iload_n 3 dX11_test_139 rfl rfl ?_
                refine x_iconst (v := (2)) dX11_test_140 (by decide) ?_
                refine x_iadd dX11_test_141 ?_
                refine x_iconst (v := (0)) dX11_test_142 (by decide) ?_
                refine x_sipush (v := (9999)) dX11_test_143 (by decide) ?_
                obtain ⟨q67, hq68, hf⟩ := f_bd hf
                refine x_callVi [.int (p0 + (2 : Int32)), .int (0 : Int32), .int (9999 : Int32)] (c_X11_number (I := q65) (L := L)  hq68) dX11_test_146 lk_X11_197 lm_0 rfl cd_X11_number rfl rfl (Nat.le_of_ble_eq_true rfl) ⟨rfl, rfl, Nat.le_of_ble_eq_true rfl, Nat.le_of_ble_eq_true rfl⟩ ?_
                cases hf
                exact x_zret dX11_test_149 rfl rfl
              · replace hf := f_el hB hf
                refine x_aload_n 2 dX11_test_107 rfl rfl ?_
                refine x_bipush (v := (61)) dX11_test_108 (by decide) ?_
                refine x_callVi [.int (61 : Int32)] (c_X11_isSign (I := q55.2) (L := L) (61 : Int32)) dX11_test_110 lk_X11_178 lm_0 rfl cd_X11_isSign rfl rfl (Nat.le_of_ble_eq_true rfl) ⟨rfl, rfl, Nat.le_of_ble_eq_true rfl, Nat.le_of_ble_eq_true rfl⟩ ?_
                refine x_if_neB 122 dX11_test_113 (by decide) (fun hB => ?_) (fun hB => ?_)
                · replace hf := f_if hB hf
                  refine x_aload_n 2 dX11_test_122 rfl rfl ?_
                  refine x_getR dX11_test_123 lm_0 fl_X11_7 rfl ?_
                  refine x_iload_n 3 dX11_test_126 rfl rfl ?_
                  refine x_iconst (v := (5)) dX11_test_127 (by decide) ?_
                  refine x_iadd dX11_test_128 ?_
                  refine x_aload_n 2 dX11_test_129 rfl rfl ?_
                  refine x_getI (v := (q55.2 0 15)) dX11_test_130 lm_0 fl_X11_141 rfl rfl ?_
                  obtain ⟨h69, hf⟩ := f_gd hf
                  obtain ⟨I70, hI70, hf⟩ := f_lt hf
                  refine x_iast (j0 := ((p0 + (5 : Int32))).toNatClampNeg) dX11_test_133 lm_1 h69 rfl hI70 ?_
                  refine x_aload_n 2 dX11_test_134 rfl rfl ?_
                  obtain ⟨q71, hq72, hf⟩ := f_bd hf
                  refine x_callVv [] (c_X11_ahead (I := I70) (L := L)  hq72) dX11_test_135 lk_X11_175 lm_0 rfl cd_X11_ahead rfl rfl (Nat.le_of_ble_eq_true rfl) ⟨rfl, rfl, Nat.le_of_ble_eq_true rfl, Nat.le_of_ble_eq_true rfl⟩ ?_
                  refine x_aload_n 2 dX11_test_138 rfl rfl ?_
                  refine x_iload_n 3 dX11_test_139 rfl rfl ?_
                  refine x_iconst (v := (2)) dX11_test_140 (by decide) ?_
                  refine x_iadd dX11_test_141 ?_
                  refine x_iconst (v := (0)) dX11_test_142 (by decide) ?_
                  refine x_sipush (v := (9999)) dX11_test_143 (by decide) ?_
                  obtain ⟨q73, hq74, hf⟩ := f_bd hf
                  refine x_callVi [.int (p0 + (2 : Int32)), .int (0 : Int32), .int (9999 : Int32)] (c_X11_number (I := q71) (L := L)  hq74) dX11_test_146 lk_X11_197 lm_0 rfl cd_X11_number rfl rfl (Nat.le_of_ble_eq_true rfl) ⟨rfl, rfl, Nat.le_of_ble_eq_true rfl, Nat.le_of_ble_eq_true rfl⟩ ?_
                  cases hf
                  exact x_zret dX11_test_149 rfl rfl
                · replace hf := f_el hB hf
                  refine x_aload_n 2 dX11_test_116 rfl rfl ?_
                  refine x_iconst (v := (2)) dX11_test_117 (by decide) ?_
                  refine x_callVi [.int (2 : Int32)] (c_X11_fails (I := q55.2) (L := L) (2 : Int32)) dX11_test_118 lk_X11_181 lm_0 rfl cd_X11_fails rfl rfl (Nat.le_of_ble_eq_true rfl) ⟨rfl, rfl, Nat.le_of_ble_eq_true rfl, Nat.le_of_ble_eq_true rfl⟩ ?_
                  cases hf
                  exact x_zret dX11_test_121 rfl rfl
          · replace hf := f_el hB hf
            refine x_iconst (v := (0)) dX11_test_87 (by decide) ?_
            cases hf
            exact x_zret (b := false) dX11_test_88 rfl rfl
      · replace hf := f_if hB hf
        refine x_aload_n 1 dX11_test_51 rfl rfl ?_
        refine x_iload_n 2 dX11_test_52 rfl rfl ?_
        refine x_iconst (v := (1)) dX11_test_53 (by decide) ?_
        refine x_iadd dX11_test_54 ?_
        obtain ⟨q53, hq54, hf⟩ := f_bd hf
        refine x_callVi [.int (p0 + (1 : Int32))] (c_X11_claimTo (I := q51) (L := L)  hq54) dX11_test_55 lk_X11_272 lm_0 rfl cd_X11_claimTo rfl rfl (Nat.le_of_ble_eq_true rfl) ⟨rfl, rfl, Nat.le_of_ble_eq_true rfl, Nat.le_of_ble_eq_true rfl⟩ ?_
        cases hf
        exact x_zret dX11_test_58 rfl rfl
    · replace hf := f_el hB hf
      refine x_iload_n 0 dX11_test_18 rfl rfl ?_
      refine x_bipush (v := (22)) dX11_test_19 (by decide) ?_
      refine x_icmp_eq 30 dX11_test_21 (by decide) (fun hB => ?_) (fun hB => ?_)
      · replace hf := f_if hB hf
        refine x_aload_n 1 dX11_test_30 rfl rfl ?_
        refine x_getR dX11_test_31 lm_0 fl_X11_7 rfl ?_
        refine x_iload_n 2 dX11_test_34 rfl rfl ?_
        refine x_sipush (v := (1800)) dX11_test_35 (by decide) ?_
        refine x_iload_n 0 dX11_test_38 rfl rfl ?_
        refine x_iadd dX11_test_39 ?_
        obtain ⟨h95, hf⟩ := f_gd hf
        obtain ⟨I96, hI96, hf⟩ := f_lt hf
        refine x_iast (j0 := (p0).toNatClampNeg) dX11_test_40 lm_1 h95 rfl hI96 ?_
        refine x_aload_n 1 dX11_test_41 rfl rfl ?_
        obtain ⟨q97, hq98, hf⟩ := f_bd hf
        refine x_callVv [] (c_X11_ahead (I := I96) (L := L)  hq98) dX11_test_42 lk_X11_175 lm_0 rfl cd_X11_ahead rfl rfl (Nat.le_of_ble_eq_true rfl) ⟨rfl, rfl, Nat.le_of_ble_eq_true rfl, Nat.le_of_ble_eq_true rfl⟩ ?_
        refine x_iload_n 0 dX11_test_45 rfl rfl ?_
        refine x_bipush (v := (22)) dX11_test_46 (by decide) ?_
        refine x_icmp_ne 59 dX11_test_48 (by decide) (fun hB => ?_) (fun hB => ?_)
        · replace hf := f_el hB hf
          refine x_iload_n 0 dX11_test_59 rfl rfl ?_
          refine x_bipush (v := (11)) dX11_test_60 (by decide) ?_
          refine x_icmp_ne 75 dX11_test_62 (by decide) (fun hB => ?_) (fun hB => ?_)
          · replace hf := f_el hB hf
            refine x_aload_n 1 dX11_test_75 rfl rfl ?_
            refine x_iload_n 2 dX11_test_76 rfl rfl ?_
            refine x_iconst (v := (1)) dX11_test_77 (by decide) ?_
            refine x_iadd dX11_test_78 ?_
            obtain ⟨q121, hq122, hf⟩ := f_bd hf
            refine x_callVi [.int (p0 + (1 : Int32))] (c_X11_bedTo (I := q97) (L := L)  hq122) dX11_test_79 lk_X11_278 lm_0 rfl cd_X11_bedTo rfl rfl (Nat.le_of_ble_eq_true rfl) ⟨rfl, rfl, Nat.le_of_ble_eq_true rfl, Nat.le_of_ble_eq_true rfl⟩ ?_
            refine x_istore_n [(3, .int (zb q121.1)), (2, .int q1), (0, .ref 0), (1, .int p0)] dX11_test_82 rfl (by decide) rfl ?_
            refine x_iload_n 0 dX11_test_83 rfl rfl ?_
            refine x_if_neB 89 dX11_test_84 (by decide) (fun hB => ?_) (fun hB => ?_)
            · replace hf := f_if hB hf
              refine x_aload_n 2 dX11_test_89 rfl rfl ?_
              refine x_bipush (v := (60)) dX11_test_90 (by decide) ?_
              refine x_callVi [.int (60 : Int32)] (c_X11_isSign (I := q121.2) (L := L) (60 : Int32)) dX11_test_92 lk_X11_178 lm_0 rfl cd_X11_isSign rfl rfl (Nat.le_of_ble_eq_true rfl) ⟨rfl, rfl, Nat.le_of_ble_eq_true rfl, Nat.le_of_ble_eq_true rfl⟩ ?_
              refine x_if_neB 122 dX11_test_95 (by decide) (fun hB => ?_) (fun hB => ?_)
              · replace hf := f_if hB hf
                refine x_aload_n 2 dX11_test_122 rfl rfl ?_
                refine x_getR dX11_test_123 lm_0 fl_X11_7 rfl ?_
                refine x_iload_n 3 dX11_test_126 rfl rfl ?_
                refine x_iconst (v := (5)) dX11_test_127 (by decide) ?_
                refine x_iadd dX11_test_128 ?_
                refine x_aload_n 2 dX11_test_129 rfl rfl ?_
                refine x_getI (v := (q121.2 0 15)) dX11_test_130 lm_0 fl_X11_141 rfl rfl ?_
                obtain ⟨h123, hf⟩ := f_gd hf
                obtain ⟨I124, hI124, hf⟩ := f_lt hf
                refine x_iast (j0 := ((p0 + (5 : Int32))).toNatClampNeg) dX11_test_133 lm_1 h123 rfl hI124 ?_
                refine x_aload_n 2 dX11_test_134 rfl rfl ?_
                obtain ⟨q125, hq126, hf⟩ := f_bd hf
                refine x_callVv [] (c_X11_ahead (I := I124) (L := L)  hq126) dX11_test_135 lk_X11_175 lm_0 rfl cd_X11_ahead rfl rfl (Nat.le_of_ble_eq_true rfl) ⟨rfl, rfl, Nat.le_of_ble_eq_true rfl, Nat.le_of_ble_eq_true rfl⟩ ?_
                refine x_aload_n 2 dX11_test_138 rfl rfl ?_
                refine x_iload_n 3 dX11_test_139 rfl rfl ?_
                refine x_iconst (v := (2)) dX11_test_140 (by decide) ?_
                refine x_iadd dX11_test_141 ?_
                refine x_iconst (v := (0)) dX11_test_142 (by decide) ?_
                refine x_sipush (v := (9999)) dX11_test_143 (by decide) ?_
                obtain ⟨q127, hq128, hf⟩ := f_bd hf
                refine x_callVi [.int (p0 + (2 : Int32)), .int (0 : Int32), .int (9999 : Int32)] (c_X11_number (I := q125) (L := L)  hq128) dX11_test_146 lk_X11_197 lm_0 rfl cd_X11_number rfl rfl (Nat.le_of_ble_eq_true rfl) ⟨rfl, rfl, Nat.le_of_ble_eq_true rfl, Nat.le_of_ble_eq_true rfl⟩ ?_
                cases hf
                exact x_zret dX11_test_149 rfl rfl
              · replace hf := f_el hB hf
                refine x_aload_n 2 dX11_test_98 rfl rfl ?_
                refine x_bipush (v := (62)) dX11_test_99 (by decide) ?_
                refine x_callVi [.int (62 : Int32)] (c_X11_isSign (I := q121.2) (L := L) (62 : Int32)) dX11_test_101 lk_X11_178 lm_0 rfl cd_X11_isSign rfl rfl (Nat.le_of_ble_eq_true rfl) ⟨rfl, rfl, Nat.le_of_ble_eq_true rfl, Nat.le_of_ble_eq_true rfl⟩ ?_
                refine x_if_neB 122 dX11_test_104 (by decide) (fun hB => ?_) (fun hB => ?_)
                · replace hf := f_if hB hf
                  refine x_aload_n 2 dX11_test_122 rfl rfl ?_
                  refine x_getR dX11_test_123 lm_0 fl_X11_7 rfl ?_
                  refine x_iload_n 3 dX11_test_126 rfl rfl ?_
                  refine x_iconst (v := (5)) dX11_test_127 (by decide) ?_
                  refine x_iadd dX11_test_128 ?_
                  refine x_aload_n 2 dX11_test_129 rfl rfl ?_
                  refine x_getI (v := (q121.2 0 15)) dX11_test_130 lm_0 fl_X11_141 rfl rfl ?_
                  obtain ⟨h129, hf⟩ := f_gd hf
                  obtain ⟨I130, hI130, hf⟩ := f_lt hf
                  refine x_iast (j0 := ((p0 + (5 : Int32))).toNatClampNeg) dX11_test_133 lm_1 h129 rfl hI130 ?_
                  refine x_aload_n 2 dX11_test_134 rfl rfl ?_
                  obtain ⟨q131, hq132, hf⟩ := f_bd hf
                  refine x_callVv [] (c_X11_ahead (I := I130) (L := L)  hq132) dX11_test_135 lk_X11_175 lm_0 rfl cd_X11_ahead rfl rfl (Nat.le_of_ble_eq_true rfl) ⟨rfl, rfl, Nat.le_of_ble_eq_true rfl, Nat.le_of_ble_eq_true rfl⟩ ?_
                  refine x_aload_n 2 dX11_test_138 rfl rfl ?_
                  refine x_iload_n 3 dX11_test_139 rfl rfl ?_
                  refine x_iconst (v := (2)) dX11_test_140 (by decide) ?_
                  refine x_iadd dX11_test_141 ?_
                  refine x_iconst (v := (0)) dX11_test_142 (by decide) ?_
                  refine x_sipush (v := (9999)) dX11_test_143 (by decide) ?_
                  obtain ⟨q133, hq134, hf⟩ := f_bd hf
                  refine x_callVi [.int (p0 + (2 : Int32)), .int (0 : Int32), .int (9999 : Int32)] (c_X11_number (I := q131) (L := L)  hq134) dX11_test_146 lk_X11_197 lm_0 rfl cd_X11_number rfl rfl (Nat.le_of_ble_eq_true rfl) ⟨rfl, rfl, Nat.le_of_ble_eq_true rfl, Nat.le_of_ble_eq_true rfl⟩ ?_
                  cases hf
                  exact x_zret dX11_test_149 rfl rfl
                · replace hf := f_el hB hf
                  refine x_aload_n 2 dX11_test_107 rfl rfl ?_
                  refine x_bipush (v := (61)) dX11_test_108 (by decide) ?_
                  refine x_callVi [.int (61 : Int32)] (c_X11_isSign (I := q121.2) (L := L) (61 : Int32)) dX11_test_110 lk_X11_178 lm_0 rfl cd_X11_isSign rfl rfl (Nat.le_of_ble_eq_true rfl) ⟨rfl, rfl, Nat.le_of_ble_eq_true rfl, Nat.le_of_ble_eq_true rfl⟩ ?_
                  refine x_if_neB 122 dX11_test_113 (by decide) (fun hB => ?_) (fun hB => ?_)
                  · replace hf := f_if hB hf
                    refine x_aload_n 2 dX11_test_122 rfl rfl ?_
                    refine x_getR dX11_test_123 lm_0 fl_X11_7 rfl ?_
                    refine x_iload_n 3 dX11_test_126 rfl rfl ?_
                    refine x_iconst (v := (5)) dX11_test_127 (by decide) ?_
                    refine x_iadd dX11_test_128 ?_
                    refine x_aload_n 2 dX11_test_129 rfl rfl ?_
                    refine x_getI (v := (q121.2 0 15)) dX11_test_130 lm_0 fl_X11_141 rfl rfl ?_
                    obtain ⟨h135, hf⟩ := f_gd hf
                    obtain ⟨I136, hI136, hf⟩ := f_lt hf
                    refine x_iast (j0 := ((p0 + (5 : Int32))).toNatClampNeg) dX11_test_133 lm_1 h135 rfl hI136 ?_
                    refine x_aload_n 2 dX11_test_134 rfl rfl ?_
                    obtain ⟨q137, hq138, hf⟩ := f_bd hf
                    refine x_callVv [] (c_X11_ahead (I := I136) (L := L)  hq138) dX11_test_135 lk_X11_175 lm_0 rfl cd_X11_ahead rfl rfl (Nat.le_of_ble_eq_true rfl) ⟨rfl, rfl, Nat.le_of_ble_eq_true rfl, Nat.le_of_ble_eq_true rfl⟩ ?_
                    refine x_aload_n 2 dX11_test_138 rfl rfl ?_
                    refine x_iload_n 3 dX11_test_139 rfl rfl ?_
                    refine x_iconst (v := (2)) dX11_test_140 (by decide) ?_
                    refine x_iadd dX11_test_141 ?_
                    refine x_iconst (v := (0)) dX11_test_142 (by decide) ?_
                    refine x_sipush (v := (9999)) dX11_test_143 (by decide) ?_
                    obtain ⟨q139, hq140, hf⟩ := f_bd hf
                    refine x_callVi [.int (p0 + (2 : Int32)), .int (0 : Int32), .int (9999 : Int32)] (c_X11_number (I := q137) (L := L)  hq140) dX11_test_146 lk_X11_197 lm_0 rfl cd_X11_number rfl rfl (Nat.le_of_ble_eq_true rfl) ⟨rfl, rfl, Nat.le_of_ble_eq_true rfl, Nat.le_of_ble_eq_true rfl⟩ ?_
                    cases hf
                    exact x_zret dX11_test_149 rfl rfl
                  · replace hf := f_el hB hf
                    refine x_aload_n 2 dX11_test_116 rfl rfl ?_
                    refine x_iconst (v := (2)) dX11_test_117 (by decide) ?_
                    refine x_callVi [.int (2 : Int32)] (c_X11_fails (I := q121.2) (L := L) (2 : Int32)) dX11_test_118 lk_X11_181 lm_0 rfl cd_X11_fails rfl rfl (Nat.le_of_ble_eq_true rfl) ⟨rfl, rfl, Nat.le_of_ble_eq_true rfl, Nat.le_of_ble_eq_true rfl⟩ ?_
                    cases hf
                    exact x_zret dX11_test_121 rfl rfl
            · replace hf := f_el hB hf
              refine x_iconst (v := (0)) dX11_test_87 (by decide) ?_
              cases hf
              exact x_zret (b := false) dX11_test_88 rfl rfl
          · replace hf := f_if hB hf
            refine x_aload_n 1 dX11_test_65 rfl rfl ?_
            refine x_iload_n 2 dX11_test_66 rfl rfl ?_
            refine x_iconst (v := (1)) dX11_test_67 (by decide) ?_
            refine x_iadd dX11_test_68 ?_
            obtain ⟨q101, hq102, hf⟩ := f_bd hf
            refine x_callVi [.int (p0 + (1 : Int32))] (c_X11_scholarTo (I := q97) (L := L)  hq102) dX11_test_69 lk_X11_275 lm_0 rfl cd_X11_scholarTo rfl rfl (Nat.le_of_ble_eq_true rfl) ⟨rfl, rfl, Nat.le_of_ble_eq_true rfl, Nat.le_of_ble_eq_true rfl⟩ ?_
            refine x_goto 82 dX11_test_72 (by decide) ?_
            refine x_istore_n [(3, .int (zb q101.1)), (2, .int q1), (0, .ref 0), (1, .int p0)] dX11_test_82 rfl (by decide) rfl ?_
            refine x_iload_n 0 dX11_test_83 rfl rfl ?_
            refine x_if_neB 89 dX11_test_84 (by decide) (fun hB => ?_) (fun hB => ?_)
            · replace hf := f_if hB hf
              refine x_aload_n 2 dX11_test_89 rfl rfl ?_
              refine x_bipush (v := (60)) dX11_test_90 (by decide) ?_
              refine x_callVi [.int (60 : Int32)] (c_X11_isSign (I := q101.2) (L := L) (60 : Int32)) dX11_test_92 lk_X11_178 lm_0 rfl cd_X11_isSign rfl rfl (Nat.le_of_ble_eq_true rfl) ⟨rfl, rfl, Nat.le_of_ble_eq_true rfl, Nat.le_of_ble_eq_true rfl⟩ ?_
              refine x_if_neB 122 dX11_test_95 (by decide) (fun hB => ?_) (fun hB => ?_)
              · replace hf := f_if hB hf
                refine x_aload_n 2 dX11_test_122 rfl rfl ?_
                refine x_getR dX11_test_123 lm_0 fl_X11_7 rfl ?_
                refine x_iload_n 3 dX11_test_126 rfl rfl ?_
                refine x_iconst (v := (5)) dX11_test_127 (by decide) ?_
                refine x_iadd dX11_test_128 ?_
                refine x_aload_n 2 dX11_test_129 rfl rfl ?_
                refine x_getI (v := (q101.2 0 15)) dX11_test_130 lm_0 fl_X11_141 rfl rfl ?_
                obtain ⟨h103, hf⟩ := f_gd hf
                obtain ⟨I104, hI104, hf⟩ := f_lt hf
                refine x_iast (j0 := ((p0 + (5 : Int32))).toNatClampNeg) dX11_test_133 lm_1 h103 rfl hI104 ?_
                refine x_aload_n 2 dX11_test_134 rfl rfl ?_
                obtain ⟨q105, hq106, hf⟩ := f_bd hf
                refine x_callVv [] (c_X11_ahead (I := I104) (L := L)  hq106) dX11_test_135 lk_X11_175 lm_0 rfl cd_X11_ahead rfl rfl (Nat.le_of_ble_eq_true rfl) ⟨rfl, rfl, Nat.le_of_ble_eq_true rfl, Nat.le_of_ble_eq_true rfl⟩ ?_
                refine x_aload_n 2 dX11_test_138 rfl rfl ?_
                refine x_iload_n 3 dX11_test_139 rfl rfl ?_
                refine x_iconst (v := (2)) dX11_test_140 (by decide) ?_
                refine x_iadd dX11_test_141 ?_
                refine x_iconst (v := (0)) dX11_test_142 (by decide) ?_
                refine x_sipush (v := (9999)) dX11_test_143 (by decide) ?_
                obtain ⟨q107, hq108, hf⟩ := f_bd hf
                refine x_callVi [.int (p0 + (2 : Int32)), .int (0 : Int32), .int (9999 : Int32)] (c_X11_number (I := q105) (L := L)  hq108) dX11_test_146 lk_X11_197 lm_0 rfl cd_X11_number rfl rfl (Nat.le_of_ble_eq_true rfl) ⟨rfl, rfl, Nat.le_of_ble_eq_true rfl, Nat.le_of_ble_eq_true rfl⟩ ?_
                cases hf
                exact x_zret dX11_test_149 rfl rfl
              · replace hf := f_el hB hf
                refine x_aload_n 2 dX11_test_98 rfl rfl ?_
                refine x_bipush (v := (62)) dX11_test_99 (by decide) ?_
                refine x_callVi [.int (62 : Int32)] (c_X11_isSign (I := q101.2) (L := L) (62 : Int32)) dX11_test_101 lk_X11_178 lm_0 rfl cd_X11_isSign rfl rfl (Nat.le_of_ble_eq_true rfl) ⟨rfl, rfl, Nat.le_of_ble_eq_true rfl, Nat.le_of_ble_eq_true rfl⟩ ?_
                refine x_if_neB 122 dX11_test_104 (by decide) (fun hB => ?_) (fun hB => ?_)
                · replace hf := f_if hB hf
                  refine x_aload_n 2 dX11_test_122 rfl rfl ?_
                  refine x_getR dX11_test_123 lm_0 fl_X11_7 rfl ?_
                  refine x_iload_n 3 dX11_test_126 rfl rfl ?_
                  refine x_iconst (v := (5)) dX11_test_127 (by decide) ?_
                  refine x_iadd dX11_test_128 ?_
                  refine x_aload_n 2 dX11_test_129 rfl rfl ?_
                  refine x_getI (v := (q101.2 0 15)) dX11_test_130 lm_0 fl_X11_141 rfl rfl ?_
                  obtain ⟨h109, hf⟩ := f_gd hf
                  obtain ⟨I110, hI110, hf⟩ := f_lt hf
                  refine x_iast (j0 := ((p0 + (5 : Int32))).toNatClampNeg) dX11_test_133 lm_1 h109 rfl hI110 ?_
                  refine x_aload_n 2 dX11_test_134 rfl rfl ?_
                  obtain ⟨q111, hq112, hf⟩ := f_bd hf
                  refine x_callVv [] (c_X11_ahead (I := I110) (L := L)  hq112) dX11_test_135 lk_X11_175 lm_0 rfl cd_X11_ahead rfl rfl (Nat.le_of_ble_eq_true rfl) ⟨rfl, rfl, Nat.le_of_ble_eq_true rfl, Nat.le_of_ble_eq_true rfl⟩ ?_
                  refine x_aload_n 2 dX11_test_138 rfl rfl ?_
                  refine x_iload_n 3 dX11_test_139 rfl rfl ?_
                  refine x_iconst (v := (2)) dX11_test_140 (by decide) ?_
                  refine x_iadd dX11_test_141 ?_
                  refine x_iconst (v := (0)) dX11_test_142 (by decide) ?_
                  refine x_sipush (v := (9999)) dX11_test_143 (by decide) ?_
                  obtain ⟨q113, hq114, hf⟩ := f_bd hf
                  refine x_callVi [.int (p0 + (2 : Int32)), .int (0 : Int32), .int (9999 : Int32)] (c_X11_number (I := q111) (L := L)  hq114) dX11_test_146 lk_X11_197 lm_0 rfl cd_X11_number rfl rfl (Nat.le_of_ble_eq_true rfl) ⟨rfl, rfl, Nat.le_of_ble_eq_true rfl, Nat.le_of_ble_eq_true rfl⟩ ?_
                  cases hf
                  exact x_zret dX11_test_149 rfl rfl
                · replace hf := f_el hB hf
                  refine x_aload_n 2 dX11_test_107 rfl rfl ?_
                  refine x_bipush (v := (61)) dX11_test_108 (by decide) ?_
                  refine x_callVi [.int (61 : Int32)] (c_X11_isSign (I := q101.2) (L := L) (61 : Int32)) dX11_test_110 lk_X11_178 lm_0 rfl cd_X11_isSign rfl rfl (Nat.le_of_ble_eq_true rfl) ⟨rfl, rfl, Nat.le_of_ble_eq_true rfl, Nat.le_of_ble_eq_true rfl⟩ ?_
                  refine x_if_neB 122 dX11_test_113 (by decide) (fun hB => ?_) (fun hB => ?_)
                  · replace hf := f_if hB hf
                    refine x_aload_n 2 dX11_test_122 rfl rfl ?_
                    refine x_getR dX11_test_123 lm_0 fl_X11_7 rfl ?_
                    refine x_iload_n 3 dX11_test_126 rfl rfl ?_
                    refine x_iconst (v := (5)) dX11_test_127 (by decide) ?_
                    refine x_iadd dX11_test_128 ?_
                    refine x_aload_n 2 dX11_test_129 rfl rfl ?_
                    refine x_getI (v := (q101.2 0 15)) dX11_test_130 lm_0 fl_X11_141 rfl rfl ?_
                    obtain ⟨h115, hf⟩ := f_gd hf
                    obtain ⟨I116, hI116, hf⟩ := f_lt hf
                    refine x_iast (j0 := ((p0 + (5 : Int32))).toNatClampNeg) dX11_test_133 lm_1 h115 rfl hI116 ?_
                    refine x_aload_n 2 dX11_test_134 rfl rfl ?_
                    obtain ⟨q117, hq118, hf⟩ := f_bd hf
                    refine x_callVv [] (c_X11_ahead (I := I116) (L := L)  hq118) dX11_test_135 lk_X11_175 lm_0 rfl cd_X11_ahead rfl rfl (Nat.le_of_ble_eq_true rfl) ⟨rfl, rfl, Nat.le_of_ble_eq_true rfl, Nat.le_of_ble_eq_true rfl⟩ ?_
                    refine x_aload_n 2 dX11_test_138 rfl rfl ?_
                    refine x_iload_n 3 dX11_test_139 rfl rfl ?_
                    refine x_iconst (v := (2)) dX11_test_140 (by decide) ?_
                    refine x_iadd dX11_test_141 ?_
                    refine x_iconst (v := (0)) dX11_test_142 (by decide) ?_
                    refine x_sipush (v := (9999)) dX11_test_143 (by decide) ?_
                    obtain ⟨q119, hq120, hf⟩ := f_bd hf
                    refine x_callVi [.int (p0 + (2 : Int32)), .int (0 : Int32), .int (9999 : Int32)] (c_X11_number (I := q117) (L := L)  hq120) dX11_test_146 lk_X11_197 lm_0 rfl cd_X11_number rfl rfl (Nat.le_of_ble_eq_true rfl) ⟨rfl, rfl, Nat.le_of_ble_eq_true rfl, Nat.le_of_ble_eq_true rfl⟩ ?_
                    cases hf
                    exact x_zret dX11_test_149 rfl rfl
                  · replace hf := f_el hB hf
                    refine x_aload_n 2 dX11_test_116 rfl rfl ?_
                    refine x_iconst (v := (2)) dX11_test_117 (by decide) ?_
                    refine x_callVi [.int (2 : Int32)] (c_X11_fails (I := q101.2) (L := L) (2 : Int32)) dX11_test_118 lk_X11_181 lm_0 rfl cd_X11_fails rfl rfl (Nat.le_of_ble_eq_true rfl) ⟨rfl, rfl, Nat.le_of_ble_eq_true rfl, Nat.le_of_ble_eq_true rfl⟩ ?_
                    cases hf
                    exact x_zret dX11_test_121 rfl rfl
            · replace hf := f_el hB hf
              refine x_iconst (v := (0)) dX11_test_87 (by decide) ?_
              cases hf
              exact x_zret (b := false) dX11_test_88 rfl rfl
        · replace hf := f_if hB hf
          refine x_aload_n 1 dX11_test_51 rfl rfl ?_
          refine x_iload_n 2 dX11_test_52 rfl rfl ?_
          refine x_iconst (v := (1)) dX11_test_53 (by decide) ?_
          refine x_iadd dX11_test_54 ?_
          obtain ⟨q99, hq100, hf⟩ := f_bd hf
          refine x_callVi [.int (p0 + (1 : Int32))] (c_X11_claimTo (I := q97) (L := L)  hq100) dX11_test_55 lk_X11_272 lm_0 rfl cd_X11_claimTo rfl rfl (Nat.le_of_ble_eq_true rfl) ⟨rfl, rfl, Nat.le_of_ble_eq_true rfl, Nat.le_of_ble_eq_true rfl⟩ ?_
          cases hf
          exact x_zret dX11_test_58 rfl rfl
      · replace hf := f_el hB hf
        refine x_aload_n 1 dX11_test_24 rfl rfl ?_
        refine x_iconst (v := (2)) dX11_test_25 (by decide) ?_
        refine x_callVi [.int (2 : Int32)] (c_X11_fails (I := I) (L := L) (2 : Int32)) dX11_test_26 lk_X11_181 lm_0 rfl cd_X11_fails rfl rfl (Nat.le_of_ble_eq_true rfl) ⟨rfl, rfl, Nat.le_of_ble_eq_true rfl, Nat.le_of_ble_eq_true rfl⟩ ?_
        cases hf
        exact x_zret dX11_test_29 rfl rfl
set_option maxRecDepth 100000 in
set_option maxHeartbeats 4000000 in
theorem c_X11_termOrder {I : z_I} {L : z_L} {p0 : Int32} {p1 : Int32}  {r : Bool × z_I} (hf : f_X11_termOrder I L p0 p1 = some r) : z_C layM yX11_termOrder cX11_termOrder 3 (some .boolean) ({ frames := 9, cells := 0, slots := 0, locals := 204 } : Room) [.ref 0, .int p0, .int p1] I L (some (.int (zb r.1)), r.2, L) := by
  refine z_C.of (by decide) (Nat.le_of_ble_eq_true rfl) ?_
  show z_X layM RX11 cX11_termOrder 3 (some .boolean) ({ frames := 9, cells := 0, slots := 0, locals := 204 } : Room) 0 [(0, .ref 0), (1, .int p0), (2, .int p1)] [] I L (some (.int (zb r.1)), r.2, L)
  unfold f_X11_termOrder at hf
  refine x_iload_n 1 dX11_termOrder_0 rfl rfl ?_
  by_cases hs3 : p0 = (12)
  · replace hf := f_if hs3 hf
    refine x_tabIn (12) 48 dX11_termOrder_1 hs3 (by decide) (by decide) rfl (by decide) ?_
    refine x_aload_n 0 dX11_termOrder_48 rfl rfl ?_
    refine x_iload_n 2 dX11_termOrder_49 rfl rfl ?_
    refine x_iconst (v := (1)) dX11_termOrder_50 (by decide) ?_
    refine x_iadd dX11_termOrder_51 ?_
    obtain ⟨q1, hq2, hf⟩ := f_bd hf
    refine x_callVi [.int (p1 + (1 : Int32))] (c_X11_claimTo (I := I) (L := L)  hq2) dX11_termOrder_52 lk_X11_272 lm_0 rfl cd_X11_claimTo rfl rfl (Nat.le_of_ble_eq_true rfl) ⟨rfl, rfl, Nat.le_of_ble_eq_true rfl, Nat.le_of_ble_eq_true rfl⟩ ?_
    cases hf
    exact x_zret dX11_termOrder_55 rfl rfl
  replace hf := f_el hs3 hf
  by_cases hs8 : p0 = (13)
  · replace hf := f_if hs8 hf
    refine x_tabIn (13) 56 dX11_termOrder_1 hs8 (by decide) (by decide) rfl (by decide) ?_
    refine x_aload_n 0 dX11_termOrder_56 rfl rfl ?_
    refine x_iload_n 2 dX11_termOrder_57 rfl rfl ?_
    refine x_iconst (v := (1)) dX11_termOrder_58 (by decide) ?_
    refine x_iadd dX11_termOrder_59 ?_
    obtain ⟨q4, hq5, hf⟩ := f_bd hf
    refine x_callVi [.int (p1 + (1 : Int32))] (c_X11_scholarTo (I := I) (L := L)  hq5) dX11_termOrder_60 lk_X11_275 lm_0 rfl cd_X11_scholarTo rfl rfl (Nat.le_of_ble_eq_true rfl) ⟨rfl, rfl, Nat.le_of_ble_eq_true rfl, Nat.le_of_ble_eq_true rfl⟩ ?_
    refine x_if_eqB 80 dX11_termOrder_63 (by decide) (fun hB => ?_) (fun hB => ?_)
    · replace hf := f_el hB hf
      refine x_iconst (v := (0)) dX11_termOrder_80 (by decide) ?_
      cases hf
      exact x_zret (b := false) dX11_termOrder_81 rfl rfl
    · replace hf := f_if hB hf
      refine x_aload_n 0 dX11_termOrder_66 rfl rfl ?_
      refine x_iload_n 2 dX11_termOrder_67 rfl rfl ?_
      refine x_iconst (v := (2)) dX11_termOrder_68 (by decide) ?_
      refine x_iadd dX11_termOrder_69 ?_
      obtain ⟨q6, hq7, hf⟩ := f_bd hf
      refine x_callVi [.int (p1 + (2 : Int32))] (c_X11_bedTo (I := q4.2) (L := L)  hq7) dX11_termOrder_70 lk_X11_278 lm_0 rfl cd_X11_bedTo rfl rfl (Nat.le_of_ble_eq_true rfl) ⟨rfl, rfl, Nat.le_of_ble_eq_true rfl, Nat.le_of_ble_eq_true rfl⟩ ?_
      refine x_if_eqB 80 dX11_termOrder_73 (by decide) (fun hB => ?_) (fun hB => ?_)
      · replace hf := f_el hB hf
        refine x_iconst (v := (0)) dX11_termOrder_80 (by decide) ?_
        cases hf
        exact x_zret (b := false) dX11_termOrder_81 rfl rfl
      · replace hf := f_if hB hf
        refine x_iconst (v := (1)) dX11_termOrder_76 (by decide) ?_
        refine x_goto 81 dX11_termOrder_77 (by decide) ?_
        cases hf
        exact x_zret (b := true) dX11_termOrder_81 rfl rfl
  replace hf := f_el hs8 hf
  by_cases hs11 : p0 = (14)
  · replace hf := f_if hs11 hf
    refine x_tabIn (14) 82 dX11_termOrder_1 hs11 (by decide) (by decide) rfl (by decide) ?_
    refine x_aload_n 0 dX11_termOrder_82 rfl rfl ?_
    refine x_iload_n 2 dX11_termOrder_83 rfl rfl ?_
    refine x_iconst (v := (1)) dX11_termOrder_84 (by decide) ?_
    refine x_iadd dX11_termOrder_85 ?_
    obtain ⟨q9, hq10, hf⟩ := f_bd hf
    refine x_callVi [.int (p1 + (1 : Int32))] (c_X11_scholarTo (I := I) (L := L)  hq10) dX11_termOrder_86 lk_X11_275 lm_0 rfl cd_X11_scholarTo rfl rfl (Nat.le_of_ble_eq_true rfl) ⟨rfl, rfl, Nat.le_of_ble_eq_true rfl, Nat.le_of_ble_eq_true rfl⟩ ?_
    cases hf
    exact x_zret dX11_termOrder_89 rfl rfl
  replace hf := f_el hs11 hf
  by_cases hs14 : p0 = (15)
  · replace hf := f_if hs14 hf
    refine x_tabIn (15) 90 dX11_termOrder_1 hs14 (by decide) (by decide) rfl (by decide) ?_
    refine x_aload_n 0 dX11_termOrder_90 rfl rfl ?_
    refine x_iload_n 2 dX11_termOrder_91 rfl rfl ?_
    refine x_iconst (v := (1)) dX11_termOrder_92 (by decide) ?_
    refine x_iadd dX11_termOrder_93 ?_
    refine x_iconst (v := (1)) dX11_termOrder_94 (by decide) ?_
    refine x_bipush (v := (40)) dX11_termOrder_95 (by decide) ?_
    obtain ⟨q12, hq13, hf⟩ := f_bd hf
    refine x_callVi [.int (p1 + (1 : Int32)), .int (1 : Int32), .int (40 : Int32)] (c_X11_number (I := I) (L := L)  hq13) dX11_termOrder_97 lk_X11_197 lm_0 rfl cd_X11_number rfl rfl (Nat.le_of_ble_eq_true rfl) ⟨rfl, rfl, Nat.le_of_ble_eq_true rfl, Nat.le_of_ble_eq_true rfl⟩ ?_
    cases hf
    exact x_zret dX11_termOrder_100 rfl rfl
  replace hf := f_el hs14 hf
  by_cases hs15 : p0 = (16)
  · replace hf := f_if hs15 hf
    refine x_tabIn (16) 118 dX11_termOrder_1 hs15 (by decide) (by decide) rfl (by decide) ?_
    refine x_iconst (v := (1)) dX11_termOrder_118 (by decide) ?_
    cases hf
    exact x_zret (b := true) dX11_termOrder_119 rfl rfl
  replace hf := f_el hs15 hf
  by_cases hs16 : p0 = (17)
  · replace hf := f_if hs16 hf
    refine x_tabIn (17) 118 dX11_termOrder_1 hs16 (by decide) (by decide) rfl (by decide) ?_
    refine x_iconst (v := (1)) dX11_termOrder_118 (by decide) ?_
    cases hf
    exact x_zret (b := true) dX11_termOrder_119 rfl rfl
  replace hf := f_el hs16 hf
  by_cases hs19 : p0 = (18)
  · replace hf := f_if hs19 hf
    refine x_tabIn (18) 112 dX11_termOrder_1 hs19 (by decide) (by decide) rfl (by decide) ?_
    refine x_aload_n 0 dX11_termOrder_112 rfl rfl ?_
    refine x_iload_n 2 dX11_termOrder_113 rfl rfl ?_
    obtain ⟨q17, hq18, hf⟩ := f_bd hf
    refine x_callVi [.int p1] (c_X11_test (I := I) (L := L)  hq18) dX11_termOrder_114 lk_X11_281 lm_0 rfl cd_X11_test rfl rfl (Nat.le_of_ble_eq_true rfl) ⟨rfl, rfl, Nat.le_of_ble_eq_true rfl, Nat.le_of_ble_eq_true rfl⟩ ?_
    cases hf
    exact x_zret dX11_termOrder_117 rfl rfl
  replace hf := f_el hs19 hf
  by_cases hs22 : p0 = (19)
  · replace hf := f_if hs22 hf
    refine x_tabIn (19) 101 dX11_termOrder_1 hs22 (by decide) (by decide) rfl (by decide) ?_
    refine x_aload_n 0 dX11_termOrder_101 rfl rfl ?_
    refine x_iload_n 2 dX11_termOrder_102 rfl rfl ?_
    refine x_iconst (v := (1)) dX11_termOrder_103 (by decide) ?_
    refine x_iadd dX11_termOrder_104 ?_
    refine x_iconst (v := (1)) dX11_termOrder_105 (by decide) ?_
    refine x_bipush (v := (99)) dX11_termOrder_106 (by decide) ?_
    obtain ⟨q20, hq21, hf⟩ := f_bd hf
    refine x_callVi [.int (p1 + (1 : Int32)), .int (1 : Int32), .int (99 : Int32)] (c_X11_number (I := I) (L := L)  hq21) dX11_termOrder_108 lk_X11_197 lm_0 rfl cd_X11_number rfl rfl (Nat.le_of_ble_eq_true rfl) ⟨rfl, rfl, Nat.le_of_ble_eq_true rfl, Nat.le_of_ble_eq_true rfl⟩ ?_
    cases hf
    exact x_zret dX11_termOrder_111 rfl rfl
  replace hf := f_el hs22 hf
  refine x_tabOut 118 dX11_termOrder_1 (by have := lv_neT (a := 12) hs3 (by decide); have := lv_neT (a := 13) hs8 (by decide); have := lv_neT (a := 14) hs11 (by decide); have := lv_neT (a := 15) hs14 (by decide); have := lv_neT (a := 16) hs15 (by decide); have := lv_neT (a := 17) hs16 (by decide); have := lv_neT (a := 18) hs19 (by decide); have := lv_neT (a := 19) hs22 (by decide); omega) (by decide) ?_
  refine x_iconst (v := (1)) dX11_termOrder_118 (by decide) ?_
  cases hf
  exact x_zret (b := true) dX11_termOrder_119 rfl rfl
set_option maxRecDepth 100000 in
set_option maxHeartbeats 4000000 in
theorem l_X11_termStep_147   (v1 : Int32) (v2 : Int32) (v3 : Int32) (v4 : Int32) (L : z_L) {r : Bool × z_I} (k170 : z_I → Option (Bool × z_I)) (hk170 : ∀ (I : z_I), k170 I = some r → z_X layM RX11 cX11_termStep 6 (some .boolean) ({ frames := 10, cells := 0, slots := 0, locals := 226 } : Room) 170 [(0, .ref 0), (1, .int v1), (2, .int v2), (3, .int v3), (4, .int v4)] [] I L (some (.int (zb r.1)), r.2, L)) : ∀ (n : Nat) (v5 : Int32) (I : z_I), g_X11_termStep_147 v1 v2 v3 v4 L k170 n v5 I = some r → z_X layM RX11 cX11_termStep 6 (some .boolean) ({ frames := 10, cells := 0, slots := 0, locals := 226 } : Room) 147 [(0, .ref 0), (1, .int v1), (2, .int v2), (3, .int v3), (4, .int v4), (5, .int v5)] [] I L (some (.int (zb r.1)), r.2, L) := by
  intro n
  induction n with
  | zero => intro v5 I hf; cases hf
  | succ n ih =>
    intro v5 I hf
    rw [g_X11_termStep_147] at hf
    refine x_iload 5 dX11_termStep_147 rfl ?_
    refine x_bipush (v := (6)) dX11_termStep_149 (by decide) ?_
    refine x_icmp_ge 170 dX11_termStep_151 (by decide) (fun hB => ?_) (fun hB => ?_)
    · replace hf := f_if hB hf
      refine x_lv [(0, .ref 0), (1, .int v1), (2, .int v2), (3, .int v3), (4, .int v4)] [0, 1, 2, 3, 4] rfl ?_
      exact hk170 _ hf
    · replace hf := f_el hB hf
      refine x_aload_n 0 dX11_termStep_154 rfl rfl ?_
      refine x_getR dX11_termStep_155 lm_0 fl_X11_7 rfl ?_
      refine x_iload_n 3 dX11_termStep_158 rfl rfl ?_
      refine x_iload 5 dX11_termStep_159 rfl ?_
      refine x_iadd dX11_termStep_161 ?_
      refine x_iconst (v := (0)) dX11_termStep_162 (by decide) ?_
      obtain ⟨h8, hf⟩ := f_gd hf
      obtain ⟨I9, hI9, hf⟩ := f_lt hf
      refine x_iast (j0 := ((v3 + v5)).toNatClampNeg) dX11_termStep_163 lm_1 h8 rfl hI9 ?_
      refine x_iinc 5 [(5, .int (v5 + (1 : Int32))), (0, .ref 0), (1, .int v1), (2, .int v2), (3, .int v3), (4, .int v4)] dX11_termStep_164 rfl rfl (by decide) rfl ?_
      refine x_goto 147 dX11_termStep_167 (by decide) ?_
      refine x_lv [(0, .ref 0), (1, .int v1), (2, .int v2), (3, .int v3), (4, .int v4), (5, .int (v5 + (1 : Int32)))] [1, 2, 3, 4, 5, 0] rfl ?_
      exact ih _ _ hf
set_option maxRecDepth 100000 in
set_option maxHeartbeats 4000000 in
theorem c_X11_termStep {I : z_I} {L : z_L}   {r : Bool × z_I} (hf : f_X11_termStep I L = some r) : z_C layM yX11_termStep cX11_termStep 6 (some .boolean) ({ frames := 10, cells := 0, slots := 0, locals := 226 } : Room) [.ref 0] I L (some (.int (zb r.1)), r.2, L) := by
  refine z_C.of (by decide) (Nat.le_of_ble_eq_true rfl) ?_
  show z_X layM RX11 cX11_termStep 6 (some .boolean) ({ frames := 10, cells := 0, slots := 0, locals := 226 } : Room) 0 [(0, .ref 0)] [] I L (some (.int (zb r.1)), r.2, L)
  unfold f_X11_termStep at hf
  refine x_aload_n 0 dX11_termStep_0 rfl rfl ?_
  refine x_ldcS dX11_termStep_1 ?_
  obtain ⟨q1, hq2, hf⟩ := f_bd hf
  refine x_callVi [.ref 9001] (c_X11_inWords (I := I) (L := L)  hq2) dX11_termStep_3 lk_X11_184 lm_0 rfl cd_X11_inWords rfl rfl (Nat.le_of_ble_eq_true rfl) ⟨rfl, rfl, Nat.le_of_ble_eq_true rfl, Nat.le_of_ble_eq_true rfl⟩ ?_
  refine x_istore_n [(1, .int q1), (0, .ref 0)] dX11_termStep_6 rfl (by decide) rfl ?_
  refine x_aload_n 1 dX11_termStep_7 rfl rfl ?_
  refine x_getR dX11_termStep_8 lm_0 fl_X11_7 rfl ?_
  refine x_sipush (v := (1719)) dX11_termStep_11 (by decide) ?_
  refine x_iald (j := 1719) (v := (I 1 1719)) dX11_termStep_14 lm_1 (by decide +kernel) (by decide +kernel) rfl ?_
  refine x_istore_n [(2, .int (I 1 1719)), (1, .int q1), (0, .ref 0)] dX11_termStep_15 rfl (by decide) rfl ?_
  refine x_sipush (v := (1772)) dX11_termStep_16 (by decide) ?_
  refine x_bipush (v := (6)) dX11_termStep_19 (by decide) ?_
  refine x_iload_n 0 dX11_termStep_21 rfl rfl ?_
  refine x_imul dX11_termStep_22 ?_
  refine x_iadd dX11_termStep_23 ?_
  obtain ⟨w4, hw4, hf⟩ := f_lt hf
  refine x_topI hw4 ?_
  refine x_istore_n [(3, .int w4), (2, .int (I 1 1719)), (1, .int q1), (0, .ref 0)] dX11_termStep_24 rfl (by decide) rfl ?_
  refine x_iload_n 2 dX11_termStep_25 rfl rfl ?_
  refine x_bipush (v := (18)) dX11_termStep_26 (by decide) ?_
  refine x_icmp_eq 37 dX11_termStep_28 (by decide) (fun hB => ?_) (fun hB => ?_)
  · replace hf := f_if hB hf
    refine x_iconst (v := (1)) dX11_termStep_37 (by decide) ?_
    refine x_goto 42 dX11_termStep_38 (by decide) ?_
    refine x_istore [(4, .int (1 : Int32)), (3, .int w4), (2, .int (I 1 1719)), (1, .int q1), (0, .ref 0)] dX11_termStep_42 (by decide) rfl ?_
    refine x_iload_n 3 dX11_termStep_44 rfl rfl ?_
    refine x_bipush (v := (12)) dX11_termStep_45 (by decide) ?_
    refine x_icmp_lt 69 dX11_termStep_47 (by decide) (fun hB => ?_) (fun hB => ?_)
    · replace hf := f_if hB hf
      refine x_aload_n 4 dX11_termStep_69 rfl rfl ?_
      refine x_iconst (v := (2)) dX11_termStep_70 (by decide) ?_
      refine x_callVi [.int (2 : Int32)] (c_X11_fails (I := I) (L := L) (2 : Int32)) dX11_termStep_71 lk_X11_181 lm_0 rfl cd_X11_fails rfl rfl (Nat.le_of_ble_eq_true rfl) ⟨rfl, rfl, Nat.le_of_ble_eq_true rfl, Nat.le_of_ble_eq_true rfl⟩ ?_
      cases hf
      exact x_zret dX11_termStep_74 rfl rfl
    · replace hf := f_el hB hf
      refine x_iload_n 3 dX11_termStep_50 rfl rfl ?_
      refine x_bipush (v := (21)) dX11_termStep_51 (by decide) ?_
      refine x_icmp_gt 69 dX11_termStep_53 (by decide) (fun hB => ?_) (fun hB => ?_)
      · replace hf := f_if hB hf
        refine x_aload_n 4 dX11_termStep_69 rfl rfl ?_
        refine x_iconst (v := (2)) dX11_termStep_70 (by decide) ?_
        refine x_callVi [.int (2 : Int32)] (c_X11_fails (I := I) (L := L) (2 : Int32)) dX11_termStep_71 lk_X11_181 lm_0 rfl cd_X11_fails rfl rfl (Nat.le_of_ble_eq_true rfl) ⟨rfl, rfl, Nat.le_of_ble_eq_true rfl, Nat.le_of_ble_eq_true rfl⟩ ?_
        cases hf
        exact x_zret dX11_termStep_74 rfl rfl
      · replace hf := f_el hB hf
        refine x_iload_n 3 dX11_termStep_56 rfl rfl ?_
        refine x_bipush (v := (20)) dX11_termStep_57 (by decide) ?_
        refine x_icmp_ne 75 dX11_termStep_59 (by decide) (fun hB => ?_) (fun hB => ?_)
        · replace hf := f_el hB hf
          refine x_iload_n 3 dX11_termStep_75 rfl rfl ?_
          refine x_bipush (v := (20)) dX11_termStep_76 (by decide) ?_
          refine x_icmp_eq 97 dX11_termStep_78 (by decide) (fun hB => ?_) (fun hB => ?_)
          · replace hf := f_if hB hf
            refine x_iload 0 dX11_termStep_97 rfl ?_
            refine x_if_eq 117 dX11_termStep_99 (by decide) (fun h => absurd h (by decide)) (fun _ => ?_)
            refine x_aload_n 4 dX11_termStep_102 rfl rfl ?_
            refine x_getI (v := (I 0 22)) dX11_termStep_103 lm_0 fl_X11_284 rfl rfl ?_
            refine x_iconst (v := (3)) dX11_termStep_106 (by decide) ?_
            refine x_icmp_ne 117 dX11_termStep_107 (by decide) (fun hB => ?_) (fun hB => ?_)
            · replace hf := f_el hB hf
              refine x_aload_n 4 dX11_termStep_117 rfl rfl ?_
              refine x_dup dX11_termStep_118 rfl ?_
              refine x_getI (v := (I 0 23)) dX11_termStep_119 lm_0 fl_X11_287 rfl rfl ?_
              refine x_iload_n 3 dX11_termStep_122 rfl rfl ?_
              refine x_bipush (v := (20)) dX11_termStep_123 (by decide) ?_
              refine x_icmp_ne 132 dX11_termStep_125 (by decide) (fun hB => ?_) (fun hB => ?_)
              · replace hf := f_el hB hf
                refine x_iconst (v := (1)) dX11_termStep_132 (by decide) ?_
                refine x_iadd dX11_termStep_133 ?_
                obtain ⟨I127, hI127, hf⟩ := f_lt hf
                refine x_putI dX11_termStep_134 lm_0 fl_X11_287 rfl rfl rfl hI127 ?_
                refine x_aload_n 4 dX11_termStep_137 rfl rfl ?_
                refine x_getR dX11_termStep_138 lm_0 fl_X11_7 rfl ?_
                refine x_iload_n 1 dX11_termStep_141 rfl rfl ?_
                refine x_iload_n 3 dX11_termStep_142 rfl rfl ?_
                obtain ⟨h128, hf⟩ := f_gd hf
                obtain ⟨I129, hI129, hf⟩ := f_lt hf
                refine x_iast (j0 := (w4).toNatClampNeg) dX11_termStep_143 lm_1 h128 rfl hI129 ?_
                refine x_iconst (v := (1)) dX11_termStep_144 (by decide) ?_
                refine x_istore [(5, .int (1 : Int32)), (4, .int (1 : Int32)), (3, .int w4), (2, .int (I 1 1719)), (1, .int q1), (0, .ref 0)] dX11_termStep_145 (by decide) rfl ?_
                refine x_lv [(0, .ref 0), (1, .int q1), (2, .int (I 1 1719)), (3, .int w4), (4, .int (1 : Int32)), (5, .int (1 : Int32))] [5, 4, 3, 2, 1, 0] rfl ?_
                refine l_X11_termStep_147 q1 (I 1 1719) w4 (1 : Int32) (L) _ ?_ _ _ _ hf
                · intro I hf
                  refine x_aload_n 0 dX11_termStep_170 rfl rfl ?_
                  refine x_getR dX11_termStep_171 lm_0 fl_X11_7 rfl ?_
                  refine x_sipush (v := (1719)) dX11_termStep_174 (by decide) ?_
                  refine x_dup2 dX11_termStep_177 rfl rfl ?_
                  refine x_iald (j := 1719) (v := (I 1 1719)) dX11_termStep_178 lm_1 (by decide +kernel) (by decide +kernel) rfl ?_
                  refine x_iconst (v := (1)) dX11_termStep_179 (by decide) ?_
                  refine x_iadd dX11_termStep_180 ?_
                  obtain ⟨I132, hI132, hf⟩ := f_lt hf
                  refine x_iast (j0 := 1719) dX11_termStep_181 lm_1 (by decide +kernel) (by decide +kernel) hI132 ?_
                  refine x_aload_n 0 dX11_termStep_182 rfl rfl ?_
                  obtain ⟨q133, hq134, hf⟩ := f_bd hf
                  refine x_callVv [] (c_X11_ahead (I := I132) (L := L)  hq134) dX11_termStep_183 lk_X11_175 lm_0 rfl cd_X11_ahead rfl rfl (Nat.le_of_ble_eq_true rfl) ⟨rfl, rfl, Nat.le_of_ble_eq_true rfl, Nat.le_of_ble_eq_true rfl⟩ ?_
                  refine x_aload_n 0 dX11_termStep_186 rfl rfl ?_
                  refine x_iload_n 1 dX11_termStep_187 rfl rfl ?_
                  refine x_iload_n 3 dX11_termStep_188 rfl rfl ?_
                  obtain ⟨q135, hq136, hf⟩ := f_bd hf
                  refine x_callVi [.int q1, .int w4] (c_X11_termOrder (I := q133) (L := L)  hq136) dX11_termStep_189 lk_X11_290 lm_0 rfl cd_X11_termOrder rfl rfl (Nat.le_of_ble_eq_true rfl) ⟨rfl, rfl, Nat.le_of_ble_eq_true rfl, Nat.le_of_ble_eq_true rfl⟩ ?_
                  refine x_if_neB 197 dX11_termStep_192 (by decide) (fun hB => ?_) (fun hB => ?_)
                  · replace hf := f_if hB hf
                    refine x_iload 4 dX11_termStep_197 rfl ?_
                    refine x_if_eq 222 dX11_termStep_199 (by decide) (fun h => absurd h (by decide)) (fun _ => ?_)
                    refine x_aload_n 0 dX11_termStep_202 rfl rfl ?_
                    refine x_getR dX11_termStep_203 lm_0 fl_X11_44 rfl ?_
                    refine x_aload_n 0 dX11_termStep_206 rfl rfl ?_
                    refine x_getI (v := (q135.2 0 22)) dX11_termStep_207 lm_0 fl_X11_284 rfl rfl ?_
                    refine x_iload_n 2 dX11_termStep_210 rfl rfl ?_
                    obtain ⟨h137, hf⟩ := f_gd hf
                    obtain ⟨I138, hI138, hf⟩ := f_lt hf
                    refine x_iast (j0 := ((q135.2 0 22)).toNatClampNeg) dX11_termStep_211 lm_8 h137 rfl hI138 ?_
                    refine x_aload_n 0 dX11_termStep_212 rfl rfl ?_
                    refine x_dup dX11_termStep_213 rfl ?_
                    refine x_getI (v := (q135.2 0 22)) dX11_termStep_214 lm_0 fl_X11_284 rfl (by rw [hI138, z2_o (by decide)]) ?_
                    refine x_iconst (v := (1)) dX11_termStep_217 (by decide) ?_
                    refine x_iadd dX11_termStep_218 ?_
                    obtain ⟨I139, hI139, hf⟩ := f_lt hf
                    refine x_putI dX11_termStep_219 lm_0 fl_X11_284 rfl rfl rfl hI139 ?_
                    refine x_iload_n 1 dX11_termStep_222 rfl rfl ?_
                    refine x_bipush (v := (20)) dX11_termStep_223 (by decide) ?_
                    refine x_icmp_ne 279 dX11_termStep_225 (by decide) (fun hB => ?_) (fun hB => ?_)
                    · replace hf := f_el hB hf
                      refine x_aload_n 0 dX11_termStep_279 rfl rfl ?_
                      refine x_bipush (v := (59)) dX11_termStep_280 (by decide) ?_
                      obtain ⟨q149, hq150, hf⟩ := f_bd hf
                      refine x_callVi [.int (59 : Int32)] (c_X11_wantSign (I := I139) (L := L)  hq150) dX11_termStep_282 lk_X11_260 lm_0 rfl cd_X11_wantSign rfl rfl (Nat.le_of_ble_eq_true rfl) ⟨rfl, rfl, Nat.le_of_ble_eq_true rfl, Nat.le_of_ble_eq_true rfl⟩ ?_
                      cases hf
                      exact x_zret dX11_termStep_285 rfl rfl
                    · replace hf := f_if hB hf
                      refine x_aload_n 0 dX11_termStep_228 rfl rfl ?_
                      refine x_dup dX11_termStep_229 rfl ?_
                      refine x_getI (v := ((q135.2 0 22) + (1 : Int32))) dX11_termStep_230 lm_0 fl_X11_284 rfl (by rw [hI139, z2_s, z1_s]) ?_
                      refine x_iconst (v := (1)) dX11_termStep_233 (by decide) ?_
                      refine x_isub dX11_termStep_234 ?_
                      obtain ⟨I140, hI140, hf⟩ := f_lt hf
                      refine x_putI dX11_termStep_235 lm_0 fl_X11_284 rfl rfl rfl hI140 ?_
                      refine x_aload_n 0 dX11_termStep_238 rfl rfl ?_
                      refine x_getR dX11_termStep_239 lm_0 fl_X11_7 rfl ?_
                      refine x_iload_n 3 dX11_termStep_242 rfl rfl ?_
                      refine x_iconst (v := (4)) dX11_termStep_243 (by decide) ?_
                      refine x_iadd dX11_termStep_244 ?_
                      refine x_aload_n 0 dX11_termStep_245 rfl rfl ?_
                      refine x_getR dX11_termStep_246 lm_0 fl_X11_44 rfl ?_
                      refine x_aload_n 0 dX11_termStep_249 rfl rfl ?_
                      refine x_getI (v := (((q135.2 0 22) + (1 : Int32)) - (1 : Int32))) dX11_termStep_250 lm_0 fl_X11_284 rfl (by rw [hI140, z2_s, z1_s]) ?_
                      obtain ⟨h141, hf⟩ := f_gd hf
                      refine x_iald (j := ((((q135.2 0 22) + (1 : Int32)) - (1 : Int32))).toNatClampNeg) (v := (I138 8 ((((q135.2 0 22) + (1 : Int32)) - (1 : Int32))).toNatClampNeg)) dX11_termStep_253 lm_8 h141 rfl (by rw [hI140, z2_o (by decide), hI139, z2_o (by decide)]) ?_
                      obtain ⟨h142, hf⟩ := f_gd hf
                      obtain ⟨I143, hI143, hf⟩ := f_lt hf
                      refine x_iast (j0 := ((w4 + (4 : Int32))).toNatClampNeg) dX11_termStep_254 lm_1 h142 rfl hI143 ?_
                      refine x_aload_n 0 dX11_termStep_255 rfl rfl ?_
                      refine x_getR dX11_termStep_256 lm_0 fl_X11_7 rfl ?_
                      refine x_sipush (v := (1772)) dX11_termStep_259 (by decide) ?_
                      refine x_bipush (v := (6)) dX11_termStep_262 (by decide) ?_
                      refine x_aload_n 0 dX11_termStep_264 rfl rfl ?_
                      refine x_getR dX11_termStep_265 lm_0 fl_X11_44 rfl ?_
                      refine x_aload_n 0 dX11_termStep_268 rfl rfl ?_
                      refine x_getI (v := (((q135.2 0 22) + (1 : Int32)) - (1 : Int32))) dX11_termStep_269 lm_0 fl_X11_284 rfl (by rw [hI143, z2_o (by decide), hI140, z2_s, z1_s]) ?_
                      refine x_iald (j := ((((q135.2 0 22) + (1 : Int32)) - (1 : Int32))).toNatClampNeg) (v := (I138 8 ((((q135.2 0 22) + (1 : Int32)) - (1 : Int32))).toNatClampNeg)) dX11_termStep_272 lm_8 h141 rfl (by rw [hI143, z2_o (by decide), hI140, z2_o (by decide), hI139, z2_o (by decide)]) ?_
                      refine x_imul dX11_termStep_273 ?_
                      refine x_iadd dX11_termStep_274 ?_
                      refine x_iconst (v := (4)) dX11_termStep_275 (by decide) ?_
                      refine x_iadd dX11_termStep_276 ?_
                      refine x_iload_n 2 dX11_termStep_277 rfl rfl ?_
                      obtain ⟨h145, hf⟩ := f_gd hf
                      obtain ⟨I146, hI146, hf⟩ := f_lt hf
                      refine x_iast (j0 := ((((1772 : Int32) + ((6 : Int32) * (I138 8 ((((q135.2 0 22) + (1 : Int32)) - (1 : Int32))).toNatClampNeg))) + (4 : Int32))).toNatClampNeg) dX11_termStep_278 lm_1 h145 rfl hI146 ?_
                      refine x_aload_n 0 dX11_termStep_279 rfl rfl ?_
                      refine x_bipush (v := (59)) dX11_termStep_280 (by decide) ?_
                      obtain ⟨q147, hq148, hf⟩ := f_bd hf
                      refine x_callVi [.int (59 : Int32)] (c_X11_wantSign (I := I146) (L := L)  hq148) dX11_termStep_282 lk_X11_260 lm_0 rfl cd_X11_wantSign rfl rfl (Nat.le_of_ble_eq_true rfl) ⟨rfl, rfl, Nat.le_of_ble_eq_true rfl, Nat.le_of_ble_eq_true rfl⟩ ?_
                      cases hf
                      exact x_zret dX11_termStep_285 rfl rfl
                  · replace hf := f_el hB hf
                    refine x_iconst (v := (0)) dX11_termStep_195 (by decide) ?_
                    cases hf
                    exact x_zret (b := false) dX11_termStep_196 rfl rfl
              · replace hf := f_if hB hf
                refine x_iconst (v := (0)) dX11_termStep_128 (by decide) ?_
                refine x_goto 133 dX11_termStep_129 (by decide) ?_
                refine x_iadd dX11_termStep_133 ?_
                obtain ⟨I103, hI103, hf⟩ := f_lt hf
                refine x_putI dX11_termStep_134 lm_0 fl_X11_287 rfl rfl rfl hI103 ?_
                refine x_aload_n 4 dX11_termStep_137 rfl rfl ?_
                refine x_getR dX11_termStep_138 lm_0 fl_X11_7 rfl ?_
                refine x_iload_n 1 dX11_termStep_141 rfl rfl ?_
                refine x_iload_n 3 dX11_termStep_142 rfl rfl ?_
                obtain ⟨h104, hf⟩ := f_gd hf
                obtain ⟨I105, hI105, hf⟩ := f_lt hf
                refine x_iast (j0 := (w4).toNatClampNeg) dX11_termStep_143 lm_1 h104 rfl hI105 ?_
                refine x_iconst (v := (1)) dX11_termStep_144 (by decide) ?_
                refine x_istore [(5, .int (1 : Int32)), (4, .int (1 : Int32)), (3, .int w4), (2, .int (I 1 1719)), (1, .int q1), (0, .ref 0)] dX11_termStep_145 (by decide) rfl ?_
                refine x_lv [(0, .ref 0), (1, .int q1), (2, .int (I 1 1719)), (3, .int w4), (4, .int (1 : Int32)), (5, .int (1 : Int32))] [5, 4, 3, 2, 1, 0] rfl ?_
                refine l_X11_termStep_147 q1 (I 1 1719) w4 (1 : Int32) (L) _ ?_ _ _ _ hf
                · intro I hf
                  refine x_aload_n 0 dX11_termStep_170 rfl rfl ?_
                  refine x_getR dX11_termStep_171 lm_0 fl_X11_7 rfl ?_
                  refine x_sipush (v := (1719)) dX11_termStep_174 (by decide) ?_
                  refine x_dup2 dX11_termStep_177 rfl rfl ?_
                  refine x_iald (j := 1719) (v := (I 1 1719)) dX11_termStep_178 lm_1 (by decide +kernel) (by decide +kernel) rfl ?_
                  refine x_iconst (v := (1)) dX11_termStep_179 (by decide) ?_
                  refine x_iadd dX11_termStep_180 ?_
                  obtain ⟨I108, hI108, hf⟩ := f_lt hf
                  refine x_iast (j0 := 1719) dX11_termStep_181 lm_1 (by decide +kernel) (by decide +kernel) hI108 ?_
                  refine x_aload_n 0 dX11_termStep_182 rfl rfl ?_
                  obtain ⟨q109, hq110, hf⟩ := f_bd hf
                  refine x_callVv [] (c_X11_ahead (I := I108) (L := L)  hq110) dX11_termStep_183 lk_X11_175 lm_0 rfl cd_X11_ahead rfl rfl (Nat.le_of_ble_eq_true rfl) ⟨rfl, rfl, Nat.le_of_ble_eq_true rfl, Nat.le_of_ble_eq_true rfl⟩ ?_
                  refine x_aload_n 0 dX11_termStep_186 rfl rfl ?_
                  refine x_iload_n 1 dX11_termStep_187 rfl rfl ?_
                  refine x_iload_n 3 dX11_termStep_188 rfl rfl ?_
                  obtain ⟨q111, hq112, hf⟩ := f_bd hf
                  refine x_callVi [.int q1, .int w4] (c_X11_termOrder (I := q109) (L := L)  hq112) dX11_termStep_189 lk_X11_290 lm_0 rfl cd_X11_termOrder rfl rfl (Nat.le_of_ble_eq_true rfl) ⟨rfl, rfl, Nat.le_of_ble_eq_true rfl, Nat.le_of_ble_eq_true rfl⟩ ?_
                  refine x_if_neB 197 dX11_termStep_192 (by decide) (fun hB => ?_) (fun hB => ?_)
                  · replace hf := f_if hB hf
                    refine x_iload 4 dX11_termStep_197 rfl ?_
                    refine x_if_eq 222 dX11_termStep_199 (by decide) (fun h => absurd h (by decide)) (fun _ => ?_)
                    refine x_aload_n 0 dX11_termStep_202 rfl rfl ?_
                    refine x_getR dX11_termStep_203 lm_0 fl_X11_44 rfl ?_
                    refine x_aload_n 0 dX11_termStep_206 rfl rfl ?_
                    refine x_getI (v := (q111.2 0 22)) dX11_termStep_207 lm_0 fl_X11_284 rfl rfl ?_
                    refine x_iload_n 2 dX11_termStep_210 rfl rfl ?_
                    obtain ⟨h113, hf⟩ := f_gd hf
                    obtain ⟨I114, hI114, hf⟩ := f_lt hf
                    refine x_iast (j0 := ((q111.2 0 22)).toNatClampNeg) dX11_termStep_211 lm_8 h113 rfl hI114 ?_
                    refine x_aload_n 0 dX11_termStep_212 rfl rfl ?_
                    refine x_dup dX11_termStep_213 rfl ?_
                    refine x_getI (v := (q111.2 0 22)) dX11_termStep_214 lm_0 fl_X11_284 rfl (by rw [hI114, z2_o (by decide)]) ?_
                    refine x_iconst (v := (1)) dX11_termStep_217 (by decide) ?_
                    refine x_iadd dX11_termStep_218 ?_
                    obtain ⟨I115, hI115, hf⟩ := f_lt hf
                    refine x_putI dX11_termStep_219 lm_0 fl_X11_284 rfl rfl rfl hI115 ?_
                    refine x_iload_n 1 dX11_termStep_222 rfl rfl ?_
                    refine x_bipush (v := (20)) dX11_termStep_223 (by decide) ?_
                    refine x_icmp_ne 279 dX11_termStep_225 (by decide) (fun hB => ?_) (fun hB => ?_)
                    · replace hf := f_el hB hf
                      refine x_aload_n 0 dX11_termStep_279 rfl rfl ?_
                      refine x_bipush (v := (59)) dX11_termStep_280 (by decide) ?_
                      obtain ⟨q125, hq126, hf⟩ := f_bd hf
                      refine x_callVi [.int (59 : Int32)] (c_X11_wantSign (I := I115) (L := L)  hq126) dX11_termStep_282 lk_X11_260 lm_0 rfl cd_X11_wantSign rfl rfl (Nat.le_of_ble_eq_true rfl) ⟨rfl, rfl, Nat.le_of_ble_eq_true rfl, Nat.le_of_ble_eq_true rfl⟩ ?_
                      cases hf
                      exact x_zret dX11_termStep_285 rfl rfl
                    · replace hf := f_if hB hf
                      refine x_aload_n 0 dX11_termStep_228 rfl rfl ?_
                      refine x_dup dX11_termStep_229 rfl ?_
                      refine x_getI (v := ((q111.2 0 22) + (1 : Int32))) dX11_termStep_230 lm_0 fl_X11_284 rfl (by rw [hI115, z2_s, z1_s]) ?_
                      refine x_iconst (v := (1)) dX11_termStep_233 (by decide) ?_
                      refine x_isub dX11_termStep_234 ?_
                      obtain ⟨I116, hI116, hf⟩ := f_lt hf
                      refine x_putI dX11_termStep_235 lm_0 fl_X11_284 rfl rfl rfl hI116 ?_
                      refine x_aload_n 0 dX11_termStep_238 rfl rfl ?_
                      refine x_getR dX11_termStep_239 lm_0 fl_X11_7 rfl ?_
                      refine x_iload_n 3 dX11_termStep_242 rfl rfl ?_
                      refine x_iconst (v := (4)) dX11_termStep_243 (by decide) ?_
                      refine x_iadd dX11_termStep_244 ?_
                      refine x_aload_n 0 dX11_termStep_245 rfl rfl ?_
                      refine x_getR dX11_termStep_246 lm_0 fl_X11_44 rfl ?_
                      refine x_aload_n 0 dX11_termStep_249 rfl rfl ?_
                      refine x_getI (v := (((q111.2 0 22) + (1 : Int32)) - (1 : Int32))) dX11_termStep_250 lm_0 fl_X11_284 rfl (by rw [hI116, z2_s, z1_s]) ?_
                      obtain ⟨h117, hf⟩ := f_gd hf
                      refine x_iald (j := ((((q111.2 0 22) + (1 : Int32)) - (1 : Int32))).toNatClampNeg) (v := (I114 8 ((((q111.2 0 22) + (1 : Int32)) - (1 : Int32))).toNatClampNeg)) dX11_termStep_253 lm_8 h117 rfl (by rw [hI116, z2_o (by decide), hI115, z2_o (by decide)]) ?_
                      obtain ⟨h118, hf⟩ := f_gd hf
                      obtain ⟨I119, hI119, hf⟩ := f_lt hf
                      refine x_iast (j0 := ((w4 + (4 : Int32))).toNatClampNeg) dX11_termStep_254 lm_1 h118 rfl hI119 ?_
                      refine x_aload_n 0 dX11_termStep_255 rfl rfl ?_
                      refine x_getR dX11_termStep_256 lm_0 fl_X11_7 rfl ?_
                      refine x_sipush (v := (1772)) dX11_termStep_259 (by decide) ?_
                      refine x_bipush (v := (6)) dX11_termStep_262 (by decide) ?_
                      refine x_aload_n 0 dX11_termStep_264 rfl rfl ?_
                      refine x_getR dX11_termStep_265 lm_0 fl_X11_44 rfl ?_
                      refine x_aload_n 0 dX11_termStep_268 rfl rfl ?_
                      refine x_getI (v := (((q111.2 0 22) + (1 : Int32)) - (1 : Int32))) dX11_termStep_269 lm_0 fl_X11_284 rfl (by rw [hI119, z2_o (by decide), hI116, z2_s, z1_s]) ?_
                      refine x_iald (j := ((((q111.2 0 22) + (1 : Int32)) - (1 : Int32))).toNatClampNeg) (v := (I114 8 ((((q111.2 0 22) + (1 : Int32)) - (1 : Int32))).toNatClampNeg)) dX11_termStep_272 lm_8 h117 rfl (by rw [hI119, z2_o (by decide), hI116, z2_o (by decide), hI115, z2_o (by decide)]) ?_
                      refine x_imul dX11_termStep_273 ?_
                      refine x_iadd dX11_termStep_274 ?_
                      refine x_iconst (v := (4)) dX11_termStep_275 (by decide) ?_
                      refine x_iadd dX11_termStep_276 ?_
                      refine x_iload_n 2 dX11_termStep_277 rfl rfl ?_
                      obtain ⟨h121, hf⟩ := f_gd hf
                      obtain ⟨I122, hI122, hf⟩ := f_lt hf
                      refine x_iast (j0 := ((((1772 : Int32) + ((6 : Int32) * (I114 8 ((((q111.2 0 22) + (1 : Int32)) - (1 : Int32))).toNatClampNeg))) + (4 : Int32))).toNatClampNeg) dX11_termStep_278 lm_1 h121 rfl hI122 ?_
                      refine x_aload_n 0 dX11_termStep_279 rfl rfl ?_
                      refine x_bipush (v := (59)) dX11_termStep_280 (by decide) ?_
                      obtain ⟨q123, hq124, hf⟩ := f_bd hf
                      refine x_callVi [.int (59 : Int32)] (c_X11_wantSign (I := I122) (L := L)  hq124) dX11_termStep_282 lk_X11_260 lm_0 rfl cd_X11_wantSign rfl rfl (Nat.le_of_ble_eq_true rfl) ⟨rfl, rfl, Nat.le_of_ble_eq_true rfl, Nat.le_of_ble_eq_true rfl⟩ ?_
                      cases hf
                      exact x_zret dX11_termStep_285 rfl rfl
                  · replace hf := f_el hB hf
                    refine x_iconst (v := (0)) dX11_termStep_195 (by decide) ?_
                    cases hf
                    exact x_zret (b := false) dX11_termStep_196 rfl rfl
            · replace hf := f_if hB hf
              refine x_aload_n 4 dX11_termStep_110 rfl rfl ?_
              refine x_bipush (v := (7)) dX11_termStep_111 (by decide) ?_
              refine x_callVi [.int (7 : Int32)] (c_X11_fails (I := I) (L := L) (7 : Int32)) dX11_termStep_113 lk_X11_181 lm_0 rfl cd_X11_fails rfl rfl (Nat.le_of_ble_eq_true rfl) ⟨rfl, rfl, Nat.le_of_ble_eq_true rfl, Nat.le_of_ble_eq_true rfl⟩ ?_
              cases hf
              exact x_zret dX11_termStep_116 rfl rfl
          · replace hf := f_el hB hf
            refine x_aload_n 4 dX11_termStep_81 rfl rfl ?_
            refine x_getI (v := (I 0 23)) dX11_termStep_82 lm_0 fl_X11_287 rfl rfl ?_
            refine x_bipush (v := (30)) dX11_termStep_85 (by decide) ?_
            refine x_icmp_ne 97 dX11_termStep_87 (by decide) (fun hB => ?_) (fun hB => ?_)
            · replace hf := f_el hB hf
              refine x_iload 0 dX11_termStep_97 rfl ?_
              refine x_if_eq 117 dX11_termStep_99 (by decide) (fun h => absurd h (by decide)) (fun _ => ?_)
              refine x_aload_n 4 dX11_termStep_102 rfl rfl ?_
              refine x_getI (v := (I 0 22)) dX11_termStep_103 lm_0 fl_X11_284 rfl rfl ?_
              refine x_iconst (v := (3)) dX11_termStep_106 (by decide) ?_
              refine x_icmp_ne 117 dX11_termStep_107 (by decide) (fun hB => ?_) (fun hB => ?_)
              · replace hf := f_el hB hf
                refine x_aload_n 4 dX11_termStep_117 rfl rfl ?_
                refine x_dup dX11_termStep_118 rfl ?_
                refine x_getI (v := (I 0 23)) dX11_termStep_119 lm_0 fl_X11_287 rfl rfl ?_
                refine x_iload_n 3 dX11_termStep_122 rfl rfl ?_
                refine x_bipush (v := (20)) dX11_termStep_123 (by decide) ?_
                refine x_icmp_ne 132 dX11_termStep_125 (by decide) (fun hB => ?_) (fun hB => ?_)
                · replace hf := f_el hB hf
                  refine x_iconst (v := (1)) dX11_termStep_132 (by decide) ?_
                  refine x_iadd dX11_termStep_133 ?_
                  obtain ⟨I175, hI175, hf⟩ := f_lt hf
                  refine x_putI dX11_termStep_134 lm_0 fl_X11_287 rfl rfl rfl hI175 ?_
                  refine x_aload_n 4 dX11_termStep_137 rfl rfl ?_
                  refine x_getR dX11_termStep_138 lm_0 fl_X11_7 rfl ?_
                  refine x_iload_n 1 dX11_termStep_141 rfl rfl ?_
                  refine x_iload_n 3 dX11_termStep_142 rfl rfl ?_
                  obtain ⟨h176, hf⟩ := f_gd hf
                  obtain ⟨I177, hI177, hf⟩ := f_lt hf
                  refine x_iast (j0 := (w4).toNatClampNeg) dX11_termStep_143 lm_1 h176 rfl hI177 ?_
                  refine x_iconst (v := (1)) dX11_termStep_144 (by decide) ?_
                  refine x_istore [(5, .int (1 : Int32)), (4, .int (1 : Int32)), (3, .int w4), (2, .int (I 1 1719)), (1, .int q1), (0, .ref 0)] dX11_termStep_145 (by decide) rfl ?_
                  refine x_lv [(0, .ref 0), (1, .int q1), (2, .int (I 1 1719)), (3, .int w4), (4, .int (1 : Int32)), (5, .int (1 : Int32))] [5, 4, 3, 2, 1, 0] rfl ?_
                  refine l_X11_termStep_147 q1 (I 1 1719) w4 (1 : Int32) (L) _ ?_ _ _ _ hf
                  · intro I hf
                    refine x_aload_n 0 dX11_termStep_170 rfl rfl ?_
                    refine x_getR dX11_termStep_171 lm_0 fl_X11_7 rfl ?_
                    refine x_sipush (v := (1719)) dX11_termStep_174 (by decide) ?_
                    refine x_dup2 dX11_termStep_177 rfl rfl ?_
                    refine x_iald (j := 1719) (v := (I 1 1719)) dX11_termStep_178 lm_1 (by decide +kernel) (by decide +kernel) rfl ?_
                    refine x_iconst (v := (1)) dX11_termStep_179 (by decide) ?_
                    refine x_iadd dX11_termStep_180 ?_
                    obtain ⟨I180, hI180, hf⟩ := f_lt hf
                    refine x_iast (j0 := 1719) dX11_termStep_181 lm_1 (by decide +kernel) (by decide +kernel) hI180 ?_
                    refine x_aload_n 0 dX11_termStep_182 rfl rfl ?_
                    obtain ⟨q181, hq182, hf⟩ := f_bd hf
                    refine x_callVv [] (c_X11_ahead (I := I180) (L := L)  hq182) dX11_termStep_183 lk_X11_175 lm_0 rfl cd_X11_ahead rfl rfl (Nat.le_of_ble_eq_true rfl) ⟨rfl, rfl, Nat.le_of_ble_eq_true rfl, Nat.le_of_ble_eq_true rfl⟩ ?_
                    refine x_aload_n 0 dX11_termStep_186 rfl rfl ?_
                    refine x_iload_n 1 dX11_termStep_187 rfl rfl ?_
                    refine x_iload_n 3 dX11_termStep_188 rfl rfl ?_
                    obtain ⟨q183, hq184, hf⟩ := f_bd hf
                    refine x_callVi [.int q1, .int w4] (c_X11_termOrder (I := q181) (L := L)  hq184) dX11_termStep_189 lk_X11_290 lm_0 rfl cd_X11_termOrder rfl rfl (Nat.le_of_ble_eq_true rfl) ⟨rfl, rfl, Nat.le_of_ble_eq_true rfl, Nat.le_of_ble_eq_true rfl⟩ ?_
                    refine x_if_neB 197 dX11_termStep_192 (by decide) (fun hB => ?_) (fun hB => ?_)
                    · replace hf := f_if hB hf
                      refine x_iload 4 dX11_termStep_197 rfl ?_
                      refine x_if_eq 222 dX11_termStep_199 (by decide) (fun h => absurd h (by decide)) (fun _ => ?_)
                      refine x_aload_n 0 dX11_termStep_202 rfl rfl ?_
                      refine x_getR dX11_termStep_203 lm_0 fl_X11_44 rfl ?_
                      refine x_aload_n 0 dX11_termStep_206 rfl rfl ?_
                      refine x_getI (v := (q183.2 0 22)) dX11_termStep_207 lm_0 fl_X11_284 rfl rfl ?_
                      refine x_iload_n 2 dX11_termStep_210 rfl rfl ?_
                      obtain ⟨h185, hf⟩ := f_gd hf
                      obtain ⟨I186, hI186, hf⟩ := f_lt hf
                      refine x_iast (j0 := ((q183.2 0 22)).toNatClampNeg) dX11_termStep_211 lm_8 h185 rfl hI186 ?_
                      refine x_aload_n 0 dX11_termStep_212 rfl rfl ?_
                      refine x_dup dX11_termStep_213 rfl ?_
                      refine x_getI (v := (q183.2 0 22)) dX11_termStep_214 lm_0 fl_X11_284 rfl (by rw [hI186, z2_o (by decide)]) ?_
                      refine x_iconst (v := (1)) dX11_termStep_217 (by decide) ?_
                      refine x_iadd dX11_termStep_218 ?_
                      obtain ⟨I187, hI187, hf⟩ := f_lt hf
                      refine x_putI dX11_termStep_219 lm_0 fl_X11_284 rfl rfl rfl hI187 ?_
                      refine x_iload_n 1 dX11_termStep_222 rfl rfl ?_
                      refine x_bipush (v := (20)) dX11_termStep_223 (by decide) ?_
                      refine x_icmp_ne 279 dX11_termStep_225 (by decide) (fun hB => ?_) (fun hB => ?_)
                      · replace hf := f_el hB hf
                        refine x_aload_n 0 dX11_termStep_279 rfl rfl ?_
                        refine x_bipush (v := (59)) dX11_termStep_280 (by decide) ?_
                        obtain ⟨q197, hq198, hf⟩ := f_bd hf
                        refine x_callVi [.int (59 : Int32)] (c_X11_wantSign (I := I187) (L := L)  hq198) dX11_termStep_282 lk_X11_260 lm_0 rfl cd_X11_wantSign rfl rfl (Nat.le_of_ble_eq_true rfl) ⟨rfl, rfl, Nat.le_of_ble_eq_true rfl, Nat.le_of_ble_eq_true rfl⟩ ?_
                        cases hf
                        exact x_zret dX11_termStep_285 rfl rfl
                      · replace hf := f_if hB hf
                        refine x_aload_n 0 dX11_termStep_228 rfl rfl ?_
                        refine x_dup dX11_termStep_229 rfl ?_
                        refine x_getI (v := ((q183.2 0 22) + (1 : Int32))) dX11_termStep_230 lm_0 fl_X11_284 rfl (by rw [hI187, z2_s, z1_s]) ?_
                        refine x_iconst (v := (1)) dX11_termStep_233 (by decide) ?_
                        refine x_isub dX11_termStep_234 ?_
                        obtain ⟨I188, hI188, hf⟩ := f_lt hf
                        refine x_putI dX11_termStep_235 lm_0 fl_X11_284 rfl rfl rfl hI188 ?_
                        refine x_aload_n 0 dX11_termStep_238 rfl rfl ?_
                        refine x_getR dX11_termStep_239 lm_0 fl_X11_7 rfl ?_
                        refine x_iload_n 3 dX11_termStep_242 rfl rfl ?_
                        refine x_iconst (v := (4)) dX11_termStep_243 (by decide) ?_
                        refine x_iadd dX11_termStep_244 ?_
                        refine x_aload_n 0 dX11_termStep_245 rfl rfl ?_
                        refine x_getR dX11_termStep_246 lm_0 fl_X11_44 rfl ?_
                        refine x_aload_n 0 dX11_termStep_249 rfl rfl ?_
                        refine x_getI (v := (((q183.2 0 22) + (1 : Int32)) - (1 : Int32))) dX11_termStep_250 lm_0 fl_X11_284 rfl (by rw [hI188, z2_s, z1_s]) ?_
                        obtain ⟨h189, hf⟩ := f_gd hf
                        refine x_iald (j := ((((q183.2 0 22) + (1 : Int32)) - (1 : Int32))).toNatClampNeg) (v := (I186 8 ((((q183.2 0 22) + (1 : Int32)) - (1 : Int32))).toNatClampNeg)) dX11_termStep_253 lm_8 h189 rfl (by rw [hI188, z2_o (by decide), hI187, z2_o (by decide)]) ?_
                        obtain ⟨h190, hf⟩ := f_gd hf
                        obtain ⟨I191, hI191, hf⟩ := f_lt hf
                        refine x_iast (j0 := ((w4 + (4 : Int32))).toNatClampNeg) dX11_termStep_254 lm_1 h190 rfl hI191 ?_
                        refine x_aload_n 0 dX11_termStep_255 rfl rfl ?_
                        refine x_getR dX11_termStep_256 lm_0 fl_X11_7 rfl ?_
                        refine x_sipush (v := (1772)) dX11_termStep_259 (by decide) ?_
                        refine x_bipush (v := (6)) dX11_termStep_262 (by decide) ?_
                        refine x_aload_n 0 dX11_termStep_264 rfl rfl ?_
                        refine x_getR dX11_termStep_265 lm_0 fl_X11_44 rfl ?_
                        refine x_aload_n 0 dX11_termStep_268 rfl rfl ?_
                        refine x_getI (v := (((q183.2 0 22) + (1 : Int32)) - (1 : Int32))) dX11_termStep_269 lm_0 fl_X11_284 rfl (by rw [hI191, z2_o (by decide), hI188, z2_s, z1_s]) ?_
                        refine x_iald (j := ((((q183.2 0 22) + (1 : Int32)) - (1 : Int32))).toNatClampNeg) (v := (I186 8 ((((q183.2 0 22) + (1 : Int32)) - (1 : Int32))).toNatClampNeg)) dX11_termStep_272 lm_8 h189 rfl (by rw [hI191, z2_o (by decide), hI188, z2_o (by decide), hI187, z2_o (by decide)]) ?_
                        refine x_imul dX11_termStep_273 ?_
                        refine x_iadd dX11_termStep_274 ?_
                        refine x_iconst (v := (4)) dX11_termStep_275 (by decide) ?_
                        refine x_iadd dX11_termStep_276 ?_
                        refine x_iload_n 2 dX11_termStep_277 rfl rfl ?_
                        obtain ⟨h193, hf⟩ := f_gd hf
                        obtain ⟨I194, hI194, hf⟩ := f_lt hf
                        refine x_iast (j0 := ((((1772 : Int32) + ((6 : Int32) * (I186 8 ((((q183.2 0 22) + (1 : Int32)) - (1 : Int32))).toNatClampNeg))) + (4 : Int32))).toNatClampNeg) dX11_termStep_278 lm_1 h193 rfl hI194 ?_
                        refine x_aload_n 0 dX11_termStep_279 rfl rfl ?_
                        refine x_bipush (v := (59)) dX11_termStep_280 (by decide) ?_
                        obtain ⟨q195, hq196, hf⟩ := f_bd hf
                        refine x_callVi [.int (59 : Int32)] (c_X11_wantSign (I := I194) (L := L)  hq196) dX11_termStep_282 lk_X11_260 lm_0 rfl cd_X11_wantSign rfl rfl (Nat.le_of_ble_eq_true rfl) ⟨rfl, rfl, Nat.le_of_ble_eq_true rfl, Nat.le_of_ble_eq_true rfl⟩ ?_
                        cases hf
                        exact x_zret dX11_termStep_285 rfl rfl
                    · replace hf := f_el hB hf
                      refine x_iconst (v := (0)) dX11_termStep_195 (by decide) ?_
                      cases hf
                      exact x_zret (b := false) dX11_termStep_196 rfl rfl
                · replace hf := f_if hB hf
                  refine x_iconst (v := (0)) dX11_termStep_128 (by decide) ?_
                  refine x_goto 133 dX11_termStep_129 (by decide) ?_
                  refine x_iadd dX11_termStep_133 ?_
                  obtain ⟨I151, hI151, hf⟩ := f_lt hf
                  refine x_putI dX11_termStep_134 lm_0 fl_X11_287 rfl rfl rfl hI151 ?_
                  refine x_aload_n 4 dX11_termStep_137 rfl rfl ?_
                  refine x_getR dX11_termStep_138 lm_0 fl_X11_7 rfl ?_
                  refine x_iload_n 1 dX11_termStep_141 rfl rfl ?_
                  refine x_iload_n 3 dX11_termStep_142 rfl rfl ?_
                  obtain ⟨h152, hf⟩ := f_gd hf
                  obtain ⟨I153, hI153, hf⟩ := f_lt hf
                  refine x_iast (j0 := (w4).toNatClampNeg) dX11_termStep_143 lm_1 h152 rfl hI153 ?_
                  refine x_iconst (v := (1)) dX11_termStep_144 (by decide) ?_
                  refine x_istore [(5, .int (1 : Int32)), (4, .int (1 : Int32)), (3, .int w4), (2, .int (I 1 1719)), (1, .int q1), (0, .ref 0)] dX11_termStep_145 (by decide) rfl ?_
                  refine x_lv [(0, .ref 0), (1, .int q1), (2, .int (I 1 1719)), (3, .int w4), (4, .int (1 : Int32)), (5, .int (1 : Int32))] [5, 4, 3, 2, 1, 0] rfl ?_
                  refine l_X11_termStep_147 q1 (I 1 1719) w4 (1 : Int32) (L) _ ?_ _ _ _ hf
                  · intro I hf
                    refine x_aload_n 0 dX11_termStep_170 rfl rfl ?_
                    refine x_getR dX11_termStep_171 lm_0 fl_X11_7 rfl ?_
                    refine x_sipush (v := (1719)) dX11_termStep_174 (by decide) ?_
                    refine x_dup2 dX11_termStep_177 rfl rfl ?_
                    refine x_iald (j := 1719) (v := (I 1 1719)) dX11_termStep_178 lm_1 (by decide +kernel) (by decide +kernel) rfl ?_
                    refine x_iconst (v := (1)) dX11_termStep_179 (by decide) ?_
                    refine x_iadd dX11_termStep_180 ?_
                    obtain ⟨I156, hI156, hf⟩ := f_lt hf
                    refine x_iast (j0 := 1719) dX11_termStep_181 lm_1 (by decide +kernel) (by decide +kernel) hI156 ?_
                    refine x_aload_n 0 dX11_termStep_182 rfl rfl ?_
                    obtain ⟨q157, hq158, hf⟩ := f_bd hf
                    refine x_callVv [] (c_X11_ahead (I := I156) (L := L)  hq158) dX11_termStep_183 lk_X11_175 lm_0 rfl cd_X11_ahead rfl rfl (Nat.le_of_ble_eq_true rfl) ⟨rfl, rfl, Nat.le_of_ble_eq_true rfl, Nat.le_of_ble_eq_true rfl⟩ ?_
                    refine x_aload_n 0 dX11_termStep_186 rfl rfl ?_
                    refine x_iload_n 1 dX11_termStep_187 rfl rfl ?_
                    refine x_iload_n 3 dX11_termStep_188 rfl rfl ?_
                    obtain ⟨q159, hq160, hf⟩ := f_bd hf
                    refine x_callVi [.int q1, .int w4] (c_X11_termOrder (I := q157) (L := L)  hq160) dX11_termStep_189 lk_X11_290 lm_0 rfl cd_X11_termOrder rfl rfl (Nat.le_of_ble_eq_true rfl) ⟨rfl, rfl, Nat.le_of_ble_eq_true rfl, Nat.le_of_ble_eq_true rfl⟩ ?_
                    refine x_if_neB 197 dX11_termStep_192 (by decide) (fun hB => ?_) (fun hB => ?_)
                    · replace hf := f_if hB hf
                      refine x_iload 4 dX11_termStep_197 rfl ?_
                      refine x_if_eq 222 dX11_termStep_199 (by decide) (fun h => absurd h (by decide)) (fun _ => ?_)
                      refine x_aload_n 0 dX11_termStep_202 rfl rfl ?_
                      refine x_getR dX11_termStep_203 lm_0 fl_X11_44 rfl ?_
                      refine x_aload_n 0 dX11_termStep_206 rfl rfl ?_
                      refine x_getI (v := (q159.2 0 22)) dX11_termStep_207 lm_0 fl_X11_284 rfl rfl ?_
                      refine x_iload_n 2 dX11_termStep_210 rfl rfl ?_
                      obtain ⟨h161, hf⟩ := f_gd hf
                      obtain ⟨I162, hI162, hf⟩ := f_lt hf
                      refine x_iast (j0 := ((q159.2 0 22)).toNatClampNeg) dX11_termStep_211 lm_8 h161 rfl hI162 ?_
                      refine x_aload_n 0 dX11_termStep_212 rfl rfl ?_
                      refine x_dup dX11_termStep_213 rfl ?_
                      refine x_getI (v := (q159.2 0 22)) dX11_termStep_214 lm_0 fl_X11_284 rfl (by rw [hI162, z2_o (by decide)]) ?_
                      refine x_iconst (v := (1)) dX11_termStep_217 (by decide) ?_
                      refine x_iadd dX11_termStep_218 ?_
                      obtain ⟨I163, hI163, hf⟩ := f_lt hf
                      refine x_putI dX11_termStep_219 lm_0 fl_X11_284 rfl rfl rfl hI163 ?_
                      refine x_iload_n 1 dX11_termStep_222 rfl rfl ?_
                      refine x_bipush (v := (20)) dX11_termStep_223 (by decide) ?_
                      refine x_icmp_ne 279 dX11_termStep_225 (by decide) (fun hB => ?_) (fun hB => ?_)
                      · replace hf := f_el hB hf
                        refine x_aload_n 0 dX11_termStep_279 rfl rfl ?_
                        refine x_bipush (v := (59)) dX11_termStep_280 (by decide) ?_
                        obtain ⟨q173, hq174, hf⟩ := f_bd hf
                        refine x_callVi [.int (59 : Int32)] (c_X11_wantSign (I := I163) (L := L)  hq174) dX11_termStep_282 lk_X11_260 lm_0 rfl cd_X11_wantSign rfl rfl (Nat.le_of_ble_eq_true rfl) ⟨rfl, rfl, Nat.le_of_ble_eq_true rfl, Nat.le_of_ble_eq_true rfl⟩ ?_
                        cases hf
                        exact x_zret dX11_termStep_285 rfl rfl
                      · replace hf := f_if hB hf
                        refine x_aload_n 0 dX11_termStep_228 rfl rfl ?_
                        refine x_dup dX11_termStep_229 rfl ?_
                        refine x_getI (v := ((q159.2 0 22) + (1 : Int32))) dX11_termStep_230 lm_0 fl_X11_284 rfl (by rw [hI163, z2_s, z1_s]) ?_
                        refine x_iconst (v := (1)) dX11_termStep_233 (by decide) ?_
                        refine x_isub dX11_termStep_234 ?_
                        obtain ⟨I164, hI164, hf⟩ := f_lt hf
                        refine x_putI dX11_termStep_235 lm_0 fl_X11_284 rfl rfl rfl hI164 ?_
                        refine x_aload_n 0 dX11_termStep_238 rfl rfl ?_
                        refine x_getR dX11_termStep_239 lm_0 fl_X11_7 rfl ?_
                        refine x_iload_n 3 dX11_termStep_242 rfl rfl ?_
                        refine x_iconst (v := (4)) dX11_termStep_243 (by decide) ?_
                        refine x_iadd dX11_termStep_244 ?_
                        refine x_aload_n 0 dX11_termStep_245 rfl rfl ?_
                        refine x_getR dX11_termStep_246 lm_0 fl_X11_44 rfl ?_
                        refine x_aload_n 0 dX11_termStep_249 rfl rfl ?_
                        refine x_getI (v := (((q159.2 0 22) + (1 : Int32)) - (1 : Int32))) dX11_termStep_250 lm_0 fl_X11_284 rfl (by rw [hI164, z2_s, z1_s]) ?_
                        obtain ⟨h165, hf⟩ := f_gd hf
                        refine x_iald (j := ((((q159.2 0 22) + (1 : Int32)) - (1 : Int32))).toNatClampNeg) (v := (I162 8 ((((q159.2 0 22) + (1 : Int32)) - (1 : Int32))).toNatClampNeg)) dX11_termStep_253 lm_8 h165 rfl (by rw [hI164, z2_o (by decide), hI163, z2_o (by decide)]) ?_
                        obtain ⟨h166, hf⟩ := f_gd hf
                        obtain ⟨I167, hI167, hf⟩ := f_lt hf
                        refine x_iast (j0 := ((w4 + (4 : Int32))).toNatClampNeg) dX11_termStep_254 lm_1 h166 rfl hI167 ?_
                        refine x_aload_n 0 dX11_termStep_255 rfl rfl ?_
                        refine x_getR dX11_termStep_256 lm_0 fl_X11_7 rfl ?_
                        refine x_sipush (v := (1772)) dX11_termStep_259 (by decide) ?_
                        refine x_bipush (v := (6)) dX11_termStep_262 (by decide) ?_
                        refine x_aload_n 0 dX11_termStep_264 rfl rfl ?_
                        refine x_getR dX11_termStep_265 lm_0 fl_X11_44 rfl ?_
                        refine x_aload_n 0 dX11_termStep_268 rfl rfl ?_
                        refine x_getI (v := (((q159.2 0 22) + (1 : Int32)) - (1 : Int32))) dX11_termStep_269 lm_0 fl_X11_284 rfl (by rw [hI167, z2_o (by decide), hI164, z2_s, z1_s]) ?_
                        refine x_iald (j := ((((q159.2 0 22) + (1 : Int32)) - (1 : Int32))).toNatClampNeg) (v := (I162 8 ((((q159.2 0 22) + (1 : Int32)) - (1 : Int32))).toNatClampNeg)) dX11_termStep_272 lm_8 h165 rfl (by rw [hI167, z2_o (by decide), hI164, z2_o (by decide), hI163, z2_o (by decide)]) ?_
                        refine x_imul dX11_termStep_273 ?_
                        refine x_iadd dX11_termStep_274 ?_
                        refine x_iconst (v := (4)) dX11_termStep_275 (by decide) ?_
                        refine x_iadd dX11_termStep_276 ?_
                        refine x_iload_n 2 dX11_termStep_277 rfl rfl ?_
                        obtain ⟨h169, hf⟩ := f_gd hf
                        obtain ⟨I170, hI170, hf⟩ := f_lt hf
                        refine x_iast (j0 := ((((1772 : Int32) + ((6 : Int32) * (I162 8 ((((q159.2 0 22) + (1 : Int32)) - (1 : Int32))).toNatClampNeg))) + (4 : Int32))).toNatClampNeg) dX11_termStep_278 lm_1 h169 rfl hI170 ?_
                        refine x_aload_n 0 dX11_termStep_279 rfl rfl ?_
                        refine x_bipush (v := (59)) dX11_termStep_280 (by decide) ?_
                        obtain ⟨q171, hq172, hf⟩ := f_bd hf
                        refine x_callVi [.int (59 : Int32)] (c_X11_wantSign (I := I170) (L := L)  hq172) dX11_termStep_282 lk_X11_260 lm_0 rfl cd_X11_wantSign rfl rfl (Nat.le_of_ble_eq_true rfl) ⟨rfl, rfl, Nat.le_of_ble_eq_true rfl, Nat.le_of_ble_eq_true rfl⟩ ?_
                        cases hf
                        exact x_zret dX11_termStep_285 rfl rfl
                    · replace hf := f_el hB hf
                      refine x_iconst (v := (0)) dX11_termStep_195 (by decide) ?_
                      cases hf
                      exact x_zret (b := false) dX11_termStep_196 rfl rfl
              · replace hf := f_if hB hf
                refine x_aload_n 4 dX11_termStep_110 rfl rfl ?_
                refine x_bipush (v := (7)) dX11_termStep_111 (by decide) ?_
                refine x_callVi [.int (7 : Int32)] (c_X11_fails (I := I) (L := L) (7 : Int32)) dX11_termStep_113 lk_X11_181 lm_0 rfl cd_X11_fails rfl rfl (Nat.le_of_ble_eq_true rfl) ⟨rfl, rfl, Nat.le_of_ble_eq_true rfl, Nat.le_of_ble_eq_true rfl⟩ ?_
                cases hf
                exact x_zret dX11_termStep_116 rfl rfl
            · replace hf := f_if hB hf
              refine x_aload_n 4 dX11_termStep_90 rfl rfl ?_
              refine x_bipush (v := (6)) dX11_termStep_91 (by decide) ?_
              refine x_callVi [.int (6 : Int32)] (c_X11_fails (I := I) (L := L) (6 : Int32)) dX11_termStep_93 lk_X11_181 lm_0 rfl cd_X11_fails rfl rfl (Nat.le_of_ble_eq_true rfl) ⟨rfl, rfl, Nat.le_of_ble_eq_true rfl, Nat.le_of_ble_eq_true rfl⟩ ?_
              cases hf
              exact x_zret dX11_termStep_96 rfl rfl
        · replace hf := f_if hB hf
          refine x_aload_n 4 dX11_termStep_62 rfl rfl ?_
          refine x_getI (v := (I 0 22)) dX11_termStep_63 lm_0 fl_X11_284 rfl rfl ?_
          refine x_if_ne 75 dX11_termStep_66 (by decide) (fun hB => ?_) (fun hB => ?_)
          · replace hf := f_el hB hf
            refine x_iload_n 3 dX11_termStep_75 rfl rfl ?_
            refine x_bipush (v := (20)) dX11_termStep_76 (by decide) ?_
            refine x_icmp_eq 97 dX11_termStep_78 (by decide) (fun hB => ?_) (fun hB => ?_)
            · replace hf := f_if hB hf
              refine x_iload 0 dX11_termStep_97 rfl ?_
              refine x_if_eq 117 dX11_termStep_99 (by decide) (fun h => absurd h (by decide)) (fun _ => ?_)
              refine x_aload_n 4 dX11_termStep_102 rfl rfl ?_
              refine x_getI (v := (I 0 22)) dX11_termStep_103 lm_0 fl_X11_284 rfl rfl ?_
              refine x_iconst (v := (3)) dX11_termStep_106 (by decide) ?_
              refine x_icmp_ne 117 dX11_termStep_107 (by decide) (fun hB => ?_) (fun hB => ?_)
              · replace hf := f_el hB hf
                refine x_aload_n 4 dX11_termStep_117 rfl rfl ?_
                refine x_dup dX11_termStep_118 rfl ?_
                refine x_getI (v := (I 0 23)) dX11_termStep_119 lm_0 fl_X11_287 rfl rfl ?_
                refine x_iload_n 3 dX11_termStep_122 rfl rfl ?_
                refine x_bipush (v := (20)) dX11_termStep_123 (by decide) ?_
                refine x_icmp_ne 132 dX11_termStep_125 (by decide) (fun hB => ?_) (fun hB => ?_)
                · replace hf := f_el hB hf
                  refine x_iconst (v := (1)) dX11_termStep_132 (by decide) ?_
                  refine x_iadd dX11_termStep_133 ?_
                  obtain ⟨I31, hI31, hf⟩ := f_lt hf
                  refine x_putI dX11_termStep_134 lm_0 fl_X11_287 rfl rfl rfl hI31 ?_
                  refine x_aload_n 4 dX11_termStep_137 rfl rfl ?_
                  refine x_getR dX11_termStep_138 lm_0 fl_X11_7 rfl ?_
                  refine x_iload_n 1 dX11_termStep_141 rfl rfl ?_
                  refine x_iload_n 3 dX11_termStep_142 rfl rfl ?_
                  obtain ⟨h32, hf⟩ := f_gd hf
                  obtain ⟨I33, hI33, hf⟩ := f_lt hf
                  refine x_iast (j0 := (w4).toNatClampNeg) dX11_termStep_143 lm_1 h32 rfl hI33 ?_
                  refine x_iconst (v := (1)) dX11_termStep_144 (by decide) ?_
                  refine x_istore [(5, .int (1 : Int32)), (4, .int (1 : Int32)), (3, .int w4), (2, .int (I 1 1719)), (1, .int q1), (0, .ref 0)] dX11_termStep_145 (by decide) rfl ?_
                  refine x_lv [(0, .ref 0), (1, .int q1), (2, .int (I 1 1719)), (3, .int w4), (4, .int (1 : Int32)), (5, .int (1 : Int32))] [5, 4, 3, 2, 1, 0] rfl ?_
                  refine l_X11_termStep_147 q1 (I 1 1719) w4 (1 : Int32) (L) _ ?_ _ _ _ hf
                  · intro I hf
                    refine x_aload_n 0 dX11_termStep_170 rfl rfl ?_
                    refine x_getR dX11_termStep_171 lm_0 fl_X11_7 rfl ?_
                    refine x_sipush (v := (1719)) dX11_termStep_174 (by decide) ?_
                    refine x_dup2 dX11_termStep_177 rfl rfl ?_
                    refine x_iald (j := 1719) (v := (I 1 1719)) dX11_termStep_178 lm_1 (by decide +kernel) (by decide +kernel) rfl ?_
                    refine x_iconst (v := (1)) dX11_termStep_179 (by decide) ?_
                    refine x_iadd dX11_termStep_180 ?_
                    obtain ⟨I36, hI36, hf⟩ := f_lt hf
                    refine x_iast (j0 := 1719) dX11_termStep_181 lm_1 (by decide +kernel) (by decide +kernel) hI36 ?_
                    refine x_aload_n 0 dX11_termStep_182 rfl rfl ?_
                    obtain ⟨q37, hq38, hf⟩ := f_bd hf
                    refine x_callVv [] (c_X11_ahead (I := I36) (L := L)  hq38) dX11_termStep_183 lk_X11_175 lm_0 rfl cd_X11_ahead rfl rfl (Nat.le_of_ble_eq_true rfl) ⟨rfl, rfl, Nat.le_of_ble_eq_true rfl, Nat.le_of_ble_eq_true rfl⟩ ?_
                    refine x_aload_n 0 dX11_termStep_186 rfl rfl ?_
                    refine x_iload_n 1 dX11_termStep_187 rfl rfl ?_
                    refine x_iload_n 3 dX11_termStep_188 rfl rfl ?_
                    obtain ⟨q39, hq40, hf⟩ := f_bd hf
                    refine x_callVi [.int q1, .int w4] (c_X11_termOrder (I := q37) (L := L)  hq40) dX11_termStep_189 lk_X11_290 lm_0 rfl cd_X11_termOrder rfl rfl (Nat.le_of_ble_eq_true rfl) ⟨rfl, rfl, Nat.le_of_ble_eq_true rfl, Nat.le_of_ble_eq_true rfl⟩ ?_
                    refine x_if_neB 197 dX11_termStep_192 (by decide) (fun hB => ?_) (fun hB => ?_)
                    · replace hf := f_if hB hf
                      refine x_iload 4 dX11_termStep_197 rfl ?_
                      refine x_if_eq 222 dX11_termStep_199 (by decide) (fun h => absurd h (by decide)) (fun _ => ?_)
                      refine x_aload_n 0 dX11_termStep_202 rfl rfl ?_
                      refine x_getR dX11_termStep_203 lm_0 fl_X11_44 rfl ?_
                      refine x_aload_n 0 dX11_termStep_206 rfl rfl ?_
                      refine x_getI (v := (q39.2 0 22)) dX11_termStep_207 lm_0 fl_X11_284 rfl rfl ?_
                      refine x_iload_n 2 dX11_termStep_210 rfl rfl ?_
                      obtain ⟨h41, hf⟩ := f_gd hf
                      obtain ⟨I42, hI42, hf⟩ := f_lt hf
                      refine x_iast (j0 := ((q39.2 0 22)).toNatClampNeg) dX11_termStep_211 lm_8 h41 rfl hI42 ?_
                      refine x_aload_n 0 dX11_termStep_212 rfl rfl ?_
                      refine x_dup dX11_termStep_213 rfl ?_
                      refine x_getI (v := (q39.2 0 22)) dX11_termStep_214 lm_0 fl_X11_284 rfl (by rw [hI42, z2_o (by decide)]) ?_
                      refine x_iconst (v := (1)) dX11_termStep_217 (by decide) ?_
                      refine x_iadd dX11_termStep_218 ?_
                      obtain ⟨I43, hI43, hf⟩ := f_lt hf
                      refine x_putI dX11_termStep_219 lm_0 fl_X11_284 rfl rfl rfl hI43 ?_
                      refine x_iload_n 1 dX11_termStep_222 rfl rfl ?_
                      refine x_bipush (v := (20)) dX11_termStep_223 (by decide) ?_
                      refine x_icmp_ne 279 dX11_termStep_225 (by decide) (fun hB => ?_) (fun hB => ?_)
                      · replace hf := f_el hB hf
                        refine x_aload_n 0 dX11_termStep_279 rfl rfl ?_
                        refine x_bipush (v := (59)) dX11_termStep_280 (by decide) ?_
                        obtain ⟨q53, hq54, hf⟩ := f_bd hf
                        refine x_callVi [.int (59 : Int32)] (c_X11_wantSign (I := I43) (L := L)  hq54) dX11_termStep_282 lk_X11_260 lm_0 rfl cd_X11_wantSign rfl rfl (Nat.le_of_ble_eq_true rfl) ⟨rfl, rfl, Nat.le_of_ble_eq_true rfl, Nat.le_of_ble_eq_true rfl⟩ ?_
                        cases hf
                        exact x_zret dX11_termStep_285 rfl rfl
                      · replace hf := f_if hB hf
                        refine x_aload_n 0 dX11_termStep_228 rfl rfl ?_
                        refine x_dup dX11_termStep_229 rfl ?_
                        refine x_getI (v := ((q39.2 0 22) + (1 : Int32))) dX11_termStep_230 lm_0 fl_X11_284 rfl (by rw [hI43, z2_s, z1_s]) ?_
                        refine x_iconst (v := (1)) dX11_termStep_233 (by decide) ?_
                        refine x_isub dX11_termStep_234 ?_
                        obtain ⟨I44, hI44, hf⟩ := f_lt hf
                        refine x_putI dX11_termStep_235 lm_0 fl_X11_284 rfl rfl rfl hI44 ?_
                        refine x_aload_n 0 dX11_termStep_238 rfl rfl ?_
                        refine x_getR dX11_termStep_239 lm_0 fl_X11_7 rfl ?_
                        refine x_iload_n 3 dX11_termStep_242 rfl rfl ?_
                        refine x_iconst (v := (4)) dX11_termStep_243 (by decide) ?_
                        refine x_iadd dX11_termStep_244 ?_
                        refine x_aload_n 0 dX11_termStep_245 rfl rfl ?_
                        refine x_getR dX11_termStep_246 lm_0 fl_X11_44 rfl ?_
                        refine x_aload_n 0 dX11_termStep_249 rfl rfl ?_
                        refine x_getI (v := (((q39.2 0 22) + (1 : Int32)) - (1 : Int32))) dX11_termStep_250 lm_0 fl_X11_284 rfl (by rw [hI44, z2_s, z1_s]) ?_
                        obtain ⟨h45, hf⟩ := f_gd hf
                        refine x_iald (j := ((((q39.2 0 22) + (1 : Int32)) - (1 : Int32))).toNatClampNeg) (v := (I42 8 ((((q39.2 0 22) + (1 : Int32)) - (1 : Int32))).toNatClampNeg)) dX11_termStep_253 lm_8 h45 rfl (by rw [hI44, z2_o (by decide), hI43, z2_o (by decide)]) ?_
                        obtain ⟨h46, hf⟩ := f_gd hf
                        obtain ⟨I47, hI47, hf⟩ := f_lt hf
                        refine x_iast (j0 := ((w4 + (4 : Int32))).toNatClampNeg) dX11_termStep_254 lm_1 h46 rfl hI47 ?_
                        refine x_aload_n 0 dX11_termStep_255 rfl rfl ?_
                        refine x_getR dX11_termStep_256 lm_0 fl_X11_7 rfl ?_
                        refine x_sipush (v := (1772)) dX11_termStep_259 (by decide) ?_
                        refine x_bipush (v := (6)) dX11_termStep_262 (by decide) ?_
                        refine x_aload_n 0 dX11_termStep_264 rfl rfl ?_
                        refine x_getR dX11_termStep_265 lm_0 fl_X11_44 rfl ?_
                        refine x_aload_n 0 dX11_termStep_268 rfl rfl ?_
                        refine x_getI (v := (((q39.2 0 22) + (1 : Int32)) - (1 : Int32))) dX11_termStep_269 lm_0 fl_X11_284 rfl (by rw [hI47, z2_o (by decide), hI44, z2_s, z1_s]) ?_
                        refine x_iald (j := ((((q39.2 0 22) + (1 : Int32)) - (1 : Int32))).toNatClampNeg) (v := (I42 8 ((((q39.2 0 22) + (1 : Int32)) - (1 : Int32))).toNatClampNeg)) dX11_termStep_272 lm_8 h45 rfl (by rw [hI47, z2_o (by decide), hI44, z2_o (by decide), hI43, z2_o (by decide)]) ?_
                        refine x_imul dX11_termStep_273 ?_
                        refine x_iadd dX11_termStep_274 ?_
                        refine x_iconst (v := (4)) dX11_termStep_275 (by decide) ?_
                        refine x_iadd dX11_termStep_276 ?_
                        refine x_iload_n 2 dX11_termStep_277 rfl rfl ?_
                        obtain ⟨h49, hf⟩ := f_gd hf
                        obtain ⟨I50, hI50, hf⟩ := f_lt hf
                        refine x_iast (j0 := ((((1772 : Int32) + ((6 : Int32) * (I42 8 ((((q39.2 0 22) + (1 : Int32)) - (1 : Int32))).toNatClampNeg))) + (4 : Int32))).toNatClampNeg) dX11_termStep_278 lm_1 h49 rfl hI50 ?_
                        refine x_aload_n 0 dX11_termStep_279 rfl rfl ?_
                        refine x_bipush (v := (59)) dX11_termStep_280 (by decide) ?_
                        obtain ⟨q51, hq52, hf⟩ := f_bd hf
                        refine x_callVi [.int (59 : Int32)] (c_X11_wantSign (I := I50) (L := L)  hq52) dX11_termStep_282 lk_X11_260 lm_0 rfl cd_X11_wantSign rfl rfl (Nat.le_of_ble_eq_true rfl) ⟨rfl, rfl, Nat.le_of_ble_eq_true rfl, Nat.le_of_ble_eq_true rfl⟩ ?_
                        cases hf
                        exact x_zret dX11_termStep_285 rfl rfl
                    · replace hf := f_el hB hf
                      refine x_iconst (v := (0)) dX11_termStep_195 (by decide) ?_
                      cases hf
                      exact x_zret (b := false) dX11_termStep_196 rfl rfl
                · replace hf := f_if hB hf
                  refine x_iconst (v := (0)) dX11_termStep_128 (by decide) ?_
                  refine x_goto 133 dX11_termStep_129 (by decide) ?_
                  refine x_iadd dX11_termStep_133 ?_
                  obtain ⟨I5, hI5, hf⟩ := f_lt hf
                  refine x_putI dX11_termStep_134 lm_0 fl_X11_287 rfl rfl rfl hI5 ?_
                  refine x_aload_n 4 dX11_termStep_137 rfl rfl ?_
                  refine x_getR dX11_termStep_138 lm_0 fl_X11_7 rfl ?_
                  refine x_iload_n 1 dX11_termStep_141 rfl rfl ?_
                  refine x_iload_n 3 dX11_termStep_142 rfl rfl ?_
                  obtain ⟨h6, hf⟩ := f_gd hf
                  obtain ⟨I7, hI7, hf⟩ := f_lt hf
                  refine x_iast (j0 := (w4).toNatClampNeg) dX11_termStep_143 lm_1 h6 rfl hI7 ?_
                  refine x_iconst (v := (1)) dX11_termStep_144 (by decide) ?_
                  refine x_istore [(5, .int (1 : Int32)), (4, .int (1 : Int32)), (3, .int w4), (2, .int (I 1 1719)), (1, .int q1), (0, .ref 0)] dX11_termStep_145 (by decide) rfl ?_
                  refine x_lv [(0, .ref 0), (1, .int q1), (2, .int (I 1 1719)), (3, .int w4), (4, .int (1 : Int32)), (5, .int (1 : Int32))] [5, 4, 3, 2, 1, 0] rfl ?_
                  refine l_X11_termStep_147 q1 (I 1 1719) w4 (1 : Int32) (L) _ ?_ _ _ _ hf
                  · intro I hf
                    refine x_aload_n 0 dX11_termStep_170 rfl rfl ?_
                    refine x_getR dX11_termStep_171 lm_0 fl_X11_7 rfl ?_
                    refine x_sipush (v := (1719)) dX11_termStep_174 (by decide) ?_
                    refine x_dup2 dX11_termStep_177 rfl rfl ?_
                    refine x_iald (j := 1719) (v := (I 1 1719)) dX11_termStep_178 lm_1 (by decide +kernel) (by decide +kernel) rfl ?_
                    refine x_iconst (v := (1)) dX11_termStep_179 (by decide) ?_
                    refine x_iadd dX11_termStep_180 ?_
                    obtain ⟨I12, hI12, hf⟩ := f_lt hf
                    refine x_iast (j0 := 1719) dX11_termStep_181 lm_1 (by decide +kernel) (by decide +kernel) hI12 ?_
                    refine x_aload_n 0 dX11_termStep_182 rfl rfl ?_
                    obtain ⟨q13, hq14, hf⟩ := f_bd hf
                    refine x_callVv [] (c_X11_ahead (I := I12) (L := L)  hq14) dX11_termStep_183 lk_X11_175 lm_0 rfl cd_X11_ahead rfl rfl (Nat.le_of_ble_eq_true rfl) ⟨rfl, rfl, Nat.le_of_ble_eq_true rfl, Nat.le_of_ble_eq_true rfl⟩ ?_
                    refine x_aload_n 0 dX11_termStep_186 rfl rfl ?_
                    refine x_iload_n 1 dX11_termStep_187 rfl rfl ?_
                    refine x_iload_n 3 dX11_termStep_188 rfl rfl ?_
                    obtain ⟨q15, hq16, hf⟩ := f_bd hf
                    refine x_callVi [.int q1, .int w4] (c_X11_termOrder (I := q13) (L := L)  hq16) dX11_termStep_189 lk_X11_290 lm_0 rfl cd_X11_termOrder rfl rfl (Nat.le_of_ble_eq_true rfl) ⟨rfl, rfl, Nat.le_of_ble_eq_true rfl, Nat.le_of_ble_eq_true rfl⟩ ?_
                    refine x_if_neB 197 dX11_termStep_192 (by decide) (fun hB => ?_) (fun hB => ?_)
                    · replace hf := f_if hB hf
                      refine x_iload 4 dX11_termStep_197 rfl ?_
                      refine x_if_eq 222 dX11_termStep_199 (by decide) (fun h => absurd h (by decide)) (fun _ => ?_)
                      refine x_aload_n 0 dX11_termStep_202 rfl rfl ?_
                      refine x_getR dX11_termStep_203 lm_0 fl_X11_44 rfl ?_
                      refine x_aload_n 0 dX11_termStep_206 rfl rfl ?_
                      refine x_getI (v := (q15.2 0 22)) dX11_termStep_207 lm_0 fl_X11_284 rfl rfl ?_
                      refine x_iload_n 2 dX11_termStep_210 rfl rfl ?_
                      obtain ⟨h17, hf⟩ := f_gd hf
                      obtain ⟨I18, hI18, hf⟩ := f_lt hf
                      refine x_iast (j0 := ((q15.2 0 22)).toNatClampNeg) dX11_termStep_211 lm_8 h17 rfl hI18 ?_
                      refine x_aload_n 0 dX11_termStep_212 rfl rfl ?_
                      refine x_dup dX11_termStep_213 rfl ?_
                      refine x_getI (v := (q15.2 0 22)) dX11_termStep_214 lm_0 fl_X11_284 rfl (by rw [hI18, z2_o (by decide)]) ?_
                      refine x_iconst (v := (1)) dX11_termStep_217 (by decide) ?_
                      refine x_iadd dX11_termStep_218 ?_
                      obtain ⟨I19, hI19, hf⟩ := f_lt hf
                      refine x_putI dX11_termStep_219 lm_0 fl_X11_284 rfl rfl rfl hI19 ?_
                      refine x_iload_n 1 dX11_termStep_222 rfl rfl ?_
                      refine x_bipush (v := (20)) dX11_termStep_223 (by decide) ?_
                      refine x_icmp_ne 279 dX11_termStep_225 (by decide) (fun hB => ?_) (fun hB => ?_)
                      · replace hf := f_el hB hf
                        refine x_aload_n 0 dX11_termStep_279 rfl rfl ?_
                        refine x_bipush (v := (59)) dX11_termStep_280 (by decide) ?_
                        obtain ⟨q29, hq30, hf⟩ := f_bd hf
                        refine x_callVi [.int (59 : Int32)] (c_X11_wantSign (I := I19) (L := L)  hq30) dX11_termStep_282 lk_X11_260 lm_0 rfl cd_X11_wantSign rfl rfl (Nat.le_of_ble_eq_true rfl) ⟨rfl, rfl, Nat.le_of_ble_eq_true rfl, Nat.le_of_ble_eq_true rfl⟩ ?_
                        cases hf
                        exact x_zret dX11_termStep_285 rfl rfl
                      · replace hf := f_if hB hf
                        refine x_aload_n 0 dX11_termStep_228 rfl rfl ?_
                        refine x_dup dX11_termStep_229 rfl ?_
                        refine x_getI (v := ((q15.2 0 22) + (1 : Int32))) dX11_termStep_230 lm_0 fl_X11_284 rfl (by rw [hI19, z2_s, z1_s]) ?_
                        refine x_iconst (v := (1)) dX11_termStep_233 (by decide) ?_
                        refine x_isub dX11_termStep_234 ?_
                        obtain ⟨I20, hI20, hf⟩ := f_lt hf
                        refine x_putI dX11_termStep_235 lm_0 fl_X11_284 rfl rfl rfl hI20 ?_
                        refine x_aload_n 0 dX11_termStep_238 rfl rfl ?_
                        refine x_getR dX11_termStep_239 lm_0 fl_X11_7 rfl ?_
                        refine x_iload_n 3 dX11_termStep_242 rfl rfl ?_
                        refine x_iconst (v := (4)) dX11_termStep_243 (by decide) ?_
                        refine x_iadd dX11_termStep_244 ?_
                        refine x_aload_n 0 dX11_termStep_245 rfl rfl ?_
                        refine x_getR dX11_termStep_246 lm_0 fl_X11_44 rfl ?_
                        refine x_aload_n 0 dX11_termStep_249 rfl rfl ?_
                        refine x_getI (v := (((q15.2 0 22) + (1 : Int32)) - (1 : Int32))) dX11_termStep_250 lm_0 fl_X11_284 rfl (by rw [hI20, z2_s, z1_s]) ?_
                        obtain ⟨h21, hf⟩ := f_gd hf
                        refine x_iald (j := ((((q15.2 0 22) + (1 : Int32)) - (1 : Int32))).toNatClampNeg) (v := (I18 8 ((((q15.2 0 22) + (1 : Int32)) - (1 : Int32))).toNatClampNeg)) dX11_termStep_253 lm_8 h21 rfl (by rw [hI20, z2_o (by decide), hI19, z2_o (by decide)]) ?_
                        obtain ⟨h22, hf⟩ := f_gd hf
                        obtain ⟨I23, hI23, hf⟩ := f_lt hf
                        refine x_iast (j0 := ((w4 + (4 : Int32))).toNatClampNeg) dX11_termStep_254 lm_1 h22 rfl hI23 ?_
                        refine x_aload_n 0 dX11_termStep_255 rfl rfl ?_
                        refine x_getR dX11_termStep_256 lm_0 fl_X11_7 rfl ?_
                        refine x_sipush (v := (1772)) dX11_termStep_259 (by decide) ?_
                        refine x_bipush (v := (6)) dX11_termStep_262 (by decide) ?_
                        refine x_aload_n 0 dX11_termStep_264 rfl rfl ?_
                        refine x_getR dX11_termStep_265 lm_0 fl_X11_44 rfl ?_
                        refine x_aload_n 0 dX11_termStep_268 rfl rfl ?_
                        refine x_getI (v := (((q15.2 0 22) + (1 : Int32)) - (1 : Int32))) dX11_termStep_269 lm_0 fl_X11_284 rfl (by rw [hI23, z2_o (by decide), hI20, z2_s, z1_s]) ?_
                        refine x_iald (j := ((((q15.2 0 22) + (1 : Int32)) - (1 : Int32))).toNatClampNeg) (v := (I18 8 ((((q15.2 0 22) + (1 : Int32)) - (1 : Int32))).toNatClampNeg)) dX11_termStep_272 lm_8 h21 rfl (by rw [hI23, z2_o (by decide), hI20, z2_o (by decide), hI19, z2_o (by decide)]) ?_
                        refine x_imul dX11_termStep_273 ?_
                        refine x_iadd dX11_termStep_274 ?_
                        refine x_iconst (v := (4)) dX11_termStep_275 (by decide) ?_
                        refine x_iadd dX11_termStep_276 ?_
                        refine x_iload_n 2 dX11_termStep_277 rfl rfl ?_
                        obtain ⟨h25, hf⟩ := f_gd hf
                        obtain ⟨I26, hI26, hf⟩ := f_lt hf
                        refine x_iast (j0 := ((((1772 : Int32) + ((6 : Int32) * (I18 8 ((((q15.2 0 22) + (1 : Int32)) - (1 : Int32))).toNatClampNeg))) + (4 : Int32))).toNatClampNeg) dX11_termStep_278 lm_1 h25 rfl hI26 ?_
                        refine x_aload_n 0 dX11_termStep_279 rfl rfl ?_
                        refine x_bipush (v := (59)) dX11_termStep_280 (by decide) ?_
                        obtain ⟨q27, hq28, hf⟩ := f_bd hf
                        refine x_callVi [.int (59 : Int32)] (c_X11_wantSign (I := I26) (L := L)  hq28) dX11_termStep_282 lk_X11_260 lm_0 rfl cd_X11_wantSign rfl rfl (Nat.le_of_ble_eq_true rfl) ⟨rfl, rfl, Nat.le_of_ble_eq_true rfl, Nat.le_of_ble_eq_true rfl⟩ ?_
                        cases hf
                        exact x_zret dX11_termStep_285 rfl rfl
                    · replace hf := f_el hB hf
                      refine x_iconst (v := (0)) dX11_termStep_195 (by decide) ?_
                      cases hf
                      exact x_zret (b := false) dX11_termStep_196 rfl rfl
              · replace hf := f_if hB hf
                refine x_aload_n 4 dX11_termStep_110 rfl rfl ?_
                refine x_bipush (v := (7)) dX11_termStep_111 (by decide) ?_
                refine x_callVi [.int (7 : Int32)] (c_X11_fails (I := I) (L := L) (7 : Int32)) dX11_termStep_113 lk_X11_181 lm_0 rfl cd_X11_fails rfl rfl (Nat.le_of_ble_eq_true rfl) ⟨rfl, rfl, Nat.le_of_ble_eq_true rfl, Nat.le_of_ble_eq_true rfl⟩ ?_
                cases hf
                exact x_zret dX11_termStep_116 rfl rfl
            · replace hf := f_el hB hf
              refine x_aload_n 4 dX11_termStep_81 rfl rfl ?_
              refine x_getI (v := (I 0 23)) dX11_termStep_82 lm_0 fl_X11_287 rfl rfl ?_
              refine x_bipush (v := (30)) dX11_termStep_85 (by decide) ?_
              refine x_icmp_ne 97 dX11_termStep_87 (by decide) (fun hB => ?_) (fun hB => ?_)
              · replace hf := f_el hB hf
                refine x_iload 0 dX11_termStep_97 rfl ?_
                refine x_if_eq 117 dX11_termStep_99 (by decide) (fun h => absurd h (by decide)) (fun _ => ?_)
                refine x_aload_n 4 dX11_termStep_102 rfl rfl ?_
                refine x_getI (v := (I 0 22)) dX11_termStep_103 lm_0 fl_X11_284 rfl rfl ?_
                refine x_iconst (v := (3)) dX11_termStep_106 (by decide) ?_
                refine x_icmp_ne 117 dX11_termStep_107 (by decide) (fun hB => ?_) (fun hB => ?_)
                · replace hf := f_el hB hf
                  refine x_aload_n 4 dX11_termStep_117 rfl rfl ?_
                  refine x_dup dX11_termStep_118 rfl ?_
                  refine x_getI (v := (I 0 23)) dX11_termStep_119 lm_0 fl_X11_287 rfl rfl ?_
                  refine x_iload_n 3 dX11_termStep_122 rfl rfl ?_
                  refine x_bipush (v := (20)) dX11_termStep_123 (by decide) ?_
                  refine x_icmp_ne 132 dX11_termStep_125 (by decide) (fun hB => ?_) (fun hB => ?_)
                  · replace hf := f_el hB hf
                    refine x_iconst (v := (1)) dX11_termStep_132 (by decide) ?_
                    refine x_iadd dX11_termStep_133 ?_
                    obtain ⟨I79, hI79, hf⟩ := f_lt hf
                    refine x_putI dX11_termStep_134 lm_0 fl_X11_287 rfl rfl rfl hI79 ?_
                    refine x_aload_n 4 dX11_termStep_137 rfl rfl ?_
                    refine x_getR dX11_termStep_138 lm_0 fl_X11_7 rfl ?_
                    refine x_iload_n 1 dX11_termStep_141 rfl rfl ?_
                    refine x_iload_n 3 dX11_termStep_142 rfl rfl ?_
                    obtain ⟨h80, hf⟩ := f_gd hf
                    obtain ⟨I81, hI81, hf⟩ := f_lt hf
                    refine x_iast (j0 := (w4).toNatClampNeg) dX11_termStep_143 lm_1 h80 rfl hI81 ?_
                    refine x_iconst (v := (1)) dX11_termStep_144 (by decide) ?_
                    refine x_istore [(5, .int (1 : Int32)), (4, .int (1 : Int32)), (3, .int w4), (2, .int (I 1 1719)), (1, .int q1), (0, .ref 0)] dX11_termStep_145 (by decide) rfl ?_
                    refine x_lv [(0, .ref 0), (1, .int q1), (2, .int (I 1 1719)), (3, .int w4), (4, .int (1 : Int32)), (5, .int (1 : Int32))] [5, 4, 3, 2, 1, 0] rfl ?_
                    refine l_X11_termStep_147 q1 (I 1 1719) w4 (1 : Int32) (L) _ ?_ _ _ _ hf
                    · intro I hf
                      refine x_aload_n 0 dX11_termStep_170 rfl rfl ?_
                      refine x_getR dX11_termStep_171 lm_0 fl_X11_7 rfl ?_
                      refine x_sipush (v := (1719)) dX11_termStep_174 (by decide) ?_
                      refine x_dup2 dX11_termStep_177 rfl rfl ?_
                      refine x_iald (j := 1719) (v := (I 1 1719)) dX11_termStep_178 lm_1 (by decide +kernel) (by decide +kernel) rfl ?_
                      refine x_iconst (v := (1)) dX11_termStep_179 (by decide) ?_
                      refine x_iadd dX11_termStep_180 ?_
                      obtain ⟨I84, hI84, hf⟩ := f_lt hf
                      refine x_iast (j0 := 1719) dX11_termStep_181 lm_1 (by decide +kernel) (by decide +kernel) hI84 ?_
                      refine x_aload_n 0 dX11_termStep_182 rfl rfl ?_
                      obtain ⟨q85, hq86, hf⟩ := f_bd hf
                      refine x_callVv [] (c_X11_ahead (I := I84) (L := L)  hq86) dX11_termStep_183 lk_X11_175 lm_0 rfl cd_X11_ahead rfl rfl (Nat.le_of_ble_eq_true rfl) ⟨rfl, rfl, Nat.le_of_ble_eq_true rfl, Nat.le_of_ble_eq_true rfl⟩ ?_
                      refine x_aload_n 0 dX11_termStep_186 rfl rfl ?_
                      refine x_iload_n 1 dX11_termStep_187 rfl rfl ?_
                      refine x_iload_n 3 dX11_termStep_188 rfl rfl ?_
                      obtain ⟨q87, hq88, hf⟩ := f_bd hf
                      refine x_callVi [.int q1, .int w4] (c_X11_termOrder (I := q85) (L := L)  hq88) dX11_termStep_189 lk_X11_290 lm_0 rfl cd_X11_termOrder rfl rfl (Nat.le_of_ble_eq_true rfl) ⟨rfl, rfl, Nat.le_of_ble_eq_true rfl, Nat.le_of_ble_eq_true rfl⟩ ?_
                      refine x_if_neB 197 dX11_termStep_192 (by decide) (fun hB => ?_) (fun hB => ?_)
                      · replace hf := f_if hB hf
                        refine x_iload 4 dX11_termStep_197 rfl ?_
                        refine x_if_eq 222 dX11_termStep_199 (by decide) (fun h => absurd h (by decide)) (fun _ => ?_)
                        refine x_aload_n 0 dX11_termStep_202 rfl rfl ?_
                        refine x_getR dX11_termStep_203 lm_0 fl_X11_44 rfl ?_
                        refine x_aload_n 0 dX11_termStep_206 rfl rfl ?_
                        refine x_getI (v := (q87.2 0 22)) dX11_termStep_207 lm_0 fl_X11_284 rfl rfl ?_
                        refine x_iload_n 2 dX11_termStep_210 rfl rfl ?_
                        obtain ⟨h89, hf⟩ := f_gd hf
                        obtain ⟨I90, hI90, hf⟩ := f_lt hf
                        refine x_iast (j0 := ((q87.2 0 22)).toNatClampNeg) dX11_termStep_211 lm_8 h89 rfl hI90 ?_
                        refine x_aload_n 0 dX11_termStep_212 rfl rfl ?_
                        refine x_dup dX11_termStep_213 rfl ?_
                        refine x_getI (v := (q87.2 0 22)) dX11_termStep_214 lm_0 fl_X11_284 rfl (by rw [hI90, z2_o (by decide)]) ?_
                        refine x_iconst (v := (1)) dX11_termStep_217 (by decide) ?_
                        refine x_iadd dX11_termStep_218 ?_
                        obtain ⟨I91, hI91, hf⟩ := f_lt hf
                        refine x_putI dX11_termStep_219 lm_0 fl_X11_284 rfl rfl rfl hI91 ?_
                        refine x_iload_n 1 dX11_termStep_222 rfl rfl ?_
                        refine x_bipush (v := (20)) dX11_termStep_223 (by decide) ?_
                        refine x_icmp_ne 279 dX11_termStep_225 (by decide) (fun hB => ?_) (fun hB => ?_)
                        · replace hf := f_el hB hf
                          refine x_aload_n 0 dX11_termStep_279 rfl rfl ?_
                          refine x_bipush (v := (59)) dX11_termStep_280 (by decide) ?_
                          obtain ⟨q101, hq102, hf⟩ := f_bd hf
                          refine x_callVi [.int (59 : Int32)] (c_X11_wantSign (I := I91) (L := L)  hq102) dX11_termStep_282 lk_X11_260 lm_0 rfl cd_X11_wantSign rfl rfl (Nat.le_of_ble_eq_true rfl) ⟨rfl, rfl, Nat.le_of_ble_eq_true rfl, Nat.le_of_ble_eq_true rfl⟩ ?_
                          cases hf
                          exact x_zret dX11_termStep_285 rfl rfl
                        · replace hf := f_if hB hf
                          refine x_aload_n 0 dX11_termStep_228 rfl rfl ?_
                          refine x_dup dX11_termStep_229 rfl ?_
                          refine x_getI (v := ((q87.2 0 22) + (1 : Int32))) dX11_termStep_230 lm_0 fl_X11_284 rfl (by rw [hI91, z2_s, z1_s]) ?_
                          refine x_iconst (v := (1)) dX11_termStep_233 (by decide) ?_
                          refine x_isub dX11_termStep_234 ?_
                          obtain ⟨I92, hI92, hf⟩ := f_lt hf
                          refine x_putI dX11_termStep_235 lm_0 fl_X11_284 rfl rfl rfl hI92 ?_
                          refine x_aload_n 0 dX11_termStep_238 rfl rfl ?_
                          refine x_getR dX11_termStep_239 lm_0 fl_X11_7 rfl ?_
                          refine x_iload_n 3 dX11_termStep_242 rfl rfl ?_
                          refine x_iconst (v := (4)) dX11_termStep_243 (by decide) ?_
                          refine x_iadd dX11_termStep_244 ?_
                          refine x_aload_n 0 dX11_termStep_245 rfl rfl ?_
                          refine x_getR dX11_termStep_246 lm_0 fl_X11_44 rfl ?_
                          refine x_aload_n 0 dX11_termStep_249 rfl rfl ?_
                          refine x_getI (v := (((q87.2 0 22) + (1 : Int32)) - (1 : Int32))) dX11_termStep_250 lm_0 fl_X11_284 rfl (by rw [hI92, z2_s, z1_s]) ?_
                          obtain ⟨h93, hf⟩ := f_gd hf
                          refine x_iald (j := ((((q87.2 0 22) + (1 : Int32)) - (1 : Int32))).toNatClampNeg) (v := (I90 8 ((((q87.2 0 22) + (1 : Int32)) - (1 : Int32))).toNatClampNeg)) dX11_termStep_253 lm_8 h93 rfl (by rw [hI92, z2_o (by decide), hI91, z2_o (by decide)]) ?_
                          obtain ⟨h94, hf⟩ := f_gd hf
                          obtain ⟨I95, hI95, hf⟩ := f_lt hf
                          refine x_iast (j0 := ((w4 + (4 : Int32))).toNatClampNeg) dX11_termStep_254 lm_1 h94 rfl hI95 ?_
                          refine x_aload_n 0 dX11_termStep_255 rfl rfl ?_
                          refine x_getR dX11_termStep_256 lm_0 fl_X11_7 rfl ?_
                          refine x_sipush (v := (1772)) dX11_termStep_259 (by decide) ?_
                          refine x_bipush (v := (6)) dX11_termStep_262 (by decide) ?_
                          refine x_aload_n 0 dX11_termStep_264 rfl rfl ?_
                          refine x_getR dX11_termStep_265 lm_0 fl_X11_44 rfl ?_
                          refine x_aload_n 0 dX11_termStep_268 rfl rfl ?_
                          refine x_getI (v := (((q87.2 0 22) + (1 : Int32)) - (1 : Int32))) dX11_termStep_269 lm_0 fl_X11_284 rfl (by rw [hI95, z2_o (by decide), hI92, z2_s, z1_s]) ?_
                          refine x_iald (j := ((((q87.2 0 22) + (1 : Int32)) - (1 : Int32))).toNatClampNeg) (v := (I90 8 ((((q87.2 0 22) + (1 : Int32)) - (1 : Int32))).toNatClampNeg)) dX11_termStep_272 lm_8 h93 rfl (by rw [hI95, z2_o (by decide), hI92, z2_o (by decide), hI91, z2_o (by decide)]) ?_
                          refine x_imul dX11_termStep_273 ?_
                          refine x_iadd dX11_termStep_274 ?_
                          refine x_iconst (v := (4)) dX11_termStep_275 (by decide) ?_
                          refine x_iadd dX11_termStep_276 ?_
                          refine x_iload_n 2 dX11_termStep_277 rfl rfl ?_
                          obtain ⟨h97, hf⟩ := f_gd hf
                          obtain ⟨I98, hI98, hf⟩ := f_lt hf
                          refine x_iast (j0 := ((((1772 : Int32) + ((6 : Int32) * (I90 8 ((((q87.2 0 22) + (1 : Int32)) - (1 : Int32))).toNatClampNeg))) + (4 : Int32))).toNatClampNeg) dX11_termStep_278 lm_1 h97 rfl hI98 ?_
                          refine x_aload_n 0 dX11_termStep_279 rfl rfl ?_
                          refine x_bipush (v := (59)) dX11_termStep_280 (by decide) ?_
                          obtain ⟨q99, hq100, hf⟩ := f_bd hf
                          refine x_callVi [.int (59 : Int32)] (c_X11_wantSign (I := I98) (L := L)  hq100) dX11_termStep_282 lk_X11_260 lm_0 rfl cd_X11_wantSign rfl rfl (Nat.le_of_ble_eq_true rfl) ⟨rfl, rfl, Nat.le_of_ble_eq_true rfl, Nat.le_of_ble_eq_true rfl⟩ ?_
                          cases hf
                          exact x_zret dX11_termStep_285 rfl rfl
                      · replace hf := f_el hB hf
                        refine x_iconst (v := (0)) dX11_termStep_195 (by decide) ?_
                        cases hf
                        exact x_zret (b := false) dX11_termStep_196 rfl rfl
                  · replace hf := f_if hB hf
                    refine x_iconst (v := (0)) dX11_termStep_128 (by decide) ?_
                    refine x_goto 133 dX11_termStep_129 (by decide) ?_
                    refine x_iadd dX11_termStep_133 ?_
                    obtain ⟨I55, hI55, hf⟩ := f_lt hf
                    refine x_putI dX11_termStep_134 lm_0 fl_X11_287 rfl rfl rfl hI55 ?_
                    refine x_aload_n 4 dX11_termStep_137 rfl rfl ?_
                    refine x_getR dX11_termStep_138 lm_0 fl_X11_7 rfl ?_
                    refine x_iload_n 1 dX11_termStep_141 rfl rfl ?_
                    refine x_iload_n 3 dX11_termStep_142 rfl rfl ?_
                    obtain ⟨h56, hf⟩ := f_gd hf
                    obtain ⟨I57, hI57, hf⟩ := f_lt hf
                    refine x_iast (j0 := (w4).toNatClampNeg) dX11_termStep_143 lm_1 h56 rfl hI57 ?_
                    refine x_iconst (v := (1)) dX11_termStep_144 (by decide) ?_
                    refine x_istore [(5, .int (1 : Int32)), (4, .int (1 : Int32)), (3, .int w4), (2, .int (I 1 1719)), (1, .int q1), (0, .ref 0)] dX11_termStep_145 (by decide) rfl ?_
                    refine x_lv [(0, .ref 0), (1, .int q1), (2, .int (I 1 1719)), (3, .int w4), (4, .int (1 : Int32)), (5, .int (1 : Int32))] [5, 4, 3, 2, 1, 0] rfl ?_
                    refine l_X11_termStep_147 q1 (I 1 1719) w4 (1 : Int32) (L) _ ?_ _ _ _ hf
                    · intro I hf
                      refine x_aload_n 0 dX11_termStep_170 rfl rfl ?_
                      refine x_getR dX11_termStep_171 lm_0 fl_X11_7 rfl ?_
                      refine x_sipush (v := (1719)) dX11_termStep_174 (by decide) ?_
                      refine x_dup2 dX11_termStep_177 rfl rfl ?_
                      refine x_iald (j := 1719) (v := (I 1 1719)) dX11_termStep_178 lm_1 (by decide +kernel) (by decide +kernel) rfl ?_
                      refine x_iconst (v := (1)) dX11_termStep_179 (by decide) ?_
                      refine x_iadd dX11_termStep_180 ?_
                      obtain ⟨I60, hI60, hf⟩ := f_lt hf
                      refine x_iast (j0 := 1719) dX11_termStep_181 lm_1 (by decide +kernel) (by decide +kernel) hI60 ?_
                      refine x_aload_n 0 dX11_termStep_182 rfl rfl ?_
                      obtain ⟨q61, hq62, hf⟩ := f_bd hf
                      refine x_callVv [] (c_X11_ahead (I := I60) (L := L)  hq62) dX11_termStep_183 lk_X11_175 lm_0 rfl cd_X11_ahead rfl rfl (Nat.le_of_ble_eq_true rfl) ⟨rfl, rfl, Nat.le_of_ble_eq_true rfl, Nat.le_of_ble_eq_true rfl⟩ ?_
                      refine x_aload_n 0 dX11_termStep_186 rfl rfl ?_
                      refine x_iload_n 1 dX11_termStep_187 rfl rfl ?_
                      refine x_iload_n 3 dX11_termStep_188 rfl rfl ?_
                      obtain ⟨q63, hq64, hf⟩ := f_bd hf
                      refine x_callVi [.int q1, .int w4] (c_X11_termOrder (I := q61) (L := L)  hq64) dX11_termStep_189 lk_X11_290 lm_0 rfl cd_X11_termOrder rfl rfl (Nat.le_of_ble_eq_true rfl) ⟨rfl, rfl, Nat.le_of_ble_eq_true rfl, Nat.le_of_ble_eq_true rfl⟩ ?_
                      refine x_if_neB 197 dX11_termStep_192 (by decide) (fun hB => ?_) (fun hB => ?_)
                      · replace hf := f_if hB hf
                        refine x_iload 4 dX11_termStep_197 rfl ?_
                        refine x_if_eq 222 dX11_termStep_199 (by decide) (fun h => absurd h (by decide)) (fun _ => ?_)
                        refine x_aload_n 0 dX11_termStep_202 rfl rfl ?_
                        refine x_getR dX11_termStep_203 lm_0 fl_X11_44 rfl ?_
                        refine x_aload_n 0 dX11_termStep_206 rfl rfl ?_
                        refine x_getI (v := (q63.2 0 22)) dX11_termStep_207 lm_0 fl_X11_284 rfl rfl ?_
                        refine x_iload_n 2 dX11_termStep_210 rfl rfl ?_
                        obtain ⟨h65, hf⟩ := f_gd hf
                        obtain ⟨I66, hI66, hf⟩ := f_lt hf
                        refine x_iast (j0 := ((q63.2 0 22)).toNatClampNeg) dX11_termStep_211 lm_8 h65 rfl hI66 ?_
                        refine x_aload_n 0 dX11_termStep_212 rfl rfl ?_
                        refine x_dup dX11_termStep_213 rfl ?_
                        refine x_getI (v := (q63.2 0 22)) dX11_termStep_214 lm_0 fl_X11_284 rfl (by rw [hI66, z2_o (by decide)]) ?_
                        refine x_iconst (v := (1)) dX11_termStep_217 (by decide) ?_
                        refine x_iadd dX11_termStep_218 ?_
                        obtain ⟨I67, hI67, hf⟩ := f_lt hf
                        refine x_putI dX11_termStep_219 lm_0 fl_X11_284 rfl rfl rfl hI67 ?_
                        refine x_iload_n 1 dX11_termStep_222 rfl rfl ?_
                        refine x_bipush (v := (20)) dX11_termStep_223 (by decide) ?_
                        refine x_icmp_ne 279 dX11_termStep_225 (by decide) (fun hB => ?_) (fun hB => ?_)
                        · replace hf := f_el hB hf
                          refine x_aload_n 0 dX11_termStep_279 rfl rfl ?_
                          refine x_bipush (v := (59)) dX11_termStep_280 (by decide) ?_
                          obtain ⟨q77, hq78, hf⟩ := f_bd hf
                          refine x_callVi [.int (59 : Int32)] (c_X11_wantSign (I := I67) (L := L)  hq78) dX11_termStep_282 lk_X11_260 lm_0 rfl cd_X11_wantSign rfl rfl (Nat.le_of_ble_eq_true rfl) ⟨rfl, rfl, Nat.le_of_ble_eq_true rfl, Nat.le_of_ble_eq_true rfl⟩ ?_
                          cases hf
                          exact x_zret dX11_termStep_285 rfl rfl
                        · replace hf := f_if hB hf
                          refine x_aload_n 0 dX11_termStep_228 rfl rfl ?_
                          refine x_dup dX11_termStep_229 rfl ?_
                          refine x_getI (v := ((q63.2 0 22) + (1 : Int32))) dX11_termStep_230 lm_0 fl_X11_284 rfl (by rw [hI67, z2_s, z1_s]) ?_
                          refine x_iconst (v := (1)) dX11_termStep_233 (by decide) ?_
                          refine x_isub dX11_termStep_234 ?_
                          obtain ⟨I68, hI68, hf⟩ := f_lt hf
                          refine x_putI dX11_termStep_235 lm_0 fl_X11_284 rfl rfl rfl hI68 ?_
                          refine x_aload_n 0 dX11_termStep_238 rfl rfl ?_
                          refine x_getR dX11_termStep_239 lm_0 fl_X11_7 rfl ?_
                          refine x_iload_n 3 dX11_termStep_242 rfl rfl ?_
                          refine x_iconst (v := (4)) dX11_termStep_243 (by decide) ?_
                          refine x_iadd dX11_termStep_244 ?_
                          refine x_aload_n 0 dX11_termStep_245 rfl rfl ?_
                          refine x_getR dX11_termStep_246 lm_0 fl_X11_44 rfl ?_
                          refine x_aload_n 0 dX11_termStep_249 rfl rfl ?_
                          refine x_getI (v := (((q63.2 0 22) + (1 : Int32)) - (1 : Int32))) dX11_termStep_250 lm_0 fl_X11_284 rfl (by rw [hI68, z2_s, z1_s]) ?_
                          obtain ⟨h69, hf⟩ := f_gd hf
                          refine x_iald (j := ((((q63.2 0 22) + (1 : Int32)) - (1 : Int32))).toNatClampNeg) (v := (I66 8 ((((q63.2 0 22) + (1 : Int32)) - (1 : Int32))).toNatClampNeg)) dX11_termStep_253 lm_8 h69 rfl (by rw [hI68, z2_o (by decide), hI67, z2_o (by decide)]) ?_
                          obtain ⟨h70, hf⟩ := f_gd hf
                          obtain ⟨I71, hI71, hf⟩ := f_lt hf
                          refine x_iast (j0 := ((w4 + (4 : Int32))).toNatClampNeg) dX11_termStep_254 lm_1 h70 rfl hI71 ?_
                          refine x_aload_n 0 dX11_termStep_255 rfl rfl ?_
                          refine x_getR dX11_termStep_256 lm_0 fl_X11_7 rfl ?_
                          refine x_sipush (v := (1772)) dX11_termStep_259 (by decide) ?_
                          refine x_bipush (v := (6)) dX11_termStep_262 (by decide) ?_
                          refine x_aload_n 0 dX11_termStep_264 rfl rfl ?_
                          refine x_getR dX11_termStep_265 lm_0 fl_X11_44 rfl ?_
                          refine x_aload_n 0 dX11_termStep_268 rfl rfl ?_
                          refine x_getI (v := (((q63.2 0 22) + (1 : Int32)) - (1 : Int32))) dX11_termStep_269 lm_0 fl_X11_284 rfl (by rw [hI71, z2_o (by decide), hI68, z2_s, z1_s]) ?_
                          refine x_iald (j := ((((q63.2 0 22) + (1 : Int32)) - (1 : Int32))).toNatClampNeg) (v := (I66 8 ((((q63.2 0 22) + (1 : Int32)) - (1 : Int32))).toNatClampNeg)) dX11_termStep_272 lm_8 h69 rfl (by rw [hI71, z2_o (by decide), hI68, z2_o (by decide), hI67, z2_o (by decide)]) ?_
                          refine x_imul dX11_termStep_273 ?_
                          refine x_iadd dX11_termStep_274 ?_
                          refine x_iconst (v := (4)) dX11_termStep_275 (by decide) ?_
                          refine x_iadd dX11_termStep_276 ?_
                          refine x_iload_n 2 dX11_termStep_277 rfl rfl ?_
                          obtain ⟨h73, hf⟩ := f_gd hf
                          obtain ⟨I74, hI74, hf⟩ := f_lt hf
                          refine x_iast (j0 := ((((1772 : Int32) + ((6 : Int32) * (I66 8 ((((q63.2 0 22) + (1 : Int32)) - (1 : Int32))).toNatClampNeg))) + (4 : Int32))).toNatClampNeg) dX11_termStep_278 lm_1 h73 rfl hI74 ?_
                          refine x_aload_n 0 dX11_termStep_279 rfl rfl ?_
                          refine x_bipush (v := (59)) dX11_termStep_280 (by decide) ?_
                          obtain ⟨q75, hq76, hf⟩ := f_bd hf
                          refine x_callVi [.int (59 : Int32)] (c_X11_wantSign (I := I74) (L := L)  hq76) dX11_termStep_282 lk_X11_260 lm_0 rfl cd_X11_wantSign rfl rfl (Nat.le_of_ble_eq_true rfl) ⟨rfl, rfl, Nat.le_of_ble_eq_true rfl, Nat.le_of_ble_eq_true rfl⟩ ?_
                          cases hf
                          exact x_zret dX11_termStep_285 rfl rfl
                      · replace hf := f_el hB hf
                        refine x_iconst (v := (0)) dX11_termStep_195 (by decide) ?_
                        cases hf
                        exact x_zret (b := false) dX11_termStep_196 rfl rfl
                · replace hf := f_if hB hf
                  refine x_aload_n 4 dX11_termStep_110 rfl rfl ?_
                  refine x_bipush (v := (7)) dX11_termStep_111 (by decide) ?_
                  refine x_callVi [.int (7 : Int32)] (c_X11_fails (I := I) (L := L) (7 : Int32)) dX11_termStep_113 lk_X11_181 lm_0 rfl cd_X11_fails rfl rfl (Nat.le_of_ble_eq_true rfl) ⟨rfl, rfl, Nat.le_of_ble_eq_true rfl, Nat.le_of_ble_eq_true rfl⟩ ?_
                  cases hf
                  exact x_zret dX11_termStep_116 rfl rfl
              · replace hf := f_if hB hf
                refine x_aload_n 4 dX11_termStep_90 rfl rfl ?_
                refine x_bipush (v := (6)) dX11_termStep_91 (by decide) ?_
                refine x_callVi [.int (6 : Int32)] (c_X11_fails (I := I) (L := L) (6 : Int32)) dX11_termStep_93 lk_X11_181 lm_0 rfl cd_X11_fails rfl rfl (Nat.le_of_ble_eq_true rfl) ⟨rfl, rfl, Nat.le_of_ble_eq_true rfl, Nat.le_of_ble_eq_true rfl⟩ ?_
                cases hf
                exact x_zret dX11_termStep_96 rfl rfl
          · replace hf := f_if hB hf
            refine x_aload_n 4 dX11_termStep_69 rfl rfl ?_
            refine x_iconst (v := (2)) dX11_termStep_70 (by decide) ?_
            refine x_callVi [.int (2 : Int32)] (c_X11_fails (I := I) (L := L) (2 : Int32)) dX11_termStep_71 lk_X11_181 lm_0 rfl cd_X11_fails rfl rfl (Nat.le_of_ble_eq_true rfl) ⟨rfl, rfl, Nat.le_of_ble_eq_true rfl, Nat.le_of_ble_eq_true rfl⟩ ?_
            cases hf
            exact x_zret dX11_termStep_74 rfl rfl
  · replace hf := f_el hB hf
    refine x_iload_n 2 dX11_termStep_31 rfl rfl ?_
    refine x_bipush (v := (19)) dX11_termStep_32 (by decide) ?_
    refine x_icmp_ne 41 dX11_termStep_34 (by decide) (fun hB => ?_) (fun hB => ?_)
    · replace hf := f_el hB hf
      refine x_iconst (v := (0)) dX11_termStep_41 (by decide) ?_
      refine x_istore [(4, .int (0 : Int32)), (3, .int w4), (2, .int (I 1 1719)), (1, .int q1), (0, .ref 0)] dX11_termStep_42 (by decide) rfl ?_
      refine x_iload_n 3 dX11_termStep_44 rfl rfl ?_
      refine x_bipush (v := (12)) dX11_termStep_45 (by decide) ?_
      refine x_icmp_lt 69 dX11_termStep_47 (by decide) (fun hB => ?_) (fun hB => ?_)
      · replace hf := f_if hB hf
        refine x_aload_n 4 dX11_termStep_69 rfl rfl ?_
        refine x_iconst (v := (2)) dX11_termStep_70 (by decide) ?_
        refine x_callVi [.int (2 : Int32)] (c_X11_fails (I := I) (L := L) (2 : Int32)) dX11_termStep_71 lk_X11_181 lm_0 rfl cd_X11_fails rfl rfl (Nat.le_of_ble_eq_true rfl) ⟨rfl, rfl, Nat.le_of_ble_eq_true rfl, Nat.le_of_ble_eq_true rfl⟩ ?_
        cases hf
        exact x_zret dX11_termStep_74 rfl rfl
      · replace hf := f_el hB hf
        refine x_iload_n 3 dX11_termStep_50 rfl rfl ?_
        refine x_bipush (v := (21)) dX11_termStep_51 (by decide) ?_
        refine x_icmp_gt 69 dX11_termStep_53 (by decide) (fun hB => ?_) (fun hB => ?_)
        · replace hf := f_if hB hf
          refine x_aload_n 4 dX11_termStep_69 rfl rfl ?_
          refine x_iconst (v := (2)) dX11_termStep_70 (by decide) ?_
          refine x_callVi [.int (2 : Int32)] (c_X11_fails (I := I) (L := L) (2 : Int32)) dX11_termStep_71 lk_X11_181 lm_0 rfl cd_X11_fails rfl rfl (Nat.le_of_ble_eq_true rfl) ⟨rfl, rfl, Nat.le_of_ble_eq_true rfl, Nat.le_of_ble_eq_true rfl⟩ ?_
          cases hf
          exact x_zret dX11_termStep_74 rfl rfl
        · replace hf := f_el hB hf
          refine x_iload_n 3 dX11_termStep_56 rfl rfl ?_
          refine x_bipush (v := (20)) dX11_termStep_57 (by decide) ?_
          refine x_icmp_ne 75 dX11_termStep_59 (by decide) (fun hB => ?_) (fun hB => ?_)
          · replace hf := f_el hB hf
            refine x_iload_n 3 dX11_termStep_75 rfl rfl ?_
            refine x_bipush (v := (20)) dX11_termStep_76 (by decide) ?_
            refine x_icmp_eq 97 dX11_termStep_78 (by decide) (fun hB => ?_) (fun hB => ?_)
            · replace hf := f_if hB hf
              refine x_iload 0 dX11_termStep_97 rfl ?_
              refine x_if_eq 117 dX11_termStep_99 (by decide) (fun _ => ?_) (fun h => absurd h (by decide))
              refine x_aload_n 4 dX11_termStep_117 rfl rfl ?_
              refine x_dup dX11_termStep_118 rfl ?_
              refine x_getI (v := (I 0 23)) dX11_termStep_119 lm_0 fl_X11_287 rfl rfl ?_
              refine x_iload_n 3 dX11_termStep_122 rfl rfl ?_
              refine x_bipush (v := (20)) dX11_termStep_123 (by decide) ?_
              refine x_icmp_ne 132 dX11_termStep_125 (by decide) (fun hB => ?_) (fun hB => ?_)
              · replace hf := f_el hB hf
                refine x_iconst (v := (1)) dX11_termStep_132 (by decide) ?_
                refine x_iadd dX11_termStep_133 ?_
                obtain ⟨I496, hI496, hf⟩ := f_lt hf
                refine x_putI dX11_termStep_134 lm_0 fl_X11_287 rfl rfl rfl hI496 ?_
                refine x_aload_n 4 dX11_termStep_137 rfl rfl ?_
                refine x_getR dX11_termStep_138 lm_0 fl_X11_7 rfl ?_
                refine x_iload_n 1 dX11_termStep_141 rfl rfl ?_
                refine x_iload_n 3 dX11_termStep_142 rfl rfl ?_
                obtain ⟨h497, hf⟩ := f_gd hf
                obtain ⟨I498, hI498, hf⟩ := f_lt hf
                refine x_iast (j0 := (w4).toNatClampNeg) dX11_termStep_143 lm_1 h497 rfl hI498 ?_
                refine x_iconst (v := (1)) dX11_termStep_144 (by decide) ?_
                refine x_istore [(5, .int (1 : Int32)), (4, .int (0 : Int32)), (3, .int w4), (2, .int (I 1 1719)), (1, .int q1), (0, .ref 0)] dX11_termStep_145 (by decide) rfl ?_
                refine x_lv [(0, .ref 0), (1, .int q1), (2, .int (I 1 1719)), (3, .int w4), (4, .int (0 : Int32)), (5, .int (1 : Int32))] [5, 4, 3, 2, 1, 0] rfl ?_
                refine l_X11_termStep_147 q1 (I 1 1719) w4 (0 : Int32) (L) _ ?_ _ _ _ hf
                · intro I hf
                  refine x_aload_n 0 dX11_termStep_170 rfl rfl ?_
                  refine x_getR dX11_termStep_171 lm_0 fl_X11_7 rfl ?_
                  refine x_sipush (v := (1719)) dX11_termStep_174 (by decide) ?_
                  refine x_dup2 dX11_termStep_177 rfl rfl ?_
                  refine x_iald (j := 1719) (v := (I 1 1719)) dX11_termStep_178 lm_1 (by decide +kernel) (by decide +kernel) rfl ?_
                  refine x_iconst (v := (1)) dX11_termStep_179 (by decide) ?_
                  refine x_iadd dX11_termStep_180 ?_
                  obtain ⟨I501, hI501, hf⟩ := f_lt hf
                  refine x_iast (j0 := 1719) dX11_termStep_181 lm_1 (by decide +kernel) (by decide +kernel) hI501 ?_
                  refine x_aload_n 0 dX11_termStep_182 rfl rfl ?_
                  obtain ⟨q502, hq503, hf⟩ := f_bd hf
                  refine x_callVv [] (c_X11_ahead (I := I501) (L := L)  hq503) dX11_termStep_183 lk_X11_175 lm_0 rfl cd_X11_ahead rfl rfl (Nat.le_of_ble_eq_true rfl) ⟨rfl, rfl, Nat.le_of_ble_eq_true rfl, Nat.le_of_ble_eq_true rfl⟩ ?_
                  refine x_aload_n 0 dX11_termStep_186 rfl rfl ?_
                  refine x_iload_n 1 dX11_termStep_187 rfl rfl ?_
                  refine x_iload_n 3 dX11_termStep_188 rfl rfl ?_
                  obtain ⟨q504, hq505, hf⟩ := f_bd hf
                  refine x_callVi [.int q1, .int w4] (c_X11_termOrder (I := q502) (L := L)  hq505) dX11_termStep_189 lk_X11_290 lm_0 rfl cd_X11_termOrder rfl rfl (Nat.le_of_ble_eq_true rfl) ⟨rfl, rfl, Nat.le_of_ble_eq_true rfl, Nat.le_of_ble_eq_true rfl⟩ ?_
                  refine x_if_neB 197 dX11_termStep_192 (by decide) (fun hB => ?_) (fun hB => ?_)
                  · replace hf := f_if hB hf
                    refine x_iload 4 dX11_termStep_197 rfl ?_
                    refine x_if_eq 222 dX11_termStep_199 (by decide) (fun _ => ?_) (fun h => absurd h (by decide))
                    refine x_iload_n 1 dX11_termStep_222 rfl rfl ?_
                    refine x_bipush (v := (20)) dX11_termStep_223 (by decide) ?_
                    refine x_icmp_ne 279 dX11_termStep_225 (by decide) (fun hB => ?_) (fun hB => ?_)
                    · replace hf := f_el hB hf
                      refine x_aload_n 0 dX11_termStep_279 rfl rfl ?_
                      refine x_bipush (v := (59)) dX11_termStep_280 (by decide) ?_
                      obtain ⟨q515, hq516, hf⟩ := f_bd hf
                      refine x_callVi [.int (59 : Int32)] (c_X11_wantSign (I := q504.2) (L := L)  hq516) dX11_termStep_282 lk_X11_260 lm_0 rfl cd_X11_wantSign rfl rfl (Nat.le_of_ble_eq_true rfl) ⟨rfl, rfl, Nat.le_of_ble_eq_true rfl, Nat.le_of_ble_eq_true rfl⟩ ?_
                      cases hf
                      exact x_zret dX11_termStep_285 rfl rfl
                    · replace hf := f_if hB hf
                      refine x_aload_n 0 dX11_termStep_228 rfl rfl ?_
                      refine x_dup dX11_termStep_229 rfl ?_
                      refine x_getI (v := (q504.2 0 22)) dX11_termStep_230 lm_0 fl_X11_284 rfl rfl ?_
                      refine x_iconst (v := (1)) dX11_termStep_233 (by decide) ?_
                      refine x_isub dX11_termStep_234 ?_
                      obtain ⟨I506, hI506, hf⟩ := f_lt hf
                      refine x_putI dX11_termStep_235 lm_0 fl_X11_284 rfl rfl rfl hI506 ?_
                      refine x_aload_n 0 dX11_termStep_238 rfl rfl ?_
                      refine x_getR dX11_termStep_239 lm_0 fl_X11_7 rfl ?_
                      refine x_iload_n 3 dX11_termStep_242 rfl rfl ?_
                      refine x_iconst (v := (4)) dX11_termStep_243 (by decide) ?_
                      refine x_iadd dX11_termStep_244 ?_
                      refine x_aload_n 0 dX11_termStep_245 rfl rfl ?_
                      refine x_getR dX11_termStep_246 lm_0 fl_X11_44 rfl ?_
                      refine x_aload_n 0 dX11_termStep_249 rfl rfl ?_
                      refine x_getI (v := ((q504.2 0 22) - (1 : Int32))) dX11_termStep_250 lm_0 fl_X11_284 rfl (by rw [hI506, z2_s, z1_s]) ?_
                      obtain ⟨h507, hf⟩ := f_gd hf
                      refine x_iald (j := (((q504.2 0 22) - (1 : Int32))).toNatClampNeg) (v := (q504.2 8 (((q504.2 0 22) - (1 : Int32))).toNatClampNeg)) dX11_termStep_253 lm_8 h507 rfl (by rw [hI506, z2_o (by decide)]) ?_
                      obtain ⟨h508, hf⟩ := f_gd hf
                      obtain ⟨I509, hI509, hf⟩ := f_lt hf
                      refine x_iast (j0 := ((w4 + (4 : Int32))).toNatClampNeg) dX11_termStep_254 lm_1 h508 rfl hI509 ?_
                      refine x_aload_n 0 dX11_termStep_255 rfl rfl ?_
                      refine x_getR dX11_termStep_256 lm_0 fl_X11_7 rfl ?_
                      refine x_sipush (v := (1772)) dX11_termStep_259 (by decide) ?_
                      refine x_bipush (v := (6)) dX11_termStep_262 (by decide) ?_
                      refine x_aload_n 0 dX11_termStep_264 rfl rfl ?_
                      refine x_getR dX11_termStep_265 lm_0 fl_X11_44 rfl ?_
                      refine x_aload_n 0 dX11_termStep_268 rfl rfl ?_
                      refine x_getI (v := ((q504.2 0 22) - (1 : Int32))) dX11_termStep_269 lm_0 fl_X11_284 rfl (by rw [hI509, z2_o (by decide), hI506, z2_s, z1_s]) ?_
                      refine x_iald (j := (((q504.2 0 22) - (1 : Int32))).toNatClampNeg) (v := (q504.2 8 (((q504.2 0 22) - (1 : Int32))).toNatClampNeg)) dX11_termStep_272 lm_8 h507 rfl (by rw [hI509, z2_o (by decide), hI506, z2_o (by decide)]) ?_
                      refine x_imul dX11_termStep_273 ?_
                      refine x_iadd dX11_termStep_274 ?_
                      refine x_iconst (v := (4)) dX11_termStep_275 (by decide) ?_
                      refine x_iadd dX11_termStep_276 ?_
                      refine x_iload_n 2 dX11_termStep_277 rfl rfl ?_
                      obtain ⟨h511, hf⟩ := f_gd hf
                      obtain ⟨I512, hI512, hf⟩ := f_lt hf
                      refine x_iast (j0 := ((((1772 : Int32) + ((6 : Int32) * (q504.2 8 (((q504.2 0 22) - (1 : Int32))).toNatClampNeg))) + (4 : Int32))).toNatClampNeg) dX11_termStep_278 lm_1 h511 rfl hI512 ?_
                      refine x_aload_n 0 dX11_termStep_279 rfl rfl ?_
                      refine x_bipush (v := (59)) dX11_termStep_280 (by decide) ?_
                      obtain ⟨q513, hq514, hf⟩ := f_bd hf
                      refine x_callVi [.int (59 : Int32)] (c_X11_wantSign (I := I512) (L := L)  hq514) dX11_termStep_282 lk_X11_260 lm_0 rfl cd_X11_wantSign rfl rfl (Nat.le_of_ble_eq_true rfl) ⟨rfl, rfl, Nat.le_of_ble_eq_true rfl, Nat.le_of_ble_eq_true rfl⟩ ?_
                      cases hf
                      exact x_zret dX11_termStep_285 rfl rfl
                  · replace hf := f_el hB hf
                    refine x_iconst (v := (0)) dX11_termStep_195 (by decide) ?_
                    cases hf
                    exact x_zret (b := false) dX11_termStep_196 rfl rfl
              · replace hf := f_if hB hf
                refine x_iconst (v := (0)) dX11_termStep_128 (by decide) ?_
                refine x_goto 133 dX11_termStep_129 (by decide) ?_
                refine x_iadd dX11_termStep_133 ?_
                obtain ⟨I475, hI475, hf⟩ := f_lt hf
                refine x_putI dX11_termStep_134 lm_0 fl_X11_287 rfl rfl rfl hI475 ?_
                refine x_aload_n 4 dX11_termStep_137 rfl rfl ?_
                refine x_getR dX11_termStep_138 lm_0 fl_X11_7 rfl ?_
                refine x_iload_n 1 dX11_termStep_141 rfl rfl ?_
                refine x_iload_n 3 dX11_termStep_142 rfl rfl ?_
                obtain ⟨h476, hf⟩ := f_gd hf
                obtain ⟨I477, hI477, hf⟩ := f_lt hf
                refine x_iast (j0 := (w4).toNatClampNeg) dX11_termStep_143 lm_1 h476 rfl hI477 ?_
                refine x_iconst (v := (1)) dX11_termStep_144 (by decide) ?_
                refine x_istore [(5, .int (1 : Int32)), (4, .int (0 : Int32)), (3, .int w4), (2, .int (I 1 1719)), (1, .int q1), (0, .ref 0)] dX11_termStep_145 (by decide) rfl ?_
                refine x_lv [(0, .ref 0), (1, .int q1), (2, .int (I 1 1719)), (3, .int w4), (4, .int (0 : Int32)), (5, .int (1 : Int32))] [5, 4, 3, 2, 1, 0] rfl ?_
                refine l_X11_termStep_147 q1 (I 1 1719) w4 (0 : Int32) (L) _ ?_ _ _ _ hf
                · intro I hf
                  refine x_aload_n 0 dX11_termStep_170 rfl rfl ?_
                  refine x_getR dX11_termStep_171 lm_0 fl_X11_7 rfl ?_
                  refine x_sipush (v := (1719)) dX11_termStep_174 (by decide) ?_
                  refine x_dup2 dX11_termStep_177 rfl rfl ?_
                  refine x_iald (j := 1719) (v := (I 1 1719)) dX11_termStep_178 lm_1 (by decide +kernel) (by decide +kernel) rfl ?_
                  refine x_iconst (v := (1)) dX11_termStep_179 (by decide) ?_
                  refine x_iadd dX11_termStep_180 ?_
                  obtain ⟨I480, hI480, hf⟩ := f_lt hf
                  refine x_iast (j0 := 1719) dX11_termStep_181 lm_1 (by decide +kernel) (by decide +kernel) hI480 ?_
                  refine x_aload_n 0 dX11_termStep_182 rfl rfl ?_
                  obtain ⟨q481, hq482, hf⟩ := f_bd hf
                  refine x_callVv [] (c_X11_ahead (I := I480) (L := L)  hq482) dX11_termStep_183 lk_X11_175 lm_0 rfl cd_X11_ahead rfl rfl (Nat.le_of_ble_eq_true rfl) ⟨rfl, rfl, Nat.le_of_ble_eq_true rfl, Nat.le_of_ble_eq_true rfl⟩ ?_
                  refine x_aload_n 0 dX11_termStep_186 rfl rfl ?_
                  refine x_iload_n 1 dX11_termStep_187 rfl rfl ?_
                  refine x_iload_n 3 dX11_termStep_188 rfl rfl ?_
                  obtain ⟨q483, hq484, hf⟩ := f_bd hf
                  refine x_callVi [.int q1, .int w4] (c_X11_termOrder (I := q481) (L := L)  hq484) dX11_termStep_189 lk_X11_290 lm_0 rfl cd_X11_termOrder rfl rfl (Nat.le_of_ble_eq_true rfl) ⟨rfl, rfl, Nat.le_of_ble_eq_true rfl, Nat.le_of_ble_eq_true rfl⟩ ?_
                  refine x_if_neB 197 dX11_termStep_192 (by decide) (fun hB => ?_) (fun hB => ?_)
                  · replace hf := f_if hB hf
                    refine x_iload 4 dX11_termStep_197 rfl ?_
                    refine x_if_eq 222 dX11_termStep_199 (by decide) (fun _ => ?_) (fun h => absurd h (by decide))
                    refine x_iload_n 1 dX11_termStep_222 rfl rfl ?_
                    refine x_bipush (v := (20)) dX11_termStep_223 (by decide) ?_
                    refine x_icmp_ne 279 dX11_termStep_225 (by decide) (fun hB => ?_) (fun hB => ?_)
                    · replace hf := f_el hB hf
                      refine x_aload_n 0 dX11_termStep_279 rfl rfl ?_
                      refine x_bipush (v := (59)) dX11_termStep_280 (by decide) ?_
                      obtain ⟨q494, hq495, hf⟩ := f_bd hf
                      refine x_callVi [.int (59 : Int32)] (c_X11_wantSign (I := q483.2) (L := L)  hq495) dX11_termStep_282 lk_X11_260 lm_0 rfl cd_X11_wantSign rfl rfl (Nat.le_of_ble_eq_true rfl) ⟨rfl, rfl, Nat.le_of_ble_eq_true rfl, Nat.le_of_ble_eq_true rfl⟩ ?_
                      cases hf
                      exact x_zret dX11_termStep_285 rfl rfl
                    · replace hf := f_if hB hf
                      refine x_aload_n 0 dX11_termStep_228 rfl rfl ?_
                      refine x_dup dX11_termStep_229 rfl ?_
                      refine x_getI (v := (q483.2 0 22)) dX11_termStep_230 lm_0 fl_X11_284 rfl rfl ?_
                      refine x_iconst (v := (1)) dX11_termStep_233 (by decide) ?_
                      refine x_isub dX11_termStep_234 ?_
                      obtain ⟨I485, hI485, hf⟩ := f_lt hf
                      refine x_putI dX11_termStep_235 lm_0 fl_X11_284 rfl rfl rfl hI485 ?_
                      refine x_aload_n 0 dX11_termStep_238 rfl rfl ?_
                      refine x_getR dX11_termStep_239 lm_0 fl_X11_7 rfl ?_
                      refine x_iload_n 3 dX11_termStep_242 rfl rfl ?_
                      refine x_iconst (v := (4)) dX11_termStep_243 (by decide) ?_
                      refine x_iadd dX11_termStep_244 ?_
                      refine x_aload_n 0 dX11_termStep_245 rfl rfl ?_
                      refine x_getR dX11_termStep_246 lm_0 fl_X11_44 rfl ?_
                      refine x_aload_n 0 dX11_termStep_249 rfl rfl ?_
                      refine x_getI (v := ((q483.2 0 22) - (1 : Int32))) dX11_termStep_250 lm_0 fl_X11_284 rfl (by rw [hI485, z2_s, z1_s]) ?_
                      obtain ⟨h486, hf⟩ := f_gd hf
                      refine x_iald (j := (((q483.2 0 22) - (1 : Int32))).toNatClampNeg) (v := (q483.2 8 (((q483.2 0 22) - (1 : Int32))).toNatClampNeg)) dX11_termStep_253 lm_8 h486 rfl (by rw [hI485, z2_o (by decide)]) ?_
                      obtain ⟨h487, hf⟩ := f_gd hf
                      obtain ⟨I488, hI488, hf⟩ := f_lt hf
                      refine x_iast (j0 := ((w4 + (4 : Int32))).toNatClampNeg) dX11_termStep_254 lm_1 h487 rfl hI488 ?_
                      refine x_aload_n 0 dX11_termStep_255 rfl rfl ?_
                      refine x_getR dX11_termStep_256 lm_0 fl_X11_7 rfl ?_
                      refine x_sipush (v := (1772)) dX11_termStep_259 (by decide) ?_
                      refine x_bipush (v := (6)) dX11_termStep_262 (by decide) ?_
                      refine x_aload_n 0 dX11_termStep_264 rfl rfl ?_
                      refine x_getR dX11_termStep_265 lm_0 fl_X11_44 rfl ?_
                      refine x_aload_n 0 dX11_termStep_268 rfl rfl ?_
                      refine x_getI (v := ((q483.2 0 22) - (1 : Int32))) dX11_termStep_269 lm_0 fl_X11_284 rfl (by rw [hI488, z2_o (by decide), hI485, z2_s, z1_s]) ?_
                      refine x_iald (j := (((q483.2 0 22) - (1 : Int32))).toNatClampNeg) (v := (q483.2 8 (((q483.2 0 22) - (1 : Int32))).toNatClampNeg)) dX11_termStep_272 lm_8 h486 rfl (by rw [hI488, z2_o (by decide), hI485, z2_o (by decide)]) ?_
                      refine x_imul dX11_termStep_273 ?_
                      refine x_iadd dX11_termStep_274 ?_
                      refine x_iconst (v := (4)) dX11_termStep_275 (by decide) ?_
                      refine x_iadd dX11_termStep_276 ?_
                      refine x_iload_n 2 dX11_termStep_277 rfl rfl ?_
                      obtain ⟨h490, hf⟩ := f_gd hf
                      obtain ⟨I491, hI491, hf⟩ := f_lt hf
                      refine x_iast (j0 := ((((1772 : Int32) + ((6 : Int32) * (q483.2 8 (((q483.2 0 22) - (1 : Int32))).toNatClampNeg))) + (4 : Int32))).toNatClampNeg) dX11_termStep_278 lm_1 h490 rfl hI491 ?_
                      refine x_aload_n 0 dX11_termStep_279 rfl rfl ?_
                      refine x_bipush (v := (59)) dX11_termStep_280 (by decide) ?_
                      obtain ⟨q492, hq493, hf⟩ := f_bd hf
                      refine x_callVi [.int (59 : Int32)] (c_X11_wantSign (I := I491) (L := L)  hq493) dX11_termStep_282 lk_X11_260 lm_0 rfl cd_X11_wantSign rfl rfl (Nat.le_of_ble_eq_true rfl) ⟨rfl, rfl, Nat.le_of_ble_eq_true rfl, Nat.le_of_ble_eq_true rfl⟩ ?_
                      cases hf
                      exact x_zret dX11_termStep_285 rfl rfl
                  · replace hf := f_el hB hf
                    refine x_iconst (v := (0)) dX11_termStep_195 (by decide) ?_
                    cases hf
                    exact x_zret (b := false) dX11_termStep_196 rfl rfl
            · replace hf := f_el hB hf
              refine x_aload_n 4 dX11_termStep_81 rfl rfl ?_
              refine x_getI (v := (I 0 23)) dX11_termStep_82 lm_0 fl_X11_287 rfl rfl ?_
              refine x_bipush (v := (30)) dX11_termStep_85 (by decide) ?_
              refine x_icmp_ne 97 dX11_termStep_87 (by decide) (fun hB => ?_) (fun hB => ?_)
              · replace hf := f_el hB hf
                refine x_iload 0 dX11_termStep_97 rfl ?_
                refine x_if_eq 117 dX11_termStep_99 (by decide) (fun _ => ?_) (fun h => absurd h (by decide))
                refine x_aload_n 4 dX11_termStep_117 rfl rfl ?_
                refine x_dup dX11_termStep_118 rfl ?_
                refine x_getI (v := (I 0 23)) dX11_termStep_119 lm_0 fl_X11_287 rfl rfl ?_
                refine x_iload_n 3 dX11_termStep_122 rfl rfl ?_
                refine x_bipush (v := (20)) dX11_termStep_123 (by decide) ?_
                refine x_icmp_ne 132 dX11_termStep_125 (by decide) (fun hB => ?_) (fun hB => ?_)
                · replace hf := f_el hB hf
                  refine x_iconst (v := (1)) dX11_termStep_132 (by decide) ?_
                  refine x_iadd dX11_termStep_133 ?_
                  obtain ⟨I538, hI538, hf⟩ := f_lt hf
                  refine x_putI dX11_termStep_134 lm_0 fl_X11_287 rfl rfl rfl hI538 ?_
                  refine x_aload_n 4 dX11_termStep_137 rfl rfl ?_
                  refine x_getR dX11_termStep_138 lm_0 fl_X11_7 rfl ?_
                  refine x_iload_n 1 dX11_termStep_141 rfl rfl ?_
                  refine x_iload_n 3 dX11_termStep_142 rfl rfl ?_
                  obtain ⟨h539, hf⟩ := f_gd hf
                  obtain ⟨I540, hI540, hf⟩ := f_lt hf
                  refine x_iast (j0 := (w4).toNatClampNeg) dX11_termStep_143 lm_1 h539 rfl hI540 ?_
                  refine x_iconst (v := (1)) dX11_termStep_144 (by decide) ?_
                  refine x_istore [(5, .int (1 : Int32)), (4, .int (0 : Int32)), (3, .int w4), (2, .int (I 1 1719)), (1, .int q1), (0, .ref 0)] dX11_termStep_145 (by decide) rfl ?_
                  refine x_lv [(0, .ref 0), (1, .int q1), (2, .int (I 1 1719)), (3, .int w4), (4, .int (0 : Int32)), (5, .int (1 : Int32))] [5, 4, 3, 2, 1, 0] rfl ?_
                  refine l_X11_termStep_147 q1 (I 1 1719) w4 (0 : Int32) (L) _ ?_ _ _ _ hf
                  · intro I hf
                    refine x_aload_n 0 dX11_termStep_170 rfl rfl ?_
                    refine x_getR dX11_termStep_171 lm_0 fl_X11_7 rfl ?_
                    refine x_sipush (v := (1719)) dX11_termStep_174 (by decide) ?_
                    refine x_dup2 dX11_termStep_177 rfl rfl ?_
                    refine x_iald (j := 1719) (v := (I 1 1719)) dX11_termStep_178 lm_1 (by decide +kernel) (by decide +kernel) rfl ?_
                    refine x_iconst (v := (1)) dX11_termStep_179 (by decide) ?_
                    refine x_iadd dX11_termStep_180 ?_
                    obtain ⟨I543, hI543, hf⟩ := f_lt hf
                    refine x_iast (j0 := 1719) dX11_termStep_181 lm_1 (by decide +kernel) (by decide +kernel) hI543 ?_
                    refine x_aload_n 0 dX11_termStep_182 rfl rfl ?_
                    obtain ⟨q544, hq545, hf⟩ := f_bd hf
                    refine x_callVv [] (c_X11_ahead (I := I543) (L := L)  hq545) dX11_termStep_183 lk_X11_175 lm_0 rfl cd_X11_ahead rfl rfl (Nat.le_of_ble_eq_true rfl) ⟨rfl, rfl, Nat.le_of_ble_eq_true rfl, Nat.le_of_ble_eq_true rfl⟩ ?_
                    refine x_aload_n 0 dX11_termStep_186 rfl rfl ?_
                    refine x_iload_n 1 dX11_termStep_187 rfl rfl ?_
                    refine x_iload_n 3 dX11_termStep_188 rfl rfl ?_
                    obtain ⟨q546, hq547, hf⟩ := f_bd hf
                    refine x_callVi [.int q1, .int w4] (c_X11_termOrder (I := q544) (L := L)  hq547) dX11_termStep_189 lk_X11_290 lm_0 rfl cd_X11_termOrder rfl rfl (Nat.le_of_ble_eq_true rfl) ⟨rfl, rfl, Nat.le_of_ble_eq_true rfl, Nat.le_of_ble_eq_true rfl⟩ ?_
                    refine x_if_neB 197 dX11_termStep_192 (by decide) (fun hB => ?_) (fun hB => ?_)
                    · replace hf := f_if hB hf
                      refine x_iload 4 dX11_termStep_197 rfl ?_
                      refine x_if_eq 222 dX11_termStep_199 (by decide) (fun _ => ?_) (fun h => absurd h (by decide))
                      refine x_iload_n 1 dX11_termStep_222 rfl rfl ?_
                      refine x_bipush (v := (20)) dX11_termStep_223 (by decide) ?_
                      refine x_icmp_ne 279 dX11_termStep_225 (by decide) (fun hB => ?_) (fun hB => ?_)
                      · replace hf := f_el hB hf
                        refine x_aload_n 0 dX11_termStep_279 rfl rfl ?_
                        refine x_bipush (v := (59)) dX11_termStep_280 (by decide) ?_
                        obtain ⟨q557, hq558, hf⟩ := f_bd hf
                        refine x_callVi [.int (59 : Int32)] (c_X11_wantSign (I := q546.2) (L := L)  hq558) dX11_termStep_282 lk_X11_260 lm_0 rfl cd_X11_wantSign rfl rfl (Nat.le_of_ble_eq_true rfl) ⟨rfl, rfl, Nat.le_of_ble_eq_true rfl, Nat.le_of_ble_eq_true rfl⟩ ?_
                        cases hf
                        exact x_zret dX11_termStep_285 rfl rfl
                      · replace hf := f_if hB hf
                        refine x_aload_n 0 dX11_termStep_228 rfl rfl ?_
                        refine x_dup dX11_termStep_229 rfl ?_
                        refine x_getI (v := (q546.2 0 22)) dX11_termStep_230 lm_0 fl_X11_284 rfl rfl ?_
                        refine x_iconst (v := (1)) dX11_termStep_233 (by decide) ?_
                        refine x_isub dX11_termStep_234 ?_
                        obtain ⟨I548, hI548, hf⟩ := f_lt hf
                        refine x_putI dX11_termStep_235 lm_0 fl_X11_284 rfl rfl rfl hI548 ?_
                        refine x_aload_n 0 dX11_termStep_238 rfl rfl ?_
                        refine x_getR dX11_termStep_239 lm_0 fl_X11_7 rfl ?_
                        refine x_iload_n 3 dX11_termStep_242 rfl rfl ?_
                        refine x_iconst (v := (4)) dX11_termStep_243 (by decide) ?_
                        refine x_iadd dX11_termStep_244 ?_
                        refine x_aload_n 0 dX11_termStep_245 rfl rfl ?_
                        refine x_getR dX11_termStep_246 lm_0 fl_X11_44 rfl ?_
                        refine x_aload_n 0 dX11_termStep_249 rfl rfl ?_
                        refine x_getI (v := ((q546.2 0 22) - (1 : Int32))) dX11_termStep_250 lm_0 fl_X11_284 rfl (by rw [hI548, z2_s, z1_s]) ?_
                        obtain ⟨h549, hf⟩ := f_gd hf
                        refine x_iald (j := (((q546.2 0 22) - (1 : Int32))).toNatClampNeg) (v := (q546.2 8 (((q546.2 0 22) - (1 : Int32))).toNatClampNeg)) dX11_termStep_253 lm_8 h549 rfl (by rw [hI548, z2_o (by decide)]) ?_
                        obtain ⟨h550, hf⟩ := f_gd hf
                        obtain ⟨I551, hI551, hf⟩ := f_lt hf
                        refine x_iast (j0 := ((w4 + (4 : Int32))).toNatClampNeg) dX11_termStep_254 lm_1 h550 rfl hI551 ?_
                        refine x_aload_n 0 dX11_termStep_255 rfl rfl ?_
                        refine x_getR dX11_termStep_256 lm_0 fl_X11_7 rfl ?_
                        refine x_sipush (v := (1772)) dX11_termStep_259 (by decide) ?_
                        refine x_bipush (v := (6)) dX11_termStep_262 (by decide) ?_
                        refine x_aload_n 0 dX11_termStep_264 rfl rfl ?_
                        refine x_getR dX11_termStep_265 lm_0 fl_X11_44 rfl ?_
                        refine x_aload_n 0 dX11_termStep_268 rfl rfl ?_
                        refine x_getI (v := ((q546.2 0 22) - (1 : Int32))) dX11_termStep_269 lm_0 fl_X11_284 rfl (by rw [hI551, z2_o (by decide), hI548, z2_s, z1_s]) ?_
                        refine x_iald (j := (((q546.2 0 22) - (1 : Int32))).toNatClampNeg) (v := (q546.2 8 (((q546.2 0 22) - (1 : Int32))).toNatClampNeg)) dX11_termStep_272 lm_8 h549 rfl (by rw [hI551, z2_o (by decide), hI548, z2_o (by decide)]) ?_
                        refine x_imul dX11_termStep_273 ?_
                        refine x_iadd dX11_termStep_274 ?_
                        refine x_iconst (v := (4)) dX11_termStep_275 (by decide) ?_
                        refine x_iadd dX11_termStep_276 ?_
                        refine x_iload_n 2 dX11_termStep_277 rfl rfl ?_
                        obtain ⟨h553, hf⟩ := f_gd hf
                        obtain ⟨I554, hI554, hf⟩ := f_lt hf
                        refine x_iast (j0 := ((((1772 : Int32) + ((6 : Int32) * (q546.2 8 (((q546.2 0 22) - (1 : Int32))).toNatClampNeg))) + (4 : Int32))).toNatClampNeg) dX11_termStep_278 lm_1 h553 rfl hI554 ?_
                        refine x_aload_n 0 dX11_termStep_279 rfl rfl ?_
                        refine x_bipush (v := (59)) dX11_termStep_280 (by decide) ?_
                        obtain ⟨q555, hq556, hf⟩ := f_bd hf
                        refine x_callVi [.int (59 : Int32)] (c_X11_wantSign (I := I554) (L := L)  hq556) dX11_termStep_282 lk_X11_260 lm_0 rfl cd_X11_wantSign rfl rfl (Nat.le_of_ble_eq_true rfl) ⟨rfl, rfl, Nat.le_of_ble_eq_true rfl, Nat.le_of_ble_eq_true rfl⟩ ?_
                        cases hf
                        exact x_zret dX11_termStep_285 rfl rfl
                    · replace hf := f_el hB hf
                      refine x_iconst (v := (0)) dX11_termStep_195 (by decide) ?_
                      cases hf
                      exact x_zret (b := false) dX11_termStep_196 rfl rfl
                · replace hf := f_if hB hf
                  refine x_iconst (v := (0)) dX11_termStep_128 (by decide) ?_
                  refine x_goto 133 dX11_termStep_129 (by decide) ?_
                  refine x_iadd dX11_termStep_133 ?_
                  obtain ⟨I517, hI517, hf⟩ := f_lt hf
                  refine x_putI dX11_termStep_134 lm_0 fl_X11_287 rfl rfl rfl hI517 ?_
                  refine x_aload_n 4 dX11_termStep_137 rfl rfl ?_
                  refine x_getR dX11_termStep_138 lm_0 fl_X11_7 rfl ?_
                  refine x_iload_n 1 dX11_termStep_141 rfl rfl ?_
                  refine x_iload_n 3 dX11_termStep_142 rfl rfl ?_
                  obtain ⟨h518, hf⟩ := f_gd hf
                  obtain ⟨I519, hI519, hf⟩ := f_lt hf
                  refine x_iast (j0 := (w4).toNatClampNeg) dX11_termStep_143 lm_1 h518 rfl hI519 ?_
                  refine x_iconst (v := (1)) dX11_termStep_144 (by decide) ?_
                  refine x_istore [(5, .int (1 : Int32)), (4, .int (0 : Int32)), (3, .int w4), (2, .int (I 1 1719)), (1, .int q1), (0, .ref 0)] dX11_termStep_145 (by decide) rfl ?_
                  refine x_lv [(0, .ref 0), (1, .int q1), (2, .int (I 1 1719)), (3, .int w4), (4, .int (0 : Int32)), (5, .int (1 : Int32))] [5, 4, 3, 2, 1, 0] rfl ?_
                  refine l_X11_termStep_147 q1 (I 1 1719) w4 (0 : Int32) (L) _ ?_ _ _ _ hf
                  · intro I hf
                    refine x_aload_n 0 dX11_termStep_170 rfl rfl ?_
                    refine x_getR dX11_termStep_171 lm_0 fl_X11_7 rfl ?_
                    refine x_sipush (v := (1719)) dX11_termStep_174 (by decide) ?_
                    refine x_dup2 dX11_termStep_177 rfl rfl ?_
                    refine x_iald (j := 1719) (v := (I 1 1719)) dX11_termStep_178 lm_1 (by decide +kernel) (by decide +kernel) rfl ?_
                    refine x_iconst (v := (1)) dX11_termStep_179 (by decide) ?_
                    refine x_iadd dX11_termStep_180 ?_
                    obtain ⟨I522, hI522, hf⟩ := f_lt hf
                    refine x_iast (j0 := 1719) dX11_termStep_181 lm_1 (by decide +kernel) (by decide +kernel) hI522 ?_
                    refine x_aload_n 0 dX11_termStep_182 rfl rfl ?_
                    obtain ⟨q523, hq524, hf⟩ := f_bd hf
                    refine x_callVv [] (c_X11_ahead (I := I522) (L := L)  hq524) dX11_termStep_183 lk_X11_175 lm_0 rfl cd_X11_ahead rfl rfl (Nat.le_of_ble_eq_true rfl) ⟨rfl, rfl, Nat.le_of_ble_eq_true rfl, Nat.le_of_ble_eq_true rfl⟩ ?_
                    refine x_aload_n 0 dX11_termStep_186 rfl rfl ?_
                    refine x_iload_n 1 dX11_termStep_187 rfl rfl ?_
                    refine x_iload_n 3 dX11_termStep_188 rfl rfl ?_
                    obtain ⟨q525, hq526, hf⟩ := f_bd hf
                    refine x_callVi [.int q1, .int w4] (c_X11_termOrder (I := q523) (L := L)  hq526) dX11_termStep_189 lk_X11_290 lm_0 rfl cd_X11_termOrder rfl rfl (Nat.le_of_ble_eq_true rfl) ⟨rfl, rfl, Nat.le_of_ble_eq_true rfl, Nat.le_of_ble_eq_true rfl⟩ ?_
                    refine x_if_neB 197 dX11_termStep_192 (by decide) (fun hB => ?_) (fun hB => ?_)
                    · replace hf := f_if hB hf
                      refine x_iload 4 dX11_termStep_197 rfl ?_
                      refine x_if_eq 222 dX11_termStep_199 (by decide) (fun _ => ?_) (fun h => absurd h (by decide))
                      refine x_iload_n 1 dX11_termStep_222 rfl rfl ?_
                      refine x_bipush (v := (20)) dX11_termStep_223 (by decide) ?_
                      refine x_icmp_ne 279 dX11_termStep_225 (by decide) (fun hB => ?_) (fun hB => ?_)
                      · replace hf := f_el hB hf
                        refine x_aload_n 0 dX11_termStep_279 rfl rfl ?_
                        refine x_bipush (v := (59)) dX11_termStep_280 (by decide) ?_
                        obtain ⟨q536, hq537, hf⟩ := f_bd hf
                        refine x_callVi [.int (59 : Int32)] (c_X11_wantSign (I := q525.2) (L := L)  hq537) dX11_termStep_282 lk_X11_260 lm_0 rfl cd_X11_wantSign rfl rfl (Nat.le_of_ble_eq_true rfl) ⟨rfl, rfl, Nat.le_of_ble_eq_true rfl, Nat.le_of_ble_eq_true rfl⟩ ?_
                        cases hf
                        exact x_zret dX11_termStep_285 rfl rfl
                      · replace hf := f_if hB hf
                        refine x_aload_n 0 dX11_termStep_228 rfl rfl ?_
                        refine x_dup dX11_termStep_229 rfl ?_
                        refine x_getI (v := (q525.2 0 22)) dX11_termStep_230 lm_0 fl_X11_284 rfl rfl ?_
                        refine x_iconst (v := (1)) dX11_termStep_233 (by decide) ?_
                        refine x_isub dX11_termStep_234 ?_
                        obtain ⟨I527, hI527, hf⟩ := f_lt hf
                        refine x_putI dX11_termStep_235 lm_0 fl_X11_284 rfl rfl rfl hI527 ?_
                        refine x_aload_n 0 dX11_termStep_238 rfl rfl ?_
                        refine x_getR dX11_termStep_239 lm_0 fl_X11_7 rfl ?_
                        refine x_iload_n 3 dX11_termStep_242 rfl rfl ?_
                        refine x_iconst (v := (4)) dX11_termStep_243 (by decide) ?_
                        refine x_iadd dX11_termStep_244 ?_
                        refine x_aload_n 0 dX11_termStep_245 rfl rfl ?_
                        refine x_getR dX11_termStep_246 lm_0 fl_X11_44 rfl ?_
                        refine x_aload_n 0 dX11_termStep_249 rfl rfl ?_
                        refine x_getI (v := ((q525.2 0 22) - (1 : Int32))) dX11_termStep_250 lm_0 fl_X11_284 rfl (by rw [hI527, z2_s, z1_s]) ?_
                        obtain ⟨h528, hf⟩ := f_gd hf
                        refine x_iald (j := (((q525.2 0 22) - (1 : Int32))).toNatClampNeg) (v := (q525.2 8 (((q525.2 0 22) - (1 : Int32))).toNatClampNeg)) dX11_termStep_253 lm_8 h528 rfl (by rw [hI527, z2_o (by decide)]) ?_
                        obtain ⟨h529, hf⟩ := f_gd hf
                        obtain ⟨I530, hI530, hf⟩ := f_lt hf
                        refine x_iast (j0 := ((w4 + (4 : Int32))).toNatClampNeg) dX11_termStep_254 lm_1 h529 rfl hI530 ?_
                        refine x_aload_n 0 dX11_termStep_255 rfl rfl ?_
                        refine x_getR dX11_termStep_256 lm_0 fl_X11_7 rfl ?_
                        refine x_sipush (v := (1772)) dX11_termStep_259 (by decide) ?_
                        refine x_bipush (v := (6)) dX11_termStep_262 (by decide) ?_
                        refine x_aload_n 0 dX11_termStep_264 rfl rfl ?_
                        refine x_getR dX11_termStep_265 lm_0 fl_X11_44 rfl ?_
                        refine x_aload_n 0 dX11_termStep_268 rfl rfl ?_
                        refine x_getI (v := ((q525.2 0 22) - (1 : Int32))) dX11_termStep_269 lm_0 fl_X11_284 rfl (by rw [hI530, z2_o (by decide), hI527, z2_s, z1_s]) ?_
                        refine x_iald (j := (((q525.2 0 22) - (1 : Int32))).toNatClampNeg) (v := (q525.2 8 (((q525.2 0 22) - (1 : Int32))).toNatClampNeg)) dX11_termStep_272 lm_8 h528 rfl (by rw [hI530, z2_o (by decide), hI527, z2_o (by decide)]) ?_
                        refine x_imul dX11_termStep_273 ?_
                        refine x_iadd dX11_termStep_274 ?_
                        refine x_iconst (v := (4)) dX11_termStep_275 (by decide) ?_
                        refine x_iadd dX11_termStep_276 ?_
                        refine x_iload_n 2 dX11_termStep_277 rfl rfl ?_
                        obtain ⟨h532, hf⟩ := f_gd hf
                        obtain ⟨I533, hI533, hf⟩ := f_lt hf
                        refine x_iast (j0 := ((((1772 : Int32) + ((6 : Int32) * (q525.2 8 (((q525.2 0 22) - (1 : Int32))).toNatClampNeg))) + (4 : Int32))).toNatClampNeg) dX11_termStep_278 lm_1 h532 rfl hI533 ?_
                        refine x_aload_n 0 dX11_termStep_279 rfl rfl ?_
                        refine x_bipush (v := (59)) dX11_termStep_280 (by decide) ?_
                        obtain ⟨q534, hq535, hf⟩ := f_bd hf
                        refine x_callVi [.int (59 : Int32)] (c_X11_wantSign (I := I533) (L := L)  hq535) dX11_termStep_282 lk_X11_260 lm_0 rfl cd_X11_wantSign rfl rfl (Nat.le_of_ble_eq_true rfl) ⟨rfl, rfl, Nat.le_of_ble_eq_true rfl, Nat.le_of_ble_eq_true rfl⟩ ?_
                        cases hf
                        exact x_zret dX11_termStep_285 rfl rfl
                    · replace hf := f_el hB hf
                      refine x_iconst (v := (0)) dX11_termStep_195 (by decide) ?_
                      cases hf
                      exact x_zret (b := false) dX11_termStep_196 rfl rfl
              · replace hf := f_if hB hf
                refine x_aload_n 4 dX11_termStep_90 rfl rfl ?_
                refine x_bipush (v := (6)) dX11_termStep_91 (by decide) ?_
                refine x_callVi [.int (6 : Int32)] (c_X11_fails (I := I) (L := L) (6 : Int32)) dX11_termStep_93 lk_X11_181 lm_0 rfl cd_X11_fails rfl rfl (Nat.le_of_ble_eq_true rfl) ⟨rfl, rfl, Nat.le_of_ble_eq_true rfl, Nat.le_of_ble_eq_true rfl⟩ ?_
                cases hf
                exact x_zret dX11_termStep_96 rfl rfl
          · replace hf := f_if hB hf
            refine x_aload_n 4 dX11_termStep_62 rfl rfl ?_
            refine x_getI (v := (I 0 22)) dX11_termStep_63 lm_0 fl_X11_284 rfl rfl ?_
            refine x_if_ne 75 dX11_termStep_66 (by decide) (fun hB => ?_) (fun hB => ?_)
            · replace hf := f_el hB hf
              refine x_iload_n 3 dX11_termStep_75 rfl rfl ?_
              refine x_bipush (v := (20)) dX11_termStep_76 (by decide) ?_
              refine x_icmp_eq 97 dX11_termStep_78 (by decide) (fun hB => ?_) (fun hB => ?_)
              · replace hf := f_if hB hf
                refine x_iload 0 dX11_termStep_97 rfl ?_
                refine x_if_eq 117 dX11_termStep_99 (by decide) (fun _ => ?_) (fun h => absurd h (by decide))
                refine x_aload_n 4 dX11_termStep_117 rfl rfl ?_
                refine x_dup dX11_termStep_118 rfl ?_
                refine x_getI (v := (I 0 23)) dX11_termStep_119 lm_0 fl_X11_287 rfl rfl ?_
                refine x_iload_n 3 dX11_termStep_122 rfl rfl ?_
                refine x_bipush (v := (20)) dX11_termStep_123 (by decide) ?_
                refine x_icmp_ne 132 dX11_termStep_125 (by decide) (fun hB => ?_) (fun hB => ?_)
                · replace hf := f_el hB hf
                  refine x_iconst (v := (1)) dX11_termStep_132 (by decide) ?_
                  refine x_iadd dX11_termStep_133 ?_
                  obtain ⟨I412, hI412, hf⟩ := f_lt hf
                  refine x_putI dX11_termStep_134 lm_0 fl_X11_287 rfl rfl rfl hI412 ?_
                  refine x_aload_n 4 dX11_termStep_137 rfl rfl ?_
                  refine x_getR dX11_termStep_138 lm_0 fl_X11_7 rfl ?_
                  refine x_iload_n 1 dX11_termStep_141 rfl rfl ?_
                  refine x_iload_n 3 dX11_termStep_142 rfl rfl ?_
                  obtain ⟨h413, hf⟩ := f_gd hf
                  obtain ⟨I414, hI414, hf⟩ := f_lt hf
                  refine x_iast (j0 := (w4).toNatClampNeg) dX11_termStep_143 lm_1 h413 rfl hI414 ?_
                  refine x_iconst (v := (1)) dX11_termStep_144 (by decide) ?_
                  refine x_istore [(5, .int (1 : Int32)), (4, .int (0 : Int32)), (3, .int w4), (2, .int (I 1 1719)), (1, .int q1), (0, .ref 0)] dX11_termStep_145 (by decide) rfl ?_
                  refine x_lv [(0, .ref 0), (1, .int q1), (2, .int (I 1 1719)), (3, .int w4), (4, .int (0 : Int32)), (5, .int (1 : Int32))] [5, 4, 3, 2, 1, 0] rfl ?_
                  refine l_X11_termStep_147 q1 (I 1 1719) w4 (0 : Int32) (L) _ ?_ _ _ _ hf
                  · intro I hf
                    refine x_aload_n 0 dX11_termStep_170 rfl rfl ?_
                    refine x_getR dX11_termStep_171 lm_0 fl_X11_7 rfl ?_
                    refine x_sipush (v := (1719)) dX11_termStep_174 (by decide) ?_
                    refine x_dup2 dX11_termStep_177 rfl rfl ?_
                    refine x_iald (j := 1719) (v := (I 1 1719)) dX11_termStep_178 lm_1 (by decide +kernel) (by decide +kernel) rfl ?_
                    refine x_iconst (v := (1)) dX11_termStep_179 (by decide) ?_
                    refine x_iadd dX11_termStep_180 ?_
                    obtain ⟨I417, hI417, hf⟩ := f_lt hf
                    refine x_iast (j0 := 1719) dX11_termStep_181 lm_1 (by decide +kernel) (by decide +kernel) hI417 ?_
                    refine x_aload_n 0 dX11_termStep_182 rfl rfl ?_
                    obtain ⟨q418, hq419, hf⟩ := f_bd hf
                    refine x_callVv [] (c_X11_ahead (I := I417) (L := L)  hq419) dX11_termStep_183 lk_X11_175 lm_0 rfl cd_X11_ahead rfl rfl (Nat.le_of_ble_eq_true rfl) ⟨rfl, rfl, Nat.le_of_ble_eq_true rfl, Nat.le_of_ble_eq_true rfl⟩ ?_
                    refine x_aload_n 0 dX11_termStep_186 rfl rfl ?_
                    refine x_iload_n 1 dX11_termStep_187 rfl rfl ?_
                    refine x_iload_n 3 dX11_termStep_188 rfl rfl ?_
                    obtain ⟨q420, hq421, hf⟩ := f_bd hf
                    refine x_callVi [.int q1, .int w4] (c_X11_termOrder (I := q418) (L := L)  hq421) dX11_termStep_189 lk_X11_290 lm_0 rfl cd_X11_termOrder rfl rfl (Nat.le_of_ble_eq_true rfl) ⟨rfl, rfl, Nat.le_of_ble_eq_true rfl, Nat.le_of_ble_eq_true rfl⟩ ?_
                    refine x_if_neB 197 dX11_termStep_192 (by decide) (fun hB => ?_) (fun hB => ?_)
                    · replace hf := f_if hB hf
                      refine x_iload 4 dX11_termStep_197 rfl ?_
                      refine x_if_eq 222 dX11_termStep_199 (by decide) (fun _ => ?_) (fun h => absurd h (by decide))
                      refine x_iload_n 1 dX11_termStep_222 rfl rfl ?_
                      refine x_bipush (v := (20)) dX11_termStep_223 (by decide) ?_
                      refine x_icmp_ne 279 dX11_termStep_225 (by decide) (fun hB => ?_) (fun hB => ?_)
                      · replace hf := f_el hB hf
                        refine x_aload_n 0 dX11_termStep_279 rfl rfl ?_
                        refine x_bipush (v := (59)) dX11_termStep_280 (by decide) ?_
                        obtain ⟨q431, hq432, hf⟩ := f_bd hf
                        refine x_callVi [.int (59 : Int32)] (c_X11_wantSign (I := q420.2) (L := L)  hq432) dX11_termStep_282 lk_X11_260 lm_0 rfl cd_X11_wantSign rfl rfl (Nat.le_of_ble_eq_true rfl) ⟨rfl, rfl, Nat.le_of_ble_eq_true rfl, Nat.le_of_ble_eq_true rfl⟩ ?_
                        cases hf
                        exact x_zret dX11_termStep_285 rfl rfl
                      · replace hf := f_if hB hf
                        refine x_aload_n 0 dX11_termStep_228 rfl rfl ?_
                        refine x_dup dX11_termStep_229 rfl ?_
                        refine x_getI (v := (q420.2 0 22)) dX11_termStep_230 lm_0 fl_X11_284 rfl rfl ?_
                        refine x_iconst (v := (1)) dX11_termStep_233 (by decide) ?_
                        refine x_isub dX11_termStep_234 ?_
                        obtain ⟨I422, hI422, hf⟩ := f_lt hf
                        refine x_putI dX11_termStep_235 lm_0 fl_X11_284 rfl rfl rfl hI422 ?_
                        refine x_aload_n 0 dX11_termStep_238 rfl rfl ?_
                        refine x_getR dX11_termStep_239 lm_0 fl_X11_7 rfl ?_
                        refine x_iload_n 3 dX11_termStep_242 rfl rfl ?_
                        refine x_iconst (v := (4)) dX11_termStep_243 (by decide) ?_
                        refine x_iadd dX11_termStep_244 ?_
                        refine x_aload_n 0 dX11_termStep_245 rfl rfl ?_
                        refine x_getR dX11_termStep_246 lm_0 fl_X11_44 rfl ?_
                        refine x_aload_n 0 dX11_termStep_249 rfl rfl ?_
                        refine x_getI (v := ((q420.2 0 22) - (1 : Int32))) dX11_termStep_250 lm_0 fl_X11_284 rfl (by rw [hI422, z2_s, z1_s]) ?_
                        obtain ⟨h423, hf⟩ := f_gd hf
                        refine x_iald (j := (((q420.2 0 22) - (1 : Int32))).toNatClampNeg) (v := (q420.2 8 (((q420.2 0 22) - (1 : Int32))).toNatClampNeg)) dX11_termStep_253 lm_8 h423 rfl (by rw [hI422, z2_o (by decide)]) ?_
                        obtain ⟨h424, hf⟩ := f_gd hf
                        obtain ⟨I425, hI425, hf⟩ := f_lt hf
                        refine x_iast (j0 := ((w4 + (4 : Int32))).toNatClampNeg) dX11_termStep_254 lm_1 h424 rfl hI425 ?_
                        refine x_aload_n 0 dX11_termStep_255 rfl rfl ?_
                        refine x_getR dX11_termStep_256 lm_0 fl_X11_7 rfl ?_
                        refine x_sipush (v := (1772)) dX11_termStep_259 (by decide) ?_
                        refine x_bipush (v := (6)) dX11_termStep_262 (by decide) ?_
                        refine x_aload_n 0 dX11_termStep_264 rfl rfl ?_
                        refine x_getR dX11_termStep_265 lm_0 fl_X11_44 rfl ?_
                        refine x_aload_n 0 dX11_termStep_268 rfl rfl ?_
                        refine x_getI (v := ((q420.2 0 22) - (1 : Int32))) dX11_termStep_269 lm_0 fl_X11_284 rfl (by rw [hI425, z2_o (by decide), hI422, z2_s, z1_s]) ?_
                        refine x_iald (j := (((q420.2 0 22) - (1 : Int32))).toNatClampNeg) (v := (q420.2 8 (((q420.2 0 22) - (1 : Int32))).toNatClampNeg)) dX11_termStep_272 lm_8 h423 rfl (by rw [hI425, z2_o (by decide), hI422, z2_o (by decide)]) ?_
                        refine x_imul dX11_termStep_273 ?_
                        refine x_iadd dX11_termStep_274 ?_
                        refine x_iconst (v := (4)) dX11_termStep_275 (by decide) ?_
                        refine x_iadd dX11_termStep_276 ?_
                        refine x_iload_n 2 dX11_termStep_277 rfl rfl ?_
                        obtain ⟨h427, hf⟩ := f_gd hf
                        obtain ⟨I428, hI428, hf⟩ := f_lt hf
                        refine x_iast (j0 := ((((1772 : Int32) + ((6 : Int32) * (q420.2 8 (((q420.2 0 22) - (1 : Int32))).toNatClampNeg))) + (4 : Int32))).toNatClampNeg) dX11_termStep_278 lm_1 h427 rfl hI428 ?_
                        refine x_aload_n 0 dX11_termStep_279 rfl rfl ?_
                        refine x_bipush (v := (59)) dX11_termStep_280 (by decide) ?_
                        obtain ⟨q429, hq430, hf⟩ := f_bd hf
                        refine x_callVi [.int (59 : Int32)] (c_X11_wantSign (I := I428) (L := L)  hq430) dX11_termStep_282 lk_X11_260 lm_0 rfl cd_X11_wantSign rfl rfl (Nat.le_of_ble_eq_true rfl) ⟨rfl, rfl, Nat.le_of_ble_eq_true rfl, Nat.le_of_ble_eq_true rfl⟩ ?_
                        cases hf
                        exact x_zret dX11_termStep_285 rfl rfl
                    · replace hf := f_el hB hf
                      refine x_iconst (v := (0)) dX11_termStep_195 (by decide) ?_
                      cases hf
                      exact x_zret (b := false) dX11_termStep_196 rfl rfl
                · replace hf := f_if hB hf
                  refine x_iconst (v := (0)) dX11_termStep_128 (by decide) ?_
                  refine x_goto 133 dX11_termStep_129 (by decide) ?_
                  refine x_iadd dX11_termStep_133 ?_
                  obtain ⟨I391, hI391, hf⟩ := f_lt hf
                  refine x_putI dX11_termStep_134 lm_0 fl_X11_287 rfl rfl rfl hI391 ?_
                  refine x_aload_n 4 dX11_termStep_137 rfl rfl ?_
                  refine x_getR dX11_termStep_138 lm_0 fl_X11_7 rfl ?_
                  refine x_iload_n 1 dX11_termStep_141 rfl rfl ?_
                  refine x_iload_n 3 dX11_termStep_142 rfl rfl ?_
                  obtain ⟨h392, hf⟩ := f_gd hf
                  obtain ⟨I393, hI393, hf⟩ := f_lt hf
                  refine x_iast (j0 := (w4).toNatClampNeg) dX11_termStep_143 lm_1 h392 rfl hI393 ?_
                  refine x_iconst (v := (1)) dX11_termStep_144 (by decide) ?_
                  refine x_istore [(5, .int (1 : Int32)), (4, .int (0 : Int32)), (3, .int w4), (2, .int (I 1 1719)), (1, .int q1), (0, .ref 0)] dX11_termStep_145 (by decide) rfl ?_
                  refine x_lv [(0, .ref 0), (1, .int q1), (2, .int (I 1 1719)), (3, .int w4), (4, .int (0 : Int32)), (5, .int (1 : Int32))] [5, 4, 3, 2, 1, 0] rfl ?_
                  refine l_X11_termStep_147 q1 (I 1 1719) w4 (0 : Int32) (L) _ ?_ _ _ _ hf
                  · intro I hf
                    refine x_aload_n 0 dX11_termStep_170 rfl rfl ?_
                    refine x_getR dX11_termStep_171 lm_0 fl_X11_7 rfl ?_
                    refine x_sipush (v := (1719)) dX11_termStep_174 (by decide) ?_
                    refine x_dup2 dX11_termStep_177 rfl rfl ?_
                    refine x_iald (j := 1719) (v := (I 1 1719)) dX11_termStep_178 lm_1 (by decide +kernel) (by decide +kernel) rfl ?_
                    refine x_iconst (v := (1)) dX11_termStep_179 (by decide) ?_
                    refine x_iadd dX11_termStep_180 ?_
                    obtain ⟨I396, hI396, hf⟩ := f_lt hf
                    refine x_iast (j0 := 1719) dX11_termStep_181 lm_1 (by decide +kernel) (by decide +kernel) hI396 ?_
                    refine x_aload_n 0 dX11_termStep_182 rfl rfl ?_
                    obtain ⟨q397, hq398, hf⟩ := f_bd hf
                    refine x_callVv [] (c_X11_ahead (I := I396) (L := L)  hq398) dX11_termStep_183 lk_X11_175 lm_0 rfl cd_X11_ahead rfl rfl (Nat.le_of_ble_eq_true rfl) ⟨rfl, rfl, Nat.le_of_ble_eq_true rfl, Nat.le_of_ble_eq_true rfl⟩ ?_
                    refine x_aload_n 0 dX11_termStep_186 rfl rfl ?_
                    refine x_iload_n 1 dX11_termStep_187 rfl rfl ?_
                    refine x_iload_n 3 dX11_termStep_188 rfl rfl ?_
                    obtain ⟨q399, hq400, hf⟩ := f_bd hf
                    refine x_callVi [.int q1, .int w4] (c_X11_termOrder (I := q397) (L := L)  hq400) dX11_termStep_189 lk_X11_290 lm_0 rfl cd_X11_termOrder rfl rfl (Nat.le_of_ble_eq_true rfl) ⟨rfl, rfl, Nat.le_of_ble_eq_true rfl, Nat.le_of_ble_eq_true rfl⟩ ?_
                    refine x_if_neB 197 dX11_termStep_192 (by decide) (fun hB => ?_) (fun hB => ?_)
                    · replace hf := f_if hB hf
                      refine x_iload 4 dX11_termStep_197 rfl ?_
                      refine x_if_eq 222 dX11_termStep_199 (by decide) (fun _ => ?_) (fun h => absurd h (by decide))
                      refine x_iload_n 1 dX11_termStep_222 rfl rfl ?_
                      refine x_bipush (v := (20)) dX11_termStep_223 (by decide) ?_
                      refine x_icmp_ne 279 dX11_termStep_225 (by decide) (fun hB => ?_) (fun hB => ?_)
                      · replace hf := f_el hB hf
                        refine x_aload_n 0 dX11_termStep_279 rfl rfl ?_
                        refine x_bipush (v := (59)) dX11_termStep_280 (by decide) ?_
                        obtain ⟨q410, hq411, hf⟩ := f_bd hf
                        refine x_callVi [.int (59 : Int32)] (c_X11_wantSign (I := q399.2) (L := L)  hq411) dX11_termStep_282 lk_X11_260 lm_0 rfl cd_X11_wantSign rfl rfl (Nat.le_of_ble_eq_true rfl) ⟨rfl, rfl, Nat.le_of_ble_eq_true rfl, Nat.le_of_ble_eq_true rfl⟩ ?_
                        cases hf
                        exact x_zret dX11_termStep_285 rfl rfl
                      · replace hf := f_if hB hf
                        refine x_aload_n 0 dX11_termStep_228 rfl rfl ?_
                        refine x_dup dX11_termStep_229 rfl ?_
                        refine x_getI (v := (q399.2 0 22)) dX11_termStep_230 lm_0 fl_X11_284 rfl rfl ?_
                        refine x_iconst (v := (1)) dX11_termStep_233 (by decide) ?_
                        refine x_isub dX11_termStep_234 ?_
                        obtain ⟨I401, hI401, hf⟩ := f_lt hf
                        refine x_putI dX11_termStep_235 lm_0 fl_X11_284 rfl rfl rfl hI401 ?_
                        refine x_aload_n 0 dX11_termStep_238 rfl rfl ?_
                        refine x_getR dX11_termStep_239 lm_0 fl_X11_7 rfl ?_
                        refine x_iload_n 3 dX11_termStep_242 rfl rfl ?_
                        refine x_iconst (v := (4)) dX11_termStep_243 (by decide) ?_
                        refine x_iadd dX11_termStep_244 ?_
                        refine x_aload_n 0 dX11_termStep_245 rfl rfl ?_
                        refine x_getR dX11_termStep_246 lm_0 fl_X11_44 rfl ?_
                        refine x_aload_n 0 dX11_termStep_249 rfl rfl ?_
                        refine x_getI (v := ((q399.2 0 22) - (1 : Int32))) dX11_termStep_250 lm_0 fl_X11_284 rfl (by rw [hI401, z2_s, z1_s]) ?_
                        obtain ⟨h402, hf⟩ := f_gd hf
                        refine x_iald (j := (((q399.2 0 22) - (1 : Int32))).toNatClampNeg) (v := (q399.2 8 (((q399.2 0 22) - (1 : Int32))).toNatClampNeg)) dX11_termStep_253 lm_8 h402 rfl (by rw [hI401, z2_o (by decide)]) ?_
                        obtain ⟨h403, hf⟩ := f_gd hf
                        obtain ⟨I404, hI404, hf⟩ := f_lt hf
                        refine x_iast (j0 := ((w4 + (4 : Int32))).toNatClampNeg) dX11_termStep_254 lm_1 h403 rfl hI404 ?_
                        refine x_aload_n 0 dX11_termStep_255 rfl rfl ?_
                        refine x_getR dX11_termStep_256 lm_0 fl_X11_7 rfl ?_
                        refine x_sipush (v := (1772)) dX11_termStep_259 (by decide) ?_
                        refine x_bipush (v := (6)) dX11_termStep_262 (by decide) ?_
                        refine x_aload_n 0 dX11_termStep_264 rfl rfl ?_
                        refine x_getR dX11_termStep_265 lm_0 fl_X11_44 rfl ?_
                        refine x_aload_n 0 dX11_termStep_268 rfl rfl ?_
                        refine x_getI (v := ((q399.2 0 22) - (1 : Int32))) dX11_termStep_269 lm_0 fl_X11_284 rfl (by rw [hI404, z2_o (by decide), hI401, z2_s, z1_s]) ?_
                        refine x_iald (j := (((q399.2 0 22) - (1 : Int32))).toNatClampNeg) (v := (q399.2 8 (((q399.2 0 22) - (1 : Int32))).toNatClampNeg)) dX11_termStep_272 lm_8 h402 rfl (by rw [hI404, z2_o (by decide), hI401, z2_o (by decide)]) ?_
                        refine x_imul dX11_termStep_273 ?_
                        refine x_iadd dX11_termStep_274 ?_
                        refine x_iconst (v := (4)) dX11_termStep_275 (by decide) ?_
                        refine x_iadd dX11_termStep_276 ?_
                        refine x_iload_n 2 dX11_termStep_277 rfl rfl ?_
                        obtain ⟨h406, hf⟩ := f_gd hf
                        obtain ⟨I407, hI407, hf⟩ := f_lt hf
                        refine x_iast (j0 := ((((1772 : Int32) + ((6 : Int32) * (q399.2 8 (((q399.2 0 22) - (1 : Int32))).toNatClampNeg))) + (4 : Int32))).toNatClampNeg) dX11_termStep_278 lm_1 h406 rfl hI407 ?_
                        refine x_aload_n 0 dX11_termStep_279 rfl rfl ?_
                        refine x_bipush (v := (59)) dX11_termStep_280 (by decide) ?_
                        obtain ⟨q408, hq409, hf⟩ := f_bd hf
                        refine x_callVi [.int (59 : Int32)] (c_X11_wantSign (I := I407) (L := L)  hq409) dX11_termStep_282 lk_X11_260 lm_0 rfl cd_X11_wantSign rfl rfl (Nat.le_of_ble_eq_true rfl) ⟨rfl, rfl, Nat.le_of_ble_eq_true rfl, Nat.le_of_ble_eq_true rfl⟩ ?_
                        cases hf
                        exact x_zret dX11_termStep_285 rfl rfl
                    · replace hf := f_el hB hf
                      refine x_iconst (v := (0)) dX11_termStep_195 (by decide) ?_
                      cases hf
                      exact x_zret (b := false) dX11_termStep_196 rfl rfl
              · replace hf := f_el hB hf
                refine x_aload_n 4 dX11_termStep_81 rfl rfl ?_
                refine x_getI (v := (I 0 23)) dX11_termStep_82 lm_0 fl_X11_287 rfl rfl ?_
                refine x_bipush (v := (30)) dX11_termStep_85 (by decide) ?_
                refine x_icmp_ne 97 dX11_termStep_87 (by decide) (fun hB => ?_) (fun hB => ?_)
                · replace hf := f_el hB hf
                  refine x_iload 0 dX11_termStep_97 rfl ?_
                  refine x_if_eq 117 dX11_termStep_99 (by decide) (fun _ => ?_) (fun h => absurd h (by decide))
                  refine x_aload_n 4 dX11_termStep_117 rfl rfl ?_
                  refine x_dup dX11_termStep_118 rfl ?_
                  refine x_getI (v := (I 0 23)) dX11_termStep_119 lm_0 fl_X11_287 rfl rfl ?_
                  refine x_iload_n 3 dX11_termStep_122 rfl rfl ?_
                  refine x_bipush (v := (20)) dX11_termStep_123 (by decide) ?_
                  refine x_icmp_ne 132 dX11_termStep_125 (by decide) (fun hB => ?_) (fun hB => ?_)
                  · replace hf := f_el hB hf
                    refine x_iconst (v := (1)) dX11_termStep_132 (by decide) ?_
                    refine x_iadd dX11_termStep_133 ?_
                    obtain ⟨I454, hI454, hf⟩ := f_lt hf
                    refine x_putI dX11_termStep_134 lm_0 fl_X11_287 rfl rfl rfl hI454 ?_
                    refine x_aload_n 4 dX11_termStep_137 rfl rfl ?_
                    refine x_getR dX11_termStep_138 lm_0 fl_X11_7 rfl ?_
                    refine x_iload_n 1 dX11_termStep_141 rfl rfl ?_
                    refine x_iload_n 3 dX11_termStep_142 rfl rfl ?_
                    obtain ⟨h455, hf⟩ := f_gd hf
                    obtain ⟨I456, hI456, hf⟩ := f_lt hf
                    refine x_iast (j0 := (w4).toNatClampNeg) dX11_termStep_143 lm_1 h455 rfl hI456 ?_
                    refine x_iconst (v := (1)) dX11_termStep_144 (by decide) ?_
                    refine x_istore [(5, .int (1 : Int32)), (4, .int (0 : Int32)), (3, .int w4), (2, .int (I 1 1719)), (1, .int q1), (0, .ref 0)] dX11_termStep_145 (by decide) rfl ?_
                    refine x_lv [(0, .ref 0), (1, .int q1), (2, .int (I 1 1719)), (3, .int w4), (4, .int (0 : Int32)), (5, .int (1 : Int32))] [5, 4, 3, 2, 1, 0] rfl ?_
                    refine l_X11_termStep_147 q1 (I 1 1719) w4 (0 : Int32) (L) _ ?_ _ _ _ hf
                    · intro I hf
                      refine x_aload_n 0 dX11_termStep_170 rfl rfl ?_
                      refine x_getR dX11_termStep_171 lm_0 fl_X11_7 rfl ?_
                      refine x_sipush (v := (1719)) dX11_termStep_174 (by decide) ?_
                      refine x_dup2 dX11_termStep_177 rfl rfl ?_
                      refine x_iald (j := 1719) (v := (I 1 1719)) dX11_termStep_178 lm_1 (by decide +kernel) (by decide +kernel) rfl ?_
                      refine x_iconst (v := (1)) dX11_termStep_179 (by decide) ?_
                      refine x_iadd dX11_termStep_180 ?_
                      obtain ⟨I459, hI459, hf⟩ := f_lt hf
                      refine x_iast (j0 := 1719) dX11_termStep_181 lm_1 (by decide +kernel) (by decide +kernel) hI459 ?_
                      refine x_aload_n 0 dX11_termStep_182 rfl rfl ?_
                      obtain ⟨q460, hq461, hf⟩ := f_bd hf
                      refine x_callVv [] (c_X11_ahead (I := I459) (L := L)  hq461) dX11_termStep_183 lk_X11_175 lm_0 rfl cd_X11_ahead rfl rfl (Nat.le_of_ble_eq_true rfl) ⟨rfl, rfl, Nat.le_of_ble_eq_true rfl, Nat.le_of_ble_eq_true rfl⟩ ?_
                      refine x_aload_n 0 dX11_termStep_186 rfl rfl ?_
                      refine x_iload_n 1 dX11_termStep_187 rfl rfl ?_
                      refine x_iload_n 3 dX11_termStep_188 rfl rfl ?_
                      obtain ⟨q462, hq463, hf⟩ := f_bd hf
                      refine x_callVi [.int q1, .int w4] (c_X11_termOrder (I := q460) (L := L)  hq463) dX11_termStep_189 lk_X11_290 lm_0 rfl cd_X11_termOrder rfl rfl (Nat.le_of_ble_eq_true rfl) ⟨rfl, rfl, Nat.le_of_ble_eq_true rfl, Nat.le_of_ble_eq_true rfl⟩ ?_
                      refine x_if_neB 197 dX11_termStep_192 (by decide) (fun hB => ?_) (fun hB => ?_)
                      · replace hf := f_if hB hf
                        refine x_iload 4 dX11_termStep_197 rfl ?_
                        refine x_if_eq 222 dX11_termStep_199 (by decide) (fun _ => ?_) (fun h => absurd h (by decide))
                        refine x_iload_n 1 dX11_termStep_222 rfl rfl ?_
                        refine x_bipush (v := (20)) dX11_termStep_223 (by decide) ?_
                        refine x_icmp_ne 279 dX11_termStep_225 (by decide) (fun hB => ?_) (fun hB => ?_)
                        · replace hf := f_el hB hf
                          refine x_aload_n 0 dX11_termStep_279 rfl rfl ?_
                          refine x_bipush (v := (59)) dX11_termStep_280 (by decide) ?_
                          obtain ⟨q473, hq474, hf⟩ := f_bd hf
                          refine x_callVi [.int (59 : Int32)] (c_X11_wantSign (I := q462.2) (L := L)  hq474) dX11_termStep_282 lk_X11_260 lm_0 rfl cd_X11_wantSign rfl rfl (Nat.le_of_ble_eq_true rfl) ⟨rfl, rfl, Nat.le_of_ble_eq_true rfl, Nat.le_of_ble_eq_true rfl⟩ ?_
                          cases hf
                          exact x_zret dX11_termStep_285 rfl rfl
                        · replace hf := f_if hB hf
                          refine x_aload_n 0 dX11_termStep_228 rfl rfl ?_
                          refine x_dup dX11_termStep_229 rfl ?_
                          refine x_getI (v := (q462.2 0 22)) dX11_termStep_230 lm_0 fl_X11_284 rfl rfl ?_
                          refine x_iconst (v := (1)) dX11_termStep_233 (by decide) ?_
                          refine x_isub dX11_termStep_234 ?_
                          obtain ⟨I464, hI464, hf⟩ := f_lt hf
                          refine x_putI dX11_termStep_235 lm_0 fl_X11_284 rfl rfl rfl hI464 ?_
                          refine x_aload_n 0 dX11_termStep_238 rfl rfl ?_
                          refine x_getR dX11_termStep_239 lm_0 fl_X11_7 rfl ?_
                          refine x_iload_n 3 dX11_termStep_242 rfl rfl ?_
                          refine x_iconst (v := (4)) dX11_termStep_243 (by decide) ?_
                          refine x_iadd dX11_termStep_244 ?_
                          refine x_aload_n 0 dX11_termStep_245 rfl rfl ?_
                          refine x_getR dX11_termStep_246 lm_0 fl_X11_44 rfl ?_
                          refine x_aload_n 0 dX11_termStep_249 rfl rfl ?_
                          refine x_getI (v := ((q462.2 0 22) - (1 : Int32))) dX11_termStep_250 lm_0 fl_X11_284 rfl (by rw [hI464, z2_s, z1_s]) ?_
                          obtain ⟨h465, hf⟩ := f_gd hf
                          refine x_iald (j := (((q462.2 0 22) - (1 : Int32))).toNatClampNeg) (v := (q462.2 8 (((q462.2 0 22) - (1 : Int32))).toNatClampNeg)) dX11_termStep_253 lm_8 h465 rfl (by rw [hI464, z2_o (by decide)]) ?_
                          obtain ⟨h466, hf⟩ := f_gd hf
                          obtain ⟨I467, hI467, hf⟩ := f_lt hf
                          refine x_iast (j0 := ((w4 + (4 : Int32))).toNatClampNeg) dX11_termStep_254 lm_1 h466 rfl hI467 ?_
                          refine x_aload_n 0 dX11_termStep_255 rfl rfl ?_
                          refine x_getR dX11_termStep_256 lm_0 fl_X11_7 rfl ?_
                          refine x_sipush (v := (1772)) dX11_termStep_259 (by decide) ?_
                          refine x_bipush (v := (6)) dX11_termStep_262 (by decide) ?_
                          refine x_aload_n 0 dX11_termStep_264 rfl rfl ?_
                          refine x_getR dX11_termStep_265 lm_0 fl_X11_44 rfl ?_
                          refine x_aload_n 0 dX11_termStep_268 rfl rfl ?_
                          refine x_getI (v := ((q462.2 0 22) - (1 : Int32))) dX11_termStep_269 lm_0 fl_X11_284 rfl (by rw [hI467, z2_o (by decide), hI464, z2_s, z1_s]) ?_
                          refine x_iald (j := (((q462.2 0 22) - (1 : Int32))).toNatClampNeg) (v := (q462.2 8 (((q462.2 0 22) - (1 : Int32))).toNatClampNeg)) dX11_termStep_272 lm_8 h465 rfl (by rw [hI467, z2_o (by decide), hI464, z2_o (by decide)]) ?_
                          refine x_imul dX11_termStep_273 ?_
                          refine x_iadd dX11_termStep_274 ?_
                          refine x_iconst (v := (4)) dX11_termStep_275 (by decide) ?_
                          refine x_iadd dX11_termStep_276 ?_
                          refine x_iload_n 2 dX11_termStep_277 rfl rfl ?_
                          obtain ⟨h469, hf⟩ := f_gd hf
                          obtain ⟨I470, hI470, hf⟩ := f_lt hf
                          refine x_iast (j0 := ((((1772 : Int32) + ((6 : Int32) * (q462.2 8 (((q462.2 0 22) - (1 : Int32))).toNatClampNeg))) + (4 : Int32))).toNatClampNeg) dX11_termStep_278 lm_1 h469 rfl hI470 ?_
                          refine x_aload_n 0 dX11_termStep_279 rfl rfl ?_
                          refine x_bipush (v := (59)) dX11_termStep_280 (by decide) ?_
                          obtain ⟨q471, hq472, hf⟩ := f_bd hf
                          refine x_callVi [.int (59 : Int32)] (c_X11_wantSign (I := I470) (L := L)  hq472) dX11_termStep_282 lk_X11_260 lm_0 rfl cd_X11_wantSign rfl rfl (Nat.le_of_ble_eq_true rfl) ⟨rfl, rfl, Nat.le_of_ble_eq_true rfl, Nat.le_of_ble_eq_true rfl⟩ ?_
                          cases hf
                          exact x_zret dX11_termStep_285 rfl rfl
                      · replace hf := f_el hB hf
                        refine x_iconst (v := (0)) dX11_termStep_195 (by decide) ?_
                        cases hf
                        exact x_zret (b := false) dX11_termStep_196 rfl rfl
                  · replace hf := f_if hB hf
                    refine x_iconst (v := (0)) dX11_termStep_128 (by decide) ?_
                    refine x_goto 133 dX11_termStep_129 (by decide) ?_
                    refine x_iadd dX11_termStep_133 ?_
                    obtain ⟨I433, hI433, hf⟩ := f_lt hf
                    refine x_putI dX11_termStep_134 lm_0 fl_X11_287 rfl rfl rfl hI433 ?_
                    refine x_aload_n 4 dX11_termStep_137 rfl rfl ?_
                    refine x_getR dX11_termStep_138 lm_0 fl_X11_7 rfl ?_
                    refine x_iload_n 1 dX11_termStep_141 rfl rfl ?_
                    refine x_iload_n 3 dX11_termStep_142 rfl rfl ?_
                    obtain ⟨h434, hf⟩ := f_gd hf
                    obtain ⟨I435, hI435, hf⟩ := f_lt hf
                    refine x_iast (j0 := (w4).toNatClampNeg) dX11_termStep_143 lm_1 h434 rfl hI435 ?_
                    refine x_iconst (v := (1)) dX11_termStep_144 (by decide) ?_
                    refine x_istore [(5, .int (1 : Int32)), (4, .int (0 : Int32)), (3, .int w4), (2, .int (I 1 1719)), (1, .int q1), (0, .ref 0)] dX11_termStep_145 (by decide) rfl ?_
                    refine x_lv [(0, .ref 0), (1, .int q1), (2, .int (I 1 1719)), (3, .int w4), (4, .int (0 : Int32)), (5, .int (1 : Int32))] [5, 4, 3, 2, 1, 0] rfl ?_
                    refine l_X11_termStep_147 q1 (I 1 1719) w4 (0 : Int32) (L) _ ?_ _ _ _ hf
                    · intro I hf
                      refine x_aload_n 0 dX11_termStep_170 rfl rfl ?_
                      refine x_getR dX11_termStep_171 lm_0 fl_X11_7 rfl ?_
                      refine x_sipush (v := (1719)) dX11_termStep_174 (by decide) ?_
                      refine x_dup2 dX11_termStep_177 rfl rfl ?_
                      refine x_iald (j := 1719) (v := (I 1 1719)) dX11_termStep_178 lm_1 (by decide +kernel) (by decide +kernel) rfl ?_
                      refine x_iconst (v := (1)) dX11_termStep_179 (by decide) ?_
                      refine x_iadd dX11_termStep_180 ?_
                      obtain ⟨I438, hI438, hf⟩ := f_lt hf
                      refine x_iast (j0 := 1719) dX11_termStep_181 lm_1 (by decide +kernel) (by decide +kernel) hI438 ?_
                      refine x_aload_n 0 dX11_termStep_182 rfl rfl ?_
                      obtain ⟨q439, hq440, hf⟩ := f_bd hf
                      refine x_callVv [] (c_X11_ahead (I := I438) (L := L)  hq440) dX11_termStep_183 lk_X11_175 lm_0 rfl cd_X11_ahead rfl rfl (Nat.le_of_ble_eq_true rfl) ⟨rfl, rfl, Nat.le_of_ble_eq_true rfl, Nat.le_of_ble_eq_true rfl⟩ ?_
                      refine x_aload_n 0 dX11_termStep_186 rfl rfl ?_
                      refine x_iload_n 1 dX11_termStep_187 rfl rfl ?_
                      refine x_iload_n 3 dX11_termStep_188 rfl rfl ?_
                      obtain ⟨q441, hq442, hf⟩ := f_bd hf
                      refine x_callVi [.int q1, .int w4] (c_X11_termOrder (I := q439) (L := L)  hq442) dX11_termStep_189 lk_X11_290 lm_0 rfl cd_X11_termOrder rfl rfl (Nat.le_of_ble_eq_true rfl) ⟨rfl, rfl, Nat.le_of_ble_eq_true rfl, Nat.le_of_ble_eq_true rfl⟩ ?_
                      refine x_if_neB 197 dX11_termStep_192 (by decide) (fun hB => ?_) (fun hB => ?_)
                      · replace hf := f_if hB hf
                        refine x_iload 4 dX11_termStep_197 rfl ?_
                        refine x_if_eq 222 dX11_termStep_199 (by decide) (fun _ => ?_) (fun h => absurd h (by decide))
                        refine x_iload_n 1 dX11_termStep_222 rfl rfl ?_
                        refine x_bipush (v := (20)) dX11_termStep_223 (by decide) ?_
                        refine x_icmp_ne 279 dX11_termStep_225 (by decide) (fun hB => ?_) (fun hB => ?_)
                        · replace hf := f_el hB hf
                          refine x_aload_n 0 dX11_termStep_279 rfl rfl ?_
                          refine x_bipush (v := (59)) dX11_termStep_280 (by decide) ?_
                          obtain ⟨q452, hq453, hf⟩ := f_bd hf
                          refine x_callVi [.int (59 : Int32)] (c_X11_wantSign (I := q441.2) (L := L)  hq453) dX11_termStep_282 lk_X11_260 lm_0 rfl cd_X11_wantSign rfl rfl (Nat.le_of_ble_eq_true rfl) ⟨rfl, rfl, Nat.le_of_ble_eq_true rfl, Nat.le_of_ble_eq_true rfl⟩ ?_
                          cases hf
                          exact x_zret dX11_termStep_285 rfl rfl
                        · replace hf := f_if hB hf
                          refine x_aload_n 0 dX11_termStep_228 rfl rfl ?_
                          refine x_dup dX11_termStep_229 rfl ?_
                          refine x_getI (v := (q441.2 0 22)) dX11_termStep_230 lm_0 fl_X11_284 rfl rfl ?_
                          refine x_iconst (v := (1)) dX11_termStep_233 (by decide) ?_
                          refine x_isub dX11_termStep_234 ?_
                          obtain ⟨I443, hI443, hf⟩ := f_lt hf
                          refine x_putI dX11_termStep_235 lm_0 fl_X11_284 rfl rfl rfl hI443 ?_
                          refine x_aload_n 0 dX11_termStep_238 rfl rfl ?_
                          refine x_getR dX11_termStep_239 lm_0 fl_X11_7 rfl ?_
                          refine x_iload_n 3 dX11_termStep_242 rfl rfl ?_
                          refine x_iconst (v := (4)) dX11_termStep_243 (by decide) ?_
                          refine x_iadd dX11_termStep_244 ?_
                          refine x_aload_n 0 dX11_termStep_245 rfl rfl ?_
                          refine x_getR dX11_termStep_246 lm_0 fl_X11_44 rfl ?_
                          refine x_aload_n 0 dX11_termStep_249 rfl rfl ?_
                          refine x_getI (v := ((q441.2 0 22) - (1 : Int32))) dX11_termStep_250 lm_0 fl_X11_284 rfl (by rw [hI443, z2_s, z1_s]) ?_
                          obtain ⟨h444, hf⟩ := f_gd hf
                          refine x_iald (j := (((q441.2 0 22) - (1 : Int32))).toNatClampNeg) (v := (q441.2 8 (((q441.2 0 22) - (1 : Int32))).toNatClampNeg)) dX11_termStep_253 lm_8 h444 rfl (by rw [hI443, z2_o (by decide)]) ?_
                          obtain ⟨h445, hf⟩ := f_gd hf
                          obtain ⟨I446, hI446, hf⟩ := f_lt hf
                          refine x_iast (j0 := ((w4 + (4 : Int32))).toNatClampNeg) dX11_termStep_254 lm_1 h445 rfl hI446 ?_
                          refine x_aload_n 0 dX11_termStep_255 rfl rfl ?_
                          refine x_getR dX11_termStep_256 lm_0 fl_X11_7 rfl ?_
                          refine x_sipush (v := (1772)) dX11_termStep_259 (by decide) ?_
                          refine x_bipush (v := (6)) dX11_termStep_262 (by decide) ?_
                          refine x_aload_n 0 dX11_termStep_264 rfl rfl ?_
                          refine x_getR dX11_termStep_265 lm_0 fl_X11_44 rfl ?_
                          refine x_aload_n 0 dX11_termStep_268 rfl rfl ?_
                          refine x_getI (v := ((q441.2 0 22) - (1 : Int32))) dX11_termStep_269 lm_0 fl_X11_284 rfl (by rw [hI446, z2_o (by decide), hI443, z2_s, z1_s]) ?_
                          refine x_iald (j := (((q441.2 0 22) - (1 : Int32))).toNatClampNeg) (v := (q441.2 8 (((q441.2 0 22) - (1 : Int32))).toNatClampNeg)) dX11_termStep_272 lm_8 h444 rfl (by rw [hI446, z2_o (by decide), hI443, z2_o (by decide)]) ?_
                          refine x_imul dX11_termStep_273 ?_
                          refine x_iadd dX11_termStep_274 ?_
                          refine x_iconst (v := (4)) dX11_termStep_275 (by decide) ?_
                          refine x_iadd dX11_termStep_276 ?_
                          refine x_iload_n 2 dX11_termStep_277 rfl rfl ?_
                          obtain ⟨h448, hf⟩ := f_gd hf
                          obtain ⟨I449, hI449, hf⟩ := f_lt hf
                          refine x_iast (j0 := ((((1772 : Int32) + ((6 : Int32) * (q441.2 8 (((q441.2 0 22) - (1 : Int32))).toNatClampNeg))) + (4 : Int32))).toNatClampNeg) dX11_termStep_278 lm_1 h448 rfl hI449 ?_
                          refine x_aload_n 0 dX11_termStep_279 rfl rfl ?_
                          refine x_bipush (v := (59)) dX11_termStep_280 (by decide) ?_
                          obtain ⟨q450, hq451, hf⟩ := f_bd hf
                          refine x_callVi [.int (59 : Int32)] (c_X11_wantSign (I := I449) (L := L)  hq451) dX11_termStep_282 lk_X11_260 lm_0 rfl cd_X11_wantSign rfl rfl (Nat.le_of_ble_eq_true rfl) ⟨rfl, rfl, Nat.le_of_ble_eq_true rfl, Nat.le_of_ble_eq_true rfl⟩ ?_
                          cases hf
                          exact x_zret dX11_termStep_285 rfl rfl
                      · replace hf := f_el hB hf
                        refine x_iconst (v := (0)) dX11_termStep_195 (by decide) ?_
                        cases hf
                        exact x_zret (b := false) dX11_termStep_196 rfl rfl
                · replace hf := f_if hB hf
                  refine x_aload_n 4 dX11_termStep_90 rfl rfl ?_
                  refine x_bipush (v := (6)) dX11_termStep_91 (by decide) ?_
                  refine x_callVi [.int (6 : Int32)] (c_X11_fails (I := I) (L := L) (6 : Int32)) dX11_termStep_93 lk_X11_181 lm_0 rfl cd_X11_fails rfl rfl (Nat.le_of_ble_eq_true rfl) ⟨rfl, rfl, Nat.le_of_ble_eq_true rfl, Nat.le_of_ble_eq_true rfl⟩ ?_
                  cases hf
                  exact x_zret dX11_termStep_96 rfl rfl
            · replace hf := f_if hB hf
              refine x_aload_n 4 dX11_termStep_69 rfl rfl ?_
              refine x_iconst (v := (2)) dX11_termStep_70 (by decide) ?_
              refine x_callVi [.int (2 : Int32)] (c_X11_fails (I := I) (L := L) (2 : Int32)) dX11_termStep_71 lk_X11_181 lm_0 rfl cd_X11_fails rfl rfl (Nat.le_of_ble_eq_true rfl) ⟨rfl, rfl, Nat.le_of_ble_eq_true rfl, Nat.le_of_ble_eq_true rfl⟩ ?_
              cases hf
              exact x_zret dX11_termStep_74 rfl rfl
    · replace hf := f_if hB hf
      refine x_iconst (v := (1)) dX11_termStep_37 (by decide) ?_
      refine x_goto 42 dX11_termStep_38 (by decide) ?_
      refine x_istore [(4, .int (1 : Int32)), (3, .int w4), (2, .int (I 1 1719)), (1, .int q1), (0, .ref 0)] dX11_termStep_42 (by decide) rfl ?_
      refine x_iload_n 3 dX11_termStep_44 rfl rfl ?_
      refine x_bipush (v := (12)) dX11_termStep_45 (by decide) ?_
      refine x_icmp_lt 69 dX11_termStep_47 (by decide) (fun hB => ?_) (fun hB => ?_)
      · replace hf := f_if hB hf
        refine x_aload_n 4 dX11_termStep_69 rfl rfl ?_
        refine x_iconst (v := (2)) dX11_termStep_70 (by decide) ?_
        refine x_callVi [.int (2 : Int32)] (c_X11_fails (I := I) (L := L) (2 : Int32)) dX11_termStep_71 lk_X11_181 lm_0 rfl cd_X11_fails rfl rfl (Nat.le_of_ble_eq_true rfl) ⟨rfl, rfl, Nat.le_of_ble_eq_true rfl, Nat.le_of_ble_eq_true rfl⟩ ?_
        cases hf
        exact x_zret dX11_termStep_74 rfl rfl
      · replace hf := f_el hB hf
        refine x_iload_n 3 dX11_termStep_50 rfl rfl ?_
        refine x_bipush (v := (21)) dX11_termStep_51 (by decide) ?_
        refine x_icmp_gt 69 dX11_termStep_53 (by decide) (fun hB => ?_) (fun hB => ?_)
        · replace hf := f_if hB hf
          refine x_aload_n 4 dX11_termStep_69 rfl rfl ?_
          refine x_iconst (v := (2)) dX11_termStep_70 (by decide) ?_
          refine x_callVi [.int (2 : Int32)] (c_X11_fails (I := I) (L := L) (2 : Int32)) dX11_termStep_71 lk_X11_181 lm_0 rfl cd_X11_fails rfl rfl (Nat.le_of_ble_eq_true rfl) ⟨rfl, rfl, Nat.le_of_ble_eq_true rfl, Nat.le_of_ble_eq_true rfl⟩ ?_
          cases hf
          exact x_zret dX11_termStep_74 rfl rfl
        · replace hf := f_el hB hf
          refine x_iload_n 3 dX11_termStep_56 rfl rfl ?_
          refine x_bipush (v := (20)) dX11_termStep_57 (by decide) ?_
          refine x_icmp_ne 75 dX11_termStep_59 (by decide) (fun hB => ?_) (fun hB => ?_)
          · replace hf := f_el hB hf
            refine x_iload_n 3 dX11_termStep_75 rfl rfl ?_
            refine x_bipush (v := (20)) dX11_termStep_76 (by decide) ?_
            refine x_icmp_eq 97 dX11_termStep_78 (by decide) (fun hB => ?_) (fun hB => ?_)
            · replace hf := f_if hB hf
              refine x_iload 0 dX11_termStep_97 rfl ?_
              refine x_if_eq 117 dX11_termStep_99 (by decide) (fun h => absurd h (by decide)) (fun _ => ?_)
              refine x_aload_n 4 dX11_termStep_102 rfl rfl ?_
              refine x_getI (v := (I 0 22)) dX11_termStep_103 lm_0 fl_X11_284 rfl rfl ?_
              refine x_iconst (v := (3)) dX11_termStep_106 (by decide) ?_
              refine x_icmp_ne 117 dX11_termStep_107 (by decide) (fun hB => ?_) (fun hB => ?_)
              · replace hf := f_el hB hf
                refine x_aload_n 4 dX11_termStep_117 rfl rfl ?_
                refine x_dup dX11_termStep_118 rfl ?_
                refine x_getI (v := (I 0 23)) dX11_termStep_119 lm_0 fl_X11_287 rfl rfl ?_
                refine x_iload_n 3 dX11_termStep_122 rfl rfl ?_
                refine x_bipush (v := (20)) dX11_termStep_123 (by decide) ?_
                refine x_icmp_ne 132 dX11_termStep_125 (by decide) (fun hB => ?_) (fun hB => ?_)
                · replace hf := f_el hB hf
                  refine x_iconst (v := (1)) dX11_termStep_132 (by decide) ?_
                  refine x_iadd dX11_termStep_133 ?_
                  obtain ⟨I319, hI319, hf⟩ := f_lt hf
                  refine x_putI dX11_termStep_134 lm_0 fl_X11_287 rfl rfl rfl hI319 ?_
                  refine x_aload_n 4 dX11_termStep_137 rfl rfl ?_
                  refine x_getR dX11_termStep_138 lm_0 fl_X11_7 rfl ?_
                  refine x_iload_n 1 dX11_termStep_141 rfl rfl ?_
                  refine x_iload_n 3 dX11_termStep_142 rfl rfl ?_
                  obtain ⟨h320, hf⟩ := f_gd hf
                  obtain ⟨I321, hI321, hf⟩ := f_lt hf
                  refine x_iast (j0 := (w4).toNatClampNeg) dX11_termStep_143 lm_1 h320 rfl hI321 ?_
                  refine x_iconst (v := (1)) dX11_termStep_144 (by decide) ?_
                  refine x_istore [(5, .int (1 : Int32)), (4, .int (1 : Int32)), (3, .int w4), (2, .int (I 1 1719)), (1, .int q1), (0, .ref 0)] dX11_termStep_145 (by decide) rfl ?_
                  refine x_lv [(0, .ref 0), (1, .int q1), (2, .int (I 1 1719)), (3, .int w4), (4, .int (1 : Int32)), (5, .int (1 : Int32))] [5, 4, 3, 2, 1, 0] rfl ?_
                  refine l_X11_termStep_147 q1 (I 1 1719) w4 (1 : Int32) (L) _ ?_ _ _ _ hf
                  · intro I hf
                    refine x_aload_n 0 dX11_termStep_170 rfl rfl ?_
                    refine x_getR dX11_termStep_171 lm_0 fl_X11_7 rfl ?_
                    refine x_sipush (v := (1719)) dX11_termStep_174 (by decide) ?_
                    refine x_dup2 dX11_termStep_177 rfl rfl ?_
                    refine x_iald (j := 1719) (v := (I 1 1719)) dX11_termStep_178 lm_1 (by decide +kernel) (by decide +kernel) rfl ?_
                    refine x_iconst (v := (1)) dX11_termStep_179 (by decide) ?_
                    refine x_iadd dX11_termStep_180 ?_
                    obtain ⟨I324, hI324, hf⟩ := f_lt hf
                    refine x_iast (j0 := 1719) dX11_termStep_181 lm_1 (by decide +kernel) (by decide +kernel) hI324 ?_
                    refine x_aload_n 0 dX11_termStep_182 rfl rfl ?_
                    obtain ⟨q325, hq326, hf⟩ := f_bd hf
                    refine x_callVv [] (c_X11_ahead (I := I324) (L := L)  hq326) dX11_termStep_183 lk_X11_175 lm_0 rfl cd_X11_ahead rfl rfl (Nat.le_of_ble_eq_true rfl) ⟨rfl, rfl, Nat.le_of_ble_eq_true rfl, Nat.le_of_ble_eq_true rfl⟩ ?_
                    refine x_aload_n 0 dX11_termStep_186 rfl rfl ?_
                    refine x_iload_n 1 dX11_termStep_187 rfl rfl ?_
                    refine x_iload_n 3 dX11_termStep_188 rfl rfl ?_
                    obtain ⟨q327, hq328, hf⟩ := f_bd hf
                    refine x_callVi [.int q1, .int w4] (c_X11_termOrder (I := q325) (L := L)  hq328) dX11_termStep_189 lk_X11_290 lm_0 rfl cd_X11_termOrder rfl rfl (Nat.le_of_ble_eq_true rfl) ⟨rfl, rfl, Nat.le_of_ble_eq_true rfl, Nat.le_of_ble_eq_true rfl⟩ ?_
                    refine x_if_neB 197 dX11_termStep_192 (by decide) (fun hB => ?_) (fun hB => ?_)
                    · replace hf := f_if hB hf
                      refine x_iload 4 dX11_termStep_197 rfl ?_
                      refine x_if_eq 222 dX11_termStep_199 (by decide) (fun h => absurd h (by decide)) (fun _ => ?_)
                      refine x_aload_n 0 dX11_termStep_202 rfl rfl ?_
                      refine x_getR dX11_termStep_203 lm_0 fl_X11_44 rfl ?_
                      refine x_aload_n 0 dX11_termStep_206 rfl rfl ?_
                      refine x_getI (v := (q327.2 0 22)) dX11_termStep_207 lm_0 fl_X11_284 rfl rfl ?_
                      refine x_iload_n 2 dX11_termStep_210 rfl rfl ?_
                      obtain ⟨h329, hf⟩ := f_gd hf
                      obtain ⟨I330, hI330, hf⟩ := f_lt hf
                      refine x_iast (j0 := ((q327.2 0 22)).toNatClampNeg) dX11_termStep_211 lm_8 h329 rfl hI330 ?_
                      refine x_aload_n 0 dX11_termStep_212 rfl rfl ?_
                      refine x_dup dX11_termStep_213 rfl ?_
                      refine x_getI (v := (q327.2 0 22)) dX11_termStep_214 lm_0 fl_X11_284 rfl (by rw [hI330, z2_o (by decide)]) ?_
                      refine x_iconst (v := (1)) dX11_termStep_217 (by decide) ?_
                      refine x_iadd dX11_termStep_218 ?_
                      obtain ⟨I331, hI331, hf⟩ := f_lt hf
                      refine x_putI dX11_termStep_219 lm_0 fl_X11_284 rfl rfl rfl hI331 ?_
                      refine x_iload_n 1 dX11_termStep_222 rfl rfl ?_
                      refine x_bipush (v := (20)) dX11_termStep_223 (by decide) ?_
                      refine x_icmp_ne 279 dX11_termStep_225 (by decide) (fun hB => ?_) (fun hB => ?_)
                      · replace hf := f_el hB hf
                        refine x_aload_n 0 dX11_termStep_279 rfl rfl ?_
                        refine x_bipush (v := (59)) dX11_termStep_280 (by decide) ?_
                        obtain ⟨q341, hq342, hf⟩ := f_bd hf
                        refine x_callVi [.int (59 : Int32)] (c_X11_wantSign (I := I331) (L := L)  hq342) dX11_termStep_282 lk_X11_260 lm_0 rfl cd_X11_wantSign rfl rfl (Nat.le_of_ble_eq_true rfl) ⟨rfl, rfl, Nat.le_of_ble_eq_true rfl, Nat.le_of_ble_eq_true rfl⟩ ?_
                        cases hf
                        exact x_zret dX11_termStep_285 rfl rfl
                      · replace hf := f_if hB hf
                        refine x_aload_n 0 dX11_termStep_228 rfl rfl ?_
                        refine x_dup dX11_termStep_229 rfl ?_
                        refine x_getI (v := ((q327.2 0 22) + (1 : Int32))) dX11_termStep_230 lm_0 fl_X11_284 rfl (by rw [hI331, z2_s, z1_s]) ?_
                        refine x_iconst (v := (1)) dX11_termStep_233 (by decide) ?_
                        refine x_isub dX11_termStep_234 ?_
                        obtain ⟨I332, hI332, hf⟩ := f_lt hf
                        refine x_putI dX11_termStep_235 lm_0 fl_X11_284 rfl rfl rfl hI332 ?_
                        refine x_aload_n 0 dX11_termStep_238 rfl rfl ?_
                        refine x_getR dX11_termStep_239 lm_0 fl_X11_7 rfl ?_
                        refine x_iload_n 3 dX11_termStep_242 rfl rfl ?_
                        refine x_iconst (v := (4)) dX11_termStep_243 (by decide) ?_
                        refine x_iadd dX11_termStep_244 ?_
                        refine x_aload_n 0 dX11_termStep_245 rfl rfl ?_
                        refine x_getR dX11_termStep_246 lm_0 fl_X11_44 rfl ?_
                        refine x_aload_n 0 dX11_termStep_249 rfl rfl ?_
                        refine x_getI (v := (((q327.2 0 22) + (1 : Int32)) - (1 : Int32))) dX11_termStep_250 lm_0 fl_X11_284 rfl (by rw [hI332, z2_s, z1_s]) ?_
                        obtain ⟨h333, hf⟩ := f_gd hf
                        refine x_iald (j := ((((q327.2 0 22) + (1 : Int32)) - (1 : Int32))).toNatClampNeg) (v := (I330 8 ((((q327.2 0 22) + (1 : Int32)) - (1 : Int32))).toNatClampNeg)) dX11_termStep_253 lm_8 h333 rfl (by rw [hI332, z2_o (by decide), hI331, z2_o (by decide)]) ?_
                        obtain ⟨h334, hf⟩ := f_gd hf
                        obtain ⟨I335, hI335, hf⟩ := f_lt hf
                        refine x_iast (j0 := ((w4 + (4 : Int32))).toNatClampNeg) dX11_termStep_254 lm_1 h334 rfl hI335 ?_
                        refine x_aload_n 0 dX11_termStep_255 rfl rfl ?_
                        refine x_getR dX11_termStep_256 lm_0 fl_X11_7 rfl ?_
                        refine x_sipush (v := (1772)) dX11_termStep_259 (by decide) ?_
                        refine x_bipush (v := (6)) dX11_termStep_262 (by decide) ?_
                        refine x_aload_n 0 dX11_termStep_264 rfl rfl ?_
                        refine x_getR dX11_termStep_265 lm_0 fl_X11_44 rfl ?_
                        refine x_aload_n 0 dX11_termStep_268 rfl rfl ?_
                        refine x_getI (v := (((q327.2 0 22) + (1 : Int32)) - (1 : Int32))) dX11_termStep_269 lm_0 fl_X11_284 rfl (by rw [hI335, z2_o (by decide), hI332, z2_s, z1_s]) ?_
                        refine x_iald (j := ((((q327.2 0 22) + (1 : Int32)) - (1 : Int32))).toNatClampNeg) (v := (I330 8 ((((q327.2 0 22) + (1 : Int32)) - (1 : Int32))).toNatClampNeg)) dX11_termStep_272 lm_8 h333 rfl (by rw [hI335, z2_o (by decide), hI332, z2_o (by decide), hI331, z2_o (by decide)]) ?_
                        refine x_imul dX11_termStep_273 ?_
                        refine x_iadd dX11_termStep_274 ?_
                        refine x_iconst (v := (4)) dX11_termStep_275 (by decide) ?_
                        refine x_iadd dX11_termStep_276 ?_
                        refine x_iload_n 2 dX11_termStep_277 rfl rfl ?_
                        obtain ⟨h337, hf⟩ := f_gd hf
                        obtain ⟨I338, hI338, hf⟩ := f_lt hf
                        refine x_iast (j0 := ((((1772 : Int32) + ((6 : Int32) * (I330 8 ((((q327.2 0 22) + (1 : Int32)) - (1 : Int32))).toNatClampNeg))) + (4 : Int32))).toNatClampNeg) dX11_termStep_278 lm_1 h337 rfl hI338 ?_
                        refine x_aload_n 0 dX11_termStep_279 rfl rfl ?_
                        refine x_bipush (v := (59)) dX11_termStep_280 (by decide) ?_
                        obtain ⟨q339, hq340, hf⟩ := f_bd hf
                        refine x_callVi [.int (59 : Int32)] (c_X11_wantSign (I := I338) (L := L)  hq340) dX11_termStep_282 lk_X11_260 lm_0 rfl cd_X11_wantSign rfl rfl (Nat.le_of_ble_eq_true rfl) ⟨rfl, rfl, Nat.le_of_ble_eq_true rfl, Nat.le_of_ble_eq_true rfl⟩ ?_
                        cases hf
                        exact x_zret dX11_termStep_285 rfl rfl
                    · replace hf := f_el hB hf
                      refine x_iconst (v := (0)) dX11_termStep_195 (by decide) ?_
                      cases hf
                      exact x_zret (b := false) dX11_termStep_196 rfl rfl
                · replace hf := f_if hB hf
                  refine x_iconst (v := (0)) dX11_termStep_128 (by decide) ?_
                  refine x_goto 133 dX11_termStep_129 (by decide) ?_
                  refine x_iadd dX11_termStep_133 ?_
                  obtain ⟨I295, hI295, hf⟩ := f_lt hf
                  refine x_putI dX11_termStep_134 lm_0 fl_X11_287 rfl rfl rfl hI295 ?_
                  refine x_aload_n 4 dX11_termStep_137 rfl rfl ?_
                  refine x_getR dX11_termStep_138 lm_0 fl_X11_7 rfl ?_
                  refine x_iload_n 1 dX11_termStep_141 rfl rfl ?_
                  refine x_iload_n 3 dX11_termStep_142 rfl rfl ?_
                  obtain ⟨h296, hf⟩ := f_gd hf
                  obtain ⟨I297, hI297, hf⟩ := f_lt hf
                  refine x_iast (j0 := (w4).toNatClampNeg) dX11_termStep_143 lm_1 h296 rfl hI297 ?_
                  refine x_iconst (v := (1)) dX11_termStep_144 (by decide) ?_
                  refine x_istore [(5, .int (1 : Int32)), (4, .int (1 : Int32)), (3, .int w4), (2, .int (I 1 1719)), (1, .int q1), (0, .ref 0)] dX11_termStep_145 (by decide) rfl ?_
                  refine x_lv [(0, .ref 0), (1, .int q1), (2, .int (I 1 1719)), (3, .int w4), (4, .int (1 : Int32)), (5, .int (1 : Int32))] [5, 4, 3, 2, 1, 0] rfl ?_
                  refine l_X11_termStep_147 q1 (I 1 1719) w4 (1 : Int32) (L) _ ?_ _ _ _ hf
                  · intro I hf
                    refine x_aload_n 0 dX11_termStep_170 rfl rfl ?_
                    refine x_getR dX11_termStep_171 lm_0 fl_X11_7 rfl ?_
                    refine x_sipush (v := (1719)) dX11_termStep_174 (by decide) ?_
                    refine x_dup2 dX11_termStep_177 rfl rfl ?_
                    refine x_iald (j := 1719) (v := (I 1 1719)) dX11_termStep_178 lm_1 (by decide +kernel) (by decide +kernel) rfl ?_
                    refine x_iconst (v := (1)) dX11_termStep_179 (by decide) ?_
                    refine x_iadd dX11_termStep_180 ?_
                    obtain ⟨I300, hI300, hf⟩ := f_lt hf
                    refine x_iast (j0 := 1719) dX11_termStep_181 lm_1 (by decide +kernel) (by decide +kernel) hI300 ?_
                    refine x_aload_n 0 dX11_termStep_182 rfl rfl ?_
                    obtain ⟨q301, hq302, hf⟩ := f_bd hf
                    refine x_callVv [] (c_X11_ahead (I := I300) (L := L)  hq302) dX11_termStep_183 lk_X11_175 lm_0 rfl cd_X11_ahead rfl rfl (Nat.le_of_ble_eq_true rfl) ⟨rfl, rfl, Nat.le_of_ble_eq_true rfl, Nat.le_of_ble_eq_true rfl⟩ ?_
                    refine x_aload_n 0 dX11_termStep_186 rfl rfl ?_
                    refine x_iload_n 1 dX11_termStep_187 rfl rfl ?_
                    refine x_iload_n 3 dX11_termStep_188 rfl rfl ?_
                    obtain ⟨q303, hq304, hf⟩ := f_bd hf
                    refine x_callVi [.int q1, .int w4] (c_X11_termOrder (I := q301) (L := L)  hq304) dX11_termStep_189 lk_X11_290 lm_0 rfl cd_X11_termOrder rfl rfl (Nat.le_of_ble_eq_true rfl) ⟨rfl, rfl, Nat.le_of_ble_eq_true rfl, Nat.le_of_ble_eq_true rfl⟩ ?_
                    refine x_if_neB 197 dX11_termStep_192 (by decide) (fun hB => ?_) (fun hB => ?_)
                    · replace hf := f_if hB hf
                      refine x_iload 4 dX11_termStep_197 rfl ?_
                      refine x_if_eq 222 dX11_termStep_199 (by decide) (fun h => absurd h (by decide)) (fun _ => ?_)
                      refine x_aload_n 0 dX11_termStep_202 rfl rfl ?_
                      refine x_getR dX11_termStep_203 lm_0 fl_X11_44 rfl ?_
                      refine x_aload_n 0 dX11_termStep_206 rfl rfl ?_
                      refine x_getI (v := (q303.2 0 22)) dX11_termStep_207 lm_0 fl_X11_284 rfl rfl ?_
                      refine x_iload_n 2 dX11_termStep_210 rfl rfl ?_
                      obtain ⟨h305, hf⟩ := f_gd hf
                      obtain ⟨I306, hI306, hf⟩ := f_lt hf
                      refine x_iast (j0 := ((q303.2 0 22)).toNatClampNeg) dX11_termStep_211 lm_8 h305 rfl hI306 ?_
                      refine x_aload_n 0 dX11_termStep_212 rfl rfl ?_
                      refine x_dup dX11_termStep_213 rfl ?_
                      refine x_getI (v := (q303.2 0 22)) dX11_termStep_214 lm_0 fl_X11_284 rfl (by rw [hI306, z2_o (by decide)]) ?_
                      refine x_iconst (v := (1)) dX11_termStep_217 (by decide) ?_
                      refine x_iadd dX11_termStep_218 ?_
                      obtain ⟨I307, hI307, hf⟩ := f_lt hf
                      refine x_putI dX11_termStep_219 lm_0 fl_X11_284 rfl rfl rfl hI307 ?_
                      refine x_iload_n 1 dX11_termStep_222 rfl rfl ?_
                      refine x_bipush (v := (20)) dX11_termStep_223 (by decide) ?_
                      refine x_icmp_ne 279 dX11_termStep_225 (by decide) (fun hB => ?_) (fun hB => ?_)
                      · replace hf := f_el hB hf
                        refine x_aload_n 0 dX11_termStep_279 rfl rfl ?_
                        refine x_bipush (v := (59)) dX11_termStep_280 (by decide) ?_
                        obtain ⟨q317, hq318, hf⟩ := f_bd hf
                        refine x_callVi [.int (59 : Int32)] (c_X11_wantSign (I := I307) (L := L)  hq318) dX11_termStep_282 lk_X11_260 lm_0 rfl cd_X11_wantSign rfl rfl (Nat.le_of_ble_eq_true rfl) ⟨rfl, rfl, Nat.le_of_ble_eq_true rfl, Nat.le_of_ble_eq_true rfl⟩ ?_
                        cases hf
                        exact x_zret dX11_termStep_285 rfl rfl
                      · replace hf := f_if hB hf
                        refine x_aload_n 0 dX11_termStep_228 rfl rfl ?_
                        refine x_dup dX11_termStep_229 rfl ?_
                        refine x_getI (v := ((q303.2 0 22) + (1 : Int32))) dX11_termStep_230 lm_0 fl_X11_284 rfl (by rw [hI307, z2_s, z1_s]) ?_
                        refine x_iconst (v := (1)) dX11_termStep_233 (by decide) ?_
                        refine x_isub dX11_termStep_234 ?_
                        obtain ⟨I308, hI308, hf⟩ := f_lt hf
                        refine x_putI dX11_termStep_235 lm_0 fl_X11_284 rfl rfl rfl hI308 ?_
                        refine x_aload_n 0 dX11_termStep_238 rfl rfl ?_
                        refine x_getR dX11_termStep_239 lm_0 fl_X11_7 rfl ?_
                        refine x_iload_n 3 dX11_termStep_242 rfl rfl ?_
                        refine x_iconst (v := (4)) dX11_termStep_243 (by decide) ?_
                        refine x_iadd dX11_termStep_244 ?_
                        refine x_aload_n 0 dX11_termStep_245 rfl rfl ?_
                        refine x_getR dX11_termStep_246 lm_0 fl_X11_44 rfl ?_
                        refine x_aload_n 0 dX11_termStep_249 rfl rfl ?_
                        refine x_getI (v := (((q303.2 0 22) + (1 : Int32)) - (1 : Int32))) dX11_termStep_250 lm_0 fl_X11_284 rfl (by rw [hI308, z2_s, z1_s]) ?_
                        obtain ⟨h309, hf⟩ := f_gd hf
                        refine x_iald (j := ((((q303.2 0 22) + (1 : Int32)) - (1 : Int32))).toNatClampNeg) (v := (I306 8 ((((q303.2 0 22) + (1 : Int32)) - (1 : Int32))).toNatClampNeg)) dX11_termStep_253 lm_8 h309 rfl (by rw [hI308, z2_o (by decide), hI307, z2_o (by decide)]) ?_
                        obtain ⟨h310, hf⟩ := f_gd hf
                        obtain ⟨I311, hI311, hf⟩ := f_lt hf
                        refine x_iast (j0 := ((w4 + (4 : Int32))).toNatClampNeg) dX11_termStep_254 lm_1 h310 rfl hI311 ?_
                        refine x_aload_n 0 dX11_termStep_255 rfl rfl ?_
                        refine x_getR dX11_termStep_256 lm_0 fl_X11_7 rfl ?_
                        refine x_sipush (v := (1772)) dX11_termStep_259 (by decide) ?_
                        refine x_bipush (v := (6)) dX11_termStep_262 (by decide) ?_
                        refine x_aload_n 0 dX11_termStep_264 rfl rfl ?_
                        refine x_getR dX11_termStep_265 lm_0 fl_X11_44 rfl ?_
                        refine x_aload_n 0 dX11_termStep_268 rfl rfl ?_
                        refine x_getI (v := (((q303.2 0 22) + (1 : Int32)) - (1 : Int32))) dX11_termStep_269 lm_0 fl_X11_284 rfl (by rw [hI311, z2_o (by decide), hI308, z2_s, z1_s]) ?_
                        refine x_iald (j := ((((q303.2 0 22) + (1 : Int32)) - (1 : Int32))).toNatClampNeg) (v := (I306 8 ((((q303.2 0 22) + (1 : Int32)) - (1 : Int32))).toNatClampNeg)) dX11_termStep_272 lm_8 h309 rfl (by rw [hI311, z2_o (by decide), hI308, z2_o (by decide), hI307, z2_o (by decide)]) ?_
                        refine x_imul dX11_termStep_273 ?_
                        refine x_iadd dX11_termStep_274 ?_
                        refine x_iconst (v := (4)) dX11_termStep_275 (by decide) ?_
                        refine x_iadd dX11_termStep_276 ?_
                        refine x_iload_n 2 dX11_termStep_277 rfl rfl ?_
                        obtain ⟨h313, hf⟩ := f_gd hf
                        obtain ⟨I314, hI314, hf⟩ := f_lt hf
                        refine x_iast (j0 := ((((1772 : Int32) + ((6 : Int32) * (I306 8 ((((q303.2 0 22) + (1 : Int32)) - (1 : Int32))).toNatClampNeg))) + (4 : Int32))).toNatClampNeg) dX11_termStep_278 lm_1 h313 rfl hI314 ?_
                        refine x_aload_n 0 dX11_termStep_279 rfl rfl ?_
                        refine x_bipush (v := (59)) dX11_termStep_280 (by decide) ?_
                        obtain ⟨q315, hq316, hf⟩ := f_bd hf
                        refine x_callVi [.int (59 : Int32)] (c_X11_wantSign (I := I314) (L := L)  hq316) dX11_termStep_282 lk_X11_260 lm_0 rfl cd_X11_wantSign rfl rfl (Nat.le_of_ble_eq_true rfl) ⟨rfl, rfl, Nat.le_of_ble_eq_true rfl, Nat.le_of_ble_eq_true rfl⟩ ?_
                        cases hf
                        exact x_zret dX11_termStep_285 rfl rfl
                    · replace hf := f_el hB hf
                      refine x_iconst (v := (0)) dX11_termStep_195 (by decide) ?_
                      cases hf
                      exact x_zret (b := false) dX11_termStep_196 rfl rfl
              · replace hf := f_if hB hf
                refine x_aload_n 4 dX11_termStep_110 rfl rfl ?_
                refine x_bipush (v := (7)) dX11_termStep_111 (by decide) ?_
                refine x_callVi [.int (7 : Int32)] (c_X11_fails (I := I) (L := L) (7 : Int32)) dX11_termStep_113 lk_X11_181 lm_0 rfl cd_X11_fails rfl rfl (Nat.le_of_ble_eq_true rfl) ⟨rfl, rfl, Nat.le_of_ble_eq_true rfl, Nat.le_of_ble_eq_true rfl⟩ ?_
                cases hf
                exact x_zret dX11_termStep_116 rfl rfl
            · replace hf := f_el hB hf
              refine x_aload_n 4 dX11_termStep_81 rfl rfl ?_
              refine x_getI (v := (I 0 23)) dX11_termStep_82 lm_0 fl_X11_287 rfl rfl ?_
              refine x_bipush (v := (30)) dX11_termStep_85 (by decide) ?_
              refine x_icmp_ne 97 dX11_termStep_87 (by decide) (fun hB => ?_) (fun hB => ?_)
              · replace hf := f_el hB hf
                refine x_iload 0 dX11_termStep_97 rfl ?_
                refine x_if_eq 117 dX11_termStep_99 (by decide) (fun h => absurd h (by decide)) (fun _ => ?_)
                refine x_aload_n 4 dX11_termStep_102 rfl rfl ?_
                refine x_getI (v := (I 0 22)) dX11_termStep_103 lm_0 fl_X11_284 rfl rfl ?_
                refine x_iconst (v := (3)) dX11_termStep_106 (by decide) ?_
                refine x_icmp_ne 117 dX11_termStep_107 (by decide) (fun hB => ?_) (fun hB => ?_)
                · replace hf := f_el hB hf
                  refine x_aload_n 4 dX11_termStep_117 rfl rfl ?_
                  refine x_dup dX11_termStep_118 rfl ?_
                  refine x_getI (v := (I 0 23)) dX11_termStep_119 lm_0 fl_X11_287 rfl rfl ?_
                  refine x_iload_n 3 dX11_termStep_122 rfl rfl ?_
                  refine x_bipush (v := (20)) dX11_termStep_123 (by decide) ?_
                  refine x_icmp_ne 132 dX11_termStep_125 (by decide) (fun hB => ?_) (fun hB => ?_)
                  · replace hf := f_el hB hf
                    refine x_iconst (v := (1)) dX11_termStep_132 (by decide) ?_
                    refine x_iadd dX11_termStep_133 ?_
                    obtain ⟨I367, hI367, hf⟩ := f_lt hf
                    refine x_putI dX11_termStep_134 lm_0 fl_X11_287 rfl rfl rfl hI367 ?_
                    refine x_aload_n 4 dX11_termStep_137 rfl rfl ?_
                    refine x_getR dX11_termStep_138 lm_0 fl_X11_7 rfl ?_
                    refine x_iload_n 1 dX11_termStep_141 rfl rfl ?_
                    refine x_iload_n 3 dX11_termStep_142 rfl rfl ?_
                    obtain ⟨h368, hf⟩ := f_gd hf
                    obtain ⟨I369, hI369, hf⟩ := f_lt hf
                    refine x_iast (j0 := (w4).toNatClampNeg) dX11_termStep_143 lm_1 h368 rfl hI369 ?_
                    refine x_iconst (v := (1)) dX11_termStep_144 (by decide) ?_
                    refine x_istore [(5, .int (1 : Int32)), (4, .int (1 : Int32)), (3, .int w4), (2, .int (I 1 1719)), (1, .int q1), (0, .ref 0)] dX11_termStep_145 (by decide) rfl ?_
                    refine x_lv [(0, .ref 0), (1, .int q1), (2, .int (I 1 1719)), (3, .int w4), (4, .int (1 : Int32)), (5, .int (1 : Int32))] [5, 4, 3, 2, 1, 0] rfl ?_
                    refine l_X11_termStep_147 q1 (I 1 1719) w4 (1 : Int32) (L) _ ?_ _ _ _ hf
                    · intro I hf
                      refine x_aload_n 0 dX11_termStep_170 rfl rfl ?_
                      refine x_getR dX11_termStep_171 lm_0 fl_X11_7 rfl ?_
                      refine x_sipush (v := (1719)) dX11_termStep_174 (by decide) ?_
                      refine x_dup2 dX11_termStep_177 rfl rfl ?_
                      refine x_iald (j := 1719) (v := (I 1 1719)) dX11_termStep_178 lm_1 (by decide +kernel) (by decide +kernel) rfl ?_
                      refine x_iconst (v := (1)) dX11_termStep_179 (by decide) ?_
                      refine x_iadd dX11_termStep_180 ?_
                      obtain ⟨I372, hI372, hf⟩ := f_lt hf
                      refine x_iast (j0 := 1719) dX11_termStep_181 lm_1 (by decide +kernel) (by decide +kernel) hI372 ?_
                      refine x_aload_n 0 dX11_termStep_182 rfl rfl ?_
                      obtain ⟨q373, hq374, hf⟩ := f_bd hf
                      refine x_callVv [] (c_X11_ahead (I := I372) (L := L)  hq374) dX11_termStep_183 lk_X11_175 lm_0 rfl cd_X11_ahead rfl rfl (Nat.le_of_ble_eq_true rfl) ⟨rfl, rfl, Nat.le_of_ble_eq_true rfl, Nat.le_of_ble_eq_true rfl⟩ ?_
                      refine x_aload_n 0 dX11_termStep_186 rfl rfl ?_
                      refine x_iload_n 1 dX11_termStep_187 rfl rfl ?_
                      refine x_iload_n 3 dX11_termStep_188 rfl rfl ?_
                      obtain ⟨q375, hq376, hf⟩ := f_bd hf
                      refine x_callVi [.int q1, .int w4] (c_X11_termOrder (I := q373) (L := L)  hq376) dX11_termStep_189 lk_X11_290 lm_0 rfl cd_X11_termOrder rfl rfl (Nat.le_of_ble_eq_true rfl) ⟨rfl, rfl, Nat.le_of_ble_eq_true rfl, Nat.le_of_ble_eq_true rfl⟩ ?_
                      refine x_if_neB 197 dX11_termStep_192 (by decide) (fun hB => ?_) (fun hB => ?_)
                      · replace hf := f_if hB hf
                        refine x_iload 4 dX11_termStep_197 rfl ?_
                        refine x_if_eq 222 dX11_termStep_199 (by decide) (fun h => absurd h (by decide)) (fun _ => ?_)
                        refine x_aload_n 0 dX11_termStep_202 rfl rfl ?_
                        refine x_getR dX11_termStep_203 lm_0 fl_X11_44 rfl ?_
                        refine x_aload_n 0 dX11_termStep_206 rfl rfl ?_
                        refine x_getI (v := (q375.2 0 22)) dX11_termStep_207 lm_0 fl_X11_284 rfl rfl ?_
                        refine x_iload_n 2 dX11_termStep_210 rfl rfl ?_
                        obtain ⟨h377, hf⟩ := f_gd hf
                        obtain ⟨I378, hI378, hf⟩ := f_lt hf
                        refine x_iast (j0 := ((q375.2 0 22)).toNatClampNeg) dX11_termStep_211 lm_8 h377 rfl hI378 ?_
                        refine x_aload_n 0 dX11_termStep_212 rfl rfl ?_
                        refine x_dup dX11_termStep_213 rfl ?_
                        refine x_getI (v := (q375.2 0 22)) dX11_termStep_214 lm_0 fl_X11_284 rfl (by rw [hI378, z2_o (by decide)]) ?_
                        refine x_iconst (v := (1)) dX11_termStep_217 (by decide) ?_
                        refine x_iadd dX11_termStep_218 ?_
                        obtain ⟨I379, hI379, hf⟩ := f_lt hf
                        refine x_putI dX11_termStep_219 lm_0 fl_X11_284 rfl rfl rfl hI379 ?_
                        refine x_iload_n 1 dX11_termStep_222 rfl rfl ?_
                        refine x_bipush (v := (20)) dX11_termStep_223 (by decide) ?_
                        refine x_icmp_ne 279 dX11_termStep_225 (by decide) (fun hB => ?_) (fun hB => ?_)
                        · replace hf := f_el hB hf
                          refine x_aload_n 0 dX11_termStep_279 rfl rfl ?_
                          refine x_bipush (v := (59)) dX11_termStep_280 (by decide) ?_
                          obtain ⟨q389, hq390, hf⟩ := f_bd hf
                          refine x_callVi [.int (59 : Int32)] (c_X11_wantSign (I := I379) (L := L)  hq390) dX11_termStep_282 lk_X11_260 lm_0 rfl cd_X11_wantSign rfl rfl (Nat.le_of_ble_eq_true rfl) ⟨rfl, rfl, Nat.le_of_ble_eq_true rfl, Nat.le_of_ble_eq_true rfl⟩ ?_
                          cases hf
                          exact x_zret dX11_termStep_285 rfl rfl
                        · replace hf := f_if hB hf
                          refine x_aload_n 0 dX11_termStep_228 rfl rfl ?_
                          refine x_dup dX11_termStep_229 rfl ?_
                          refine x_getI (v := ((q375.2 0 22) + (1 : Int32))) dX11_termStep_230 lm_0 fl_X11_284 rfl (by rw [hI379, z2_s, z1_s]) ?_
                          refine x_iconst (v := (1)) dX11_termStep_233 (by decide) ?_
                          refine x_isub dX11_termStep_234 ?_
                          obtain ⟨I380, hI380, hf⟩ := f_lt hf
                          refine x_putI dX11_termStep_235 lm_0 fl_X11_284 rfl rfl rfl hI380 ?_
                          refine x_aload_n 0 dX11_termStep_238 rfl rfl ?_
                          refine x_getR dX11_termStep_239 lm_0 fl_X11_7 rfl ?_
                          refine x_iload_n 3 dX11_termStep_242 rfl rfl ?_
                          refine x_iconst (v := (4)) dX11_termStep_243 (by decide) ?_
                          refine x_iadd dX11_termStep_244 ?_
                          refine x_aload_n 0 dX11_termStep_245 rfl rfl ?_
                          refine x_getR dX11_termStep_246 lm_0 fl_X11_44 rfl ?_
                          refine x_aload_n 0 dX11_termStep_249 rfl rfl ?_
                          refine x_getI (v := (((q375.2 0 22) + (1 : Int32)) - (1 : Int32))) dX11_termStep_250 lm_0 fl_X11_284 rfl (by rw [hI380, z2_s, z1_s]) ?_
                          obtain ⟨h381, hf⟩ := f_gd hf
                          refine x_iald (j := ((((q375.2 0 22) + (1 : Int32)) - (1 : Int32))).toNatClampNeg) (v := (I378 8 ((((q375.2 0 22) + (1 : Int32)) - (1 : Int32))).toNatClampNeg)) dX11_termStep_253 lm_8 h381 rfl (by rw [hI380, z2_o (by decide), hI379, z2_o (by decide)]) ?_
                          obtain ⟨h382, hf⟩ := f_gd hf
                          obtain ⟨I383, hI383, hf⟩ := f_lt hf
                          refine x_iast (j0 := ((w4 + (4 : Int32))).toNatClampNeg) dX11_termStep_254 lm_1 h382 rfl hI383 ?_
                          refine x_aload_n 0 dX11_termStep_255 rfl rfl ?_
                          refine x_getR dX11_termStep_256 lm_0 fl_X11_7 rfl ?_
                          refine x_sipush (v := (1772)) dX11_termStep_259 (by decide) ?_
                          refine x_bipush (v := (6)) dX11_termStep_262 (by decide) ?_
                          refine x_aload_n 0 dX11_termStep_264 rfl rfl ?_
                          refine x_getR dX11_termStep_265 lm_0 fl_X11_44 rfl ?_
                          refine x_aload_n 0 dX11_termStep_268 rfl rfl ?_
                          refine x_getI (v := (((q375.2 0 22) + (1 : Int32)) - (1 : Int32))) dX11_termStep_269 lm_0 fl_X11_284 rfl (by rw [hI383, z2_o (by decide), hI380, z2_s, z1_s]) ?_
                          refine x_iald (j := ((((q375.2 0 22) + (1 : Int32)) - (1 : Int32))).toNatClampNeg) (v := (I378 8 ((((q375.2 0 22) + (1 : Int32)) - (1 : Int32))).toNatClampNeg)) dX11_termStep_272 lm_8 h381 rfl (by rw [hI383, z2_o (by decide), hI380, z2_o (by decide), hI379, z2_o (by decide)]) ?_
                          refine x_imul dX11_termStep_273 ?_
                          refine x_iadd dX11_termStep_274 ?_
                          refine x_iconst (v := (4)) dX11_termStep_275 (by decide) ?_
                          refine x_iadd dX11_termStep_276 ?_
                          refine x_iload_n 2 dX11_termStep_277 rfl rfl ?_
                          obtain ⟨h385, hf⟩ := f_gd hf
                          obtain ⟨I386, hI386, hf⟩ := f_lt hf
                          refine x_iast (j0 := ((((1772 : Int32) + ((6 : Int32) * (I378 8 ((((q375.2 0 22) + (1 : Int32)) - (1 : Int32))).toNatClampNeg))) + (4 : Int32))).toNatClampNeg) dX11_termStep_278 lm_1 h385 rfl hI386 ?_
                          refine x_aload_n 0 dX11_termStep_279 rfl rfl ?_
                          refine x_bipush (v := (59)) dX11_termStep_280 (by decide) ?_
                          obtain ⟨q387, hq388, hf⟩ := f_bd hf
                          refine x_callVi [.int (59 : Int32)] (c_X11_wantSign (I := I386) (L := L)  hq388) dX11_termStep_282 lk_X11_260 lm_0 rfl cd_X11_wantSign rfl rfl (Nat.le_of_ble_eq_true rfl) ⟨rfl, rfl, Nat.le_of_ble_eq_true rfl, Nat.le_of_ble_eq_true rfl⟩ ?_
                          cases hf
                          exact x_zret dX11_termStep_285 rfl rfl
                      · replace hf := f_el hB hf
                        refine x_iconst (v := (0)) dX11_termStep_195 (by decide) ?_
                        cases hf
                        exact x_zret (b := false) dX11_termStep_196 rfl rfl
                  · replace hf := f_if hB hf
                    refine x_iconst (v := (0)) dX11_termStep_128 (by decide) ?_
                    refine x_goto 133 dX11_termStep_129 (by decide) ?_
                    refine x_iadd dX11_termStep_133 ?_
                    obtain ⟨I343, hI343, hf⟩ := f_lt hf
                    refine x_putI dX11_termStep_134 lm_0 fl_X11_287 rfl rfl rfl hI343 ?_
                    refine x_aload_n 4 dX11_termStep_137 rfl rfl ?_
                    refine x_getR dX11_termStep_138 lm_0 fl_X11_7 rfl ?_
                    refine x_iload_n 1 dX11_termStep_141 rfl rfl ?_
                    refine x_iload_n 3 dX11_termStep_142 rfl rfl ?_
                    obtain ⟨h344, hf⟩ := f_gd hf
                    obtain ⟨I345, hI345, hf⟩ := f_lt hf
                    refine x_iast (j0 := (w4).toNatClampNeg) dX11_termStep_143 lm_1 h344 rfl hI345 ?_
                    refine x_iconst (v := (1)) dX11_termStep_144 (by decide) ?_
                    refine x_istore [(5, .int (1 : Int32)), (4, .int (1 : Int32)), (3, .int w4), (2, .int (I 1 1719)), (1, .int q1), (0, .ref 0)] dX11_termStep_145 (by decide) rfl ?_
                    refine x_lv [(0, .ref 0), (1, .int q1), (2, .int (I 1 1719)), (3, .int w4), (4, .int (1 : Int32)), (5, .int (1 : Int32))] [5, 4, 3, 2, 1, 0] rfl ?_
                    refine l_X11_termStep_147 q1 (I 1 1719) w4 (1 : Int32) (L) _ ?_ _ _ _ hf
                    · intro I hf
                      refine x_aload_n 0 dX11_termStep_170 rfl rfl ?_
                      refine x_getR dX11_termStep_171 lm_0 fl_X11_7 rfl ?_
                      refine x_sipush (v := (1719)) dX11_termStep_174 (by decide) ?_
                      refine x_dup2 dX11_termStep_177 rfl rfl ?_
                      refine x_iald (j := 1719) (v := (I 1 1719)) dX11_termStep_178 lm_1 (by decide +kernel) (by decide +kernel) rfl ?_
                      refine x_iconst (v := (1)) dX11_termStep_179 (by decide) ?_
                      refine x_iadd dX11_termStep_180 ?_
                      obtain ⟨I348, hI348, hf⟩ := f_lt hf
                      refine x_iast (j0 := 1719) dX11_termStep_181 lm_1 (by decide +kernel) (by decide +kernel) hI348 ?_
                      refine x_aload_n 0 dX11_termStep_182 rfl rfl ?_
                      obtain ⟨q349, hq350, hf⟩ := f_bd hf
                      refine x_callVv [] (c_X11_ahead (I := I348) (L := L)  hq350) dX11_termStep_183 lk_X11_175 lm_0 rfl cd_X11_ahead rfl rfl (Nat.le_of_ble_eq_true rfl) ⟨rfl, rfl, Nat.le_of_ble_eq_true rfl, Nat.le_of_ble_eq_true rfl⟩ ?_
                      refine x_aload_n 0 dX11_termStep_186 rfl rfl ?_
                      refine x_iload_n 1 dX11_termStep_187 rfl rfl ?_
                      refine x_iload_n 3 dX11_termStep_188 rfl rfl ?_
                      obtain ⟨q351, hq352, hf⟩ := f_bd hf
                      refine x_callVi [.int q1, .int w4] (c_X11_termOrder (I := q349) (L := L)  hq352) dX11_termStep_189 lk_X11_290 lm_0 rfl cd_X11_termOrder rfl rfl (Nat.le_of_ble_eq_true rfl) ⟨rfl, rfl, Nat.le_of_ble_eq_true rfl, Nat.le_of_ble_eq_true rfl⟩ ?_
                      refine x_if_neB 197 dX11_termStep_192 (by decide) (fun hB => ?_) (fun hB => ?_)
                      · replace hf := f_if hB hf
                        refine x_iload 4 dX11_termStep_197 rfl ?_
                        refine x_if_eq 222 dX11_termStep_199 (by decide) (fun h => absurd h (by decide)) (fun _ => ?_)
                        refine x_aload_n 0 dX11_termStep_202 rfl rfl ?_
                        refine x_getR dX11_termStep_203 lm_0 fl_X11_44 rfl ?_
                        refine x_aload_n 0 dX11_termStep_206 rfl rfl ?_
                        refine x_getI (v := (q351.2 0 22)) dX11_termStep_207 lm_0 fl_X11_284 rfl rfl ?_
                        refine x_iload_n 2 dX11_termStep_210 rfl rfl ?_
                        obtain ⟨h353, hf⟩ := f_gd hf
                        obtain ⟨I354, hI354, hf⟩ := f_lt hf
                        refine x_iast (j0 := ((q351.2 0 22)).toNatClampNeg) dX11_termStep_211 lm_8 h353 rfl hI354 ?_
                        refine x_aload_n 0 dX11_termStep_212 rfl rfl ?_
                        refine x_dup dX11_termStep_213 rfl ?_
                        refine x_getI (v := (q351.2 0 22)) dX11_termStep_214 lm_0 fl_X11_284 rfl (by rw [hI354, z2_o (by decide)]) ?_
                        refine x_iconst (v := (1)) dX11_termStep_217 (by decide) ?_
                        refine x_iadd dX11_termStep_218 ?_
                        obtain ⟨I355, hI355, hf⟩ := f_lt hf
                        refine x_putI dX11_termStep_219 lm_0 fl_X11_284 rfl rfl rfl hI355 ?_
                        refine x_iload_n 1 dX11_termStep_222 rfl rfl ?_
                        refine x_bipush (v := (20)) dX11_termStep_223 (by decide) ?_
                        refine x_icmp_ne 279 dX11_termStep_225 (by decide) (fun hB => ?_) (fun hB => ?_)
                        · replace hf := f_el hB hf
                          refine x_aload_n 0 dX11_termStep_279 rfl rfl ?_
                          refine x_bipush (v := (59)) dX11_termStep_280 (by decide) ?_
                          obtain ⟨q365, hq366, hf⟩ := f_bd hf
                          refine x_callVi [.int (59 : Int32)] (c_X11_wantSign (I := I355) (L := L)  hq366) dX11_termStep_282 lk_X11_260 lm_0 rfl cd_X11_wantSign rfl rfl (Nat.le_of_ble_eq_true rfl) ⟨rfl, rfl, Nat.le_of_ble_eq_true rfl, Nat.le_of_ble_eq_true rfl⟩ ?_
                          cases hf
                          exact x_zret dX11_termStep_285 rfl rfl
                        · replace hf := f_if hB hf
                          refine x_aload_n 0 dX11_termStep_228 rfl rfl ?_
                          refine x_dup dX11_termStep_229 rfl ?_
                          refine x_getI (v := ((q351.2 0 22) + (1 : Int32))) dX11_termStep_230 lm_0 fl_X11_284 rfl (by rw [hI355, z2_s, z1_s]) ?_
                          refine x_iconst (v := (1)) dX11_termStep_233 (by decide) ?_
                          refine x_isub dX11_termStep_234 ?_
                          obtain ⟨I356, hI356, hf⟩ := f_lt hf
                          refine x_putI dX11_termStep_235 lm_0 fl_X11_284 rfl rfl rfl hI356 ?_
                          refine x_aload_n 0 dX11_termStep_238 rfl rfl ?_
                          refine x_getR dX11_termStep_239 lm_0 fl_X11_7 rfl ?_
                          refine x_iload_n 3 dX11_termStep_242 rfl rfl ?_
                          refine x_iconst (v := (4)) dX11_termStep_243 (by decide) ?_
                          refine x_iadd dX11_termStep_244 ?_
                          refine x_aload_n 0 dX11_termStep_245 rfl rfl ?_
                          refine x_getR dX11_termStep_246 lm_0 fl_X11_44 rfl ?_
                          refine x_aload_n 0 dX11_termStep_249 rfl rfl ?_
                          refine x_getI (v := (((q351.2 0 22) + (1 : Int32)) - (1 : Int32))) dX11_termStep_250 lm_0 fl_X11_284 rfl (by rw [hI356, z2_s, z1_s]) ?_
                          obtain ⟨h357, hf⟩ := f_gd hf
                          refine x_iald (j := ((((q351.2 0 22) + (1 : Int32)) - (1 : Int32))).toNatClampNeg) (v := (I354 8 ((((q351.2 0 22) + (1 : Int32)) - (1 : Int32))).toNatClampNeg)) dX11_termStep_253 lm_8 h357 rfl (by rw [hI356, z2_o (by decide), hI355, z2_o (by decide)]) ?_
                          obtain ⟨h358, hf⟩ := f_gd hf
                          obtain ⟨I359, hI359, hf⟩ := f_lt hf
                          refine x_iast (j0 := ((w4 + (4 : Int32))).toNatClampNeg) dX11_termStep_254 lm_1 h358 rfl hI359 ?_
                          refine x_aload_n 0 dX11_termStep_255 rfl rfl ?_
                          refine x_getR dX11_termStep_256 lm_0 fl_X11_7 rfl ?_
                          refine x_sipush (v := (1772)) dX11_termStep_259 (by decide) ?_
                          refine x_bipush (v := (6)) dX11_termStep_262 (by decide) ?_
                          refine x_aload_n 0 dX11_termStep_264 rfl rfl ?_
                          refine x_getR dX11_termStep_265 lm_0 fl_X11_44 rfl ?_
                          refine x_aload_n 0 dX11_termStep_268 rfl rfl ?_
                          refine x_getI (v := (((q351.2 0 22) + (1 : Int32)) - (1 : Int32))) dX11_termStep_269 lm_0 fl_X11_284 rfl (by rw [hI359, z2_o (by decide), hI356, z2_s, z1_s]) ?_
                          refine x_iald (j := ((((q351.2 0 22) + (1 : Int32)) - (1 : Int32))).toNatClampNeg) (v := (I354 8 ((((q351.2 0 22) + (1 : Int32)) - (1 : Int32))).toNatClampNeg)) dX11_termStep_272 lm_8 h357 rfl (by rw [hI359, z2_o (by decide), hI356, z2_o (by decide), hI355, z2_o (by decide)]) ?_
                          refine x_imul dX11_termStep_273 ?_
                          refine x_iadd dX11_termStep_274 ?_
                          refine x_iconst (v := (4)) dX11_termStep_275 (by decide) ?_
                          refine x_iadd dX11_termStep_276 ?_
                          refine x_iload_n 2 dX11_termStep_277 rfl rfl ?_
                          obtain ⟨h361, hf⟩ := f_gd hf
                          obtain ⟨I362, hI362, hf⟩ := f_lt hf
                          refine x_iast (j0 := ((((1772 : Int32) + ((6 : Int32) * (I354 8 ((((q351.2 0 22) + (1 : Int32)) - (1 : Int32))).toNatClampNeg))) + (4 : Int32))).toNatClampNeg) dX11_termStep_278 lm_1 h361 rfl hI362 ?_
                          refine x_aload_n 0 dX11_termStep_279 rfl rfl ?_
                          refine x_bipush (v := (59)) dX11_termStep_280 (by decide) ?_
                          obtain ⟨q363, hq364, hf⟩ := f_bd hf
                          refine x_callVi [.int (59 : Int32)] (c_X11_wantSign (I := I362) (L := L)  hq364) dX11_termStep_282 lk_X11_260 lm_0 rfl cd_X11_wantSign rfl rfl (Nat.le_of_ble_eq_true rfl) ⟨rfl, rfl, Nat.le_of_ble_eq_true rfl, Nat.le_of_ble_eq_true rfl⟩ ?_
                          cases hf
                          exact x_zret dX11_termStep_285 rfl rfl
                      · replace hf := f_el hB hf
                        refine x_iconst (v := (0)) dX11_termStep_195 (by decide) ?_
                        cases hf
                        exact x_zret (b := false) dX11_termStep_196 rfl rfl
                · replace hf := f_if hB hf
                  refine x_aload_n 4 dX11_termStep_110 rfl rfl ?_
                  refine x_bipush (v := (7)) dX11_termStep_111 (by decide) ?_
                  refine x_callVi [.int (7 : Int32)] (c_X11_fails (I := I) (L := L) (7 : Int32)) dX11_termStep_113 lk_X11_181 lm_0 rfl cd_X11_fails rfl rfl (Nat.le_of_ble_eq_true rfl) ⟨rfl, rfl, Nat.le_of_ble_eq_true rfl, Nat.le_of_ble_eq_true rfl⟩ ?_
                  cases hf
                  exact x_zret dX11_termStep_116 rfl rfl
              · replace hf := f_if hB hf
                refine x_aload_n 4 dX11_termStep_90 rfl rfl ?_
                refine x_bipush (v := (6)) dX11_termStep_91 (by decide) ?_
                refine x_callVi [.int (6 : Int32)] (c_X11_fails (I := I) (L := L) (6 : Int32)) dX11_termStep_93 lk_X11_181 lm_0 rfl cd_X11_fails rfl rfl (Nat.le_of_ble_eq_true rfl) ⟨rfl, rfl, Nat.le_of_ble_eq_true rfl, Nat.le_of_ble_eq_true rfl⟩ ?_
                cases hf
                exact x_zret dX11_termStep_96 rfl rfl
          · replace hf := f_if hB hf
            refine x_aload_n 4 dX11_termStep_62 rfl rfl ?_
            refine x_getI (v := (I 0 22)) dX11_termStep_63 lm_0 fl_X11_284 rfl rfl ?_
            refine x_if_ne 75 dX11_termStep_66 (by decide) (fun hB => ?_) (fun hB => ?_)
            · replace hf := f_el hB hf
              refine x_iload_n 3 dX11_termStep_75 rfl rfl ?_
              refine x_bipush (v := (20)) dX11_termStep_76 (by decide) ?_
              refine x_icmp_eq 97 dX11_termStep_78 (by decide) (fun hB => ?_) (fun hB => ?_)
              · replace hf := f_if hB hf
                refine x_iload 0 dX11_termStep_97 rfl ?_
                refine x_if_eq 117 dX11_termStep_99 (by decide) (fun h => absurd h (by decide)) (fun _ => ?_)
                refine x_aload_n 4 dX11_termStep_102 rfl rfl ?_
                refine x_getI (v := (I 0 22)) dX11_termStep_103 lm_0 fl_X11_284 rfl rfl ?_
                refine x_iconst (v := (3)) dX11_termStep_106 (by decide) ?_
                refine x_icmp_ne 117 dX11_termStep_107 (by decide) (fun hB => ?_) (fun hB => ?_)
                · replace hf := f_el hB hf
                  refine x_aload_n 4 dX11_termStep_117 rfl rfl ?_
                  refine x_dup dX11_termStep_118 rfl ?_
                  refine x_getI (v := (I 0 23)) dX11_termStep_119 lm_0 fl_X11_287 rfl rfl ?_
                  refine x_iload_n 3 dX11_termStep_122 rfl rfl ?_
                  refine x_bipush (v := (20)) dX11_termStep_123 (by decide) ?_
                  refine x_icmp_ne 132 dX11_termStep_125 (by decide) (fun hB => ?_) (fun hB => ?_)
                  · replace hf := f_el hB hf
                    refine x_iconst (v := (1)) dX11_termStep_132 (by decide) ?_
                    refine x_iadd dX11_termStep_133 ?_
                    obtain ⟨I223, hI223, hf⟩ := f_lt hf
                    refine x_putI dX11_termStep_134 lm_0 fl_X11_287 rfl rfl rfl hI223 ?_
                    refine x_aload_n 4 dX11_termStep_137 rfl rfl ?_
                    refine x_getR dX11_termStep_138 lm_0 fl_X11_7 rfl ?_
                    refine x_iload_n 1 dX11_termStep_141 rfl rfl ?_
                    refine x_iload_n 3 dX11_termStep_142 rfl rfl ?_
                    obtain ⟨h224, hf⟩ := f_gd hf
                    obtain ⟨I225, hI225, hf⟩ := f_lt hf
                    refine x_iast (j0 := (w4).toNatClampNeg) dX11_termStep_143 lm_1 h224 rfl hI225 ?_
                    refine x_iconst (v := (1)) dX11_termStep_144 (by decide) ?_
                    refine x_istore [(5, .int (1 : Int32)), (4, .int (1 : Int32)), (3, .int w4), (2, .int (I 1 1719)), (1, .int q1), (0, .ref 0)] dX11_termStep_145 (by decide) rfl ?_
                    refine x_lv [(0, .ref 0), (1, .int q1), (2, .int (I 1 1719)), (3, .int w4), (4, .int (1 : Int32)), (5, .int (1 : Int32))] [5, 4, 3, 2, 1, 0] rfl ?_
                    refine l_X11_termStep_147 q1 (I 1 1719) w4 (1 : Int32) (L) _ ?_ _ _ _ hf
                    · intro I hf
                      refine x_aload_n 0 dX11_termStep_170 rfl rfl ?_
                      refine x_getR dX11_termStep_171 lm_0 fl_X11_7 rfl ?_
                      refine x_sipush (v := (1719)) dX11_termStep_174 (by decide) ?_
                      refine x_dup2 dX11_termStep_177 rfl rfl ?_
                      refine x_iald (j := 1719) (v := (I 1 1719)) dX11_termStep_178 lm_1 (by decide +kernel) (by decide +kernel) rfl ?_
                      refine x_iconst (v := (1)) dX11_termStep_179 (by decide) ?_
                      refine x_iadd dX11_termStep_180 ?_
                      obtain ⟨I228, hI228, hf⟩ := f_lt hf
                      refine x_iast (j0 := 1719) dX11_termStep_181 lm_1 (by decide +kernel) (by decide +kernel) hI228 ?_
                      refine x_aload_n 0 dX11_termStep_182 rfl rfl ?_
                      obtain ⟨q229, hq230, hf⟩ := f_bd hf
                      refine x_callVv [] (c_X11_ahead (I := I228) (L := L)  hq230) dX11_termStep_183 lk_X11_175 lm_0 rfl cd_X11_ahead rfl rfl (Nat.le_of_ble_eq_true rfl) ⟨rfl, rfl, Nat.le_of_ble_eq_true rfl, Nat.le_of_ble_eq_true rfl⟩ ?_
                      refine x_aload_n 0 dX11_termStep_186 rfl rfl ?_
                      refine x_iload_n 1 dX11_termStep_187 rfl rfl ?_
                      refine x_iload_n 3 dX11_termStep_188 rfl rfl ?_
                      obtain ⟨q231, hq232, hf⟩ := f_bd hf
                      refine x_callVi [.int q1, .int w4] (c_X11_termOrder (I := q229) (L := L)  hq232) dX11_termStep_189 lk_X11_290 lm_0 rfl cd_X11_termOrder rfl rfl (Nat.le_of_ble_eq_true rfl) ⟨rfl, rfl, Nat.le_of_ble_eq_true rfl, Nat.le_of_ble_eq_true rfl⟩ ?_
                      refine x_if_neB 197 dX11_termStep_192 (by decide) (fun hB => ?_) (fun hB => ?_)
                      · replace hf := f_if hB hf
                        refine x_iload 4 dX11_termStep_197 rfl ?_
                        refine x_if_eq 222 dX11_termStep_199 (by decide) (fun h => absurd h (by decide)) (fun _ => ?_)
                        refine x_aload_n 0 dX11_termStep_202 rfl rfl ?_
                        refine x_getR dX11_termStep_203 lm_0 fl_X11_44 rfl ?_
                        refine x_aload_n 0 dX11_termStep_206 rfl rfl ?_
                        refine x_getI (v := (q231.2 0 22)) dX11_termStep_207 lm_0 fl_X11_284 rfl rfl ?_
                        refine x_iload_n 2 dX11_termStep_210 rfl rfl ?_
                        obtain ⟨h233, hf⟩ := f_gd hf
                        obtain ⟨I234, hI234, hf⟩ := f_lt hf
                        refine x_iast (j0 := ((q231.2 0 22)).toNatClampNeg) dX11_termStep_211 lm_8 h233 rfl hI234 ?_
                        refine x_aload_n 0 dX11_termStep_212 rfl rfl ?_
                        refine x_dup dX11_termStep_213 rfl ?_
                        refine x_getI (v := (q231.2 0 22)) dX11_termStep_214 lm_0 fl_X11_284 rfl (by rw [hI234, z2_o (by decide)]) ?_
                        refine x_iconst (v := (1)) dX11_termStep_217 (by decide) ?_
                        refine x_iadd dX11_termStep_218 ?_
                        obtain ⟨I235, hI235, hf⟩ := f_lt hf
                        refine x_putI dX11_termStep_219 lm_0 fl_X11_284 rfl rfl rfl hI235 ?_
                        refine x_iload_n 1 dX11_termStep_222 rfl rfl ?_
                        refine x_bipush (v := (20)) dX11_termStep_223 (by decide) ?_
                        refine x_icmp_ne 279 dX11_termStep_225 (by decide) (fun hB => ?_) (fun hB => ?_)
                        · replace hf := f_el hB hf
                          refine x_aload_n 0 dX11_termStep_279 rfl rfl ?_
                          refine x_bipush (v := (59)) dX11_termStep_280 (by decide) ?_
                          obtain ⟨q245, hq246, hf⟩ := f_bd hf
                          refine x_callVi [.int (59 : Int32)] (c_X11_wantSign (I := I235) (L := L)  hq246) dX11_termStep_282 lk_X11_260 lm_0 rfl cd_X11_wantSign rfl rfl (Nat.le_of_ble_eq_true rfl) ⟨rfl, rfl, Nat.le_of_ble_eq_true rfl, Nat.le_of_ble_eq_true rfl⟩ ?_
                          cases hf
                          exact x_zret dX11_termStep_285 rfl rfl
                        · replace hf := f_if hB hf
                          refine x_aload_n 0 dX11_termStep_228 rfl rfl ?_
                          refine x_dup dX11_termStep_229 rfl ?_
                          refine x_getI (v := ((q231.2 0 22) + (1 : Int32))) dX11_termStep_230 lm_0 fl_X11_284 rfl (by rw [hI235, z2_s, z1_s]) ?_
                          refine x_iconst (v := (1)) dX11_termStep_233 (by decide) ?_
                          refine x_isub dX11_termStep_234 ?_
                          obtain ⟨I236, hI236, hf⟩ := f_lt hf
                          refine x_putI dX11_termStep_235 lm_0 fl_X11_284 rfl rfl rfl hI236 ?_
                          refine x_aload_n 0 dX11_termStep_238 rfl rfl ?_
                          refine x_getR dX11_termStep_239 lm_0 fl_X11_7 rfl ?_
                          refine x_iload_n 3 dX11_termStep_242 rfl rfl ?_
                          refine x_iconst (v := (4)) dX11_termStep_243 (by decide) ?_
                          refine x_iadd dX11_termStep_244 ?_
                          refine x_aload_n 0 dX11_termStep_245 rfl rfl ?_
                          refine x_getR dX11_termStep_246 lm_0 fl_X11_44 rfl ?_
                          refine x_aload_n 0 dX11_termStep_249 rfl rfl ?_
                          refine x_getI (v := (((q231.2 0 22) + (1 : Int32)) - (1 : Int32))) dX11_termStep_250 lm_0 fl_X11_284 rfl (by rw [hI236, z2_s, z1_s]) ?_
                          obtain ⟨h237, hf⟩ := f_gd hf
                          refine x_iald (j := ((((q231.2 0 22) + (1 : Int32)) - (1 : Int32))).toNatClampNeg) (v := (I234 8 ((((q231.2 0 22) + (1 : Int32)) - (1 : Int32))).toNatClampNeg)) dX11_termStep_253 lm_8 h237 rfl (by rw [hI236, z2_o (by decide), hI235, z2_o (by decide)]) ?_
                          obtain ⟨h238, hf⟩ := f_gd hf
                          obtain ⟨I239, hI239, hf⟩ := f_lt hf
                          refine x_iast (j0 := ((w4 + (4 : Int32))).toNatClampNeg) dX11_termStep_254 lm_1 h238 rfl hI239 ?_
                          refine x_aload_n 0 dX11_termStep_255 rfl rfl ?_
                          refine x_getR dX11_termStep_256 lm_0 fl_X11_7 rfl ?_
                          refine x_sipush (v := (1772)) dX11_termStep_259 (by decide) ?_
                          refine x_bipush (v := (6)) dX11_termStep_262 (by decide) ?_
                          refine x_aload_n 0 dX11_termStep_264 rfl rfl ?_
                          refine x_getR dX11_termStep_265 lm_0 fl_X11_44 rfl ?_
                          refine x_aload_n 0 dX11_termStep_268 rfl rfl ?_
                          refine x_getI (v := (((q231.2 0 22) + (1 : Int32)) - (1 : Int32))) dX11_termStep_269 lm_0 fl_X11_284 rfl (by rw [hI239, z2_o (by decide), hI236, z2_s, z1_s]) ?_
                          refine x_iald (j := ((((q231.2 0 22) + (1 : Int32)) - (1 : Int32))).toNatClampNeg) (v := (I234 8 ((((q231.2 0 22) + (1 : Int32)) - (1 : Int32))).toNatClampNeg)) dX11_termStep_272 lm_8 h237 rfl (by rw [hI239, z2_o (by decide), hI236, z2_o (by decide), hI235, z2_o (by decide)]) ?_
                          refine x_imul dX11_termStep_273 ?_
                          refine x_iadd dX11_termStep_274 ?_
                          refine x_iconst (v := (4)) dX11_termStep_275 (by decide) ?_
                          refine x_iadd dX11_termStep_276 ?_
                          refine x_iload_n 2 dX11_termStep_277 rfl rfl ?_
                          obtain ⟨h241, hf⟩ := f_gd hf
                          obtain ⟨I242, hI242, hf⟩ := f_lt hf
                          refine x_iast (j0 := ((((1772 : Int32) + ((6 : Int32) * (I234 8 ((((q231.2 0 22) + (1 : Int32)) - (1 : Int32))).toNatClampNeg))) + (4 : Int32))).toNatClampNeg) dX11_termStep_278 lm_1 h241 rfl hI242 ?_
                          refine x_aload_n 0 dX11_termStep_279 rfl rfl ?_
                          refine x_bipush (v := (59)) dX11_termStep_280 (by decide) ?_
                          obtain ⟨q243, hq244, hf⟩ := f_bd hf
                          refine x_callVi [.int (59 : Int32)] (c_X11_wantSign (I := I242) (L := L)  hq244) dX11_termStep_282 lk_X11_260 lm_0 rfl cd_X11_wantSign rfl rfl (Nat.le_of_ble_eq_true rfl) ⟨rfl, rfl, Nat.le_of_ble_eq_true rfl, Nat.le_of_ble_eq_true rfl⟩ ?_
                          cases hf
                          exact x_zret dX11_termStep_285 rfl rfl
                      · replace hf := f_el hB hf
                        refine x_iconst (v := (0)) dX11_termStep_195 (by decide) ?_
                        cases hf
                        exact x_zret (b := false) dX11_termStep_196 rfl rfl
                  · replace hf := f_if hB hf
                    refine x_iconst (v := (0)) dX11_termStep_128 (by decide) ?_
                    refine x_goto 133 dX11_termStep_129 (by decide) ?_
                    refine x_iadd dX11_termStep_133 ?_
                    obtain ⟨I199, hI199, hf⟩ := f_lt hf
                    refine x_putI dX11_termStep_134 lm_0 fl_X11_287 rfl rfl rfl hI199 ?_
                    refine x_aload_n 4 dX11_termStep_137 rfl rfl ?_
                    refine x_getR dX11_termStep_138 lm_0 fl_X11_7 rfl ?_
                    refine x_iload_n 1 dX11_termStep_141 rfl rfl ?_
                    refine x_iload_n 3 dX11_termStep_142 rfl rfl ?_
                    obtain ⟨h200, hf⟩ := f_gd hf
                    obtain ⟨I201, hI201, hf⟩ := f_lt hf
                    refine x_iast (j0 := (w4).toNatClampNeg) dX11_termStep_143 lm_1 h200 rfl hI201 ?_
                    refine x_iconst (v := (1)) dX11_termStep_144 (by decide) ?_
                    refine x_istore [(5, .int (1 : Int32)), (4, .int (1 : Int32)), (3, .int w4), (2, .int (I 1 1719)), (1, .int q1), (0, .ref 0)] dX11_termStep_145 (by decide) rfl ?_
                    refine x_lv [(0, .ref 0), (1, .int q1), (2, .int (I 1 1719)), (3, .int w4), (4, .int (1 : Int32)), (5, .int (1 : Int32))] [5, 4, 3, 2, 1, 0] rfl ?_
                    refine l_X11_termStep_147 q1 (I 1 1719) w4 (1 : Int32) (L) _ ?_ _ _ _ hf
                    · intro I hf
                      refine x_aload_n 0 dX11_termStep_170 rfl rfl ?_
                      refine x_getR dX11_termStep_171 lm_0 fl_X11_7 rfl ?_
                      refine x_sipush (v := (1719)) dX11_termStep_174 (by decide) ?_
                      refine x_dup2 dX11_termStep_177 rfl rfl ?_
                      refine x_iald (j := 1719) (v := (I 1 1719)) dX11_termStep_178 lm_1 (by decide +kernel) (by decide +kernel) rfl ?_
                      refine x_iconst (v := (1)) dX11_termStep_179 (by decide) ?_
                      refine x_iadd dX11_termStep_180 ?_
                      obtain ⟨I204, hI204, hf⟩ := f_lt hf
                      refine x_iast (j0 := 1719) dX11_termStep_181 lm_1 (by decide +kernel) (by decide +kernel) hI204 ?_
                      refine x_aload_n 0 dX11_termStep_182 rfl rfl ?_
                      obtain ⟨q205, hq206, hf⟩ := f_bd hf
                      refine x_callVv [] (c_X11_ahead (I := I204) (L := L)  hq206) dX11_termStep_183 lk_X11_175 lm_0 rfl cd_X11_ahead rfl rfl (Nat.le_of_ble_eq_true rfl) ⟨rfl, rfl, Nat.le_of_ble_eq_true rfl, Nat.le_of_ble_eq_true rfl⟩ ?_
                      refine x_aload_n 0 dX11_termStep_186 rfl rfl ?_
                      refine x_iload_n 1 dX11_termStep_187 rfl rfl ?_
                      refine x_iload_n 3 dX11_termStep_188 rfl rfl ?_
                      obtain ⟨q207, hq208, hf⟩ := f_bd hf
                      refine x_callVi [.int q1, .int w4] (c_X11_termOrder (I := q205) (L := L)  hq208) dX11_termStep_189 lk_X11_290 lm_0 rfl cd_X11_termOrder rfl rfl (Nat.le_of_ble_eq_true rfl) ⟨rfl, rfl, Nat.le_of_ble_eq_true rfl, Nat.le_of_ble_eq_true rfl⟩ ?_
                      refine x_if_neB 197 dX11_termStep_192 (by decide) (fun hB => ?_) (fun hB => ?_)
                      · replace hf := f_if hB hf
                        refine x_iload 4 dX11_termStep_197 rfl ?_
                        refine x_if_eq 222 dX11_termStep_199 (by decide) (fun h => absurd h (by decide)) (fun _ => ?_)
                        refine x_aload_n 0 dX11_termStep_202 rfl rfl ?_
                        refine x_getR dX11_termStep_203 lm_0 fl_X11_44 rfl ?_
                        refine x_aload_n 0 dX11_termStep_206 rfl rfl ?_
                        refine x_getI (v := (q207.2 0 22)) dX11_termStep_207 lm_0 fl_X11_284 rfl rfl ?_
                        refine x_iload_n 2 dX11_termStep_210 rfl rfl ?_
                        obtain ⟨h209, hf⟩ := f_gd hf
                        obtain ⟨I210, hI210, hf⟩ := f_lt hf
                        refine x_iast (j0 := ((q207.2 0 22)).toNatClampNeg) dX11_termStep_211 lm_8 h209 rfl hI210 ?_
                        refine x_aload_n 0 dX11_termStep_212 rfl rfl ?_
                        refine x_dup dX11_termStep_213 rfl ?_
                        refine x_getI (v := (q207.2 0 22)) dX11_termStep_214 lm_0 fl_X11_284 rfl (by rw [hI210, z2_o (by decide)]) ?_
                        refine x_iconst (v := (1)) dX11_termStep_217 (by decide) ?_
                        refine x_iadd dX11_termStep_218 ?_
                        obtain ⟨I211, hI211, hf⟩ := f_lt hf
                        refine x_putI dX11_termStep_219 lm_0 fl_X11_284 rfl rfl rfl hI211 ?_
                        refine x_iload_n 1 dX11_termStep_222 rfl rfl ?_
                        refine x_bipush (v := (20)) dX11_termStep_223 (by decide) ?_
                        refine x_icmp_ne 279 dX11_termStep_225 (by decide) (fun hB => ?_) (fun hB => ?_)
                        · replace hf := f_el hB hf
                          refine x_aload_n 0 dX11_termStep_279 rfl rfl ?_
                          refine x_bipush (v := (59)) dX11_termStep_280 (by decide) ?_
                          obtain ⟨q221, hq222, hf⟩ := f_bd hf
                          refine x_callVi [.int (59 : Int32)] (c_X11_wantSign (I := I211) (L := L)  hq222) dX11_termStep_282 lk_X11_260 lm_0 rfl cd_X11_wantSign rfl rfl (Nat.le_of_ble_eq_true rfl) ⟨rfl, rfl, Nat.le_of_ble_eq_true rfl, Nat.le_of_ble_eq_true rfl⟩ ?_
                          cases hf
                          exact x_zret dX11_termStep_285 rfl rfl
                        · replace hf := f_if hB hf
                          refine x_aload_n 0 dX11_termStep_228 rfl rfl ?_
                          refine x_dup dX11_termStep_229 rfl ?_
                          refine x_getI (v := ((q207.2 0 22) + (1 : Int32))) dX11_termStep_230 lm_0 fl_X11_284 rfl (by rw [hI211, z2_s, z1_s]) ?_
                          refine x_iconst (v := (1)) dX11_termStep_233 (by decide) ?_
                          refine x_isub dX11_termStep_234 ?_
                          obtain ⟨I212, hI212, hf⟩ := f_lt hf
                          refine x_putI dX11_termStep_235 lm_0 fl_X11_284 rfl rfl rfl hI212 ?_
                          refine x_aload_n 0 dX11_termStep_238 rfl rfl ?_
                          refine x_getR dX11_termStep_239 lm_0 fl_X11_7 rfl ?_
                          refine x_iload_n 3 dX11_termStep_242 rfl rfl ?_
                          refine x_iconst (v := (4)) dX11_termStep_243 (by decide) ?_
                          refine x_iadd dX11_termStep_244 ?_
                          refine x_aload_n 0 dX11_termStep_245 rfl rfl ?_
                          refine x_getR dX11_termStep_246 lm_0 fl_X11_44 rfl ?_
                          refine x_aload_n 0 dX11_termStep_249 rfl rfl ?_
                          refine x_getI (v := (((q207.2 0 22) + (1 : Int32)) - (1 : Int32))) dX11_termStep_250 lm_0 fl_X11_284 rfl (by rw [hI212, z2_s, z1_s]) ?_
                          obtain ⟨h213, hf⟩ := f_gd hf
                          refine x_iald (j := ((((q207.2 0 22) + (1 : Int32)) - (1 : Int32))).toNatClampNeg) (v := (I210 8 ((((q207.2 0 22) + (1 : Int32)) - (1 : Int32))).toNatClampNeg)) dX11_termStep_253 lm_8 h213 rfl (by rw [hI212, z2_o (by decide), hI211, z2_o (by decide)]) ?_
                          obtain ⟨h214, hf⟩ := f_gd hf
                          obtain ⟨I215, hI215, hf⟩ := f_lt hf
                          refine x_iast (j0 := ((w4 + (4 : Int32))).toNatClampNeg) dX11_termStep_254 lm_1 h214 rfl hI215 ?_
                          refine x_aload_n 0 dX11_termStep_255 rfl rfl ?_
                          refine x_getR dX11_termStep_256 lm_0 fl_X11_7 rfl ?_
                          refine x_sipush (v := (1772)) dX11_termStep_259 (by decide) ?_
                          refine x_bipush (v := (6)) dX11_termStep_262 (by decide) ?_
                          refine x_aload_n 0 dX11_termStep_264 rfl rfl ?_
                          refine x_getR dX11_termStep_265 lm_0 fl_X11_44 rfl ?_
                          refine x_aload_n 0 dX11_termStep_268 rfl rfl ?_
                          refine x_getI (v := (((q207.2 0 22) + (1 : Int32)) - (1 : Int32))) dX11_termStep_269 lm_0 fl_X11_284 rfl (by rw [hI215, z2_o (by decide), hI212, z2_s, z1_s]) ?_
                          refine x_iald (j := ((((q207.2 0 22) + (1 : Int32)) - (1 : Int32))).toNatClampNeg) (v := (I210 8 ((((q207.2 0 22) + (1 : Int32)) - (1 : Int32))).toNatClampNeg)) dX11_termStep_272 lm_8 h213 rfl (by rw [hI215, z2_o (by decide), hI212, z2_o (by decide), hI211, z2_o (by decide)]) ?_
                          refine x_imul dX11_termStep_273 ?_
                          refine x_iadd dX11_termStep_274 ?_
                          refine x_iconst (v := (4)) dX11_termStep_275 (by decide) ?_
                          refine x_iadd dX11_termStep_276 ?_
                          refine x_iload_n 2 dX11_termStep_277 rfl rfl ?_
                          obtain ⟨h217, hf⟩ := f_gd hf
                          obtain ⟨I218, hI218, hf⟩ := f_lt hf
                          refine x_iast (j0 := ((((1772 : Int32) + ((6 : Int32) * (I210 8 ((((q207.2 0 22) + (1 : Int32)) - (1 : Int32))).toNatClampNeg))) + (4 : Int32))).toNatClampNeg) dX11_termStep_278 lm_1 h217 rfl hI218 ?_
                          refine x_aload_n 0 dX11_termStep_279 rfl rfl ?_
                          refine x_bipush (v := (59)) dX11_termStep_280 (by decide) ?_
                          obtain ⟨q219, hq220, hf⟩ := f_bd hf
                          refine x_callVi [.int (59 : Int32)] (c_X11_wantSign (I := I218) (L := L)  hq220) dX11_termStep_282 lk_X11_260 lm_0 rfl cd_X11_wantSign rfl rfl (Nat.le_of_ble_eq_true rfl) ⟨rfl, rfl, Nat.le_of_ble_eq_true rfl, Nat.le_of_ble_eq_true rfl⟩ ?_
                          cases hf
                          exact x_zret dX11_termStep_285 rfl rfl
                      · replace hf := f_el hB hf
                        refine x_iconst (v := (0)) dX11_termStep_195 (by decide) ?_
                        cases hf
                        exact x_zret (b := false) dX11_termStep_196 rfl rfl
                · replace hf := f_if hB hf
                  refine x_aload_n 4 dX11_termStep_110 rfl rfl ?_
                  refine x_bipush (v := (7)) dX11_termStep_111 (by decide) ?_
                  refine x_callVi [.int (7 : Int32)] (c_X11_fails (I := I) (L := L) (7 : Int32)) dX11_termStep_113 lk_X11_181 lm_0 rfl cd_X11_fails rfl rfl (Nat.le_of_ble_eq_true rfl) ⟨rfl, rfl, Nat.le_of_ble_eq_true rfl, Nat.le_of_ble_eq_true rfl⟩ ?_
                  cases hf
                  exact x_zret dX11_termStep_116 rfl rfl
              · replace hf := f_el hB hf
                refine x_aload_n 4 dX11_termStep_81 rfl rfl ?_
                refine x_getI (v := (I 0 23)) dX11_termStep_82 lm_0 fl_X11_287 rfl rfl ?_
                refine x_bipush (v := (30)) dX11_termStep_85 (by decide) ?_
                refine x_icmp_ne 97 dX11_termStep_87 (by decide) (fun hB => ?_) (fun hB => ?_)
                · replace hf := f_el hB hf
                  refine x_iload 0 dX11_termStep_97 rfl ?_
                  refine x_if_eq 117 dX11_termStep_99 (by decide) (fun h => absurd h (by decide)) (fun _ => ?_)
                  refine x_aload_n 4 dX11_termStep_102 rfl rfl ?_
                  refine x_getI (v := (I 0 22)) dX11_termStep_103 lm_0 fl_X11_284 rfl rfl ?_
                  refine x_iconst (v := (3)) dX11_termStep_106 (by decide) ?_
                  refine x_icmp_ne 117 dX11_termStep_107 (by decide) (fun hB => ?_) (fun hB => ?_)
                  · replace hf := f_el hB hf
                    refine x_aload_n 4 dX11_termStep_117 rfl rfl ?_
                    refine x_dup dX11_termStep_118 rfl ?_
                    refine x_getI (v := (I 0 23)) dX11_termStep_119 lm_0 fl_X11_287 rfl rfl ?_
                    refine x_iload_n 3 dX11_termStep_122 rfl rfl ?_
                    refine x_bipush (v := (20)) dX11_termStep_123 (by decide) ?_
                    refine x_icmp_ne 132 dX11_termStep_125 (by decide) (fun hB => ?_) (fun hB => ?_)
                    · replace hf := f_el hB hf
                      refine x_iconst (v := (1)) dX11_termStep_132 (by decide) ?_
                      refine x_iadd dX11_termStep_133 ?_
                      obtain ⟨I271, hI271, hf⟩ := f_lt hf
                      refine x_putI dX11_termStep_134 lm_0 fl_X11_287 rfl rfl rfl hI271 ?_
                      refine x_aload_n 4 dX11_termStep_137 rfl rfl ?_
                      refine x_getR dX11_termStep_138 lm_0 fl_X11_7 rfl ?_
                      refine x_iload_n 1 dX11_termStep_141 rfl rfl ?_
                      refine x_iload_n 3 dX11_termStep_142 rfl rfl ?_
                      obtain ⟨h272, hf⟩ := f_gd hf
                      obtain ⟨I273, hI273, hf⟩ := f_lt hf
                      refine x_iast (j0 := (w4).toNatClampNeg) dX11_termStep_143 lm_1 h272 rfl hI273 ?_
                      refine x_iconst (v := (1)) dX11_termStep_144 (by decide) ?_
                      refine x_istore [(5, .int (1 : Int32)), (4, .int (1 : Int32)), (3, .int w4), (2, .int (I 1 1719)), (1, .int q1), (0, .ref 0)] dX11_termStep_145 (by decide) rfl ?_
                      refine x_lv [(0, .ref 0), (1, .int q1), (2, .int (I 1 1719)), (3, .int w4), (4, .int (1 : Int32)), (5, .int (1 : Int32))] [5, 4, 3, 2, 1, 0] rfl ?_
                      refine l_X11_termStep_147 q1 (I 1 1719) w4 (1 : Int32) (L) _ ?_ _ _ _ hf
                      · intro I hf
                        refine x_aload_n 0 dX11_termStep_170 rfl rfl ?_
                        refine x_getR dX11_termStep_171 lm_0 fl_X11_7 rfl ?_
                        refine x_sipush (v := (1719)) dX11_termStep_174 (by decide) ?_
                        refine x_dup2 dX11_termStep_177 rfl rfl ?_
                        refine x_iald (j := 1719) (v := (I 1 1719)) dX11_termStep_178 lm_1 (by decide +kernel) (by decide +kernel) rfl ?_
                        refine x_iconst (v := (1)) dX11_termStep_179 (by decide) ?_
                        refine x_iadd dX11_termStep_180 ?_
                        obtain ⟨I276, hI276, hf⟩ := f_lt hf
                        refine x_iast (j0 := 1719) dX11_termStep_181 lm_1 (by decide +kernel) (by decide +kernel) hI276 ?_
                        refine x_aload_n 0 dX11_termStep_182 rfl rfl ?_
                        obtain ⟨q277, hq278, hf⟩ := f_bd hf
                        refine x_callVv [] (c_X11_ahead (I := I276) (L := L)  hq278) dX11_termStep_183 lk_X11_175 lm_0 rfl cd_X11_ahead rfl rfl (Nat.le_of_ble_eq_true rfl) ⟨rfl, rfl, Nat.le_of_ble_eq_true rfl, Nat.le_of_ble_eq_true rfl⟩ ?_
                        refine x_aload_n 0 dX11_termStep_186 rfl rfl ?_
                        refine x_iload_n 1 dX11_termStep_187 rfl rfl ?_
                        refine x_iload_n 3 dX11_termStep_188 rfl rfl ?_
                        obtain ⟨q279, hq280, hf⟩ := f_bd hf
                        refine x_callVi [.int q1, .int w4] (c_X11_termOrder (I := q277) (L := L)  hq280) dX11_termStep_189 lk_X11_290 lm_0 rfl cd_X11_termOrder rfl rfl (Nat.le_of_ble_eq_true rfl) ⟨rfl, rfl, Nat.le_of_ble_eq_true rfl, Nat.le_of_ble_eq_true rfl⟩ ?_
                        refine x_if_neB 197 dX11_termStep_192 (by decide) (fun hB => ?_) (fun hB => ?_)
                        · replace hf := f_if hB hf
                          refine x_iload 4 dX11_termStep_197 rfl ?_
                          refine x_if_eq 222 dX11_termStep_199 (by decide) (fun h => absurd h (by decide)) (fun _ => ?_)
                          refine x_aload_n 0 dX11_termStep_202 rfl rfl ?_
                          refine x_getR dX11_termStep_203 lm_0 fl_X11_44 rfl ?_
                          refine x_aload_n 0 dX11_termStep_206 rfl rfl ?_
                          refine x_getI (v := (q279.2 0 22)) dX11_termStep_207 lm_0 fl_X11_284 rfl rfl ?_
                          refine x_iload_n 2 dX11_termStep_210 rfl rfl ?_
                          obtain ⟨h281, hf⟩ := f_gd hf
                          obtain ⟨I282, hI282, hf⟩ := f_lt hf
                          refine x_iast (j0 := ((q279.2 0 22)).toNatClampNeg) dX11_termStep_211 lm_8 h281 rfl hI282 ?_
                          refine x_aload_n 0 dX11_termStep_212 rfl rfl ?_
                          refine x_dup dX11_termStep_213 rfl ?_
                          refine x_getI (v := (q279.2 0 22)) dX11_termStep_214 lm_0 fl_X11_284 rfl (by rw [hI282, z2_o (by decide)]) ?_
                          refine x_iconst (v := (1)) dX11_termStep_217 (by decide) ?_
                          refine x_iadd dX11_termStep_218 ?_
                          obtain ⟨I283, hI283, hf⟩ := f_lt hf
                          refine x_putI dX11_termStep_219 lm_0 fl_X11_284 rfl rfl rfl hI283 ?_
                          refine x_iload_n 1 dX11_termStep_222 rfl rfl ?_
                          refine x_bipush (v := (20)) dX11_termStep_223 (by decide) ?_
                          refine x_icmp_ne 279 dX11_termStep_225 (by decide) (fun hB => ?_) (fun hB => ?_)
                          · replace hf := f_el hB hf
                            refine x_aload_n 0 dX11_termStep_279 rfl rfl ?_
                            refine x_bipush (v := (59)) dX11_termStep_280 (by decide) ?_
                            obtain ⟨q293, hq294, hf⟩ := f_bd hf
                            refine x_callVi [.int (59 : Int32)] (c_X11_wantSign (I := I283) (L := L)  hq294) dX11_termStep_282 lk_X11_260 lm_0 rfl cd_X11_wantSign rfl rfl (Nat.le_of_ble_eq_true rfl) ⟨rfl, rfl, Nat.le_of_ble_eq_true rfl, Nat.le_of_ble_eq_true rfl⟩ ?_
                            cases hf
                            exact x_zret dX11_termStep_285 rfl rfl
                          · replace hf := f_if hB hf
                            refine x_aload_n 0 dX11_termStep_228 rfl rfl ?_
                            refine x_dup dX11_termStep_229 rfl ?_
                            refine x_getI (v := ((q279.2 0 22) + (1 : Int32))) dX11_termStep_230 lm_0 fl_X11_284 rfl (by rw [hI283, z2_s, z1_s]) ?_
                            refine x_iconst (v := (1)) dX11_termStep_233 (by decide) ?_
                            refine x_isub dX11_termStep_234 ?_
                            obtain ⟨I284, hI284, hf⟩ := f_lt hf
                            refine x_putI dX11_termStep_235 lm_0 fl_X11_284 rfl rfl rfl hI284 ?_
                            refine x_aload_n 0 dX11_termStep_238 rfl rfl ?_
                            refine x_getR dX11_termStep_239 lm_0 fl_X11_7 rfl ?_
                            refine x_iload_n 3 dX11_termStep_242 rfl rfl ?_
                            refine x_iconst (v := (4)) dX11_termStep_243 (by decide) ?_
                            refine x_iadd dX11_termStep_244 ?_
                            refine x_aload_n 0 dX11_termStep_245 rfl rfl ?_
                            refine x_getR dX11_termStep_246 lm_0 fl_X11_44 rfl ?_
                            refine x_aload_n 0 dX11_termStep_249 rfl rfl ?_
                            refine x_getI (v := (((q279.2 0 22) + (1 : Int32)) - (1 : Int32))) dX11_termStep_250 lm_0 fl_X11_284 rfl (by rw [hI284, z2_s, z1_s]) ?_
                            obtain ⟨h285, hf⟩ := f_gd hf
                            refine x_iald (j := ((((q279.2 0 22) + (1 : Int32)) - (1 : Int32))).toNatClampNeg) (v := (I282 8 ((((q279.2 0 22) + (1 : Int32)) - (1 : Int32))).toNatClampNeg)) dX11_termStep_253 lm_8 h285 rfl (by rw [hI284, z2_o (by decide), hI283, z2_o (by decide)]) ?_
                            obtain ⟨h286, hf⟩ := f_gd hf
                            obtain ⟨I287, hI287, hf⟩ := f_lt hf
                            refine x_iast (j0 := ((w4 + (4 : Int32))).toNatClampNeg) dX11_termStep_254 lm_1 h286 rfl hI287 ?_
                            refine x_aload_n 0 dX11_termStep_255 rfl rfl ?_
                            refine x_getR dX11_termStep_256 lm_0 fl_X11_7 rfl ?_
                            refine x_sipush (v := (1772)) dX11_termStep_259 (by decide) ?_
                            refine x_bipush (v := (6)) dX11_termStep_262 (by decide) ?_
                            refine x_aload_n 0 dX11_termStep_264 rfl rfl ?_
                            refine x_getR dX11_termStep_265 lm_0 fl_X11_44 rfl ?_
                            refine x_aload_n 0 dX11_termStep_268 rfl rfl ?_
                            refine x_getI (v := (((q279.2 0 22) + (1 : Int32)) - (1 : Int32))) dX11_termStep_269 lm_0 fl_X11_284 rfl (by rw [hI287, z2_o (by decide), hI284, z2_s, z1_s]) ?_
                            refine x_iald (j := ((((q279.2 0 22) + (1 : Int32)) - (1 : Int32))).toNatClampNeg) (v := (I282 8 ((((q279.2 0 22) + (1 : Int32)) - (1 : Int32))).toNatClampNeg)) dX11_termStep_272 lm_8 h285 rfl (by rw [hI287, z2_o (by decide), hI284, z2_o (by decide), hI283, z2_o (by decide)]) ?_
                            refine x_imul dX11_termStep_273 ?_
                            refine x_iadd dX11_termStep_274 ?_
                            refine x_iconst (v := (4)) dX11_termStep_275 (by decide) ?_
                            refine x_iadd dX11_termStep_276 ?_
                            refine x_iload_n 2 dX11_termStep_277 rfl rfl ?_
                            obtain ⟨h289, hf⟩ := f_gd hf
                            obtain ⟨I290, hI290, hf⟩ := f_lt hf
                            refine x_iast (j0 := ((((1772 : Int32) + ((6 : Int32) * (I282 8 ((((q279.2 0 22) + (1 : Int32)) - (1 : Int32))).toNatClampNeg))) + (4 : Int32))).toNatClampNeg) dX11_termStep_278 lm_1 h289 rfl hI290 ?_
                            refine x_aload_n 0 dX11_termStep_279 rfl rfl ?_
                            refine x_bipush (v := (59)) dX11_termStep_280 (by decide) ?_
                            obtain ⟨q291, hq292, hf⟩ := f_bd hf
                            refine x_callVi [.int (59 : Int32)] (c_X11_wantSign (I := I290) (L := L)  hq292) dX11_termStep_282 lk_X11_260 lm_0 rfl cd_X11_wantSign rfl rfl (Nat.le_of_ble_eq_true rfl) ⟨rfl, rfl, Nat.le_of_ble_eq_true rfl, Nat.le_of_ble_eq_true rfl⟩ ?_
                            cases hf
                            exact x_zret dX11_termStep_285 rfl rfl
                        · replace hf := f_el hB hf
                          refine x_iconst (v := (0)) dX11_termStep_195 (by decide) ?_
                          cases hf
                          exact x_zret (b := false) dX11_termStep_196 rfl rfl
                    · replace hf := f_if hB hf
                      refine x_iconst (v := (0)) dX11_termStep_128 (by decide) ?_
                      refine x_goto 133 dX11_termStep_129 (by decide) ?_
                      refine x_iadd dX11_termStep_133 ?_
                      obtain ⟨I247, hI247, hf⟩ := f_lt hf
                      refine x_putI dX11_termStep_134 lm_0 fl_X11_287 rfl rfl rfl hI247 ?_
                      refine x_aload_n 4 dX11_termStep_137 rfl rfl ?_
                      refine x_getR dX11_termStep_138 lm_0 fl_X11_7 rfl ?_
                      refine x_iload_n 1 dX11_termStep_141 rfl rfl ?_
                      refine x_iload_n 3 dX11_termStep_142 rfl rfl ?_
                      obtain ⟨h248, hf⟩ := f_gd hf
                      obtain ⟨I249, hI249, hf⟩ := f_lt hf
                      refine x_iast (j0 := (w4).toNatClampNeg) dX11_termStep_143 lm_1 h248 rfl hI249 ?_
                      refine x_iconst (v := (1)) dX11_termStep_144 (by decide) ?_
                      refine x_istore [(5, .int (1 : Int32)), (4, .int (1 : Int32)), (3, .int w4), (2, .int (I 1 1719)), (1, .int q1), (0, .ref 0)] dX11_termStep_145 (by decide) rfl ?_
                      refine x_lv [(0, .ref 0), (1, .int q1), (2, .int (I 1 1719)), (3, .int w4), (4, .int (1 : Int32)), (5, .int (1 : Int32))] [5, 4, 3, 2, 1, 0] rfl ?_
                      refine l_X11_termStep_147 q1 (I 1 1719) w4 (1 : Int32) (L) _ ?_ _ _ _ hf
                      · intro I hf
                        refine x_aload_n 0 dX11_termStep_170 rfl rfl ?_
                        refine x_getR dX11_termStep_171 lm_0 fl_X11_7 rfl ?_
                        refine x_sipush (v := (1719)) dX11_termStep_174 (by decide) ?_
                        refine x_dup2 dX11_termStep_177 rfl rfl ?_
                        refine x_iald (j := 1719) (v := (I 1 1719)) dX11_termStep_178 lm_1 (by decide +kernel) (by decide +kernel) rfl ?_
                        refine x_iconst (v := (1)) dX11_termStep_179 (by decide) ?_
                        refine x_iadd dX11_termStep_180 ?_
                        obtain ⟨I252, hI252, hf⟩ := f_lt hf
                        refine x_iast (j0 := 1719) dX11_termStep_181 lm_1 (by decide +kernel) (by decide +kernel) hI252 ?_
                        refine x_aload_n 0 dX11_termStep_182 rfl rfl ?_
                        obtain ⟨q253, hq254, hf⟩ := f_bd hf
                        refine x_callVv [] (c_X11_ahead (I := I252) (L := L)  hq254) dX11_termStep_183 lk_X11_175 lm_0 rfl cd_X11_ahead rfl rfl (Nat.le_of_ble_eq_true rfl) ⟨rfl, rfl, Nat.le_of_ble_eq_true rfl, Nat.le_of_ble_eq_true rfl⟩ ?_
                        refine x_aload_n 0 dX11_termStep_186 rfl rfl ?_
                        refine x_iload_n 1 dX11_termStep_187 rfl rfl ?_
                        refine x_iload_n 3 dX11_termStep_188 rfl rfl ?_
                        obtain ⟨q255, hq256, hf⟩ := f_bd hf
                        refine x_callVi [.int q1, .int w4] (c_X11_termOrder (I := q253) (L := L)  hq256) dX11_termStep_189 lk_X11_290 lm_0 rfl cd_X11_termOrder rfl rfl (Nat.le_of_ble_eq_true rfl) ⟨rfl, rfl, Nat.le_of_ble_eq_true rfl, Nat.le_of_ble_eq_true rfl⟩ ?_
                        refine x_if_neB 197 dX11_termStep_192 (by decide) (fun hB => ?_) (fun hB => ?_)
                        · replace hf := f_if hB hf
                          refine x_iload 4 dX11_termStep_197 rfl ?_
                          refine x_if_eq 222 dX11_termStep_199 (by decide) (fun h => absurd h (by decide)) (fun _ => ?_)
                          refine x_aload_n 0 dX11_termStep_202 rfl rfl ?_
                          refine x_getR dX11_termStep_203 lm_0 fl_X11_44 rfl ?_
                          refine x_aload_n 0 dX11_termStep_206 rfl rfl ?_
                          refine x_getI (v := (q255.2 0 22)) dX11_termStep_207 lm_0 fl_X11_284 rfl rfl ?_
                          refine x_iload_n 2 dX11_termStep_210 rfl rfl ?_
                          obtain ⟨h257, hf⟩ := f_gd hf
                          obtain ⟨I258, hI258, hf⟩ := f_lt hf
                          refine x_iast (j0 := ((q255.2 0 22)).toNatClampNeg) dX11_termStep_211 lm_8 h257 rfl hI258 ?_
                          refine x_aload_n 0 dX11_termStep_212 rfl rfl ?_
                          refine x_dup dX11_termStep_213 rfl ?_
                          refine x_getI (v := (q255.2 0 22)) dX11_termStep_214 lm_0 fl_X11_284 rfl (by rw [hI258, z2_o (by decide)]) ?_
                          refine x_iconst (v := (1)) dX11_termStep_217 (by decide) ?_
                          refine x_iadd dX11_termStep_218 ?_
                          obtain ⟨I259, hI259, hf⟩ := f_lt hf
                          refine x_putI dX11_termStep_219 lm_0 fl_X11_284 rfl rfl rfl hI259 ?_
                          refine x_iload_n 1 dX11_termStep_222 rfl rfl ?_
                          refine x_bipush (v := (20)) dX11_termStep_223 (by decide) ?_
                          refine x_icmp_ne 279 dX11_termStep_225 (by decide) (fun hB => ?_) (fun hB => ?_)
                          · replace hf := f_el hB hf
                            refine x_aload_n 0 dX11_termStep_279 rfl rfl ?_
                            refine x_bipush (v := (59)) dX11_termStep_280 (by decide) ?_
                            obtain ⟨q269, hq270, hf⟩ := f_bd hf
                            refine x_callVi [.int (59 : Int32)] (c_X11_wantSign (I := I259) (L := L)  hq270) dX11_termStep_282 lk_X11_260 lm_0 rfl cd_X11_wantSign rfl rfl (Nat.le_of_ble_eq_true rfl) ⟨rfl, rfl, Nat.le_of_ble_eq_true rfl, Nat.le_of_ble_eq_true rfl⟩ ?_
                            cases hf
                            exact x_zret dX11_termStep_285 rfl rfl
                          · replace hf := f_if hB hf
                            refine x_aload_n 0 dX11_termStep_228 rfl rfl ?_
                            refine x_dup dX11_termStep_229 rfl ?_
                            refine x_getI (v := ((q255.2 0 22) + (1 : Int32))) dX11_termStep_230 lm_0 fl_X11_284 rfl (by rw [hI259, z2_s, z1_s]) ?_
                            refine x_iconst (v := (1)) dX11_termStep_233 (by decide) ?_
                            refine x_isub dX11_termStep_234 ?_
                            obtain ⟨I260, hI260, hf⟩ := f_lt hf
                            refine x_putI dX11_termStep_235 lm_0 fl_X11_284 rfl rfl rfl hI260 ?_
                            refine x_aload_n 0 dX11_termStep_238 rfl rfl ?_
                            refine x_getR dX11_termStep_239 lm_0 fl_X11_7 rfl ?_
                            refine x_iload_n 3 dX11_termStep_242 rfl rfl ?_
                            refine x_iconst (v := (4)) dX11_termStep_243 (by decide) ?_
                            refine x_iadd dX11_termStep_244 ?_
                            refine x_aload_n 0 dX11_termStep_245 rfl rfl ?_
                            refine x_getR dX11_termStep_246 lm_0 fl_X11_44 rfl ?_
                            refine x_aload_n 0 dX11_termStep_249 rfl rfl ?_
                            refine x_getI (v := (((q255.2 0 22) + (1 : Int32)) - (1 : Int32))) dX11_termStep_250 lm_0 fl_X11_284 rfl (by rw [hI260, z2_s, z1_s]) ?_
                            obtain ⟨h261, hf⟩ := f_gd hf
                            refine x_iald (j := ((((q255.2 0 22) + (1 : Int32)) - (1 : Int32))).toNatClampNeg) (v := (I258 8 ((((q255.2 0 22) + (1 : Int32)) - (1 : Int32))).toNatClampNeg)) dX11_termStep_253 lm_8 h261 rfl (by rw [hI260, z2_o (by decide), hI259, z2_o (by decide)]) ?_
                            obtain ⟨h262, hf⟩ := f_gd hf
                            obtain ⟨I263, hI263, hf⟩ := f_lt hf
                            refine x_iast (j0 := ((w4 + (4 : Int32))).toNatClampNeg) dX11_termStep_254 lm_1 h262 rfl hI263 ?_
                            refine x_aload_n 0 dX11_termStep_255 rfl rfl ?_
                            refine x_getR dX11_termStep_256 lm_0 fl_X11_7 rfl ?_
                            refine x_sipush (v := (1772)) dX11_termStep_259 (by decide) ?_
                            refine x_bipush (v := (6)) dX11_termStep_262 (by decide) ?_
                            refine x_aload_n 0 dX11_termStep_264 rfl rfl ?_
                            refine x_getR dX11_termStep_265 lm_0 fl_X11_44 rfl ?_
                            refine x_aload_n 0 dX11_termStep_268 rfl rfl ?_
                            refine x_getI (v := (((q255.2 0 22) + (1 : Int32)) - (1 : Int32))) dX11_termStep_269 lm_0 fl_X11_284 rfl (by rw [hI263, z2_o (by decide), hI260, z2_s, z1_s]) ?_
                            refine x_iald (j := ((((q255.2 0 22) + (1 : Int32)) - (1 : Int32))).toNatClampNeg) (v := (I258 8 ((((q255.2 0 22) + (1 : Int32)) - (1 : Int32))).toNatClampNeg)) dX11_termStep_272 lm_8 h261 rfl (by rw [hI263, z2_o (by decide), hI260, z2_o (by decide), hI259, z2_o (by decide)]) ?_
                            refine x_imul dX11_termStep_273 ?_
                            refine x_iadd dX11_termStep_274 ?_
                            refine x_iconst (v := (4)) dX11_termStep_275 (by decide) ?_
                            refine x_iadd dX11_termStep_276 ?_
                            refine x_iload_n 2 dX11_termStep_277 rfl rfl ?_
                            obtain ⟨h265, hf⟩ := f_gd hf
                            obtain ⟨I266, hI266, hf⟩ := f_lt hf
                            refine x_iast (j0 := ((((1772 : Int32) + ((6 : Int32) * (I258 8 ((((q255.2 0 22) + (1 : Int32)) - (1 : Int32))).toNatClampNeg))) + (4 : Int32))).toNatClampNeg) dX11_termStep_278 lm_1 h265 rfl hI266 ?_
                            refine x_aload_n 0 dX11_termStep_279 rfl rfl ?_
                            refine x_bipush (v := (59)) dX11_termStep_280 (by decide) ?_
                            obtain ⟨q267, hq268, hf⟩ := f_bd hf
                            refine x_callVi [.int (59 : Int32)] (c_X11_wantSign (I := I266) (L := L)  hq268) dX11_termStep_282 lk_X11_260 lm_0 rfl cd_X11_wantSign rfl rfl (Nat.le_of_ble_eq_true rfl) ⟨rfl, rfl, Nat.le_of_ble_eq_true rfl, Nat.le_of_ble_eq_true rfl⟩ ?_
                            cases hf
                            exact x_zret dX11_termStep_285 rfl rfl
                        · replace hf := f_el hB hf
                          refine x_iconst (v := (0)) dX11_termStep_195 (by decide) ?_
                          cases hf
                          exact x_zret (b := false) dX11_termStep_196 rfl rfl
                  · replace hf := f_if hB hf
                    refine x_aload_n 4 dX11_termStep_110 rfl rfl ?_
                    refine x_bipush (v := (7)) dX11_termStep_111 (by decide) ?_
                    refine x_callVi [.int (7 : Int32)] (c_X11_fails (I := I) (L := L) (7 : Int32)) dX11_termStep_113 lk_X11_181 lm_0 rfl cd_X11_fails rfl rfl (Nat.le_of_ble_eq_true rfl) ⟨rfl, rfl, Nat.le_of_ble_eq_true rfl, Nat.le_of_ble_eq_true rfl⟩ ?_
                    cases hf
                    exact x_zret dX11_termStep_116 rfl rfl
                · replace hf := f_if hB hf
                  refine x_aload_n 4 dX11_termStep_90 rfl rfl ?_
                  refine x_bipush (v := (6)) dX11_termStep_91 (by decide) ?_
                  refine x_callVi [.int (6 : Int32)] (c_X11_fails (I := I) (L := L) (6 : Int32)) dX11_termStep_93 lk_X11_181 lm_0 rfl cd_X11_fails rfl rfl (Nat.le_of_ble_eq_true rfl) ⟨rfl, rfl, Nat.le_of_ble_eq_true rfl, Nat.le_of_ble_eq_true rfl⟩ ?_
                  cases hf
                  exact x_zret dX11_termStep_96 rfl rfl
            · replace hf := f_if hB hf
              refine x_aload_n 4 dX11_termStep_69 rfl rfl ?_
              refine x_iconst (v := (2)) dX11_termStep_70 (by decide) ?_
              refine x_callVi [.int (2 : Int32)] (c_X11_fails (I := I) (L := L) (2 : Int32)) dX11_termStep_71 lk_X11_181 lm_0 rfl cd_X11_fails rfl rfl (Nat.le_of_ble_eq_true rfl) ⟨rfl, rfl, Nat.le_of_ble_eq_true rfl, Nat.le_of_ble_eq_true rfl⟩ ?_
              cases hf
              exact x_zret dX11_termStep_74 rfl rfl
set_option maxRecDepth 100000 in
set_option maxHeartbeats 4000000 in
theorem l_X11_terms_38    (L : z_L) {r : Int32 × z_I} (k57 : z_I → Option (Int32 × z_I)) (hk57 : ∀ (I : z_I), k57 I = some r → z_X layM RX11 cX11_terms 4 (some .int) ({ frames := 11, cells := 0, slots := 0, locals := 251 } : Room) 57 [(0, .ref 0)] [] I L (some (.int r.1), r.2, L)) : ∀ (n : Nat) (v2 : Bool) (I : z_I), g_X11_terms_38 L k57 n v2 I = some r → z_X layM RX11 cX11_terms 4 (some .int) ({ frames := 11, cells := 0, slots := 0, locals := 251 } : Room) 38 [(0, .ref 0), (2, .int (zb v2))] [] I L (some (.int r.1), r.2, L) := by
  intro n
  induction n with
  | zero => intro v2 I hf; cases hf
  | succ n ih =>
    intro v2 I hf
    rw [g_X11_terms_38] at hf
    refine x_iload_n 1 dX11_terms_38 rfl rfl ?_
    refine x_if_eqB 57 dX11_terms_39 (by decide) (fun hB => ?_) (fun hB => ?_)
    · replace hf := f_el hB hf
      refine x_lv [(0, .ref 0)] [0] rfl ?_
      exact hk57 _ hf
    · replace hf := f_if hB hf
      refine x_aload_n 0 dX11_terms_42 rfl rfl ?_
      refine x_getI (v := (I 0 12)) dX11_terms_43 lm_0 fl_X11_144 rfl rfl ?_
      refine x_if_eq 57 dX11_terms_46 (by decide) (fun hB => ?_) (fun hB => ?_)
      · replace hf := f_if hB hf
        refine x_lv [(0, .ref 0)] [0] rfl ?_
        exact hk57 _ hf
      · replace hf := f_el hB hf
        refine x_aload_n 0 dX11_terms_49 rfl rfl ?_
        obtain ⟨q7, hq8, hf⟩ := f_bd hf
        refine x_callVi [] (c_X11_termStep (I := I) (L := L)  hq8) dX11_terms_50 lk_X11_293 lm_0 rfl cd_X11_termStep rfl rfl (Nat.le_of_ble_eq_true rfl) ⟨rfl, rfl, Nat.le_of_ble_eq_true rfl, Nat.le_of_ble_eq_true rfl⟩ ?_
        refine x_istore_n [(2, .int (zb q7.1)), (0, .ref 0)] dX11_terms_53 rfl (by decide) rfl ?_
        refine x_goto 38 dX11_terms_54 (by decide) ?_
        refine x_lv [(0, .ref 0), (2, .int (zb q7.1))] [1, 0] rfl ?_
        exact ih _ _ hf
set_option maxRecDepth 100000 in
set_option maxHeartbeats 4000000 in
theorem l_X11_terms_102    (L : z_L) {r : Int32 × z_I}  : ∀ (n : Nat) (v3 : Int32) (I : z_I), g_X11_terms_102 L  n v3 I = some r → z_X layM RX11 cX11_terms 4 (some .int) ({ frames := 11, cells := 0, slots := 0, locals := 251 } : Room) 102 [(0, .ref 0), (3, .int v3)] [] I L (some (.int r.1), r.2, L) := by
  intro n
  induction n with
  | zero => intro v3 I hf; cases hf
  | succ n ih =>
    intro v3 I hf
    rw [g_X11_terms_102] at hf
    refine x_iload_n 1 dX11_terms_102 rfl rfl ?_
    refine x_sipush (v := (420)) dX11_terms_103 (by decide) ?_
    refine x_icmp_ge 131 dX11_terms_106 (by decide) (fun hB => ?_) (fun hB => ?_)
    · replace hf := f_if hB hf
      refine x_aload_n 0 dX11_terms_131 rfl rfl ?_
      refine x_aload_n 0 dX11_terms_132 rfl rfl ?_
      refine x_getI (v := (I 0 23)) dX11_terms_133 lm_0 fl_X11_287 rfl rfl ?_
      refine x_callVi [.int (I 0 23)] (c_X11_taken (I := I) (L := L) (I 0 23)) dX11_terms_136 lk_X11_269 lm_0 rfl cd_X11_taken rfl rfl (Nat.le_of_ble_eq_true rfl) ⟨rfl, rfl, Nat.le_of_ble_eq_true rfl, Nat.le_of_ble_eq_true rfl⟩ ?_
      cases hf
      exact x_iret dX11_terms_139 rfl rfl
    · replace hf := f_el hB hf
      refine x_aload_n 0 dX11_terms_109 rfl rfl ?_
      refine x_getR dX11_terms_110 lm_0 fl_X11_7 rfl ?_
      refine x_iload_n 1 dX11_terms_113 rfl rfl ?_
      refine x_aload_n 0 dX11_terms_114 rfl rfl ?_
      refine x_getR dX11_terms_115 lm_0 fl_X11_7 rfl ?_
      refine x_sipush (v := (1712)) dX11_terms_118 (by decide) ?_
      refine x_iload_n 1 dX11_terms_121 rfl rfl ?_
      refine x_iadd dX11_terms_122 ?_
      obtain ⟨h12, hf⟩ := f_gd hf
      refine x_iald (j := (((1712 : Int32) + v3)).toNatClampNeg) (v := (I 1 (((1712 : Int32) + v3)).toNatClampNeg)) dX11_terms_123 lm_1 h12 rfl rfl ?_
      obtain ⟨h13, hf⟩ := f_gd hf
      obtain ⟨I14, hI14, hf⟩ := f_lt hf
      refine x_iast (j0 := (v3).toNatClampNeg) dX11_terms_124 lm_1 h13 rfl hI14 ?_
      refine x_iinc 1 [(3, .int (v3 + (1 : Int32))), (0, .ref 0)] dX11_terms_125 rfl rfl (by decide) rfl ?_
      refine x_goto 102 dX11_terms_128 (by decide) ?_
      refine x_lv [(0, .ref 0), (3, .int (v3 + (1 : Int32)))] [1, 0] rfl ?_
      exact ih _ _ hf
set_option maxRecDepth 100000 in
set_option maxHeartbeats 4000000 in
theorem c_X11_terms {I : z_I} {L : z_L} {p0 : Int32}  {r : Int32 × z_I} (hf : f_X11_terms I L p0 = some r) : z_C layM yX11_terms cX11_terms 4 (some .int) ({ frames := 11, cells := 0, slots := 0, locals := 251 } : Room) [.ref 0, .int p0] I L (some (.int r.1), r.2, L) := by
  refine z_C.of (by decide) (Nat.le_of_ble_eq_true rfl) ?_
  show z_X layM RX11 cX11_terms 4 (some .int) ({ frames := 11, cells := 0, slots := 0, locals := 251 } : Room) 0 [(0, .ref 0), (1, .int p0)] [] I L (some (.int r.1), r.2, L)
  unfold f_X11_terms at hf
  refine x_aload_n 0 dX11_terms_0 rfl rfl ?_
  refine x_iload_n 1 dX11_terms_1 rfl rfl ?_
  refine x_sipush (v := (300)) dX11_terms_2 (by decide) ?_
  obtain ⟨q1, hq2, hf⟩ := f_bd hf
  refine x_callVi [.int p0, .int (300 : Int32)] (c_X11_begins (I := I) (L := L)  hq2) dX11_terms_5 lk_X11_263 lm_0 rfl cd_X11_begins rfl rfl (Nat.le_of_ble_eq_true rfl) ⟨rfl, rfl, Nat.le_of_ble_eq_true rfl, Nat.le_of_ble_eq_true rfl⟩ ?_
  refine x_if_neB 17 dX11_terms_8 (by decide) (fun hB => ?_) (fun hB => ?_)
  · replace hf := f_if hB hf
    refine x_aload_n 0 dX11_terms_17 rfl rfl ?_
    refine x_getR dX11_terms_18 lm_0 fl_X11_7 rfl ?_
    refine x_sipush (v := (1719)) dX11_terms_21 (by decide) ?_
    refine x_iconst (v := (0)) dX11_terms_24 (by decide) ?_
    obtain ⟨I4, hI4, hf⟩ := f_lt hf
    refine x_iast (j0 := 1719) dX11_terms_25 lm_1 (by decide +kernel) (by decide +kernel) hI4 ?_
    refine x_aload_n 0 dX11_terms_26 rfl rfl ?_
    refine x_iconst (v := (0)) dX11_terms_27 (by decide) ?_
    obtain ⟨I5, hI5, hf⟩ := f_lt hf
    refine x_putI dX11_terms_28 lm_0 fl_X11_284 rfl rfl rfl hI5 ?_
    refine x_aload_n 0 dX11_terms_31 rfl rfl ?_
    refine x_iconst (v := (0)) dX11_terms_32 (by decide) ?_
    obtain ⟨I6, hI6, hf⟩ := f_lt hf
    refine x_putI dX11_terms_33 lm_0 fl_X11_287 rfl rfl rfl hI6 ?_
    refine x_iconst (v := (1)) dX11_terms_36 (by decide) ?_
    refine x_istore_n [(2, .int (1 : Int32)), (0, .ref 0), (1, .int p0)] dX11_terms_37 rfl (by decide) rfl ?_
    refine x_lv [(0, .ref 0), (2, .int (zb true))] [1, 0] rfl ?_
    refine l_X11_terms_38 (L) _ ?_ _ _ _ hf
    · intro I hf
      refine x_aload_n 0 dX11_terms_57 rfl rfl ?_
      refine x_getI (v := (I 0 18)) dX11_terms_58 lm_0 fl_X11_169 rfl rfl ?_
      refine x_if_ne 77 dX11_terms_61 (by decide) (fun hB => ?_) (fun hB => ?_)
      · replace hf := f_el hB hf
        refine x_aload_n 0 dX11_terms_77 rfl rfl ?_
        refine x_getI (v := (I 0 18)) dX11_terms_78 lm_0 fl_X11_169 rfl rfl ?_
        refine x_if_ne 131 dX11_terms_81 (by decide) (fun hB => ?_) (fun hB => ?_)
        · replace hf := f_el hB hf
          refine x_aload_n 0 dX11_terms_131 rfl rfl ?_
          refine x_aload_n 0 dX11_terms_132 rfl rfl ?_
          refine x_getI (v := (I 0 23)) dX11_terms_133 lm_0 fl_X11_287 rfl rfl ?_
          refine x_callVi [.int (I 0 23)] (c_X11_taken (I := I) (L := L) (I 0 23)) dX11_terms_136 lk_X11_269 lm_0 rfl cd_X11_taken rfl rfl (Nat.le_of_ble_eq_true rfl) ⟨rfl, rfl, Nat.le_of_ble_eq_true rfl, Nat.le_of_ble_eq_true rfl⟩ ?_
          cases hf
          exact x_iret dX11_terms_139 rfl rfl
        · replace hf := f_if hB hf
          refine x_aload_n 0 dX11_terms_84 rfl rfl ?_
          refine x_getR dX11_terms_85 lm_0 fl_X11_7 rfl ?_
          refine x_bipush (v := (7)) dX11_terms_88 (by decide) ?_
          refine x_aload_n 0 dX11_terms_90 rfl rfl ?_
          refine x_getR dX11_terms_91 lm_0 fl_X11_7 rfl ?_
          refine x_sipush (v := (1719)) dX11_terms_94 (by decide) ?_
          refine x_iald (j := 1719) (v := (I 1 1719)) dX11_terms_97 lm_1 (by decide +kernel) (by decide +kernel) rfl ?_
          obtain ⟨I20, hI20, hf⟩ := f_lt hf
          refine x_iast (j0 := 7) dX11_terms_98 lm_1 (by decide +kernel) (by decide +kernel) hI20 ?_
          refine x_bipush (v := (60)) dX11_terms_99 (by decide) ?_
          refine x_istore_n [(3, .int (60 : Int32)), (0, .ref 0)] dX11_terms_101 rfl (by decide) rfl ?_
          refine x_lv [(0, .ref 0), (3, .int (60 : Int32))] [1, 0] rfl ?_
          refine l_X11_terms_102 (L)   _ _ _ hf
      · replace hf := f_if hB hf
        refine x_aload_n 0 dX11_terms_64 rfl rfl ?_
        refine x_getI (v := (I 0 22)) dX11_terms_65 lm_0 fl_X11_284 rfl rfl ?_
        refine x_if_le 77 dX11_terms_68 (by decide) (fun hB => ?_) (fun hB => ?_)
        · replace hf := f_if hB hf
          refine x_aload_n 0 dX11_terms_77 rfl rfl ?_
          refine x_getI (v := (I 0 18)) dX11_terms_78 lm_0 fl_X11_169 rfl rfl ?_
          refine x_if_ne 131 dX11_terms_81 (by decide) (fun hB => ?_) (fun hB => ?_)
          · replace hf := f_el hB hf
            refine x_aload_n 0 dX11_terms_131 rfl rfl ?_
            refine x_aload_n 0 dX11_terms_132 rfl rfl ?_
            refine x_getI (v := (I 0 23)) dX11_terms_133 lm_0 fl_X11_287 rfl rfl ?_
            refine x_callVi [.int (I 0 23)] (c_X11_taken (I := I) (L := L) (I 0 23)) dX11_terms_136 lk_X11_269 lm_0 rfl cd_X11_taken rfl rfl (Nat.le_of_ble_eq_true rfl) ⟨rfl, rfl, Nat.le_of_ble_eq_true rfl, Nat.le_of_ble_eq_true rfl⟩ ?_
            cases hf
            exact x_iret dX11_terms_139 rfl rfl
          · replace hf := f_if hB hf
            refine x_aload_n 0 dX11_terms_84 rfl rfl ?_
            refine x_getR dX11_terms_85 lm_0 fl_X11_7 rfl ?_
            refine x_bipush (v := (7)) dX11_terms_88 (by decide) ?_
            refine x_aload_n 0 dX11_terms_90 rfl rfl ?_
            refine x_getR dX11_terms_91 lm_0 fl_X11_7 rfl ?_
            refine x_sipush (v := (1719)) dX11_terms_94 (by decide) ?_
            refine x_iald (j := 1719) (v := (I 1 1719)) dX11_terms_97 lm_1 (by decide +kernel) (by decide +kernel) rfl ?_
            obtain ⟨I11, hI11, hf⟩ := f_lt hf
            refine x_iast (j0 := 7) dX11_terms_98 lm_1 (by decide +kernel) (by decide +kernel) hI11 ?_
            refine x_bipush (v := (60)) dX11_terms_99 (by decide) ?_
            refine x_istore_n [(3, .int (60 : Int32)), (0, .ref 0)] dX11_terms_101 rfl (by decide) rfl ?_
            refine x_lv [(0, .ref 0), (3, .int (60 : Int32))] [1, 0] rfl ?_
            refine l_X11_terms_102 (L)   _ _ _ hf
        · replace hf := f_el hB hf
          refine x_aload_n 0 dX11_terms_71 rfl rfl ?_
          refine x_iconst (v := (2)) dX11_terms_72 (by decide) ?_
          refine x_callVi [.int (2 : Int32)] (c_X11_fails (I := I) (L := L) (2 : Int32)) dX11_terms_73 lk_X11_181 lm_0 rfl cd_X11_fails rfl rfl (Nat.le_of_ble_eq_true rfl) ⟨rfl, rfl, Nat.le_of_ble_eq_true rfl, Nat.le_of_ble_eq_true rfl⟩ ?_
          refine x_pop dX11_terms_76 rfl ?_
          refine x_aload_n 0 dX11_terms_77 rfl rfl ?_
          refine x_getI (v := ((f_X11_fails I (2 : Int32)).2 0 18)) dX11_terms_78 lm_0 fl_X11_169 rfl rfl ?_
          refine x_if_ne 131 dX11_terms_81 (by decide) (fun hB => ?_) (fun hB => ?_)
          · replace hf := f_el hB hf
            refine x_aload_n 0 dX11_terms_131 rfl rfl ?_
            refine x_aload_n 0 dX11_terms_132 rfl rfl ?_
            refine x_getI (v := ((f_X11_fails I (2 : Int32)).2 0 23)) dX11_terms_133 lm_0 fl_X11_287 rfl rfl ?_
            refine x_callVi [.int ((f_X11_fails I (2 : Int32)).2 0 23)] (c_X11_taken (I := (f_X11_fails I (2 : Int32)).2) (L := L) ((f_X11_fails I (2 : Int32)).2 0 23)) dX11_terms_136 lk_X11_269 lm_0 rfl cd_X11_taken rfl rfl (Nat.le_of_ble_eq_true rfl) ⟨rfl, rfl, Nat.le_of_ble_eq_true rfl, Nat.le_of_ble_eq_true rfl⟩ ?_
            cases hf
            exact x_iret dX11_terms_139 rfl rfl
          · replace hf := f_if hB hf
            refine x_aload_n 0 dX11_terms_84 rfl rfl ?_
            refine x_getR dX11_terms_85 lm_0 fl_X11_7 rfl ?_
            refine x_bipush (v := (7)) dX11_terms_88 (by decide) ?_
            refine x_aload_n 0 dX11_terms_90 rfl rfl ?_
            refine x_getR dX11_terms_91 lm_0 fl_X11_7 rfl ?_
            refine x_sipush (v := (1719)) dX11_terms_94 (by decide) ?_
            refine x_iald (j := 1719) (v := ((f_X11_fails I (2 : Int32)).2 1 1719)) dX11_terms_97 lm_1 (by decide +kernel) (by decide +kernel) rfl ?_
            obtain ⟨I17, hI17, hf⟩ := f_lt hf
            refine x_iast (j0 := 7) dX11_terms_98 lm_1 (by decide +kernel) (by decide +kernel) hI17 ?_
            refine x_bipush (v := (60)) dX11_terms_99 (by decide) ?_
            refine x_istore_n [(3, .int (60 : Int32)), (0, .ref 0)] dX11_terms_101 rfl (by decide) rfl ?_
            refine x_lv [(0, .ref 0), (3, .int (60 : Int32))] [1, 0] rfl ?_
            refine l_X11_terms_102 (L)   _ _ _ hf
  · replace hf := f_el hB hf
    refine x_aload_n 0 dX11_terms_11 rfl rfl ?_
    refine x_iconst (v := (1)) dX11_terms_12 (by decide) ?_
    refine x_callVi [.int (1 : Int32)] (c_X11_refuse (I := q1.2) (L := L) (1 : Int32)) dX11_terms_13 lk_X11_99 lm_0 rfl cd_X11_refuse rfl rfl (Nat.le_of_ble_eq_true rfl) ⟨rfl, rfl, Nat.le_of_ble_eq_true rfl, Nat.le_of_ble_eq_true rfl⟩ ?_
    cases hf
    exact x_iret dX11_terms_16 rfl rfl
set_option maxRecDepth 100000 in
set_option maxHeartbeats 4000000 in
theorem c_X11_isBed {I : z_I} {L : z_L} (p0 : Int32)  : z_C layM yX11_isBed cX11_isBed 2 (some .boolean) ({ frames := 0, cells := 0, slots := 0, locals := 0 } : Room) [.ref 0, .int p0] I L (some (.int (zb (f_X11_isBed I p0))), I, L) := by
  obtain ⟨r, hf⟩ : ∃ r, f_X11_isBed I p0 = r := ⟨_, rfl⟩
  rw [hf]
  refine z_C.of (by decide) (Nat.le_of_ble_eq_true rfl) ?_
  show z_X layM RX11 cX11_isBed 2 (some .boolean) ({ frames := 0, cells := 0, slots := 0, locals := 0 } : Room) 0 [(0, .ref 0), (1, .int p0)] [] I L (some (.int (zb r)), I, L)
  unfold f_X11_isBed at hf
  refine x_iload_n 1 dX11_isBed_0 rfl rfl ?_
  refine x_if_lt 18 dX11_isBed_1 (by decide) (fun hB => ?_) (fun hB => ?_)
  · replace hf := t_if hB hf
    refine x_iconst (v := (0)) dX11_isBed_18 (by decide) ?_
    subst hf
    exact x_zret (b := false) dX11_isBed_19 rfl rfl
  · replace hf := t_el hB hf
    refine x_iload_n 1 dX11_isBed_4 rfl rfl ?_
    refine x_aload_n 0 dX11_isBed_5 rfl rfl ?_
    refine x_getR dX11_isBed_6 lm_0 fl_X11_7 rfl ?_
    refine x_iconst (v := (0)) dX11_isBed_9 (by decide) ?_
    refine x_iald (j := 0) (v := (I 1 0)) dX11_isBed_10 lm_1 (by decide +kernel) (by decide +kernel) rfl ?_
    refine x_icmp_ge 18 dX11_isBed_11 (by decide) (fun hB => ?_) (fun hB => ?_)
    · replace hf := t_if hB hf
      refine x_iconst (v := (0)) dX11_isBed_18 (by decide) ?_
      subst hf
      exact x_zret (b := false) dX11_isBed_19 rfl rfl
    · replace hf := t_el hB hf
      refine x_iconst (v := (1)) dX11_isBed_14 (by decide) ?_
      refine x_goto 19 dX11_isBed_15 (by decide) ?_
      subst hf
      exact x_zret (b := true) dX11_isBed_19 rfl rfl
set_option maxRecDepth 100000 in
set_option maxHeartbeats 4000000 in
theorem c_X11_isCase {I : z_I} {L : z_L} (p0 : Int32)  : z_C layM yX11_isCase cX11_isCase 2 (some .boolean) ({ frames := 0, cells := 0, slots := 0, locals := 0 } : Room) [.ref 0, .int p0] I L (some (.int (zb (f_X11_isCase I p0))), I, L) := by
  obtain ⟨r, hf⟩ : ∃ r, f_X11_isCase I p0 = r := ⟨_, rfl⟩
  rw [hf]
  refine z_C.of (by decide) (Nat.le_of_ble_eq_true rfl) ?_
  show z_X layM RX11 cX11_isCase 2 (some .boolean) ({ frames := 0, cells := 0, slots := 0, locals := 0 } : Room) 0 [(0, .ref 0), (1, .int p0)] [] I L (some (.int (zb r)), I, L)
  unfold f_X11_isCase at hf
  refine x_iload_n 1 dX11_isCase_0 rfl rfl ?_
  refine x_if_lt 18 dX11_isCase_1 (by decide) (fun hB => ?_) (fun hB => ?_)
  · replace hf := t_if hB hf
    refine x_iconst (v := (0)) dX11_isCase_18 (by decide) ?_
    subst hf
    exact x_zret (b := false) dX11_isCase_19 rfl rfl
  · replace hf := t_el hB hf
    refine x_iload_n 1 dX11_isCase_4 rfl rfl ?_
    refine x_aload_n 0 dX11_isCase_5 rfl rfl ?_
    refine x_getR dX11_isCase_6 lm_0 fl_X11_7 rfl ?_
    refine x_iconst (v := (1)) dX11_isCase_9 (by decide) ?_
    refine x_iald (j := 1) (v := (I 1 1)) dX11_isCase_10 lm_1 (by decide +kernel) (by decide +kernel) rfl ?_
    refine x_icmp_ge 18 dX11_isCase_11 (by decide) (fun hB => ?_) (fun hB => ?_)
    · replace hf := t_if hB hf
      refine x_iconst (v := (0)) dX11_isCase_18 (by decide) ?_
      subst hf
      exact x_zret (b := false) dX11_isCase_19 rfl rfl
    · replace hf := t_el hB hf
      refine x_iconst (v := (1)) dX11_isCase_14 (by decide) ?_
      refine x_goto 19 dX11_isCase_15 (by decide) ?_
      subst hf
      exact x_zret (b := true) dX11_isCase_19 rfl rfl
set_option maxRecDepth 100000 in
set_option maxHeartbeats 4000000 in
theorem c_X11_isClaim {I : z_I} {L : z_L} (p0 : Int32)  : z_C layM yX11_isClaim cX11_isClaim 2 (some .boolean) ({ frames := 0, cells := 0, slots := 0, locals := 0 } : Room) [.ref 0, .int p0] I L (some (.int (zb (f_X11_isClaim I p0))), I, L) := by
  obtain ⟨r, hf⟩ : ∃ r, f_X11_isClaim I p0 = r := ⟨_, rfl⟩
  rw [hf]
  refine z_C.of (by decide) (Nat.le_of_ble_eq_true rfl) ?_
  show z_X layM RX11 cX11_isClaim 2 (some .boolean) ({ frames := 0, cells := 0, slots := 0, locals := 0 } : Room) 0 [(0, .ref 0), (1, .int p0)] [] I L (some (.int (zb r)), I, L)
  unfold f_X11_isClaim at hf
  refine x_iload_n 1 dX11_isClaim_0 rfl rfl ?_
  refine x_if_lt 18 dX11_isClaim_1 (by decide) (fun hB => ?_) (fun hB => ?_)
  · replace hf := t_if hB hf
    refine x_iconst (v := (0)) dX11_isClaim_18 (by decide) ?_
    subst hf
    exact x_zret (b := false) dX11_isClaim_19 rfl rfl
  · replace hf := t_el hB hf
    refine x_iload_n 1 dX11_isClaim_4 rfl rfl ?_
    refine x_aload_n 0 dX11_isClaim_5 rfl rfl ?_
    refine x_getR dX11_isClaim_6 lm_0 fl_X11_7 rfl ?_
    refine x_iconst (v := (2)) dX11_isClaim_9 (by decide) ?_
    refine x_iald (j := 2) (v := (I 1 2)) dX11_isClaim_10 lm_1 (by decide +kernel) (by decide +kernel) rfl ?_
    refine x_icmp_ge 18 dX11_isClaim_11 (by decide) (fun hB => ?_) (fun hB => ?_)
    · replace hf := t_if hB hf
      refine x_iconst (v := (0)) dX11_isClaim_18 (by decide) ?_
      subst hf
      exact x_zret (b := false) dX11_isClaim_19 rfl rfl
    · replace hf := t_el hB hf
      refine x_iconst (v := (1)) dX11_isClaim_14 (by decide) ?_
      refine x_goto 19 dX11_isClaim_15 (by decide) ?_
      subst hf
      exact x_zret (b := true) dX11_isClaim_19 rfl rfl
set_option maxRecDepth 100000 in
set_option maxHeartbeats 4000000 in
theorem c_X11_isScholar {I : z_I} {L : z_L} (p0 : Int32)  : z_C layM yX11_isScholar cX11_isScholar 2 (some .boolean) ({ frames := 0, cells := 0, slots := 0, locals := 0 } : Room) [.ref 0, .int p0] I L (some (.int (zb (f_X11_isScholar I p0))), I, L) := by
  obtain ⟨r, hf⟩ : ∃ r, f_X11_isScholar I p0 = r := ⟨_, rfl⟩
  rw [hf]
  refine z_C.of (by decide) (Nat.le_of_ble_eq_true rfl) ?_
  show z_X layM RX11 cX11_isScholar 2 (some .boolean) ({ frames := 0, cells := 0, slots := 0, locals := 0 } : Room) 0 [(0, .ref 0), (1, .int p0)] [] I L (some (.int (zb r)), I, L)
  unfold f_X11_isScholar at hf
  refine x_iload_n 1 dX11_isScholar_0 rfl rfl ?_
  refine x_if_lt 18 dX11_isScholar_1 (by decide) (fun hB => ?_) (fun hB => ?_)
  · replace hf := t_if hB hf
    refine x_iconst (v := (0)) dX11_isScholar_18 (by decide) ?_
    subst hf
    exact x_zret (b := false) dX11_isScholar_19 rfl rfl
  · replace hf := t_el hB hf
    refine x_iload_n 1 dX11_isScholar_4 rfl rfl ?_
    refine x_aload_n 0 dX11_isScholar_5 rfl rfl ?_
    refine x_getR dX11_isScholar_6 lm_0 fl_X11_7 rfl ?_
    refine x_iconst (v := (3)) dX11_isScholar_9 (by decide) ?_
    refine x_iald (j := 3) (v := (I 1 3)) dX11_isScholar_10 lm_1 (by decide +kernel) (by decide +kernel) rfl ?_
    refine x_icmp_ge 18 dX11_isScholar_11 (by decide) (fun hB => ?_) (fun hB => ?_)
    · replace hf := t_if hB hf
      refine x_iconst (v := (0)) dX11_isScholar_18 (by decide) ?_
      subst hf
      exact x_zret (b := false) dX11_isScholar_19 rfl rfl
    · replace hf := t_el hB hf
      refine x_iconst (v := (1)) dX11_isScholar_14 (by decide) ?_
      refine x_goto 19 dX11_isScholar_15 (by decide) ?_
      subst hf
      exact x_zret (b := true) dX11_isScholar_19 rfl rfl
set_option maxRecDepth 100000 in
set_option maxHeartbeats 4000000 in
theorem c_X11_allCases {I : z_I} {L : z_L}   : z_C layM yX11_allCases cX11_allCases 1 (some .int) ({ frames := 0, cells := 0, slots := 0, locals := 0 } : Room) [.ref 0] I L (some (.int (f_X11_allCases I)), I, L) := by
  obtain ⟨r, hf⟩ : ∃ r, f_X11_allCases I = r := ⟨_, rfl⟩
  rw [hf]
  refine z_C.of (by decide) (Nat.le_of_ble_eq_true rfl) ?_
  show z_X layM RX11 cX11_allCases 1 (some .int) ({ frames := 0, cells := 0, slots := 0, locals := 0 } : Room) 0 [(0, .ref 0)] [] I L (some (.int r), I, L)
  unfold f_X11_allCases at hf
  refine x_iconst (v := (1)) dX11_allCases_0 (by decide) ?_
  refine x_aload_n 0 dX11_allCases_1 rfl rfl ?_
  refine x_getR dX11_allCases_2 lm_0 fl_X11_7 rfl ?_
  refine x_iconst (v := (1)) dX11_allCases_5 (by decide) ?_
  refine x_iald (j := 1) (v := (I 1 1)) dX11_allCases_6 lm_1 (by decide +kernel) (by decide +kernel) rfl ?_
  refine x_ishl dX11_allCases_7 ?_
  refine x_iconst (v := (1)) dX11_allCases_8 (by decide) ?_
  refine x_isub dX11_allCases_9 ?_
  subst hf
  exact x_iret dX11_allCases_10 rfl rfl
set_option maxRecDepth 100000 in
set_option maxHeartbeats 4000000 in
theorem c_X11_areCases {I : z_I} {L : z_L} (p0 : Int64)  : z_C layM yX11_areCases cX11_areCases 3 (some .boolean) ({ frames := 1, cells := 0, slots := 0, locals := 25 } : Room) [.ref 0, .long p0] I L (some (.int (zb (f_X11_areCases I p0))), I, L) := by
  obtain ⟨r, hf⟩ : ∃ r, f_X11_areCases I p0 = r := ⟨_, rfl⟩
  rw [hf]
  refine z_C.of (by decide) (Nat.le_of_ble_eq_true rfl) ?_
  show z_X layM RX11 cX11_areCases 3 (some .boolean) ({ frames := 1, cells := 0, slots := 0, locals := 25 } : Room) 0 [(0, .ref 0), (1, .long p0)] [] I L (some (.int (zb r)), I, L)
  unfold f_X11_areCases at hf
  refine x_lload_n 1 dX11_areCases_0 rfl rfl ?_
  refine x_lconst (v := (0)) dX11_areCases_1 (by decide) ?_
  refine x_aload_n 0 dX11_areCases_2 rfl rfl ?_
  refine x_callVi [] (c_X11_allCases (I := I) (L := L) ) dX11_areCases_3 lk_X11_296 lm_0 rfl cd_X11_allCases rfl rfl (Nat.le_of_ble_eq_true rfl) ⟨rfl, rfl, Nat.le_of_ble_eq_true rfl, Nat.le_of_ble_eq_true rfl⟩ ?_
  refine x_i2l dX11_areCases_6 ?_
  refine x_callSi [.long p0, .long (0 : Int64), .long ((f_X11_allCases I).toInt64)] (c_X11_isFrom (I := I) (L := L) p0 (0 : Int64) ((f_X11_allCases I).toInt64)) dX11_areCases_7 lk_X11_299 cd_X11_isFrom rfl rfl (Nat.le_of_ble_eq_true rfl) ⟨rfl, rfl, Nat.le_of_ble_eq_true rfl, Nat.le_of_ble_eq_true rfl⟩ ?_
  subst hf
  exact x_zret dX11_areCases_10 rfl rfl
set_option maxRecDepth 100000 in
set_option maxHeartbeats 4000000 in
theorem l_X11_bits_4    (I : z_I) (L : z_L) {r : Int32}  : ∀ (n : Nat) (v1 : Int32) (v2 : Int32), g_X11_bits_4   n v1 v2 = some r → z_X layM RX11 cX11_bits 3 (some .int) ({ frames := 0, cells := 0, slots := 0, locals := 0 } : Room) 4 [(1, .int v1), (2, .int v2)] [] I L (some (.int r), I, L) := by
  intro n
  induction n with
  | zero => intro v1 v2 hf; cases hf
  | succ n ih =>
    intro v1 v2 hf
    rw [g_X11_bits_4] at hf
    refine x_iload_n 1 dX11_bits_4 rfl rfl ?_
    refine x_if_eq 20 dX11_bits_5 (by decide) (fun hB => ?_) (fun hB => ?_)
    · replace hf := f_if hB hf
      refine x_iload_n 0 dX11_bits_20 rfl rfl ?_
      cases hf
      exact x_iret dX11_bits_21 rfl rfl
    · replace hf := f_el hB hf
      refine x_iinc 0 [(1, .int (v1 + (1 : Int32))), (2, .int v2)] dX11_bits_8 rfl rfl (by decide) rfl ?_
      refine x_iload_n 1 dX11_bits_11 rfl rfl ?_
      refine x_iload_n 1 dX11_bits_12 rfl rfl ?_
      refine x_iconst (v := (1)) dX11_bits_13 (by decide) ?_
      refine x_isub dX11_bits_14 ?_
      refine x_iand dX11_bits_15 ?_
      refine x_istore_n [(2, .int (v2 &&& (v2 - (1 : Int32)))), (1, .int (v1 + (1 : Int32)))] dX11_bits_16 rfl (by decide) rfl ?_
      refine x_goto 4 dX11_bits_17 (by decide) ?_
      refine x_lv [(1, .int (v1 + (1 : Int32))), (2, .int (v2 &&& (v2 - (1 : Int32))))] [1, 0] rfl ?_
      exact ih _ _ hf
set_option maxRecDepth 100000 in
set_option maxHeartbeats 4000000 in
theorem c_X11_bits {I : z_I} {L : z_L} {p0 : Int32}  {r : Int32} (hf : f_X11_bits p0 = some r) : z_C layM yX11_bits cX11_bits 3 (some .int) ({ frames := 0, cells := 0, slots := 0, locals := 0 } : Room) [.int p0] I L (some (.int r), I, L) := by
  refine z_C.of (by decide) (Nat.le_of_ble_eq_true rfl) ?_
  show z_X layM RX11 cX11_bits 3 (some .int) ({ frames := 0, cells := 0, slots := 0, locals := 0 } : Room) 0 [(0, .int p0)] [] I L (some (.int r), I, L)
  unfold f_X11_bits at hf
  refine x_iconst (v := (0)) dX11_bits_0 (by decide) ?_
  refine x_istore_n [(1, .int (0 : Int32)), (0, .int p0)] dX11_bits_1 rfl (by decide) rfl ?_
  refine x_iload_n 1 dX11_bits_2 rfl rfl ?_
  refine x_istore_n [(2, .int p0), (1, .int (0 : Int32)), (0, .int p0)] dX11_bits_3 rfl (by decide) rfl ?_
  refine x_lv [(1, .int (0 : Int32)), (2, .int p0)] [1, 0] rfl ?_
  refine l_X11_bits_4 (I) (L)   _ _ _ hf
set_option maxRecDepth 100000 in
set_option maxHeartbeats 4000000 in
theorem c_X11_truthOf {I : z_I} {L : z_L} {p0 : Int32}  {r : Int32} (hf : f_X11_truthOf I p0 = some r) : z_C layM yX11_truthOf cX11_truthOf 2 (some .int) ({ frames := 1, cells := 0, slots := 0, locals := 20 } : Room) [.ref 0, .int p0] I L (some (.int r), I, L) := by
  refine z_C.of (by decide) (Nat.le_of_ble_eq_true rfl) ?_
  show z_X layM RX11 cX11_truthOf 2 (some .int) ({ frames := 1, cells := 0, slots := 0, locals := 20 } : Room) 0 [(0, .ref 0), (1, .int p0)] [] I L (some (.int r), I, L)
  unfold f_X11_truthOf at hf
  refine x_aload_n 0 dX11_truthOf_0 rfl rfl ?_
  refine x_getR dX11_truthOf_1 lm_0 fl_X11_7 rfl ?_
  refine x_iload_n 1 dX11_truthOf_4 rfl rfl ?_
  refine x_callSi [.int p0] (c_X11_claimRow (I := I) (L := L) p0) dX11_truthOf_5 lk_X11_230 cd_X11_claimRow rfl rfl (Nat.le_of_ble_eq_true rfl) ⟨rfl, rfl, Nat.le_of_ble_eq_true rfl, Nat.le_of_ble_eq_true rfl⟩ ?_
  refine x_iconst (v := (2)) dX11_truthOf_8 (by decide) ?_
  refine x_iadd dX11_truthOf_9 ?_
  obtain ⟨h1, hf⟩ := f_gd hf
  refine x_iald (j := (((f_X11_claimRow p0) + (2 : Int32))).toNatClampNeg) (v := (I 1 (((f_X11_claimRow p0) + (2 : Int32))).toNatClampNeg)) dX11_truthOf_10 lm_1 h1 rfl rfl ?_
  cases hf
  exact x_iret dX11_truthOf_11 rfl rfl
set_option maxRecDepth 100000 in
set_option maxHeartbeats 4000000 in
theorem l_X11_weightOf_4   (v1 : Int32) (I : z_I) (L : z_L) {r : Int32}  : ∀ (n : Nat) (v2 : Int32) (v3 : Int32), g_X11_weightOf_4 v1 I  n v2 v3 = some r → z_X layM RX11 cX11_weightOf 4 (some .int) ({ frames := 1, cells := 0, slots := 0, locals := 22 } : Room) 4 [(0, .ref 0), (1, .int v1), (2, .int v2), (3, .int v3)] [] I L (some (.int r), I, L) := by
  intro n
  induction n with
  | zero => intro v2 v3 hf; cases hf
  | succ n ih =>
    intro v2 v3 hf
    rw [g_X11_weightOf_4] at hf
    refine x_iload_n 3 dX11_weightOf_4 rfl rfl ?_
    refine x_aload_n 0 dX11_weightOf_5 rfl rfl ?_
    refine x_getR dX11_weightOf_6 lm_0 fl_X11_7 rfl ?_
    refine x_iconst (v := (1)) dX11_weightOf_9 (by decide) ?_
    refine x_iald (j := 1) (v := (I 1 1)) dX11_weightOf_10 lm_1 (by decide +kernel) (by decide +kernel) rfl ?_
    refine x_icmp_ge 45 dX11_weightOf_11 (by decide) (fun hB => ?_) (fun hB => ?_)
    · replace hf := f_if hB hf
      refine x_iload_n 2 dX11_weightOf_45 rfl rfl ?_
      cases hf
      exact x_iret dX11_weightOf_46 rfl rfl
    · replace hf := f_el hB hf
      refine x_iload_n 2 dX11_weightOf_14 rfl rfl ?_
      refine x_aload_n 0 dX11_weightOf_15 rfl rfl ?_
      refine x_iload_n 1 dX11_weightOf_16 rfl rfl ?_
      refine x_iload_n 3 dX11_weightOf_17 rfl rfl ?_
      refine x_callVi [.int v1, .int v3] (c_X11_isIn (I := I) (L := L) v1 v3) dX11_weightOf_18 lk_X11_236 lm_0 rfl cd_X11_isIn rfl rfl (Nat.le_of_ble_eq_true rfl) ⟨rfl, rfl, Nat.le_of_ble_eq_true rfl, Nat.le_of_ble_eq_true rfl⟩ ?_
      refine x_if_eqB 36 dX11_weightOf_21 (by decide) (fun hB => ?_) (fun hB => ?_)
      · replace hf := f_el hB hf
        refine x_iconst (v := (0)) dX11_weightOf_36 (by decide) ?_
        refine x_iadd dX11_weightOf_37 ?_
        refine x_istore_n [(2, .int (v2 + (0 : Int32))), (0, .ref 0), (1, .int v1), (3, .int v3)] dX11_weightOf_38 rfl (by decide) rfl ?_
        refine x_iinc 3 [(3, .int (v3 + (1 : Int32))), (2, .int (v2 + (0 : Int32))), (0, .ref 0), (1, .int v1)] dX11_weightOf_39 rfl rfl (by decide) rfl ?_
        refine x_goto 4 dX11_weightOf_42 (by decide) ?_
        refine x_lv [(0, .ref 0), (1, .int v1), (2, .int (v2 + (0 : Int32))), (3, .int (v3 + (1 : Int32)))] [2, 3, 1, 0] rfl ?_
        exact ih _ _ hf
      · replace hf := f_if hB hf
        refine x_aload_n 0 dX11_weightOf_24 rfl rfl ?_
        refine x_getR dX11_weightOf_25 lm_0 fl_X11_7 rfl ?_
        refine x_bipush (v := (22)) dX11_weightOf_28 (by decide) ?_
        refine x_iload_n 3 dX11_weightOf_30 rfl rfl ?_
        refine x_iadd dX11_weightOf_31 ?_
        obtain ⟨h2, hf⟩ := f_gd hf
        refine x_iald (j := (((22 : Int32) + v3)).toNatClampNeg) (v := (I 1 (((22 : Int32) + v3)).toNatClampNeg)) dX11_weightOf_32 lm_1 h2 rfl rfl ?_
        refine x_goto 37 dX11_weightOf_33 (by decide) ?_
        refine x_iadd dX11_weightOf_37 ?_
        obtain ⟨w3, hw3, hf⟩ := f_lt hf
        refine x_topI hw3 ?_
        refine x_istore_n [(2, .int w3), (0, .ref 0), (1, .int v1), (3, .int v3)] dX11_weightOf_38 rfl (by decide) rfl ?_
        refine x_iinc 3 [(3, .int (v3 + (1 : Int32))), (2, .int w3), (0, .ref 0), (1, .int v1)] dX11_weightOf_39 rfl rfl (by decide) rfl ?_
        refine x_goto 4 dX11_weightOf_42 (by decide) ?_
        refine x_lv [(0, .ref 0), (1, .int v1), (2, .int w3), (3, .int (v3 + (1 : Int32)))] [2, 3, 1, 0] rfl ?_
        exact ih _ _ hf
set_option maxRecDepth 100000 in
set_option maxHeartbeats 4000000 in
theorem c_X11_weightOf {I : z_I} {L : z_L} {p0 : Int32}  {r : Int32} (hf : f_X11_weightOf I p0 = some r) : z_C layM yX11_weightOf cX11_weightOf 4 (some .int) ({ frames := 1, cells := 0, slots := 0, locals := 22 } : Room) [.ref 0, .int p0] I L (some (.int r), I, L) := by
  refine z_C.of (by decide) (Nat.le_of_ble_eq_true rfl) ?_
  show z_X layM RX11 cX11_weightOf 4 (some .int) ({ frames := 1, cells := 0, slots := 0, locals := 22 } : Room) 0 [(0, .ref 0), (1, .int p0)] [] I L (some (.int r), I, L)
  unfold f_X11_weightOf at hf
  refine x_iconst (v := (0)) dX11_weightOf_0 (by decide) ?_
  refine x_istore_n [(2, .int (0 : Int32)), (0, .ref 0), (1, .int p0)] dX11_weightOf_1 rfl (by decide) rfl ?_
  refine x_iconst (v := (0)) dX11_weightOf_2 (by decide) ?_
  refine x_istore_n [(3, .int (0 : Int32)), (2, .int (0 : Int32)), (0, .ref 0), (1, .int p0)] dX11_weightOf_3 rfl (by decide) rfl ?_
  refine x_lv [(0, .ref 0), (1, .int p0), (2, .int (0 : Int32)), (3, .int (0 : Int32))] [2, 3, 1, 0] rfl ?_
  refine l_X11_weightOf_4 p0 (I) (L)   _ _ _ hf
set_option maxRecDepth 100000 in
set_option maxHeartbeats 4000000 in
theorem l_X11_partBy_8   (v1 : Int32) (v2 : Int32) (I : z_I) (L : z_L) {r : Int32}  : ∀ (n : Nat) (v3 : Int32) (v4 : Int32), g_X11_partBy_8 v1 v2 I  n v3 v4 = some r → z_X layM RX11 cX11_partBy 5 (some .int) ({ frames := 2, cells := 0, slots := 0, locals := 41 } : Room) 8 [(0, .ref 0), (1, .int v1), (2, .int v2), (3, .int v3), (4, .int v4)] [] I L (some (.int r), I, L) := by
  intro n
  induction n with
  | zero => intro v3 v4 hf; cases hf
  | succ n ih =>
    intro v3 v4 hf
    rw [g_X11_partBy_8] at hf
    refine x_iload 4 dX11_partBy_8 rfl ?_
    refine x_aload_n 0 dX11_partBy_10 rfl rfl ?_
    refine x_getR dX11_partBy_11 lm_0 fl_X11_7 rfl ?_
    refine x_iconst (v := (2)) dX11_partBy_14 (by decide) ?_
    refine x_iald (j := 2) (v := (I 1 2)) dX11_partBy_15 lm_1 (by decide +kernel) (by decide +kernel) rfl ?_
    refine x_icmp_ge 69 dX11_partBy_16 (by decide) (fun hB => ?_) (fun hB => ?_)
    · replace hf := f_if hB hf
      refine x_iload_n 3 dX11_partBy_69 rfl rfl ?_
      cases hf
      exact x_iret dX11_partBy_70 rfl rfl
    · replace hf := f_el hB hf
      refine x_aload_n 0 dX11_partBy_19 rfl rfl ?_
      refine x_iload_n 2 dX11_partBy_20 rfl rfl ?_
      refine x_iload 4 dX11_partBy_21 rfl ?_
      refine x_callVi [.int v2, .int v4] (c_X11_isIn (I := I) (L := L) v2 v4) dX11_partBy_23 lk_X11_236 lm_0 rfl cd_X11_isIn rfl rfl (Nat.le_of_ble_eq_true rfl) ⟨rfl, rfl, Nat.le_of_ble_eq_true rfl, Nat.le_of_ble_eq_true rfl⟩ ?_
      refine x_if_eqB 63 dX11_partBy_26 (by decide) (fun hB => ?_) (fun hB => ?_)
      · replace hf := f_el hB hf
        refine x_iinc 4 [(4, .int (v4 + (1 : Int32))), (0, .ref 0), (1, .int v1), (2, .int v2), (3, .int v3)] dX11_partBy_63 rfl rfl (by decide) rfl ?_
        refine x_goto 8 dX11_partBy_66 (by decide) ?_
        refine x_lv [(0, .ref 0), (1, .int v1), (2, .int v2), (3, .int v3), (4, .int (v4 + (1 : Int32)))] [1, 2, 3, 4, 0] rfl ?_
        exact ih _ _ hf
      · replace hf := f_if hB hf
        refine x_iload_n 3 dX11_partBy_29 rfl rfl ?_
        refine x_aload_n 0 dX11_partBy_30 rfl rfl ?_
        refine x_aload_n 0 dX11_partBy_31 rfl rfl ?_
        refine x_iload 4 dX11_partBy_32 rfl ?_
        obtain ⟨q2, hq3, hf⟩ := f_bd hf
        refine x_callVi [.int v4] (c_X11_truthOf (I := I) (L := L)  hq3) dX11_partBy_34 lk_X11_303 lm_0 rfl cd_X11_truthOf rfl rfl (Nat.le_of_ble_eq_true rfl) ⟨rfl, rfl, Nat.le_of_ble_eq_true rfl, Nat.le_of_ble_eq_true rfl⟩ ?_
        refine x_iload_n 1 dX11_partBy_37 rfl rfl ?_
        refine x_callVi [.int q2, .int v1] (c_X11_isIn (I := I) (L := L) q2 v1) dX11_partBy_38 lk_X11_236 lm_0 rfl cd_X11_isIn rfl rfl (Nat.le_of_ble_eq_true rfl) ⟨rfl, rfl, Nat.le_of_ble_eq_true rfl, Nat.le_of_ble_eq_true rfl⟩ ?_
        refine x_if_eqB 53 dX11_partBy_41 (by decide) (fun hB => ?_) (fun hB => ?_)
        · replace hf := f_el hB hf
          refine x_aload_n 0 dX11_partBy_53 rfl rfl ?_
          refine x_iload 4 dX11_partBy_54 rfl ?_
          obtain ⟨q6, hq7, hf⟩ := f_bd hf
          refine x_callVi [.int v4] (c_X11_truthOf (I := I) (L := L)  hq7) dX11_partBy_56 lk_X11_303 lm_0 rfl cd_X11_truthOf rfl rfl (Nat.le_of_ble_eq_true rfl) ⟨rfl, rfl, Nat.le_of_ble_eq_true rfl, Nat.le_of_ble_eq_true rfl⟩ ?_
          refine x_iconst (v := (-1)) dX11_partBy_59 (by decide) ?_
          refine x_ixor dX11_partBy_60 ?_
          refine x_iand dX11_partBy_61 ?_
          refine x_istore_n [(3, .int (v3 &&& (q6 ^^^ (-1 : Int32)))), (0, .ref 0), (1, .int v1), (2, .int v2), (4, .int v4)] dX11_partBy_62 rfl (by decide) rfl ?_
          refine x_iinc 4 [(4, .int (v4 + (1 : Int32))), (3, .int (v3 &&& (q6 ^^^ (-1 : Int32)))), (0, .ref 0), (1, .int v1), (2, .int v2)] dX11_partBy_63 rfl rfl (by decide) rfl ?_
          refine x_goto 8 dX11_partBy_66 (by decide) ?_
          refine x_lv [(0, .ref 0), (1, .int v1), (2, .int v2), (3, .int (v3 &&& (q6 ^^^ (-1 : Int32)))), (4, .int (v4 + (1 : Int32)))] [2, 3, 4, 1, 0] rfl ?_
          exact ih _ _ hf
        · replace hf := f_if hB hf
          refine x_aload_n 0 dX11_partBy_44 rfl rfl ?_
          refine x_iload 4 dX11_partBy_45 rfl ?_
          obtain ⟨q4, hq5, hf⟩ := f_bd hf
          refine x_callVi [.int v4] (c_X11_truthOf (I := I) (L := L)  hq5) dX11_partBy_47 lk_X11_303 lm_0 rfl cd_X11_truthOf rfl rfl (Nat.le_of_ble_eq_true rfl) ⟨rfl, rfl, Nat.le_of_ble_eq_true rfl, Nat.le_of_ble_eq_true rfl⟩ ?_
          refine x_goto 61 dX11_partBy_50 (by decide) ?_
          refine x_iand dX11_partBy_61 ?_
          refine x_istore_n [(3, .int (v3 &&& q4)), (0, .ref 0), (1, .int v1), (2, .int v2), (4, .int v4)] dX11_partBy_62 rfl (by decide) rfl ?_
          refine x_iinc 4 [(4, .int (v4 + (1 : Int32))), (3, .int (v3 &&& q4)), (0, .ref 0), (1, .int v1), (2, .int v2)] dX11_partBy_63 rfl rfl (by decide) rfl ?_
          refine x_goto 8 dX11_partBy_66 (by decide) ?_
          refine x_lv [(0, .ref 0), (1, .int v1), (2, .int v2), (3, .int (v3 &&& q4)), (4, .int (v4 + (1 : Int32)))] [2, 3, 4, 1, 0] rfl ?_
          exact ih _ _ hf
set_option maxRecDepth 100000 in
set_option maxHeartbeats 4000000 in
theorem c_X11_partBy {I : z_I} {L : z_L} {p0 : Int32} {p1 : Int32}  {r : Int32} (hf : f_X11_partBy I p0 p1 = some r) : z_C layM yX11_partBy cX11_partBy 5 (some .int) ({ frames := 2, cells := 0, slots := 0, locals := 41 } : Room) [.ref 0, .int p0, .int p1] I L (some (.int r), I, L) := by
  refine z_C.of (by decide) (Nat.le_of_ble_eq_true rfl) ?_
  show z_X layM RX11 cX11_partBy 5 (some .int) ({ frames := 2, cells := 0, slots := 0, locals := 41 } : Room) 0 [(0, .ref 0), (1, .int p0), (2, .int p1)] [] I L (some (.int r), I, L)
  unfold f_X11_partBy at hf
  refine x_aload_n 0 dX11_partBy_0 rfl rfl ?_
  refine x_callVi [] (c_X11_allCases (I := I) (L := L) ) dX11_partBy_1 lk_X11_296 lm_0 rfl cd_X11_allCases rfl rfl (Nat.le_of_ble_eq_true rfl) ⟨rfl, rfl, Nat.le_of_ble_eq_true rfl, Nat.le_of_ble_eq_true rfl⟩ ?_
  refine x_istore_n [(3, .int (f_X11_allCases I)), (0, .ref 0), (1, .int p0), (2, .int p1)] dX11_partBy_4 rfl (by decide) rfl ?_
  refine x_iconst (v := (0)) dX11_partBy_5 (by decide) ?_
  refine x_istore [(4, .int (0 : Int32)), (3, .int (f_X11_allCases I)), (0, .ref 0), (1, .int p0), (2, .int p1)] dX11_partBy_6 (by decide) rfl ?_
  refine x_lv [(0, .ref 0), (1, .int p0), (2, .int p1), (3, .int (f_X11_allCases I)), (4, .int (0 : Int32))] [2, 3, 4, 1, 0] rfl ?_
  refine l_X11_partBy_8 p0 p1 (I) (L)   _ _ _ hf
set_option maxRecDepth 100000 in
set_option maxHeartbeats 4000000 in
theorem c_X11_isFirst {I : z_I} {L : z_L} {p0 : Int32} {p1 : Int32}  {r : Bool} (hf : f_X11_isFirst I p0 p1 = some r) : z_C layM yX11_isFirst cX11_isFirst 3 (some .boolean) ({ frames := 3, cells := 0, slots := 0, locals := 65 } : Room) [.ref 0, .int p0, .int p1] I L (some (.int (zb r)), I, L) := by
  refine z_C.of (by decide) (Nat.le_of_ble_eq_true rfl) ?_
  show z_X layM RX11 cX11_isFirst 3 (some .boolean) ({ frames := 3, cells := 0, slots := 0, locals := 65 } : Room) 0 [(0, .ref 0), (1, .int p0), (2, .int p1)] [] I L (some (.int (zb r)), I, L)
  unfold f_X11_isFirst at hf
  refine x_aload_n 0 dX11_isFirst_0 rfl rfl ?_
  refine x_iload_n 1 dX11_isFirst_1 rfl rfl ?_
  refine x_iload_n 2 dX11_isFirst_2 rfl rfl ?_
  obtain ⟨q1, hq2, hf⟩ := f_bd hf
  refine x_callVi [.int p0, .int p1] (c_X11_partBy (I := I) (L := L)  hq2) dX11_isFirst_3 lk_X11_306 lm_0 rfl cd_X11_partBy rfl rfl (Nat.le_of_ble_eq_true rfl) ⟨rfl, rfl, Nat.le_of_ble_eq_true rfl, Nat.le_of_ble_eq_true rfl⟩ ?_
  refine x_iconst (v := (1)) dX11_isFirst_6 (by decide) ?_
  refine x_iload_n 1 dX11_isFirst_7 rfl rfl ?_
  refine x_ishl dX11_isFirst_8 ?_
  refine x_iconst (v := (1)) dX11_isFirst_9 (by decide) ?_
  refine x_isub dX11_isFirst_10 ?_
  refine x_iand dX11_isFirst_11 ?_
  refine x_if_ne 19 dX11_isFirst_12 (by decide) (fun hB => ?_) (fun hB => ?_)
  · replace hf := f_el hB hf
    refine x_iconst (v := (0)) dX11_isFirst_19 (by decide) ?_
    cases hf
    exact x_zret (b := false) dX11_isFirst_20 rfl rfl
  · replace hf := f_if hB hf
    refine x_iconst (v := (1)) dX11_isFirst_15 (by decide) ?_
    refine x_goto 20 dX11_isFirst_16 (by decide) ?_
    cases hf
    exact x_zret (b := true) dX11_isFirst_20 rfl rfl
set_option maxRecDepth 100000 in
set_option maxHeartbeats 4000000 in
theorem l_X11_partsBy_4   (v1 : Int32) (I : z_I) (L : z_L) {r : Int32}  : ∀ (n : Nat) (v2 : Int32) (v3 : Int32), g_X11_partsBy_4 v1 I  n v2 v3 = some r → z_X layM RX11 cX11_partsBy 4 (some .int) ({ frames := 4, cells := 0, slots := 0, locals := 87 } : Room) 4 [(0, .ref 0), (1, .int v1), (2, .int v2), (3, .int v3)] [] I L (some (.int r), I, L) := by
  intro n
  induction n with
  | zero => intro v2 v3 hf; cases hf
  | succ n ih =>
    intro v2 v3 hf
    rw [g_X11_partsBy_4] at hf
    refine x_iload_n 3 dX11_partsBy_4 rfl rfl ?_
    refine x_aload_n 0 dX11_partsBy_5 rfl rfl ?_
    refine x_getR dX11_partsBy_6 lm_0 fl_X11_7 rfl ?_
    refine x_iconst (v := (1)) dX11_partsBy_9 (by decide) ?_
    refine x_iald (j := 1) (v := (I 1 1)) dX11_partsBy_10 lm_1 (by decide +kernel) (by decide +kernel) rfl ?_
    refine x_icmp_ge 37 dX11_partsBy_11 (by decide) (fun hB => ?_) (fun hB => ?_)
    · replace hf := f_if hB hf
      refine x_iload_n 2 dX11_partsBy_37 rfl rfl ?_
      cases hf
      exact x_iret dX11_partsBy_38 rfl rfl
    · replace hf := f_el hB hf
      refine x_iload_n 2 dX11_partsBy_14 rfl rfl ?_
      refine x_aload_n 0 dX11_partsBy_15 rfl rfl ?_
      refine x_iload_n 3 dX11_partsBy_16 rfl rfl ?_
      refine x_iload_n 1 dX11_partsBy_17 rfl rfl ?_
      obtain ⟨q2, hq3, hf⟩ := f_bd hf
      refine x_callVi [.int v3, .int v1] (c_X11_isFirst (I := I) (L := L)  hq3) dX11_partsBy_18 lk_X11_309 lm_0 rfl cd_X11_isFirst rfl rfl (Nat.le_of_ble_eq_true rfl) ⟨rfl, rfl, Nat.le_of_ble_eq_true rfl, Nat.le_of_ble_eq_true rfl⟩ ?_
      refine x_if_eqB 28 dX11_partsBy_21 (by decide) (fun hB => ?_) (fun hB => ?_)
      · replace hf := f_el hB hf
        refine x_iconst (v := (0)) dX11_partsBy_28 (by decide) ?_
        refine x_iadd dX11_partsBy_29 ?_
        refine x_istore_n [(2, .int (v2 + (0 : Int32))), (0, .ref 0), (1, .int v1), (3, .int v3)] dX11_partsBy_30 rfl (by decide) rfl ?_
        refine x_iinc 3 [(3, .int (v3 + (1 : Int32))), (2, .int (v2 + (0 : Int32))), (0, .ref 0), (1, .int v1)] dX11_partsBy_31 rfl rfl (by decide) rfl ?_
        refine x_goto 4 dX11_partsBy_34 (by decide) ?_
        refine x_lv [(0, .ref 0), (1, .int v1), (2, .int (v2 + (0 : Int32))), (3, .int (v3 + (1 : Int32)))] [2, 3, 1, 0] rfl ?_
        exact ih _ _ hf
      · replace hf := f_if hB hf
        refine x_iconst (v := (1)) dX11_partsBy_24 (by decide) ?_
        refine x_goto 29 dX11_partsBy_25 (by decide) ?_
        refine x_iadd dX11_partsBy_29 ?_
        refine x_istore_n [(2, .int (v2 + (1 : Int32))), (0, .ref 0), (1, .int v1), (3, .int v3)] dX11_partsBy_30 rfl (by decide) rfl ?_
        refine x_iinc 3 [(3, .int (v3 + (1 : Int32))), (2, .int (v2 + (1 : Int32))), (0, .ref 0), (1, .int v1)] dX11_partsBy_31 rfl rfl (by decide) rfl ?_
        refine x_goto 4 dX11_partsBy_34 (by decide) ?_
        refine x_lv [(0, .ref 0), (1, .int v1), (2, .int (v2 + (1 : Int32))), (3, .int (v3 + (1 : Int32)))] [2, 3, 1, 0] rfl ?_
        exact ih _ _ hf
set_option maxRecDepth 100000 in
set_option maxHeartbeats 4000000 in
theorem c_X11_partsBy {I : z_I} {L : z_L} {p0 : Int32}  {r : Int32} (hf : f_X11_partsBy I p0 = some r) : z_C layM yX11_partsBy cX11_partsBy 4 (some .int) ({ frames := 4, cells := 0, slots := 0, locals := 87 } : Room) [.ref 0, .int p0] I L (some (.int r), I, L) := by
  refine z_C.of (by decide) (Nat.le_of_ble_eq_true rfl) ?_
  show z_X layM RX11 cX11_partsBy 4 (some .int) ({ frames := 4, cells := 0, slots := 0, locals := 87 } : Room) 0 [(0, .ref 0), (1, .int p0)] [] I L (some (.int r), I, L)
  unfold f_X11_partsBy at hf
  refine x_iconst (v := (0)) dX11_partsBy_0 (by decide) ?_
  refine x_istore_n [(2, .int (0 : Int32)), (0, .ref 0), (1, .int p0)] dX11_partsBy_1 rfl (by decide) rfl ?_
  refine x_iconst (v := (0)) dX11_partsBy_2 (by decide) ?_
  refine x_istore_n [(3, .int (0 : Int32)), (2, .int (0 : Int32)), (0, .ref 0), (1, .int p0)] dX11_partsBy_3 rfl (by decide) rfl ?_
  refine x_lv [(0, .ref 0), (1, .int p0), (2, .int (0 : Int32)), (3, .int (0 : Int32))] [2, 3, 1, 0] rfl ?_
  refine l_X11_partsBy_4 p0 (I) (L)   _ _ _ hf
set_option maxRecDepth 100000 in
set_option maxHeartbeats 4000000 in
theorem l_X11_yieldBy_16   (v1 : Int32) (v2 : Int32) (I : z_I) (L : z_L) {r : Int32}  : ∀ (n : Nat) (v3 : Int32) (v4 : Int32), g_X11_yieldBy_16 v1 v2 I  n v3 v4 = some r → z_X layM RX11 cX11_yieldBy 6 (some .int) ({ frames := 4, cells := 0, slots := 0, locals := 87 } : Room) 16 [(0, .ref 0), (1, .int v1), (2, .int v2), (3, .int v3), (4, .int v4)] [] I L (some (.int r), I, L) := by
  intro n
  induction n with
  | zero => intro v3 v4 hf; cases hf
  | succ n ih =>
    intro v3 v4 hf
    rw [g_X11_yieldBy_16] at hf
    refine x_iload 4 dX11_yieldBy_16 rfl ?_
    refine x_aload_n 0 dX11_yieldBy_18 rfl rfl ?_
    refine x_getR dX11_yieldBy_19 lm_0 fl_X11_7 rfl ?_
    refine x_iconst (v := (1)) dX11_yieldBy_22 (by decide) ?_
    refine x_iald (j := 1) (v := (I 1 1)) dX11_yieldBy_23 lm_1 (by decide +kernel) (by decide +kernel) rfl ?_
    refine x_icmp_ge 88 dX11_yieldBy_24 (by decide) (fun hB => ?_) (fun hB => ?_)
    · replace hf := f_if hB hf
      refine x_iload_n 3 dX11_yieldBy_88 rfl rfl ?_
      cases hf
      exact x_iret dX11_yieldBy_89 rfl rfl
    · replace hf := f_el hB hf
      refine x_aload_n 0 dX11_yieldBy_27 rfl rfl ?_
      refine x_iload 4 dX11_yieldBy_28 rfl ?_
      refine x_iload_n 2 dX11_yieldBy_30 rfl rfl ?_
      obtain ⟨q2, hq3, hf⟩ := f_bd hf
      refine x_callVi [.int v4, .int v2] (c_X11_isFirst (I := I) (L := L)  hq3) dX11_yieldBy_31 lk_X11_309 lm_0 rfl cd_X11_isFirst rfl rfl (Nat.le_of_ble_eq_true rfl) ⟨rfl, rfl, Nat.le_of_ble_eq_true rfl, Nat.le_of_ble_eq_true rfl⟩ ?_
      refine x_if_eqB 47 dX11_yieldBy_34 (by decide) (fun hB => ?_) (fun hB => ?_)
      · replace hf := f_el hB hf
        refine x_iconst (v := (0)) dX11_yieldBy_47 (by decide) ?_
        refine x_istore [(5, .int (0 : Int32)), (0, .ref 0), (1, .int v1), (2, .int v2), (3, .int v3), (4, .int v4)] dX11_yieldBy_48 (by decide) rfl ?_
        refine x_iload_n 4 dX11_yieldBy_50 rfl rfl ?_
        refine x_iconst (v := (3)) dX11_yieldBy_51 (by decide) ?_
        refine x_iload 0 dX11_yieldBy_52 rfl ?_
        refine x_aload_n 1 dX11_yieldBy_54 rfl rfl ?_
        refine x_iload_n 2 dX11_yieldBy_55 rfl rfl ?_
        obtain ⟨q14, hq15, hf⟩ := f_bd hf
        refine x_callVi [.int v1] (c_X11_truthOf (I := I) (L := L)  hq15) dX11_yieldBy_56 lk_X11_303 lm_0 rfl cd_X11_truthOf rfl rfl (Nat.le_of_ble_eq_true rfl) ⟨rfl, rfl, Nat.le_of_ble_eq_true rfl, Nat.le_of_ble_eq_true rfl⟩ ?_
        refine x_iand dX11_yieldBy_59 ?_
        obtain ⟨q16, hq17, hf⟩ := f_bd hf
        refine x_callSi [.int ((0 : Int32) &&& q14)] (c_X11_bits (I := I) (L := L)  hq17) dX11_yieldBy_60 lk_X11_312 cd_X11_bits rfl rfl (Nat.le_of_ble_eq_true rfl) ⟨rfl, rfl, Nat.le_of_ble_eq_true rfl, Nat.le_of_ble_eq_true rfl⟩ ?_
        refine x_iload 0 dX11_yieldBy_63 rfl ?_
        refine x_aload_n 1 dX11_yieldBy_65 rfl rfl ?_
        refine x_iload_n 2 dX11_yieldBy_66 rfl rfl ?_
        obtain ⟨q18, hq19, hf⟩ := f_bd hf
        refine x_callVi [.int v1] (c_X11_truthOf (I := I) (L := L)  hq19) dX11_yieldBy_67 lk_X11_303 lm_0 rfl cd_X11_truthOf rfl rfl (Nat.le_of_ble_eq_true rfl) ⟨rfl, rfl, Nat.le_of_ble_eq_true rfl, Nat.le_of_ble_eq_true rfl⟩ ?_
        refine x_iconst (v := (-1)) dX11_yieldBy_70 (by decide) ?_
        refine x_ixor dX11_yieldBy_71 ?_
        refine x_iand dX11_yieldBy_72 ?_
        obtain ⟨q20, hq21, hf⟩ := f_bd hf
        refine x_callSi [.int ((0 : Int32) &&& (q18 ^^^ (-1 : Int32)))] (c_X11_bits (I := I) (L := L)  hq21) dX11_yieldBy_73 lk_X11_312 cd_X11_bits rfl rfl (Nat.le_of_ble_eq_true rfl) ⟨rfl, rfl, Nat.le_of_ble_eq_true rfl, Nat.le_of_ble_eq_true rfl⟩ ?_
        refine x_mmin dX11_yieldBy_76 lk_X11_154 ⟨Nat.le_of_ble_eq_true rfl, Nat.le_of_ble_eq_true rfl⟩ ?_
        refine x_imul dX11_yieldBy_79 ?_
        refine x_iadd dX11_yieldBy_80 ?_
        refine x_istore_n [(3, .int (v3 + ((3 : Int32) * (z_min q16 q20)))), (5, .int (0 : Int32)), (0, .ref 0), (1, .int v1), (2, .int v2), (4, .int v4)] dX11_yieldBy_81 rfl (by decide) rfl ?_
        refine x_iinc 5 [(4, .int (v4 + (1 : Int32))), (3, .int (v3 + ((3 : Int32) * (z_min q16 q20)))), (5, .int (0 : Int32)), (0, .ref 0), (1, .int v1), (2, .int v2)] dX11_yieldBy_82 rfl rfl (by decide) rfl ?_
        refine x_goto 16 dX11_yieldBy_85 (by decide) ?_
        refine x_lv [(0, .ref 0), (1, .int v1), (2, .int v2), (3, .int (v3 + ((3 : Int32) * (z_min q16 q20)))), (4, .int (v4 + (1 : Int32)))] [3, 4, 5, 1, 0] rfl ?_
        exact ih _ _ hf
      · replace hf := f_if hB hf
        refine x_aload_n 0 dX11_yieldBy_37 rfl rfl ?_
        refine x_iload 4 dX11_yieldBy_38 rfl ?_
        refine x_iload_n 2 dX11_yieldBy_40 rfl rfl ?_
        obtain ⟨q4, hq5, hf⟩ := f_bd hf
        refine x_callVi [.int v4, .int v2] (c_X11_partBy (I := I) (L := L)  hq5) dX11_yieldBy_41 lk_X11_306 lm_0 rfl cd_X11_partBy rfl rfl (Nat.le_of_ble_eq_true rfl) ⟨rfl, rfl, Nat.le_of_ble_eq_true rfl, Nat.le_of_ble_eq_true rfl⟩ ?_
        refine x_goto 48 dX11_yieldBy_44 (by decide) ?_
        refine x_istore [(5, .int q4), (0, .ref 0), (1, .int v1), (2, .int v2), (3, .int v3), (4, .int v4)] dX11_yieldBy_48 (by decide) rfl ?_
        refine x_iload_n 4 dX11_yieldBy_50 rfl rfl ?_
        refine x_iconst (v := (3)) dX11_yieldBy_51 (by decide) ?_
        refine x_iload 0 dX11_yieldBy_52 rfl ?_
        refine x_aload_n 1 dX11_yieldBy_54 rfl rfl ?_
        refine x_iload_n 2 dX11_yieldBy_55 rfl rfl ?_
        obtain ⟨q6, hq7, hf⟩ := f_bd hf
        refine x_callVi [.int v1] (c_X11_truthOf (I := I) (L := L)  hq7) dX11_yieldBy_56 lk_X11_303 lm_0 rfl cd_X11_truthOf rfl rfl (Nat.le_of_ble_eq_true rfl) ⟨rfl, rfl, Nat.le_of_ble_eq_true rfl, Nat.le_of_ble_eq_true rfl⟩ ?_
        refine x_iand dX11_yieldBy_59 ?_
        obtain ⟨q8, hq9, hf⟩ := f_bd hf
        refine x_callSi [.int (q4 &&& q6)] (c_X11_bits (I := I) (L := L)  hq9) dX11_yieldBy_60 lk_X11_312 cd_X11_bits rfl rfl (Nat.le_of_ble_eq_true rfl) ⟨rfl, rfl, Nat.le_of_ble_eq_true rfl, Nat.le_of_ble_eq_true rfl⟩ ?_
        refine x_iload 0 dX11_yieldBy_63 rfl ?_
        refine x_aload_n 1 dX11_yieldBy_65 rfl rfl ?_
        refine x_iload_n 2 dX11_yieldBy_66 rfl rfl ?_
        obtain ⟨q10, hq11, hf⟩ := f_bd hf
        refine x_callVi [.int v1] (c_X11_truthOf (I := I) (L := L)  hq11) dX11_yieldBy_67 lk_X11_303 lm_0 rfl cd_X11_truthOf rfl rfl (Nat.le_of_ble_eq_true rfl) ⟨rfl, rfl, Nat.le_of_ble_eq_true rfl, Nat.le_of_ble_eq_true rfl⟩ ?_
        refine x_iconst (v := (-1)) dX11_yieldBy_70 (by decide) ?_
        refine x_ixor dX11_yieldBy_71 ?_
        refine x_iand dX11_yieldBy_72 ?_
        obtain ⟨q12, hq13, hf⟩ := f_bd hf
        refine x_callSi [.int (q4 &&& (q10 ^^^ (-1 : Int32)))] (c_X11_bits (I := I) (L := L)  hq13) dX11_yieldBy_73 lk_X11_312 cd_X11_bits rfl rfl (Nat.le_of_ble_eq_true rfl) ⟨rfl, rfl, Nat.le_of_ble_eq_true rfl, Nat.le_of_ble_eq_true rfl⟩ ?_
        refine x_mmin dX11_yieldBy_76 lk_X11_154 ⟨Nat.le_of_ble_eq_true rfl, Nat.le_of_ble_eq_true rfl⟩ ?_
        refine x_imul dX11_yieldBy_79 ?_
        refine x_iadd dX11_yieldBy_80 ?_
        refine x_istore_n [(3, .int (v3 + ((3 : Int32) * (z_min q8 q12)))), (5, .int q4), (0, .ref 0), (1, .int v1), (2, .int v2), (4, .int v4)] dX11_yieldBy_81 rfl (by decide) rfl ?_
        refine x_iinc 5 [(4, .int (v4 + (1 : Int32))), (3, .int (v3 + ((3 : Int32) * (z_min q8 q12)))), (5, .int q4), (0, .ref 0), (1, .int v1), (2, .int v2)] dX11_yieldBy_82 rfl rfl (by decide) rfl ?_
        refine x_goto 16 dX11_yieldBy_85 (by decide) ?_
        refine x_lv [(0, .ref 0), (1, .int v1), (2, .int v2), (3, .int (v3 + ((3 : Int32) * (z_min q8 q12)))), (4, .int (v4 + (1 : Int32)))] [3, 4, 5, 1, 0] rfl ?_
        exact ih _ _ hf
set_option maxRecDepth 100000 in
set_option maxHeartbeats 4000000 in
theorem c_X11_yieldBy {I : z_I} {L : z_L} {p0 : Int32} {p1 : Int32}  {r : Int32} (hf : f_X11_yieldBy I p0 p1 = some r) : z_C layM yX11_yieldBy cX11_yieldBy 6 (some .int) ({ frames := 4, cells := 0, slots := 0, locals := 87 } : Room) [.ref 0, .int p0, .int p1] I L (some (.int r), I, L) := by
  refine z_C.of (by decide) (Nat.le_of_ble_eq_true rfl) ?_
  show z_X layM RX11 cX11_yieldBy 6 (some .int) ({ frames := 4, cells := 0, slots := 0, locals := 87 } : Room) 0 [(0, .ref 0), (1, .int p0), (2, .int p1)] [] I L (some (.int r), I, L)
  unfold f_X11_yieldBy at hf
  refine x_aload_n 0 dX11_yieldBy_0 rfl rfl ?_
  refine x_iload_n 2 dX11_yieldBy_1 rfl rfl ?_
  refine x_iload_n 1 dX11_yieldBy_2 rfl rfl ?_
  refine x_callVi [.int p1, .int p0] (c_X11_isIn (I := I) (L := L) p1 p0) dX11_yieldBy_3 lk_X11_236 lm_0 rfl cd_X11_isIn rfl rfl (Nat.le_of_ble_eq_true rfl) ⟨rfl, rfl, Nat.le_of_ble_eq_true rfl, Nat.le_of_ble_eq_true rfl⟩ ?_
  refine x_if_eqB 11 dX11_yieldBy_6 (by decide) (fun hB => ?_) (fun hB => ?_)
  · replace hf := f_el hB hf
    refine x_iconst (v := (0)) dX11_yieldBy_11 (by decide) ?_
    refine x_istore_n [(3, .int (0 : Int32)), (0, .ref 0), (1, .int p0), (2, .int p1)] dX11_yieldBy_12 rfl (by decide) rfl ?_
    refine x_iconst (v := (0)) dX11_yieldBy_13 (by decide) ?_
    refine x_istore [(4, .int (0 : Int32)), (3, .int (0 : Int32)), (0, .ref 0), (1, .int p0), (2, .int p1)] dX11_yieldBy_14 (by decide) rfl ?_
    refine x_lv [(0, .ref 0), (1, .int p0), (2, .int p1), (3, .int (0 : Int32)), (4, .int (0 : Int32))] [2, 3, 4, 1, 0] rfl ?_
    refine l_X11_yieldBy_16 p0 p1 (I) (L)   _ _ _ hf
  · replace hf := f_if hB hf
    refine x_iconst (v := (0)) dX11_yieldBy_9 (by decide) ?_
    cases hf
    exact x_iret dX11_yieldBy_10 rfl rfl
set_option maxRecDepth 100000 in
set_option maxHeartbeats 4000000 in
theorem l_X11_together_9    (I : z_I) (L : z_L) {r : Int32}  : ∀ (n : Nat) (v2 : Int32) (v3 : Int32), g_X11_together_9 I  n v2 v3 = some r → z_X layM RX11 cX11_together 4 (some .int) ({ frames := 1, cells := 0, slots := 0, locals := 20 } : Room) 9 [(0, .ref 0), (2, .int v2), (3, .int v3)] [] I L (some (.int r), I, L) := by
  intro n
  induction n with
  | zero => intro v2 v3 hf; cases hf
  | succ n ih =>
    intro v2 v3 hf
    rw [g_X11_together_9] at hf
    refine x_iload_n 2 dX11_together_9 rfl rfl ?_
    refine x_aload_n 0 dX11_together_10 rfl rfl ?_
    refine x_getR dX11_together_11 lm_0 fl_X11_7 rfl ?_
    refine x_iconst (v := (3)) dX11_together_14 (by decide) ?_
    refine x_iald (j := 3) (v := (I 1 3)) dX11_together_15 lm_1 (by decide +kernel) (by decide +kernel) rfl ?_
    refine x_icmp_ge 39 dX11_together_16 (by decide) (fun hB => ?_) (fun hB => ?_)
    · replace hf := f_if hB hf
      refine x_goto 74 dX11_together_39 (by decide) ?_
      refine x_iload_n 1 dX11_together_74 rfl rfl ?_
      cases hf
      exact x_iret dX11_together_75 rfl rfl
    · replace hf := f_el hB hf
      refine x_iload_n 1 dX11_together_19 rfl rfl ?_
      refine x_aload_n 0 dX11_together_20 rfl rfl ?_
      refine x_getR dX11_together_21 lm_0 fl_X11_7 rfl ?_
      refine x_iload_n 2 dX11_together_24 rfl rfl ?_
      refine x_callSi [.int v3] (c_X11_scholarRow (I := I) (L := L) v3) dX11_together_25 lk_X11_242 cd_X11_scholarRow rfl rfl (Nat.le_of_ble_eq_true rfl) ⟨rfl, rfl, Nat.le_of_ble_eq_true rfl, Nat.le_of_ble_eq_true rfl⟩ ?_
      refine x_iconst (v := (1)) dX11_together_28 (by decide) ?_
      refine x_iadd dX11_together_29 ?_
      obtain ⟨h2, hf⟩ := f_gd hf
      refine x_iald (j := (((f_X11_scholarRow v3) + (1 : Int32))).toNatClampNeg) (v := (I 1 (((f_X11_scholarRow v3) + (1 : Int32))).toNatClampNeg)) dX11_together_30 lm_1 h2 rfl rfl ?_
      refine x_iadd dX11_together_31 ?_
      obtain ⟨w3, hw3, hf⟩ := f_lt hf
      refine x_topI hw3 ?_
      refine x_istore_n [(2, .int w3), (0, .ref 0), (3, .int v3)] dX11_together_32 rfl (by decide) rfl ?_
      refine x_iinc 2 [(3, .int (v3 + (1 : Int32))), (2, .int w3), (0, .ref 0)] dX11_together_33 rfl rfl (by decide) rfl ?_
      refine x_goto 9 dX11_together_36 (by decide) ?_
      refine x_lv [(0, .ref 0), (2, .int w3), (3, .int (v3 + (1 : Int32)))] [2, 1, 0] rfl ?_
      exact ih _ _ hf
set_option maxRecDepth 100000 in
set_option maxHeartbeats 4000000 in
theorem l_X11_together_44   (v1 : Int32) (I : z_I) (L : z_L) {r : Int32}  : ∀ (n : Nat) (v2 : Int32) (v3 : Int32), g_X11_together_44 v1 I  n v2 v3 = some r → z_X layM RX11 cX11_together 4 (some .int) ({ frames := 1, cells := 0, slots := 0, locals := 20 } : Room) 44 [(0, .ref 0), (1, .int v1), (2, .int v2), (3, .int v3)] [] I L (some (.int r), I, L) := by
  intro n
  induction n with
  | zero => intro v2 v3 hf; cases hf
  | succ n ih =>
    intro v2 v3 hf
    rw [g_X11_together_44] at hf
    refine x_iload_n 3 dX11_together_44 rfl rfl ?_
    refine x_aload_n 0 dX11_together_45 rfl rfl ?_
    refine x_getR dX11_together_46 lm_0 fl_X11_7 rfl ?_
    refine x_iconst (v := (0)) dX11_together_49 (by decide) ?_
    refine x_iald (j := 0) (v := (I 1 0)) dX11_together_50 lm_1 (by decide +kernel) (by decide +kernel) rfl ?_
    refine x_icmp_ge 74 dX11_together_51 (by decide) (fun hB => ?_) (fun hB => ?_)
    · replace hf := f_if hB hf
      refine x_iload_n 2 dX11_together_74 rfl rfl ?_
      cases hf
      exact x_iret dX11_together_75 rfl rfl
    · replace hf := f_el hB hf
      refine x_iload_n 2 dX11_together_54 rfl rfl ?_
      refine x_aload_n 0 dX11_together_55 rfl rfl ?_
      refine x_getR dX11_together_56 lm_0 fl_X11_7 rfl ?_
      refine x_iload_n 3 dX11_together_59 rfl rfl ?_
      refine x_callSi [.int v3] (c_X11_bedRow (I := I) (L := L) v3) dX11_together_60 lk_X11_216 cd_X11_bedRow rfl rfl (Nat.le_of_ble_eq_true rfl) ⟨rfl, rfl, Nat.le_of_ble_eq_true rfl, Nat.le_of_ble_eq_true rfl⟩ ?_
      refine x_iload_n 1 dX11_together_63 rfl rfl ?_
      refine x_iadd dX11_together_64 ?_
      obtain ⟨h5, hf⟩ := f_gd hf
      refine x_iald (j := (((f_X11_bedRow v3) + v1)).toNatClampNeg) (v := (I 1 (((f_X11_bedRow v3) + v1)).toNatClampNeg)) dX11_together_65 lm_1 h5 rfl rfl ?_
      refine x_iadd dX11_together_66 ?_
      obtain ⟨w6, hw6, hf⟩ := f_lt hf
      refine x_topI hw6 ?_
      refine x_istore_n [(2, .int w6), (0, .ref 0), (1, .int v1), (3, .int v3)] dX11_together_67 rfl (by decide) rfl ?_
      refine x_iinc 3 [(3, .int (v3 + (1 : Int32))), (2, .int w6), (0, .ref 0), (1, .int v1)] dX11_together_68 rfl rfl (by decide) rfl ?_
      refine x_goto 44 dX11_together_71 (by decide) ?_
      refine x_lv [(0, .ref 0), (1, .int v1), (2, .int w6), (3, .int (v3 + (1 : Int32)))] [2, 3, 1, 0] rfl ?_
      exact ih _ _ hf
set_option maxRecDepth 100000 in
set_option maxHeartbeats 4000000 in
theorem c_X11_together {I : z_I} {L : z_L} {p0 : Int32}  {r : Int32} (hf : f_X11_together I p0 = some r) : z_C layM yX11_together cX11_together 4 (some .int) ({ frames := 1, cells := 0, slots := 0, locals := 20 } : Room) [.ref 0, .int p0] I L (some (.int r), I, L) := by
  refine z_C.of (by decide) (Nat.le_of_ble_eq_true rfl) ?_
  show z_X layM RX11 cX11_together 4 (some .int) ({ frames := 1, cells := 0, slots := 0, locals := 20 } : Room) 0 [(0, .ref 0), (1, .int p0)] [] I L (some (.int r), I, L)
  unfold f_X11_together at hf
  refine x_iconst (v := (0)) dX11_together_0 (by decide) ?_
  refine x_istore_n [(2, .int (0 : Int32)), (0, .ref 0), (1, .int p0)] dX11_together_1 rfl (by decide) rfl ?_
  refine x_iload_n 2 dX11_together_2 rfl rfl ?_
  refine x_iconst (v := (2)) dX11_together_3 (by decide) ?_
  refine x_icmp_ne 42 dX11_together_4 (by decide) (fun hB => ?_) (fun hB => ?_)
  · replace hf := f_el hB hf
    refine x_iconst (v := (0)) dX11_together_42 (by decide) ?_
    refine x_istore_n [(3, .int (0 : Int32)), (2, .int (0 : Int32)), (0, .ref 0), (1, .int p0)] dX11_together_43 rfl (by decide) rfl ?_
    refine x_lv [(0, .ref 0), (1, .int p0), (2, .int (0 : Int32)), (3, .int (0 : Int32))] [2, 3, 1, 0] rfl ?_
    refine l_X11_together_44 p0 (I) (L)   _ _ _ hf
  · replace hf := f_if hB hf
    refine x_iconst (v := (0)) dX11_together_7 (by decide) ?_
    refine x_istore_n [(3, .int (0 : Int32)), (2, .int (0 : Int32)), (0, .ref 0), (1, .int p0)] dX11_together_8 rfl (by decide) rfl ?_
    refine x_lv [(0, .ref 0), (2, .int (0 : Int32)), (3, .int (0 : Int32))] [2, 1, 0] rfl ?_
    refine l_X11_together_9 (I) (L)   _ _ _ hf
