set_option maxRecDepth 100000 in
set_option maxHeartbeats 4000000 in
theorem c_X11_claimRow {I : z_I} {L : z_L} (p0 : Int32)  : z_C layM yX11_claimRow cX11_claimRow 1 (some .int) ({ frames := 0, cells := 0, slots := 0, locals := 0 } : Room) [.int p0] I L (some (.int (f_X11_claimRow p0)), I, L) := by
  obtain ⟨r, hf⟩ : ∃ r, f_X11_claimRow p0 = r := ⟨_, rfl⟩
  rw [hf]
  refine z_C.of (by decide) (Nat.le_of_ble_eq_true rfl) ?_
  show z_X layM RX11 cX11_claimRow 1 (some .int) ({ frames := 0, cells := 0, slots := 0, locals := 0 } : Room) 0 [(0, .int p0)] [] I L (some (.int r), I, L)
  unfold f_X11_claimRow at hf
  refine x_bipush (v := (30)) dX11_claimRow_0 (by decide) ?_
  refine x_iconst (v := (3)) dX11_claimRow_2 (by decide) ?_
  refine x_iload_n 0 dX11_claimRow_3 rfl rfl ?_
  refine x_imul dX11_claimRow_4 ?_
  refine x_iadd dX11_claimRow_5 ?_
  subst hf
  exact x_iret dX11_claimRow_6 rfl rfl
set_option maxRecDepth 100000 in
set_option maxHeartbeats 4000000 in
theorem c_X11_scholarRow {I : z_I} {L : z_L} (p0 : Int32)  : z_C layM yX11_scholarRow cX11_scholarRow 1 (some .int) ({ frames := 0, cells := 0, slots := 0, locals := 0 } : Room) [.int p0] I L (some (.int (f_X11_scholarRow p0)), I, L) := by
  obtain ⟨r, hf⟩ : ∃ r, f_X11_scholarRow p0 = r := ⟨_, rfl⟩
  rw [hf]
  refine z_C.of (by decide) (Nat.le_of_ble_eq_true rfl) ?_
  show z_X layM RX11 cX11_scholarRow 1 (some .int) ({ frames := 0, cells := 0, slots := 0, locals := 0 } : Room) 0 [(0, .int p0)] [] I L (some (.int r), I, L)
  unfold f_X11_scholarRow at hf
  refine x_bipush (v := (51)) dX11_scholarRow_0 (by decide) ?_
  refine x_iconst (v := (2)) dX11_scholarRow_2 (by decide) ?_
  refine x_iload_n 0 dX11_scholarRow_3 rfl rfl ?_
  refine x_imul dX11_scholarRow_4 ?_
  refine x_iadd dX11_scholarRow_5 ?_
  subst hf
  exact x_iret dX11_scholarRow_6 rfl rfl
set_option maxRecDepth 100000 in
set_option maxHeartbeats 4000000 in
theorem c_X11_isIn {I : z_I} {L : z_L} (p0 : Int32) (p1 : Int32)  : z_C layM yX11_isIn cX11_isIn 3 (some .boolean) ({ frames := 0, cells := 0, slots := 0, locals := 0 } : Room) [.ref 0, .int p0, .int p1] I L (some (.int (zb (f_X11_isIn p0 p1))), I, L) := by
  obtain ⟨r, hf⟩ : ∃ r, f_X11_isIn p0 p1 = r := ⟨_, rfl⟩
  rw [hf]
  refine z_C.of (by decide) (Nat.le_of_ble_eq_true rfl) ?_
  show z_X layM RX11 cX11_isIn 3 (some .boolean) ({ frames := 0, cells := 0, slots := 0, locals := 0 } : Room) 0 [(0, .ref 0), (1, .int p0), (2, .int p1)] [] I L (some (.int (zb r)), I, L)
  unfold f_X11_isIn at hf
  refine x_iload_n 1 dX11_isIn_0 rfl rfl ?_
  refine x_iload_n 2 dX11_isIn_1 rfl rfl ?_
  refine x_ishr dX11_isIn_2 ?_
  refine x_iconst (v := (1)) dX11_isIn_3 (by decide) ?_
  refine x_iand dX11_isIn_4 ?_
  refine x_iconst (v := (1)) dX11_isIn_5 (by decide) ?_
  refine x_icmp_ne 13 dX11_isIn_6 (by decide) (fun hB => ?_) (fun hB => ?_)
  · replace hf := t_el hB hf
    refine x_iconst (v := (0)) dX11_isIn_13 (by decide) ?_
    subst hf
    exact x_zret (b := false) dX11_isIn_14 rfl rfl
  · replace hf := t_if hB hf
    refine x_iconst (v := (1)) dX11_isIn_9 (by decide) ?_
    refine x_goto 14 dX11_isIn_10 (by decide) ?_
    subst hf
    exact x_zret (b := true) dX11_isIn_14 rfl rfl
set_option maxRecDepth 100000 in
set_option maxHeartbeats 4000000 in
theorem c_X11_isThere {I : z_I} {L : z_L} {p0 : Int32}  {r : Bool × z_I} (hf : f_X11_isThere I p0 = some r) : z_C layM yX11_isThere cX11_isThere 2 (some .boolean) ({ frames := 5, cells := 0, slots := 0, locals := 116 } : Room) [.ref 0, .int p0] I L (some (.int (zb r.1)), r.2, L) := by
  refine z_C.of (by decide) (Nat.le_of_ble_eq_true rfl) ?_
  show z_X layM RX11 cX11_isThere 2 (some .boolean) ({ frames := 5, cells := 0, slots := 0, locals := 116 } : Room) 0 [(0, .ref 0), (1, .int p0)] [] I L (some (.int (zb r.1)), r.2, L)
  unfold f_X11_isThere at hf
  refine x_aload_n 0 dX11_isThere_0 rfl rfl ?_
  refine x_ldcS dX11_isThere_1 ?_
  obtain ⟨q1, hq2, hf⟩ := f_bd hf
  refine x_callVi [.ref 9001] (c_X11_inWords (I := I) (L := L)  hq2) dX11_isThere_3 lk_X11_184 lm_0 rfl cd_X11_inWords rfl rfl (Nat.le_of_ble_eq_true rfl) ⟨rfl, rfl, Nat.le_of_ble_eq_true rfl, Nat.le_of_ble_eq_true rfl⟩ ?_
  refine x_iload_n 1 dX11_isThere_6 rfl rfl ?_
  refine x_icmp_eq 12 dX11_isThere_7 (by decide) (fun hB => ?_) (fun hB => ?_)
  · replace hf := f_if hB hf
    refine x_aload_n 0 dX11_isThere_12 rfl rfl ?_
    obtain ⟨q3, hq4, hf⟩ := f_bd hf
    refine x_callVv [] (c_X11_ahead (I := I) (L := L)  hq4) dX11_isThere_13 lk_X11_175 lm_0 rfl cd_X11_ahead rfl rfl (Nat.le_of_ble_eq_true rfl) ⟨rfl, rfl, Nat.le_of_ble_eq_true rfl, Nat.le_of_ble_eq_true rfl⟩ ?_
    refine x_iconst (v := (1)) dX11_isThere_16 (by decide) ?_
    cases hf
    exact x_zret (b := true) dX11_isThere_17 rfl rfl
  · replace hf := f_el hB hf
    refine x_iconst (v := (0)) dX11_isThere_10 (by decide) ?_
    cases hf
    exact x_zret (b := false) dX11_isThere_11 rfl rfl
set_option maxRecDepth 100000 in
set_option maxHeartbeats 4000000 in
theorem c_X11_perhaps {I : z_I} {L : z_L} {p0 : Int32} {p1 : Int32} {p2 : Int32} {p3 : Int32} {p4 : Int32}  {r : Bool × z_I} (hf : f_X11_perhaps I p0 p1 p2 p3 p4 = some r) : z_C layM yX11_perhaps cX11_perhaps 6 (some .boolean) ({ frames := 6, cells := 0, slots := 0, locals := 137 } : Room) [.ref 0, .int p0, .int p1, .int p2, .int p3, .int p4] I L (some (.int (zb r.1)), r.2, L) := by
  refine z_C.of (by decide) (Nat.le_of_ble_eq_true rfl) ?_
  show z_X layM RX11 cX11_perhaps 6 (some .boolean) ({ frames := 6, cells := 0, slots := 0, locals := 137 } : Room) 0 [(0, .ref 0), (1, .int p0), (2, .int p1), (3, .int p2), (4, .int p3), (5, .int p4)] [] I L (some (.int (zb r.1)), r.2, L)
  unfold f_X11_perhaps at hf
  refine x_aload_n 0 dX11_perhaps_0 rfl rfl ?_
  refine x_iload_n 1 dX11_perhaps_1 rfl rfl ?_
  obtain ⟨q1, hq2, hf⟩ := f_bd hf
  refine x_callVi [.int p0] (c_X11_isThere (I := I) (L := L)  hq2) dX11_perhaps_2 lk_X11_194 lm_0 rfl cd_X11_isThere rfl rfl (Nat.le_of_ble_eq_true rfl) ⟨rfl, rfl, Nat.le_of_ble_eq_true rfl, Nat.le_of_ble_eq_true rfl⟩ ?_
  refine x_if_eqB 17 dX11_perhaps_5 (by decide) (fun hB => ?_) (fun hB => ?_)
  · replace hf := f_el hB hf
    refine x_aload_n 0 dX11_perhaps_17 rfl rfl ?_
    refine x_getR dX11_perhaps_18 lm_0 fl_X11_7 rfl ?_
    refine x_iload_n 2 dX11_perhaps_21 rfl rfl ?_
    refine x_iload 5 dX11_perhaps_22 rfl ?_
    obtain ⟨h5, hf⟩ := f_gd hf
    obtain ⟨I6, hI6, hf⟩ := f_lt hf
    refine x_iast (j0 := (p1).toNatClampNeg) dX11_perhaps_24 lm_1 h5 rfl hI6 ?_
    refine x_iconst (v := (1)) dX11_perhaps_25 (by decide) ?_
    cases hf
    exact x_zret (b := true) dX11_perhaps_26 rfl rfl
  · replace hf := f_if hB hf
    refine x_aload_n 0 dX11_perhaps_8 rfl rfl ?_
    refine x_iload_n 2 dX11_perhaps_9 rfl rfl ?_
    refine x_iload_n 3 dX11_perhaps_10 rfl rfl ?_
    refine x_iload 4 dX11_perhaps_11 rfl ?_
    obtain ⟨q3, hq4, hf⟩ := f_bd hf
    refine x_callVi [.int p1, .int p2, .int p3] (c_X11_number (I := q1.2) (L := L)  hq4) dX11_perhaps_13 lk_X11_197 lm_0 rfl cd_X11_number rfl rfl (Nat.le_of_ble_eq_true rfl) ⟨rfl, rfl, Nat.le_of_ble_eq_true rfl, Nat.le_of_ble_eq_true rfl⟩ ?_
    cases hf
    exact x_zret dX11_perhaps_16 rfl rfl
set_option maxRecDepth 100000 in
set_option maxHeartbeats 4000000 in
theorem c_X11_isFull {I : z_I} {L : z_L} {p0 : Int32} {p1 : Int32}  {r : Bool} (hf : f_X11_isFull I p0 p1 = some r) : z_C layM yX11_isFull cX11_isFull 3 (some .boolean) ({ frames := 0, cells := 0, slots := 0, locals := 0 } : Room) [.ref 0, .int p0, .int p1] I L (some (.int (zb r)), I, L) := by
  refine z_C.of (by decide) (Nat.le_of_ble_eq_true rfl) ?_
  show z_X layM RX11 cX11_isFull 3 (some .boolean) ({ frames := 0, cells := 0, slots := 0, locals := 0 } : Room) 0 [(0, .ref 0), (1, .int p0), (2, .int p1)] [] I L (some (.int (zb r)), I, L)
  unfold f_X11_isFull at hf
  refine x_aload_n 0 dX11_isFull_0 rfl rfl ?_
  refine x_getR dX11_isFull_1 lm_0 fl_X11_7 rfl ?_
  refine x_sipush (v := (1712)) dX11_isFull_4 (by decide) ?_
  refine x_iload_n 1 dX11_isFull_7 rfl rfl ?_
  refine x_iadd dX11_isFull_8 ?_
  obtain ⟨h1, hf⟩ := f_gd hf
  refine x_iald (j := (((1712 : Int32) + p0)).toNatClampNeg) (v := (I 1 (((1712 : Int32) + p0)).toNatClampNeg)) dX11_isFull_9 lm_1 h1 rfl rfl ?_
  refine x_iload_n 2 dX11_isFull_10 rfl rfl ?_
  refine x_icmp_ne 18 dX11_isFull_11 (by decide) (fun hB => ?_) (fun hB => ?_)
  · replace hf := f_el hB hf
    refine x_iconst (v := (0)) dX11_isFull_18 (by decide) ?_
    cases hf
    exact x_zret (b := false) dX11_isFull_19 rfl rfl
  · replace hf := f_if hB hf
    refine x_iconst (v := (1)) dX11_isFull_14 (by decide) ?_
    refine x_goto 19 dX11_isFull_15 (by decide) ?_
    cases hf
    exact x_zret (b := true) dX11_isFull_19 rfl rfl
set_option maxRecDepth 100000 in
set_option maxHeartbeats 4000000 in
theorem c_X11_isOld {I : z_I} {L : z_L}   {r : Bool} (hf : f_X11_isOld I L = some r) : z_C layM yX11_isOld cX11_isOld 1 (some .boolean) ({ frames := 3, cells := 0, slots := 0, locals := 67 } : Room) [.ref 0] I L (some (.int (zb r)), I, L) := by
  refine z_C.of (by decide) (Nat.le_of_ble_eq_true rfl) ?_
  show z_X layM RX11 cX11_isOld 1 (some .boolean) ({ frames := 3, cells := 0, slots := 0, locals := 67 } : Room) 0 [(0, .ref 0)] [] I L (some (.int (zb r)), I, L)
  unfold f_X11_isOld at hf
  refine x_aload_n 0 dX11_isOld_0 rfl rfl ?_
  refine x_bipush (v := (76)) dX11_isOld_1 (by decide) ?_
  refine x_aload_n 0 dX11_isOld_3 rfl rfl ?_
  refine x_getR dX11_isOld_4 lm_0 fl_X11_7 rfl ?_
  refine x_sipush (v := (1713)) dX11_isOld_7 (by decide) ?_
  refine x_iald (j := 1713) (v := (I 1 1713)) dX11_isOld_10 lm_1 (by decide +kernel) (by decide +kernel) rfl ?_
  obtain ⟨q2, hq3, hf⟩ := f_bd hf
  refine x_callVi [.int (76 : Int32), .int (I 1 1713)] (c_X11_findHere (I := I) (L := L)  hq3) dX11_isOld_11 lk_X11_201 lm_0 rfl cd_X11_findHere rfl rfl (Nat.le_of_ble_eq_true rfl) ⟨rfl, rfl, Nat.le_of_ble_eq_true rfl, Nat.le_of_ble_eq_true rfl⟩ ?_
  refine x_iconst (v := (-1)) dX11_isOld_14 (by decide) ?_
  refine x_icmp_ne 36 dX11_isOld_15 (by decide) (fun hB => ?_) (fun hB => ?_)
  · replace hf := f_el hB hf
    refine x_iconst (v := (1)) dX11_isOld_36 (by decide) ?_
    cases hf
    exact x_zret (b := true) dX11_isOld_37 rfl rfl
  · replace hf := f_if hB hf
    refine x_aload_n 0 dX11_isOld_18 rfl rfl ?_
    refine x_bipush (v := (84)) dX11_isOld_19 (by decide) ?_
    refine x_aload_n 0 dX11_isOld_21 rfl rfl ?_
    refine x_getR dX11_isOld_22 lm_0 fl_X11_7 rfl ?_
    refine x_sipush (v := (1714)) dX11_isOld_25 (by decide) ?_
    refine x_iald (j := 1714) (v := (I 1 1714)) dX11_isOld_28 lm_1 (by decide +kernel) (by decide +kernel) rfl ?_
    obtain ⟨q5, hq6, hf⟩ := f_bd hf
    refine x_callVi [.int (84 : Int32), .int (I 1 1714)] (c_X11_findHere (I := I) (L := L)  hq6) dX11_isOld_29 lk_X11_201 lm_0 rfl cd_X11_findHere rfl rfl (Nat.le_of_ble_eq_true rfl) ⟨rfl, rfl, Nat.le_of_ble_eq_true rfl, Nat.le_of_ble_eq_true rfl⟩ ?_
    refine x_iconst (v := (-1)) dX11_isOld_32 (by decide) ?_
    refine x_icmp_eq 38 dX11_isOld_33 (by decide) (fun hB => ?_) (fun hB => ?_)
    · replace hf := f_if hB hf
      refine x_aload_n 0 dX11_isOld_38 rfl rfl ?_
      refine x_bipush (v := (91)) dX11_isOld_39 (by decide) ?_
      refine x_aload_n 0 dX11_isOld_41 rfl rfl ?_
      refine x_getR dX11_isOld_42 lm_0 fl_X11_7 rfl ?_
      refine x_sipush (v := (1715)) dX11_isOld_45 (by decide) ?_
      refine x_iald (j := 1715) (v := (I 1 1715)) dX11_isOld_48 lm_1 (by decide +kernel) (by decide +kernel) rfl ?_
      obtain ⟨q8, hq9, hf⟩ := f_bd hf
      refine x_callVi [.int (91 : Int32), .int (I 1 1715)] (c_X11_findHere (I := I) (L := L)  hq9) dX11_isOld_49 lk_X11_201 lm_0 rfl cd_X11_findHere rfl rfl (Nat.le_of_ble_eq_true rfl) ⟨rfl, rfl, Nat.le_of_ble_eq_true rfl, Nat.le_of_ble_eq_true rfl⟩ ?_
      refine x_iconst (v := (-1)) dX11_isOld_52 (by decide) ?_
      refine x_icmp_eq 60 dX11_isOld_53 (by decide) (fun hB => ?_) (fun hB => ?_)
      · replace hf := f_if hB hf
        refine x_iconst (v := (0)) dX11_isOld_60 (by decide) ?_
        cases hf
        exact x_zret (b := false) dX11_isOld_61 rfl rfl
      · replace hf := f_el hB hf
        refine x_iconst (v := (1)) dX11_isOld_56 (by decide) ?_
        refine x_goto 61 dX11_isOld_57 (by decide) ?_
        cases hf
        exact x_zret (b := true) dX11_isOld_61 rfl rfl
    · replace hf := f_el hB hf
      refine x_iconst (v := (1)) dX11_isOld_36 (by decide) ?_
      cases hf
      exact x_zret (b := true) dX11_isOld_37 rfl rfl
set_option maxRecDepth 100000 in
set_option maxHeartbeats 4000000 in
theorem c_X11_newOne {I : z_I} {L : z_L} {p0 : Int32} {p1 : Int32} {p2 : Int32}  {r : Bool × z_I × z_L} (hf : f_X11_newOne I L p0 p1 p2 = some r) : z_C layM yX11_newOne cX11_newOne 4 (some .boolean) ({ frames := 6, cells := 0, slots := 0, locals := 137 } : Room) [.ref 0, .int p0, .int p1, .int p2] I L (some (.int (zb r.1)), r.2.1, r.2.2) := by
  refine z_C.of (by decide) (Nat.le_of_ble_eq_true rfl) ?_
  show z_X layM RX11 cX11_newOne 4 (some .boolean) ({ frames := 6, cells := 0, slots := 0, locals := 137 } : Room) 0 [(0, .ref 0), (1, .int p0), (2, .int p1), (3, .int p2)] [] I L (some (.int (zb r.1)), r.2.1, r.2.2)
  unfold f_X11_newOne at hf
  refine x_aload_n 0 dX11_newOne_0 rfl rfl ?_
  refine x_iload_n 1 dX11_newOne_1 rfl rfl ?_
  refine x_iload_n 2 dX11_newOne_2 rfl rfl ?_
  obtain ⟨q1, hq2, hf⟩ := f_bd hf
  refine x_callVi [.int p0, .int p1] (c_X11_isFull (I := I) (L := L)  hq2) dX11_newOne_3 lk_X11_204 lm_0 rfl cd_X11_isFull rfl rfl (Nat.le_of_ble_eq_true rfl) ⟨rfl, rfl, Nat.le_of_ble_eq_true rfl, Nat.le_of_ble_eq_true rfl⟩ ?_
  refine x_if_eqB 16 dX11_newOne_6 (by decide) (fun hB => ?_) (fun hB => ?_)
  · replace hf := f_el hB hf
    refine x_aload_n 0 dX11_newOne_16 rfl rfl ?_
    obtain ⟨q3, hq4, hf⟩ := f_bd hf
    refine x_callVv [] (c_X11_ahead (I := I) (L := L)  hq4) dX11_newOne_17 lk_X11_175 lm_0 rfl cd_X11_ahead rfl rfl (Nat.le_of_ble_eq_true rfl) ⟨rfl, rfl, Nat.le_of_ble_eq_true rfl, Nat.le_of_ble_eq_true rfl⟩ ?_
    refine x_aload_n 0 dX11_newOne_20 rfl rfl ?_
    refine x_ldcS dX11_newOne_21 ?_
    obtain ⟨q5, hq6, hf⟩ := f_bd hf
    refine x_callVi [.ref 9001] (c_X11_isName (I := q3) (L := L)  hq6) dX11_newOne_23 lk_X11_208 lm_0 rfl cd_X11_isName rfl rfl (Nat.le_of_ble_eq_true rfl) ⟨rfl, rfl, Nat.le_of_ble_eq_true rfl, Nat.le_of_ble_eq_true rfl⟩ ?_
    refine x_if_neB 35 dX11_newOne_26 (by decide) (fun hB => ?_) (fun hB => ?_)
    · replace hf := f_if hB hf
      refine x_aload_n 0 dX11_newOne_35 rfl rfl ?_
      obtain ⟨q7, hq8, hf⟩ := f_bd hf
      refine x_callVi [] (c_X11_isOld (I := q3) (L := L)  hq8) dX11_newOne_36 lk_X11_212 lm_0 rfl cd_X11_isOld rfl rfl (Nat.le_of_ble_eq_true rfl) ⟨rfl, rfl, Nat.le_of_ble_eq_true rfl, Nat.le_of_ble_eq_true rfl⟩ ?_
      refine x_if_eqB 48 dX11_newOne_39 (by decide) (fun hB => ?_) (fun hB => ?_)
      · replace hf := f_el hB hf
        refine x_aload_n 0 dX11_newOne_48 rfl rfl ?_
        refine x_getR dX11_newOne_49 lm_0 fl_X11_13 rfl ?_
        refine x_bipush (v := (76)) dX11_newOne_52 (by decide) ?_
        refine x_iload_n 3 dX11_newOne_54 rfl rfl ?_
        refine x_iadd dX11_newOne_55 ?_
        refine x_aload_n 0 dX11_newOne_56 rfl rfl ?_
        refine x_getR dX11_newOne_57 lm_0 fl_X11_7 rfl ?_
        refine x_sipush (v := (1712)) dX11_newOne_60 (by decide) ?_
        refine x_iload_n 1 dX11_newOne_63 rfl rfl ?_
        refine x_iadd dX11_newOne_64 ?_
        obtain ⟨h9, hf⟩ := f_gd hf
        refine x_iald (j := (((1712 : Int32) + p0)).toNatClampNeg) (v := (q3 1 (((1712 : Int32) + p0)).toNatClampNeg)) dX11_newOne_65 lm_1 h9 rfl rfl ?_
        refine x_iadd dX11_newOne_66 ?_
        refine x_aload_n 0 dX11_newOne_67 rfl rfl ?_
        obtain ⟨q10, hq11, hf⟩ := f_bd hf
        refine x_callVl [] (c_X11_nameHere (I := q3) (L := L)  hq11) dX11_newOne_68 lk_X11_188 lm_0 rfl cd_X11_nameHere rfl rfl (Nat.le_of_ble_eq_true rfl) ⟨rfl, rfl, Nat.le_of_ble_eq_true rfl, Nat.le_of_ble_eq_true rfl⟩ ?_
        obtain ⟨h12, hf⟩ := f_gd hf
        obtain ⟨L13, hL13, hf⟩ := f_lt hf
        refine x_last (j0 := ((((76 : Int32) + p2) + (q3 1 (((1712 : Int32) + p0)).toNatClampNeg))).toNatClampNeg) dX11_newOne_71 lm_2 h12 rfl hL13 ?_
        refine x_aload_n 0 dX11_newOne_72 rfl rfl ?_
        obtain ⟨q14, hq15, hf⟩ := f_bd hf
        refine x_callVv [] (c_X11_ahead (I := q3) (L := L13)  hq15) dX11_newOne_73 lk_X11_175 lm_0 rfl cd_X11_ahead rfl rfl (Nat.le_of_ble_eq_true rfl) ⟨rfl, rfl, Nat.le_of_ble_eq_true rfl, Nat.le_of_ble_eq_true rfl⟩ ?_
        refine x_iconst (v := (1)) dX11_newOne_76 (by decide) ?_
        cases hf
        exact x_zret (b := true) dX11_newOne_77 rfl rfl
      · replace hf := f_if hB hf
        refine x_aload_n 0 dX11_newOne_42 rfl rfl ?_
        refine x_iconst (v := (3)) dX11_newOne_43 (by decide) ?_
        refine x_callVi [.int (3 : Int32)] (c_X11_fails (I := q3) (L := L) (3 : Int32)) dX11_newOne_44 lk_X11_181 lm_0 rfl cd_X11_fails rfl rfl (Nat.le_of_ble_eq_true rfl) ⟨rfl, rfl, Nat.le_of_ble_eq_true rfl, Nat.le_of_ble_eq_true rfl⟩ ?_
        cases hf
        exact x_zret dX11_newOne_47 rfl rfl
    · replace hf := f_el hB hf
      refine x_aload_n 0 dX11_newOne_29 rfl rfl ?_
      refine x_iconst (v := (2)) dX11_newOne_30 (by decide) ?_
      refine x_callVi [.int (2 : Int32)] (c_X11_fails (I := q3) (L := L) (2 : Int32)) dX11_newOne_31 lk_X11_181 lm_0 rfl cd_X11_fails rfl rfl (Nat.le_of_ble_eq_true rfl) ⟨rfl, rfl, Nat.le_of_ble_eq_true rfl, Nat.le_of_ble_eq_true rfl⟩ ?_
      cases hf
      exact x_zret dX11_newOne_34 rfl rfl
  · replace hf := f_if hB hf
    refine x_aload_n 0 dX11_newOne_9 rfl rfl ?_
    refine x_bipush (v := (6)) dX11_newOne_10 (by decide) ?_
    refine x_callVi [.int (6 : Int32)] (c_X11_fails (I := I) (L := L) (6 : Int32)) dX11_newOne_12 lk_X11_181 lm_0 rfl cd_X11_fails rfl rfl (Nat.le_of_ble_eq_true rfl) ⟨rfl, rfl, Nat.le_of_ble_eq_true rfl, Nat.le_of_ble_eq_true rfl⟩ ?_
    cases hf
    exact x_zret dX11_newOne_15 rfl rfl
set_option maxRecDepth 100000 in
set_option maxHeartbeats 4000000 in
theorem c_X11_oldOne {I : z_I} {L : z_L} {p0 : Int32} {p1 : Int32} {p2 : Int32}  {r : Bool × z_I} (hf : f_X11_oldOne I L p0 p1 p2 = some r) : z_C layM yX11_oldOne cX11_oldOne 4 (some .boolean) ({ frames := 6, cells := 0, slots := 0, locals := 137 } : Room) [.ref 0, .int p0, .int p1, .int p2] I L (some (.int (zb r.1)), r.2, L) := by
  refine z_C.of (by decide) (Nat.le_of_ble_eq_true rfl) ?_
  show z_X layM RX11 cX11_oldOne 4 (some .boolean) ({ frames := 6, cells := 0, slots := 0, locals := 137 } : Room) 0 [(0, .ref 0), (1, .int p0), (2, .int p1), (3, .int p2)] [] I L (some (.int (zb r.1)), r.2, L)
  unfold f_X11_oldOne at hf
  refine x_aload_n 0 dX11_oldOne_0 rfl rfl ?_
  refine x_ldcS dX11_oldOne_1 ?_
  obtain ⟨q1, hq2, hf⟩ := f_bd hf
  refine x_callVi [.ref 9001] (c_X11_isName (I := I) (L := L)  hq2) dX11_oldOne_3 lk_X11_208 lm_0 rfl cd_X11_isName rfl rfl (Nat.le_of_ble_eq_true rfl) ⟨rfl, rfl, Nat.le_of_ble_eq_true rfl, Nat.le_of_ble_eq_true rfl⟩ ?_
  refine x_if_neB 15 dX11_oldOne_6 (by decide) (fun hB => ?_) (fun hB => ?_)
  · replace hf := f_if hB hf
    refine x_aload_n 0 dX11_oldOne_15 rfl rfl ?_
    refine x_getR dX11_oldOne_16 lm_0 fl_X11_7 rfl ?_
    refine x_iload_n 3 dX11_oldOne_19 rfl rfl ?_
    refine x_aload_n 0 dX11_oldOne_20 rfl rfl ?_
    refine x_iload_n 1 dX11_oldOne_21 rfl rfl ?_
    refine x_iload_n 2 dX11_oldOne_22 rfl rfl ?_
    obtain ⟨q3, hq4, hf⟩ := f_bd hf
    refine x_callVi [.int p0, .int p1] (c_X11_findHere (I := I) (L := L)  hq4) dX11_oldOne_23 lk_X11_201 lm_0 rfl cd_X11_findHere rfl rfl (Nat.le_of_ble_eq_true rfl) ⟨rfl, rfl, Nat.le_of_ble_eq_true rfl, Nat.le_of_ble_eq_true rfl⟩ ?_
    obtain ⟨h5, hf⟩ := f_gd hf
    obtain ⟨I6, hI6, hf⟩ := f_lt hf
    refine x_iast (j0 := (p2).toNatClampNeg) dX11_oldOne_26 lm_1 h5 rfl hI6 ?_
    refine x_aload_n 0 dX11_oldOne_27 rfl rfl ?_
    refine x_getR dX11_oldOne_28 lm_0 fl_X11_7 rfl ?_
    refine x_iload_n 3 dX11_oldOne_31 rfl rfl ?_
    refine x_iald (j := (p2).toNatClampNeg) (v := (I6 1 (p2).toNatClampNeg)) dX11_oldOne_32 lm_1 h5 rfl rfl ?_
    refine x_iconst (v := (-1)) dX11_oldOne_33 (by decide) ?_
    refine x_icmp_ne 43 dX11_oldOne_34 (by decide) (fun hB => ?_) (fun hB => ?_)
    · replace hf := f_el hB hf
      refine x_aload_n 0 dX11_oldOne_43 rfl rfl ?_
      obtain ⟨q8, hq9, hf⟩ := f_bd hf
      refine x_callVv [] (c_X11_ahead (I := I6) (L := L)  hq9) dX11_oldOne_44 lk_X11_175 lm_0 rfl cd_X11_ahead rfl rfl (Nat.le_of_ble_eq_true rfl) ⟨rfl, rfl, Nat.le_of_ble_eq_true rfl, Nat.le_of_ble_eq_true rfl⟩ ?_
      refine x_iconst (v := (1)) dX11_oldOne_47 (by decide) ?_
      cases hf
      exact x_zret (b := true) dX11_oldOne_48 rfl rfl
    · replace hf := f_if hB hf
      refine x_aload_n 0 dX11_oldOne_37 rfl rfl ?_
      refine x_iconst (v := (3)) dX11_oldOne_38 (by decide) ?_
      refine x_callVi [.int (3 : Int32)] (c_X11_fails (I := I6) (L := L) (3 : Int32)) dX11_oldOne_39 lk_X11_181 lm_0 rfl cd_X11_fails rfl rfl (Nat.le_of_ble_eq_true rfl) ⟨rfl, rfl, Nat.le_of_ble_eq_true rfl, Nat.le_of_ble_eq_true rfl⟩ ?_
      cases hf
      exact x_zret dX11_oldOne_42 rfl rfl
  · replace hf := f_el hB hf
    refine x_aload_n 0 dX11_oldOne_9 rfl rfl ?_
    refine x_iconst (v := (2)) dX11_oldOne_10 (by decide) ?_
    refine x_callVi [.int (2 : Int32)] (c_X11_fails (I := I) (L := L) (2 : Int32)) dX11_oldOne_11 lk_X11_181 lm_0 rfl cd_X11_fails rfl rfl (Nat.le_of_ble_eq_true rfl) ⟨rfl, rfl, Nat.le_of_ble_eq_true rfl, Nat.le_of_ble_eq_true rfl⟩ ?_
    cases hf
    exact x_zret dX11_oldOne_14 rfl rfl
set_option maxRecDepth 100000 in
set_option maxHeartbeats 4000000 in
theorem c_X11_newBedTo {I : z_I} {L : z_L} {p0 : Int32}  {r : Bool × z_I} (hf : f_X11_newBedTo I p0 = some r) : z_C layM yX11_newBedTo cX11_newBedTo 2 (some .boolean) ({ frames := 3, cells := 0, slots := 0, locals := 72 } : Room) [.ref 0, .int p0] I L (some (.int (zb r.1)), r.2, L) := by
  refine z_C.of (by decide) (Nat.le_of_ble_eq_true rfl) ?_
  show z_X layM RX11 cX11_newBedTo 2 (some .boolean) ({ frames := 3, cells := 0, slots := 0, locals := 72 } : Room) 0 [(0, .ref 0), (1, .int p0)] [] I L (some (.int (zb r.1)), r.2, L)
  unfold f_X11_newBedTo at hf
  refine x_aload_n 0 dX11_newBedTo_0 rfl rfl ?_
  refine x_iload_n 1 dX11_newBedTo_1 rfl rfl ?_
  refine x_iconst (v := (0)) dX11_newBedTo_2 (by decide) ?_
  refine x_aload_n 0 dX11_newBedTo_3 rfl rfl ?_
  refine x_getR dX11_newBedTo_4 lm_0 fl_X11_7 rfl ?_
  refine x_sipush (v := (1712)) dX11_newBedTo_7 (by decide) ?_
  refine x_iald (j := 1712) (v := (I 1 1712)) dX11_newBedTo_10 lm_1 (by decide +kernel) (by decide +kernel) rfl ?_
  refine x_iconst (v := (1)) dX11_newBedTo_11 (by decide) ?_
  refine x_isub dX11_newBedTo_12 ?_
  obtain ⟨q2, hq3, hf⟩ := f_bd hf
  refine x_callVi [.int p0, .int (0 : Int32), .int ((I 1 1712) - (1 : Int32))] (c_X11_number (I := I) (L := L)  hq3) dX11_newBedTo_13 lk_X11_197 lm_0 rfl cd_X11_number rfl rfl (Nat.le_of_ble_eq_true rfl) ⟨rfl, rfl, Nat.le_of_ble_eq_true rfl, Nat.le_of_ble_eq_true rfl⟩ ?_
  cases hf
  exact x_zret dX11_newBedTo_16 rfl rfl
set_option maxRecDepth 100000 in
set_option maxHeartbeats 4000000 in
theorem c_X11_aBed {I : z_I} {L : z_L}   {r : Bool × z_I} (hf : f_X11_aBed I = some r) : z_C layM yX11_aBed cX11_aBed 2 (some .boolean) ({ frames := 7, cells := 0, slots := 0, locals := 162 } : Room) [.ref 0] I L (some (.int (zb r.1)), r.2, L) := by
  refine z_C.of (by decide) (Nat.le_of_ble_eq_true rfl) ?_
  show z_X layM RX11 cX11_aBed 2 (some .boolean) ({ frames := 7, cells := 0, slots := 0, locals := 162 } : Room) 0 [(0, .ref 0)] [] I L (some (.int (zb r.1)), r.2, L)
  unfold f_X11_aBed at hf
  refine x_aload_n 0 dX11_aBed_0 rfl rfl ?_
  refine x_iconst (v := (0)) dX11_aBed_1 (by decide) ?_
  refine x_bipush (v := (6)) dX11_aBed_2 (by decide) ?_
  obtain ⟨q1, hq2, hf⟩ := f_bd hf
  refine x_callVi [.int (0 : Int32), .int (6 : Int32)] (c_X11_isFull (I := I) (L := L)  hq2) dX11_aBed_4 lk_X11_204 lm_0 rfl cd_X11_isFull rfl rfl (Nat.le_of_ble_eq_true rfl) ⟨rfl, rfl, Nat.le_of_ble_eq_true rfl, Nat.le_of_ble_eq_true rfl⟩ ?_
  refine x_if_eqB 17 dX11_aBed_7 (by decide) (fun hB => ?_) (fun hB => ?_)
  · replace hf := f_el hB hf
    refine x_sipush (v := (1712)) dX11_aBed_17 (by decide) ?_
    refine x_aload_n 0 dX11_aBed_20 rfl rfl ?_
    refine x_getR dX11_aBed_21 lm_0 fl_X11_7 rfl ?_
    refine x_sipush (v := (1712)) dX11_aBed_24 (by decide) ?_
    refine x_iald (j := 1712) (v := (I 1 1712)) dX11_aBed_27 lm_1 (by decide +kernel) (by decide +kernel) rfl ?_
    refine x_callSi [.int (I 1 1712)] (c_X11_bedRow (I := I) (L := L) (I 1 1712)) dX11_aBed_28 lk_X11_216 cd_X11_bedRow rfl rfl (Nat.le_of_ble_eq_true rfl) ⟨rfl, rfl, Nat.le_of_ble_eq_true rfl, Nat.le_of_ble_eq_true rfl⟩ ?_
    refine x_iadd dX11_aBed_31 ?_
    refine x_istore_n [(1, .int ((1712 : Int32) + (f_X11_bedRow (I 1 1712)))), (0, .ref 0)] dX11_aBed_32 rfl (by decide) rfl ?_
    refine x_aload_n 1 dX11_aBed_33 rfl rfl ?_
    obtain ⟨q4, hq5, hf⟩ := f_bd hf
    refine x_callVv [] (c_X11_ahead (I := I) (L := L)  hq5) dX11_aBed_34 lk_X11_175 lm_0 rfl cd_X11_ahead rfl rfl (Nat.le_of_ble_eq_true rfl) ⟨rfl, rfl, Nat.le_of_ble_eq_true rfl, Nat.le_of_ble_eq_true rfl⟩ ?_
    refine x_aload_n 1 dX11_aBed_37 rfl rfl ?_
    refine x_iconst (v := (5)) dX11_aBed_38 (by decide) ?_
    refine x_iload_n 0 dX11_aBed_39 rfl rfl ?_
    refine x_iconst (v := (0)) dX11_aBed_40 (by decide) ?_
    refine x_bipush (v := (99)) dX11_aBed_41 (by decide) ?_
    refine x_iconst (v := (0)) dX11_aBed_43 (by decide) ?_
    obtain ⟨q6, hq7, hf⟩ := f_bd hf
    refine x_callVi [.int (5 : Int32), .int ((1712 : Int32) + (f_X11_bedRow (I 1 1712))), .int (0 : Int32), .int (99 : Int32), .int (0 : Int32)] (c_X11_perhaps (I := q4) (L := L)  hq7) dX11_aBed_44 lk_X11_219 lm_0 rfl cd_X11_perhaps rfl rfl (Nat.le_of_ble_eq_true rfl) ⟨rfl, rfl, Nat.le_of_ble_eq_true rfl, Nat.le_of_ble_eq_true rfl⟩ ?_
    refine x_if_eqB 66 dX11_aBed_47 (by decide) (fun hB => ?_) (fun hB => ?_)
    · replace hf := f_el hB hf
      refine x_iconst (v := (0)) dX11_aBed_66 (by decide) ?_
      cases hf
      exact x_zret (b := false) dX11_aBed_67 rfl rfl
    · replace hf := f_if hB hf
      refine x_aload_n 1 dX11_aBed_50 rfl rfl ?_
      refine x_bipush (v := (6)) dX11_aBed_51 (by decide) ?_
      refine x_iload_n 0 dX11_aBed_53 rfl rfl ?_
      refine x_iconst (v := (1)) dX11_aBed_54 (by decide) ?_
      refine x_iadd dX11_aBed_55 ?_
      refine x_iconst (v := (0)) dX11_aBed_56 (by decide) ?_
      refine x_bipush (v := (99)) dX11_aBed_57 (by decide) ?_
      refine x_iconst (v := (0)) dX11_aBed_59 (by decide) ?_
      obtain ⟨q8, hq9, hf⟩ := f_bd hf
      refine x_callVi [.int (6 : Int32), .int (((1712 : Int32) + (f_X11_bedRow (I 1 1712))) + (1 : Int32)), .int (0 : Int32), .int (99 : Int32), .int (0 : Int32)] (c_X11_perhaps (I := q6.2) (L := L)  hq9) dX11_aBed_60 lk_X11_219 lm_0 rfl cd_X11_perhaps rfl rfl (Nat.le_of_ble_eq_true rfl) ⟨rfl, rfl, Nat.le_of_ble_eq_true rfl, Nat.le_of_ble_eq_true rfl⟩ ?_
      refine x_if_neB 68 dX11_aBed_63 (by decide) (fun hB => ?_) (fun hB => ?_)
      · replace hf := f_if hB hf
        refine x_aload_n 1 dX11_aBed_68 rfl rfl ?_
        refine x_getR dX11_aBed_69 lm_0 fl_X11_7 rfl ?_
        refine x_sipush (v := (1712)) dX11_aBed_72 (by decide) ?_
        refine x_dup2 dX11_aBed_75 rfl rfl ?_
        refine x_iald (j := 1712) (v := (q8.2 1 1712)) dX11_aBed_76 lm_1 (by decide +kernel) (by decide +kernel) rfl ?_
        refine x_iconst (v := (1)) dX11_aBed_77 (by decide) ?_
        refine x_iadd dX11_aBed_78 ?_
        obtain ⟨I12, hI12, hf⟩ := f_lt hf
        refine x_iast (j0 := 1712) dX11_aBed_79 lm_1 (by decide +kernel) (by decide +kernel) hI12 ?_
        refine x_iconst (v := (1)) dX11_aBed_80 (by decide) ?_
        cases hf
        exact x_zret (b := true) dX11_aBed_81 rfl rfl
      · replace hf := f_el hB hf
        refine x_iconst (v := (0)) dX11_aBed_66 (by decide) ?_
        cases hf
        exact x_zret (b := false) dX11_aBed_67 rfl rfl
  · replace hf := f_if hB hf
    refine x_aload_n 0 dX11_aBed_10 rfl rfl ?_
    refine x_bipush (v := (6)) dX11_aBed_11 (by decide) ?_
    refine x_callVi [.int (6 : Int32)] (c_X11_fails (I := I) (L := L) (6 : Int32)) dX11_aBed_13 lk_X11_181 lm_0 rfl cd_X11_fails rfl rfl (Nat.le_of_ble_eq_true rfl) ⟨rfl, rfl, Nat.le_of_ble_eq_true rfl, Nat.le_of_ble_eq_true rfl⟩ ?_
    cases hf
    exact x_zret dX11_aBed_16 rfl rfl
set_option maxRecDepth 100000 in
set_option maxHeartbeats 4000000 in
theorem c_X11_aCase {I : z_I} {L : z_L}   {r : Bool × z_I × z_L} (hf : f_X11_aCase I L = some r) : z_C layM yX11_aCase cX11_aCase 1 (some .boolean) ({ frames := 7, cells := 0, slots := 0, locals := 160 } : Room) [.ref 0] I L (some (.int (zb r.1)), r.2.1, r.2.2) := by
  refine z_C.of (by decide) (Nat.le_of_ble_eq_true rfl) ?_
  show z_X layM RX11 cX11_aCase 1 (some .boolean) ({ frames := 7, cells := 0, slots := 0, locals := 160 } : Room) 0 [(0, .ref 0)] [] I L (some (.int (zb r.1)), r.2.1, r.2.2)
  unfold f_X11_aCase at hf
  refine x_aload_n 0 dX11_aCase_0 rfl rfl ?_
  refine x_iconst (v := (1)) dX11_aCase_1 (by decide) ?_
  refine x_bipush (v := (8)) dX11_aCase_2 (by decide) ?_
  refine x_iconst (v := (0)) dX11_aCase_4 (by decide) ?_
  obtain ⟨q1, hq2, hf⟩ := f_bd hf
  refine x_callVi [.int (1 : Int32), .int (8 : Int32), .int (0 : Int32)] (c_X11_newOne (I := I) (L := L)  hq2) dX11_aCase_5 lk_X11_223 lm_0 rfl cd_X11_newOne rfl rfl (Nat.le_of_ble_eq_true rfl) ⟨rfl, rfl, Nat.le_of_ble_eq_true rfl, Nat.le_of_ble_eq_true rfl⟩ ?_
  refine x_if_eqB 44 dX11_aCase_8 (by decide) (fun hB => ?_) (fun hB => ?_)
  · replace hf := f_el hB hf
    refine x_iconst (v := (0)) dX11_aCase_44 (by decide) ?_
    cases hf
    exact x_zret (b := false) dX11_aCase_45 rfl rfl
  · replace hf := f_if hB hf
    refine x_aload_n 0 dX11_aCase_11 rfl rfl ?_
    refine x_ldcS dX11_aCase_12 ?_
    refine x_bipush (v := (7)) dX11_aCase_14 (by decide) ?_
    obtain ⟨q3, hq4, hf⟩ := f_bd hf
    refine x_callVi [.ref 9001, .int (7 : Int32)] (c_X11_wantWord (I := q1.2.1) (L := q1.2.2)  hq4) dX11_aCase_16 lk_X11_226 lm_0 rfl cd_X11_wantWord rfl rfl (Nat.le_of_ble_eq_true rfl) ⟨rfl, rfl, Nat.le_of_ble_eq_true rfl, Nat.le_of_ble_eq_true rfl⟩ ?_
    refine x_if_eqB 44 dX11_aCase_19 (by decide) (fun hB => ?_) (fun hB => ?_)
    · replace hf := f_el hB hf
      refine x_iconst (v := (0)) dX11_aCase_44 (by decide) ?_
      cases hf
      exact x_zret (b := false) dX11_aCase_45 rfl rfl
    · replace hf := f_if hB hf
      refine x_aload_n 0 dX11_aCase_22 rfl rfl ?_
      refine x_sipush (v := (1734)) dX11_aCase_23 (by decide) ?_
      refine x_aload_n 0 dX11_aCase_26 rfl rfl ?_
      refine x_getR dX11_aCase_27 lm_0 fl_X11_7 rfl ?_
      refine x_sipush (v := (1713)) dX11_aCase_30 (by decide) ?_
      refine x_iald (j := 1713) (v := (q3.2 1 1713)) dX11_aCase_33 lm_1 (by decide +kernel) (by decide +kernel) rfl ?_
      refine x_iadd dX11_aCase_34 ?_
      refine x_iconst (v := (1)) dX11_aCase_35 (by decide) ?_
      refine x_bipush (v := (20)) dX11_aCase_36 (by decide) ?_
      obtain ⟨q6, hq7, hf⟩ := f_bd hf
      refine x_callVi [.int ((1734 : Int32) + (q3.2 1 1713)), .int (1 : Int32), .int (20 : Int32)] (c_X11_number (I := q3.2) (L := q1.2.2)  hq7) dX11_aCase_38 lk_X11_197 lm_0 rfl cd_X11_number rfl rfl (Nat.le_of_ble_eq_true rfl) ⟨rfl, rfl, Nat.le_of_ble_eq_true rfl, Nat.le_of_ble_eq_true rfl⟩ ?_
      refine x_if_neB 46 dX11_aCase_41 (by decide) (fun hB => ?_) (fun hB => ?_)
      · replace hf := f_if hB hf
        refine x_aload_n 0 dX11_aCase_46 rfl rfl ?_
        refine x_getR dX11_aCase_47 lm_0 fl_X11_7 rfl ?_
        refine x_sipush (v := (1713)) dX11_aCase_50 (by decide) ?_
        refine x_dup2 dX11_aCase_53 rfl rfl ?_
        refine x_iald (j := 1713) (v := (q6.2 1 1713)) dX11_aCase_54 lm_1 (by decide +kernel) (by decide +kernel) rfl ?_
        refine x_iconst (v := (1)) dX11_aCase_55 (by decide) ?_
        refine x_iadd dX11_aCase_56 ?_
        obtain ⟨I10, hI10, hf⟩ := f_lt hf
        refine x_iast (j0 := 1713) dX11_aCase_57 lm_1 (by decide +kernel) (by decide +kernel) hI10 ?_
        refine x_iconst (v := (1)) dX11_aCase_58 (by decide) ?_
        cases hf
        exact x_zret (b := true) dX11_aCase_59 rfl rfl
      · replace hf := f_el hB hf
        refine x_iconst (v := (0)) dX11_aCase_44 (by decide) ?_
        cases hf
        exact x_zret (b := false) dX11_aCase_45 rfl rfl
set_option maxRecDepth 100000 in
set_option maxHeartbeats 4000000 in
theorem l_X11_aClaim_91   (v1 : Int32) (v2 : Int32) (L : z_L) {r : Bool × z_I × z_L} (k179 : z_I → Option (Bool × z_I × z_L)) (hk179 : ∀ (I : z_I), k179 I = some r → z_X layM RX11 cX11_aClaim 4 (some .boolean) ({ frames := 7, cells := 0, slots := 0, locals := 162 } : Room) 179 [(0, .ref 0)] [] I L (some (.int (zb r.1)), r.2.1, r.2.2)) : ∀ (n : Nat) (I : z_I), g_X11_aClaim_91 v1 v2 L k179 n I = some r → z_X layM RX11 cX11_aClaim 4 (some .boolean) ({ frames := 7, cells := 0, slots := 0, locals := 162 } : Room) 91 [(0, .ref 0), (1, .int v1), (2, .int v2)] [] I L (some (.int (zb r.1)), r.2.1, r.2.2) := by
  intro n
  induction n with
  | zero => intro I hf; cases hf
  | succ n ih =>
    intro I hf
    rw [g_X11_aClaim_91] at hf
    refine x_aload_n 0 dX11_aClaim_91 rfl rfl ?_
    refine x_ldcS dX11_aClaim_92 ?_
    obtain ⟨q15, hq16, hf⟩ := f_bd hf
    refine x_callVi [.ref 9001] (c_X11_isName (I := I) (L := L)  hq16) dX11_aClaim_94 lk_X11_208 lm_0 rfl cd_X11_isName rfl rfl (Nat.le_of_ble_eq_true rfl) ⟨rfl, rfl, Nat.le_of_ble_eq_true rfl, Nat.le_of_ble_eq_true rfl⟩ ?_
    refine x_if_eqB 179 dX11_aClaim_97 (by decide) (fun hB => ?_) (fun hB => ?_)
    · replace hf := f_el hB hf
      refine x_lv [(0, .ref 0)] [0] rfl ?_
      exact hk179 _ hf
    · replace hf := f_if hB hf
      refine x_aload_n 0 dX11_aClaim_100 rfl rfl ?_
      refine x_bipush (v := (76)) dX11_aClaim_101 (by decide) ?_
      refine x_aload_n 0 dX11_aClaim_103 rfl rfl ?_
      refine x_getR dX11_aClaim_104 lm_0 fl_X11_7 rfl ?_
      refine x_sipush (v := (1713)) dX11_aClaim_107 (by decide) ?_
      refine x_iald (j := 1713) (v := (I 1 1713)) dX11_aClaim_110 lm_1 (by decide +kernel) (by decide +kernel) rfl ?_
      obtain ⟨q18, hq19, hf⟩ := f_bd hf
      refine x_callVi [.int (76 : Int32), .int (I 1 1713)] (c_X11_findHere (I := I) (L := L)  hq19) dX11_aClaim_111 lk_X11_201 lm_0 rfl cd_X11_findHere rfl rfl (Nat.le_of_ble_eq_true rfl) ⟨rfl, rfl, Nat.le_of_ble_eq_true rfl, Nat.le_of_ble_eq_true rfl⟩ ?_
      refine x_istore_n [(3, .int q18), (0, .ref 0), (1, .int v1), (2, .int v2)] dX11_aClaim_114 rfl (by decide) rfl ?_
      refine x_iload_n 0 dX11_aClaim_115 rfl rfl ?_
      refine x_iconst (v := (-1)) dX11_aClaim_116 (by decide) ?_
      refine x_icmp_eq 142 dX11_aClaim_117 (by decide) (fun hB => ?_) (fun hB => ?_)
      · replace hf := f_if hB hf
        refine x_aload_n 1 dX11_aClaim_142 rfl rfl ?_
        refine x_bipush (v := (76)) dX11_aClaim_143 (by decide) ?_
        refine x_aload_n 1 dX11_aClaim_145 rfl rfl ?_
        refine x_getR dX11_aClaim_146 lm_0 fl_X11_7 rfl ?_
        refine x_sipush (v := (1713)) dX11_aClaim_149 (by decide) ?_
        refine x_iald (j := 1713) (v := (I 1 1713)) dX11_aClaim_152 lm_1 (by decide +kernel) (by decide +kernel) rfl ?_
        refine x_iload_n 3 dX11_aClaim_153 rfl rfl ?_
        obtain ⟨q21, hq22, hf⟩ := f_bd hf
        refine x_callVi [.int (76 : Int32), .int (I 1 1713), .int v2] (c_X11_oldOne (I := I) (L := L)  hq22) dX11_aClaim_154 lk_X11_239 lm_0 rfl cd_X11_oldOne rfl rfl (Nat.le_of_ble_eq_true rfl) ⟨rfl, rfl, Nat.le_of_ble_eq_true rfl, Nat.le_of_ble_eq_true rfl⟩ ?_
        refine x_if_neB 162 dX11_aClaim_157 (by decide) (fun hB => ?_) (fun hB => ?_)
        · replace hf := f_if hB hf
          refine x_aload_n 1 dX11_aClaim_162 rfl rfl ?_
          refine x_getR dX11_aClaim_163 lm_0 fl_X11_7 rfl ?_
          refine x_iload_n 2 dX11_aClaim_166 rfl rfl ?_
          refine x_iconst (v := (2)) dX11_aClaim_167 (by decide) ?_
          refine x_iadd dX11_aClaim_168 ?_
          refine x_dup2 dX11_aClaim_169 rfl rfl ?_
          obtain ⟨h23, hf⟩ := f_gd hf
          refine x_iald (j := ((v1 + (2 : Int32))).toNatClampNeg) (v := (q21.2 1 ((v1 + (2 : Int32))).toNatClampNeg)) dX11_aClaim_170 lm_1 h23 rfl rfl ?_
          refine x_iconst (v := (1)) dX11_aClaim_171 (by decide) ?_
          refine x_iload_n 0 dX11_aClaim_172 rfl rfl ?_
          refine x_ishl dX11_aClaim_173 ?_
          refine x_ior dX11_aClaim_174 ?_
          obtain ⟨I25, hI25, hf⟩ := f_lt hf
          refine x_iast (j0 := ((v1 + (2 : Int32))).toNatClampNeg) dX11_aClaim_175 lm_1 h23 rfl hI25 ?_
          refine x_goto 91 dX11_aClaim_176 (by decide) ?_
          refine x_lv [(0, .ref 0), (1, .int v1), (2, .int v2)] [1, 2, 3] rfl ?_
          exact ih _ hf
        · replace hf := f_el hB hf
          refine x_iconst (v := (0)) dX11_aClaim_160 (by decide) ?_
          cases hf
          exact x_zret (b := false) dX11_aClaim_161 rfl rfl
      · replace hf := f_el hB hf
        refine x_aload_n 1 dX11_aClaim_120 rfl rfl ?_
        refine x_aload_n 1 dX11_aClaim_121 rfl rfl ?_
        refine x_getR dX11_aClaim_122 lm_0 fl_X11_7 rfl ?_
        refine x_iload_n 2 dX11_aClaim_125 rfl rfl ?_
        refine x_iconst (v := (2)) dX11_aClaim_126 (by decide) ?_
        refine x_iadd dX11_aClaim_127 ?_
        obtain ⟨h26, hf⟩ := f_gd hf
        refine x_iald (j := ((v1 + (2 : Int32))).toNatClampNeg) (v := (I 1 ((v1 + (2 : Int32))).toNatClampNeg)) dX11_aClaim_128 lm_1 h26 rfl rfl ?_
        refine x_iload_n 0 dX11_aClaim_129 rfl rfl ?_
        refine x_callVi [.int (I 1 ((v1 + (2 : Int32))).toNatClampNeg), .int q18] (c_X11_isIn (I := I) (L := L) (I 1 ((v1 + (2 : Int32))).toNatClampNeg) q18) dX11_aClaim_130 lk_X11_236 lm_0 rfl cd_X11_isIn rfl rfl (Nat.le_of_ble_eq_true rfl) ⟨rfl, rfl, Nat.le_of_ble_eq_true rfl, Nat.le_of_ble_eq_true rfl⟩ ?_
        refine x_if_eqB 142 dX11_aClaim_133 (by decide) (fun hB => ?_) (fun hB => ?_)
        · replace hf := f_el hB hf
          refine x_aload_n 1 dX11_aClaim_142 rfl rfl ?_
          refine x_bipush (v := (76)) dX11_aClaim_143 (by decide) ?_
          refine x_aload_n 1 dX11_aClaim_145 rfl rfl ?_
          refine x_getR dX11_aClaim_146 lm_0 fl_X11_7 rfl ?_
          refine x_sipush (v := (1713)) dX11_aClaim_149 (by decide) ?_
          refine x_iald (j := 1713) (v := (I 1 1713)) dX11_aClaim_152 lm_1 (by decide +kernel) (by decide +kernel) rfl ?_
          refine x_iload_n 3 dX11_aClaim_153 rfl rfl ?_
          obtain ⟨q28, hq29, hf⟩ := f_bd hf
          refine x_callVi [.int (76 : Int32), .int (I 1 1713), .int v2] (c_X11_oldOne (I := I) (L := L)  hq29) dX11_aClaim_154 lk_X11_239 lm_0 rfl cd_X11_oldOne rfl rfl (Nat.le_of_ble_eq_true rfl) ⟨rfl, rfl, Nat.le_of_ble_eq_true rfl, Nat.le_of_ble_eq_true rfl⟩ ?_
          refine x_if_neB 162 dX11_aClaim_157 (by decide) (fun hB => ?_) (fun hB => ?_)
          · replace hf := f_if hB hf
            refine x_aload_n 1 dX11_aClaim_162 rfl rfl ?_
            refine x_getR dX11_aClaim_163 lm_0 fl_X11_7 rfl ?_
            refine x_iload_n 2 dX11_aClaim_166 rfl rfl ?_
            refine x_iconst (v := (2)) dX11_aClaim_167 (by decide) ?_
            refine x_iadd dX11_aClaim_168 ?_
            refine x_dup2 dX11_aClaim_169 rfl rfl ?_
            refine x_iald (j := ((v1 + (2 : Int32))).toNatClampNeg) (v := (q28.2 1 ((v1 + (2 : Int32))).toNatClampNeg)) dX11_aClaim_170 lm_1 h26 rfl rfl ?_
            refine x_iconst (v := (1)) dX11_aClaim_171 (by decide) ?_
            refine x_iload_n 0 dX11_aClaim_172 rfl rfl ?_
            refine x_ishl dX11_aClaim_173 ?_
            refine x_ior dX11_aClaim_174 ?_
            obtain ⟨I32, hI32, hf⟩ := f_lt hf
            refine x_iast (j0 := ((v1 + (2 : Int32))).toNatClampNeg) dX11_aClaim_175 lm_1 h26 rfl hI32 ?_
            refine x_goto 91 dX11_aClaim_176 (by decide) ?_
            refine x_lv [(0, .ref 0), (1, .int v1), (2, .int v2)] [1, 2, 3] rfl ?_
            exact ih _ hf
          · replace hf := f_el hB hf
            refine x_iconst (v := (0)) dX11_aClaim_160 (by decide) ?_
            cases hf
            exact x_zret (b := false) dX11_aClaim_161 rfl rfl
        · replace hf := f_if hB hf
          refine x_aload_n 1 dX11_aClaim_136 rfl rfl ?_
          refine x_iconst (v := (5)) dX11_aClaim_137 (by decide) ?_
          refine x_callVi [.int (5 : Int32)] (c_X11_fails (I := I) (L := L) (5 : Int32)) dX11_aClaim_138 lk_X11_181 lm_0 rfl cd_X11_fails rfl rfl (Nat.le_of_ble_eq_true rfl) ⟨rfl, rfl, Nat.le_of_ble_eq_true rfl, Nat.le_of_ble_eq_true rfl⟩ ?_
          cases hf
          exact x_zret dX11_aClaim_141 rfl rfl
set_option maxRecDepth 100000 in
set_option maxHeartbeats 4000000 in
theorem c_X11_aClaim {I : z_I} {L : z_L}   {r : Bool × z_I × z_L} (hf : f_X11_aClaim I L = some r) : z_C layM yX11_aClaim cX11_aClaim 4 (some .boolean) ({ frames := 7, cells := 0, slots := 0, locals := 162 } : Room) [.ref 0] I L (some (.int (zb r.1)), r.2.1, r.2.2) := by
  refine z_C.of (by decide) (Nat.le_of_ble_eq_true rfl) ?_
  show z_X layM RX11 cX11_aClaim 4 (some .boolean) ({ frames := 7, cells := 0, slots := 0, locals := 162 } : Room) 0 [(0, .ref 0)] [] I L (some (.int (zb r.1)), r.2.1, r.2.2)
  unfold f_X11_aClaim at hf
  refine x_sipush (v := (1712)) dX11_aClaim_0 (by decide) ?_
  refine x_aload_n 0 dX11_aClaim_3 rfl rfl ?_
  refine x_getR dX11_aClaim_4 lm_0 fl_X11_7 rfl ?_
  refine x_sipush (v := (1714)) dX11_aClaim_7 (by decide) ?_
  refine x_iald (j := 1714) (v := (I 1 1714)) dX11_aClaim_10 lm_1 (by decide +kernel) (by decide +kernel) rfl ?_
  refine x_callSi [.int (I 1 1714)] (c_X11_claimRow (I := I) (L := L) (I 1 1714)) dX11_aClaim_11 lk_X11_230 cd_X11_claimRow rfl rfl (Nat.le_of_ble_eq_true rfl) ⟨rfl, rfl, Nat.le_of_ble_eq_true rfl, Nat.le_of_ble_eq_true rfl⟩ ?_
  refine x_iadd dX11_aClaim_14 ?_
  obtain ⟨w2, hw2, hf⟩ := f_lt hf
  refine x_topI hw2 ?_
  refine x_istore_n [(1, .int w2), (0, .ref 0)] dX11_aClaim_15 rfl (by decide) rfl ?_
  refine x_sipush (v := (2132)) dX11_aClaim_16 (by decide) ?_
  refine x_istore_n [(2, .int (2132 : Int32)), (1, .int w2), (0, .ref 0)] dX11_aClaim_19 rfl (by decide) rfl ?_
  refine x_aload_n 2 dX11_aClaim_20 rfl rfl ?_
  refine x_iconst (v := (2)) dX11_aClaim_21 (by decide) ?_
  refine x_bipush (v := (7)) dX11_aClaim_22 (by decide) ?_
  refine x_bipush (v := (8)) dX11_aClaim_24 (by decide) ?_
  obtain ⟨q3, hq4, hf⟩ := f_bd hf
  refine x_callVi [.int (2 : Int32), .int (7 : Int32), .int (8 : Int32)] (c_X11_newOne (I := I) (L := L)  hq4) dX11_aClaim_26 lk_X11_223 lm_0 rfl cd_X11_newOne rfl rfl (Nat.le_of_ble_eq_true rfl) ⟨rfl, rfl, Nat.le_of_ble_eq_true rfl, Nat.le_of_ble_eq_true rfl⟩ ?_
  refine x_if_eqB 67 dX11_aClaim_29 (by decide) (fun hB => ?_) (fun hB => ?_)
  · replace hf := f_el hB hf
    refine x_iconst (v := (0)) dX11_aClaim_67 (by decide) ?_
    cases hf
    exact x_zret (b := false) dX11_aClaim_68 rfl rfl
  · replace hf := f_if hB hf
    refine x_aload_n 2 dX11_aClaim_32 rfl rfl ?_
    refine x_ldcS dX11_aClaim_33 ?_
    refine x_bipush (v := (8)) dX11_aClaim_35 (by decide) ?_
    obtain ⟨q5, hq6, hf⟩ := f_bd hf
    refine x_callVi [.ref 9001, .int (8 : Int32)] (c_X11_wantWord (I := q3.2.1) (L := q3.2.2)  hq6) dX11_aClaim_37 lk_X11_226 lm_0 rfl cd_X11_wantWord rfl rfl (Nat.le_of_ble_eq_true rfl) ⟨rfl, rfl, Nat.le_of_ble_eq_true rfl, Nat.le_of_ble_eq_true rfl⟩ ?_
    refine x_if_eqB 67 dX11_aClaim_40 (by decide) (fun hB => ?_) (fun hB => ?_)
    · replace hf := f_el hB hf
      refine x_iconst (v := (0)) dX11_aClaim_67 (by decide) ?_
      cases hf
      exact x_zret (b := false) dX11_aClaim_68 rfl rfl
    · replace hf := f_if hB hf
      refine x_aload_n 2 dX11_aClaim_43 rfl rfl ?_
      refine x_iload_n 1 dX11_aClaim_44 rfl rfl ?_
      obtain ⟨q7, hq8, hf⟩ := f_bd hf
      refine x_callVi [.int w2] (c_X11_newBedTo (I := q5.2) (L := q3.2.2)  hq8) dX11_aClaim_45 lk_X11_233 lm_0 rfl cd_X11_newBedTo rfl rfl (Nat.le_of_ble_eq_true rfl) ⟨rfl, rfl, Nat.le_of_ble_eq_true rfl, Nat.le_of_ble_eq_true rfl⟩ ?_
      refine x_if_eqB 67 dX11_aClaim_48 (by decide) (fun hB => ?_) (fun hB => ?_)
      · replace hf := f_el hB hf
        refine x_iconst (v := (0)) dX11_aClaim_67 (by decide) ?_
        cases hf
        exact x_zret (b := false) dX11_aClaim_68 rfl rfl
      · replace hf := f_if hB hf
        refine x_aload_n 2 dX11_aClaim_51 rfl rfl ?_
        refine x_bipush (v := (9)) dX11_aClaim_52 (by decide) ?_
        refine x_iload_n 1 dX11_aClaim_54 rfl rfl ?_
        refine x_iconst (v := (1)) dX11_aClaim_55 (by decide) ?_
        refine x_iadd dX11_aClaim_56 ?_
        refine x_iconst (v := (1)) dX11_aClaim_57 (by decide) ?_
        refine x_bipush (v := (9)) dX11_aClaim_58 (by decide) ?_
        refine x_iconst (v := (1)) dX11_aClaim_60 (by decide) ?_
        obtain ⟨q9, hq10, hf⟩ := f_bd hf
        refine x_callVi [.int (9 : Int32), .int (w2 + (1 : Int32)), .int (1 : Int32), .int (9 : Int32), .int (1 : Int32)] (c_X11_perhaps (I := q7.2) (L := q3.2.2)  hq10) dX11_aClaim_61 lk_X11_219 lm_0 rfl cd_X11_perhaps rfl rfl (Nat.le_of_ble_eq_true rfl) ⟨rfl, rfl, Nat.le_of_ble_eq_true rfl, Nat.le_of_ble_eq_true rfl⟩ ?_
        refine x_if_neB 69 dX11_aClaim_64 (by decide) (fun hB => ?_) (fun hB => ?_)
        · replace hf := f_if hB hf
          refine x_aload_n 2 dX11_aClaim_69 rfl rfl ?_
          refine x_ldcS dX11_aClaim_70 ?_
          refine x_bipush (v := (10)) dX11_aClaim_72 (by decide) ?_
          obtain ⟨q11, hq12, hf⟩ := f_bd hf
          refine x_callVi [.ref 9001, .int (10 : Int32)] (c_X11_wantWord (I := q9.2) (L := q3.2.2)  hq12) dX11_aClaim_74 lk_X11_226 lm_0 rfl cd_X11_wantWord rfl rfl (Nat.le_of_ble_eq_true rfl) ⟨rfl, rfl, Nat.le_of_ble_eq_true rfl, Nat.le_of_ble_eq_true rfl⟩ ?_
          refine x_if_neB 82 dX11_aClaim_77 (by decide) (fun hB => ?_) (fun hB => ?_)
          · replace hf := f_if hB hf
            refine x_aload_n 2 dX11_aClaim_82 rfl rfl ?_
            refine x_getR dX11_aClaim_83 lm_0 fl_X11_7 rfl ?_
            refine x_iload_n 1 dX11_aClaim_86 rfl rfl ?_
            refine x_iconst (v := (2)) dX11_aClaim_87 (by decide) ?_
            refine x_iadd dX11_aClaim_88 ?_
            refine x_iconst (v := (0)) dX11_aClaim_89 (by decide) ?_
            obtain ⟨h13, hf⟩ := f_gd hf
            obtain ⟨I14, hI14, hf⟩ := f_lt hf
            refine x_iast (j0 := ((w2 + (2 : Int32))).toNatClampNeg) dX11_aClaim_90 lm_1 h13 rfl hI14 ?_
            refine x_lv [(0, .ref 0), (1, .int w2), (2, .int (2132 : Int32))] [2, 1, 0] rfl ?_
            refine l_X11_aClaim_91 w2 (2132 : Int32) (q3.2.2) _ ?_ _ _ hf
            · intro I_33 hf
              refine x_aload_n 0 dX11_aClaim_179 rfl rfl ?_
              refine x_getR dX11_aClaim_180 lm_0 fl_X11_7 rfl ?_
              refine x_sipush (v := (1714)) dX11_aClaim_183 (by decide) ?_
              refine x_dup2 dX11_aClaim_186 rfl rfl ?_
              refine x_iald (j := 1714) (v := (I_33 1 1714)) dX11_aClaim_187 lm_1 (by decide +kernel) (by decide +kernel) rfl ?_
              refine x_iconst (v := (1)) dX11_aClaim_188 (by decide) ?_
              refine x_iadd dX11_aClaim_189 ?_
              obtain ⟨I36, hI36, hf⟩ := f_lt hf
              refine x_iast (j0 := 1714) dX11_aClaim_190 lm_1 (by decide +kernel) (by decide +kernel) hI36 ?_
              refine x_iconst (v := (1)) dX11_aClaim_191 (by decide) ?_
              cases hf
              exact x_zret (b := true) dX11_aClaim_192 rfl rfl
          · replace hf := f_el hB hf
            refine x_iconst (v := (0)) dX11_aClaim_80 (by decide) ?_
            cases hf
            exact x_zret (b := false) dX11_aClaim_81 rfl rfl
        · replace hf := f_el hB hf
          refine x_iconst (v := (0)) dX11_aClaim_67 (by decide) ?_
          cases hf
          exact x_zret (b := false) dX11_aClaim_68 rfl rfl
set_option maxRecDepth 100000 in
set_option maxHeartbeats 4000000 in
theorem c_X11_aScholar {I : z_I} {L : z_L}   {r : Bool × z_I × z_L} (hf : f_X11_aScholar I L = some r) : z_C layM yX11_aScholar cX11_aScholar 2 (some .boolean) ({ frames := 7, cells := 0, slots := 0, locals := 162 } : Room) [.ref 0] I L (some (.int (zb r.1)), r.2.1, r.2.2) := by
  refine z_C.of (by decide) (Nat.le_of_ble_eq_true rfl) ?_
  show z_X layM RX11 cX11_aScholar 2 (some .boolean) ({ frames := 7, cells := 0, slots := 0, locals := 162 } : Room) 0 [(0, .ref 0)] [] I L (some (.int (zb r.1)), r.2.1, r.2.2)
  unfold f_X11_aScholar at hf
  refine x_sipush (v := (1712)) dX11_aScholar_0 (by decide) ?_
  refine x_aload_n 0 dX11_aScholar_3 rfl rfl ?_
  refine x_getR dX11_aScholar_4 lm_0 fl_X11_7 rfl ?_
  refine x_sipush (v := (1715)) dX11_aScholar_7 (by decide) ?_
  refine x_iald (j := 1715) (v := (I 1 1715)) dX11_aScholar_10 lm_1 (by decide +kernel) (by decide +kernel) rfl ?_
  refine x_callSi [.int (I 1 1715)] (c_X11_scholarRow (I := I) (L := L) (I 1 1715)) dX11_aScholar_11 lk_X11_242 cd_X11_scholarRow rfl rfl (Nat.le_of_ble_eq_true rfl) ⟨rfl, rfl, Nat.le_of_ble_eq_true rfl, Nat.le_of_ble_eq_true rfl⟩ ?_
  refine x_iadd dX11_aScholar_14 ?_
  obtain ⟨w2, hw2, hf⟩ := f_lt hf
  refine x_topI hw2 ?_
  refine x_istore_n [(1, .int w2), (0, .ref 0)] dX11_aScholar_15 rfl (by decide) rfl ?_
  refine x_aload_n 1 dX11_aScholar_16 rfl rfl ?_
  refine x_iconst (v := (3)) dX11_aScholar_17 (by decide) ?_
  refine x_iconst (v := (4)) dX11_aScholar_18 (by decide) ?_
  refine x_bipush (v := (15)) dX11_aScholar_19 (by decide) ?_
  obtain ⟨q3, hq4, hf⟩ := f_bd hf
  refine x_callVi [.int (3 : Int32), .int (4 : Int32), .int (15 : Int32)] (c_X11_newOne (I := I) (L := L)  hq4) dX11_aScholar_21 lk_X11_223 lm_0 rfl cd_X11_newOne rfl rfl (Nat.le_of_ble_eq_true rfl) ⟨rfl, rfl, Nat.le_of_ble_eq_true rfl, Nat.le_of_ble_eq_true rfl⟩ ?_
  refine x_if_eqB 63 dX11_aScholar_24 (by decide) (fun hB => ?_) (fun hB => ?_)
  · replace hf := f_el hB hf
    refine x_iconst (v := (0)) dX11_aScholar_63 (by decide) ?_
    cases hf
    exact x_zret (b := false) dX11_aScholar_64 rfl rfl
  · replace hf := f_if hB hf
    refine x_aload_n 1 dX11_aScholar_27 rfl rfl ?_
    refine x_ldcS dX11_aScholar_28 ?_
    refine x_bipush (v := (8)) dX11_aScholar_30 (by decide) ?_
    obtain ⟨q5, hq6, hf⟩ := f_bd hf
    refine x_callVi [.ref 9001, .int (8 : Int32)] (c_X11_wantWord (I := q3.2.1) (L := q3.2.2)  hq6) dX11_aScholar_32 lk_X11_226 lm_0 rfl cd_X11_wantWord rfl rfl (Nat.le_of_ble_eq_true rfl) ⟨rfl, rfl, Nat.le_of_ble_eq_true rfl, Nat.le_of_ble_eq_true rfl⟩ ?_
    refine x_if_eqB 63 dX11_aScholar_35 (by decide) (fun hB => ?_) (fun hB => ?_)
    · replace hf := f_el hB hf
      refine x_iconst (v := (0)) dX11_aScholar_63 (by decide) ?_
      cases hf
      exact x_zret (b := false) dX11_aScholar_64 rfl rfl
    · replace hf := f_if hB hf
      refine x_aload_n 1 dX11_aScholar_38 rfl rfl ?_
      refine x_iload_n 0 dX11_aScholar_39 rfl rfl ?_
      obtain ⟨q7, hq8, hf⟩ := f_bd hf
      refine x_callVi [.int w2] (c_X11_newBedTo (I := q5.2) (L := q3.2.2)  hq8) dX11_aScholar_40 lk_X11_233 lm_0 rfl cd_X11_newBedTo rfl rfl (Nat.le_of_ble_eq_true rfl) ⟨rfl, rfl, Nat.le_of_ble_eq_true rfl, Nat.le_of_ble_eq_true rfl⟩ ?_
      refine x_if_eqB 63 dX11_aScholar_43 (by decide) (fun hB => ?_) (fun hB => ?_)
      · replace hf := f_el hB hf
        refine x_iconst (v := (0)) dX11_aScholar_63 (by decide) ?_
        cases hf
        exact x_zret (b := false) dX11_aScholar_64 rfl rfl
      · replace hf := f_if hB hf
        refine x_aload_n 1 dX11_aScholar_46 rfl rfl ?_
        refine x_bipush (v := (11)) dX11_aScholar_47 (by decide) ?_
        refine x_iload_n 0 dX11_aScholar_49 rfl rfl ?_
        refine x_iconst (v := (1)) dX11_aScholar_50 (by decide) ?_
        refine x_iadd dX11_aScholar_51 ?_
        refine x_iconst (v := (0)) dX11_aScholar_52 (by decide) ?_
        refine x_sipush (v := (999)) dX11_aScholar_53 (by decide) ?_
        refine x_iconst (v := (0)) dX11_aScholar_56 (by decide) ?_
        obtain ⟨q9, hq10, hf⟩ := f_bd hf
        refine x_callVi [.int (11 : Int32), .int (w2 + (1 : Int32)), .int (0 : Int32), .int (999 : Int32), .int (0 : Int32)] (c_X11_perhaps (I := q7.2) (L := q3.2.2)  hq10) dX11_aScholar_57 lk_X11_219 lm_0 rfl cd_X11_perhaps rfl rfl (Nat.le_of_ble_eq_true rfl) ⟨rfl, rfl, Nat.le_of_ble_eq_true rfl, Nat.le_of_ble_eq_true rfl⟩ ?_
        refine x_if_neB 65 dX11_aScholar_60 (by decide) (fun hB => ?_) (fun hB => ?_)
        · replace hf := f_if hB hf
          refine x_aload_n 1 dX11_aScholar_65 rfl rfl ?_
          refine x_getR dX11_aScholar_66 lm_0 fl_X11_7 rfl ?_
          refine x_sipush (v := (1715)) dX11_aScholar_69 (by decide) ?_
          refine x_dup2 dX11_aScholar_72 rfl rfl ?_
          refine x_iald (j := 1715) (v := (q9.2 1 1715)) dX11_aScholar_73 lm_1 (by decide +kernel) (by decide +kernel) rfl ?_
          refine x_iconst (v := (1)) dX11_aScholar_74 (by decide) ?_
          refine x_iadd dX11_aScholar_75 ?_
          obtain ⟨I13, hI13, hf⟩ := f_lt hf
          refine x_iast (j0 := 1715) dX11_aScholar_76 lm_1 (by decide +kernel) (by decide +kernel) hI13 ?_
          refine x_iconst (v := (1)) dX11_aScholar_77 (by decide) ?_
          cases hf
          exact x_zret (b := true) dX11_aScholar_78 rfl rfl
        · replace hf := f_el hB hf
          refine x_iconst (v := (0)) dX11_aScholar_63 (by decide) ?_
          cases hf
          exact x_zret (b := false) dX11_aScholar_64 rfl rfl
set_option maxRecDepth 100000 in
set_option maxHeartbeats 4000000 in
theorem c_X11_courtPart {I : z_I} {L : z_L}   {r : Bool × z_I × z_L} (hf : f_X11_courtPart I L = some r) : z_C layM yX11_courtPart cX11_courtPart 3 (some .boolean) ({ frames := 8, cells := 0, slots := 0, locals := 185 } : Room) [.ref 0] I L (some (.int (zb r.1)), r.2.1, r.2.2) := by
  refine z_C.of (by decide) (Nat.le_of_ble_eq_true rfl) ?_
  show z_X layM RX11 cX11_courtPart 3 (some .boolean) ({ frames := 8, cells := 0, slots := 0, locals := 185 } : Room) 0 [(0, .ref 0)] [] I L (some (.int (zb r.1)), r.2.1, r.2.2)
  unfold f_X11_courtPart at hf
  refine x_aload_n 0 dX11_courtPart_0 rfl rfl ?_
  refine x_ldcS dX11_courtPart_1 ?_
  obtain ⟨q1, hq2, hf⟩ := f_bd hf
  refine x_callVi [.ref 9001] (c_X11_inWords (I := I) (L := L)  hq2) dX11_courtPart_3 lk_X11_184 lm_0 rfl cd_X11_inWords rfl rfl (Nat.le_of_ble_eq_true rfl) ⟨rfl, rfl, Nat.le_of_ble_eq_true rfl, Nat.le_of_ble_eq_true rfl⟩ ?_
  refine x_istore_n [(1, .int q1), (0, .ref 0)] dX11_courtPart_6 rfl (by decide) rfl ?_
  refine x_iload_n 0 dX11_courtPart_7 rfl rfl ?_
  refine x_if_lt 16 dX11_courtPart_8 (by decide) (fun hB => ?_) (fun hB => ?_)
  · replace hf := f_if hB hf
    refine x_aload_n 1 dX11_courtPart_16 rfl rfl ?_
    refine x_iconst (v := (2)) dX11_courtPart_17 (by decide) ?_
    refine x_callVi [.int (2 : Int32)] (c_X11_fails (I := I) (L := L) (2 : Int32)) dX11_courtPart_18 lk_X11_181 lm_0 rfl cd_X11_fails rfl rfl (Nat.le_of_ble_eq_true rfl) ⟨rfl, rfl, Nat.le_of_ble_eq_true rfl, Nat.le_of_ble_eq_true rfl⟩ ?_
    cases hf
    exact x_zret dX11_courtPart_21 rfl rfl
  · replace hf := f_el hB hf
    refine x_iload_n 0 dX11_courtPart_11 rfl rfl ?_
    refine x_iconst (v := (4)) dX11_courtPart_12 (by decide) ?_
    refine x_icmp_le 22 dX11_courtPart_13 (by decide) (fun hB => ?_) (fun hB => ?_)
    · replace hf := f_if hB hf
      refine x_iload_n 0 dX11_courtPart_22 rfl rfl ?_
      refine x_if_ne 40 dX11_courtPart_23 (by decide) (fun hB => ?_) (fun hB => ?_)
      · replace hf := f_el hB hf
        refine x_iload_n 0 dX11_courtPart_40 rfl rfl ?_
        refine x_if_ne 53 dX11_courtPart_41 (by decide) (fun hB => ?_) (fun hB => ?_)
        · replace hf := f_el hB hf
          refine x_iload_n 0 dX11_courtPart_53 rfl rfl ?_
          by_cases hs85 : q1 = (0)
          · replace hf := f_if hs85 hf
            refine x_tabIn (0) 84 dX11_courtPart_54 hs85 (by decide) (by decide) rfl (by decide) ?_
            refine x_aload_n 1 dX11_courtPart_84 rfl rfl ?_
            refine x_sipush (v := (1716)) dX11_courtPart_85 (by decide) ?_
            refine x_iconst (v := (0)) dX11_courtPart_88 (by decide) ?_
            refine x_bipush (v := (16)) dX11_courtPart_89 (by decide) ?_
            obtain ⟨q81, hq82, hf⟩ := f_bd hf
            refine x_callVi [.int (1716 : Int32), .int (0 : Int32), .int (16 : Int32)] (c_X11_number (I := I) (L := L)  hq82) dX11_courtPart_91 lk_X11_197 lm_0 rfl cd_X11_number rfl rfl (Nat.le_of_ble_eq_true rfl) ⟨rfl, rfl, Nat.le_of_ble_eq_true rfl, Nat.le_of_ble_eq_true rfl⟩ ?_
            refine x_istore_n [(2, .int (zb q81.1)), (1, .int q1), (0, .ref 0)] dX11_courtPart_94 rfl (by decide) rfl ?_
            refine x_goto 127 dX11_courtPart_95 (by decide) ?_
            refine x_iload_n 0 dX11_courtPart_127 rfl rfl ?_
            refine x_if_eqB 144 dX11_courtPart_128 (by decide) (fun hB => ?_) (fun hB => ?_)
            · replace hf := f_el hB hf
              refine x_iconst (v := (0)) dX11_courtPart_144 (by decide) ?_
              cases hf
              exact x_zret (b := false) dX11_courtPart_145 rfl rfl
            · replace hf := f_if hB hf
              refine x_aload_n 2 dX11_courtPart_131 rfl rfl ?_
              refine x_bipush (v := (59)) dX11_courtPart_132 (by decide) ?_
              obtain ⟨q83, hq84, hf⟩ := f_bd hf
              refine x_callVi [.int (59 : Int32)] (c_X11_wantSign (I := q81.2) (L := L)  hq84) dX11_courtPart_134 lk_X11_260 lm_0 rfl cd_X11_wantSign rfl rfl (Nat.le_of_ble_eq_true rfl) ⟨rfl, rfl, Nat.le_of_ble_eq_true rfl, Nat.le_of_ble_eq_true rfl⟩ ?_
              refine x_if_eqB 144 dX11_courtPart_137 (by decide) (fun hB => ?_) (fun hB => ?_)
              · replace hf := f_el hB hf
                refine x_iconst (v := (0)) dX11_courtPart_144 (by decide) ?_
                cases hf
                exact x_zret (b := false) dX11_courtPart_145 rfl rfl
              · replace hf := f_if hB hf
                refine x_iconst (v := (1)) dX11_courtPart_140 (by decide) ?_
                refine x_goto 145 dX11_courtPart_141 (by decide) ?_
                cases hf
                exact x_zret (b := true) dX11_courtPart_145 rfl rfl
          replace hf := f_el hs85 hf
          by_cases hs90 : q1 = (1)
          · replace hf := f_if hs90 hf
            refine x_tabIn (1) 98 dX11_courtPart_54 hs90 (by decide) (by decide) rfl (by decide) ?_
            refine x_aload_n 1 dX11_courtPart_98 rfl rfl ?_
            obtain ⟨q86, hq87, hf⟩ := f_bd hf
            refine x_callVi [] (c_X11_aBed (I := I) (L := L)  hq87) dX11_courtPart_99 lk_X11_248 lm_0 rfl cd_X11_aBed rfl rfl (Nat.le_of_ble_eq_true rfl) ⟨rfl, rfl, Nat.le_of_ble_eq_true rfl, Nat.le_of_ble_eq_true rfl⟩ ?_
            refine x_istore_n [(2, .int (zb q86.1)), (1, .int q1), (0, .ref 0)] dX11_courtPart_102 rfl (by decide) rfl ?_
            refine x_goto 127 dX11_courtPart_103 (by decide) ?_
            refine x_iload_n 0 dX11_courtPart_127 rfl rfl ?_
            refine x_if_eqB 144 dX11_courtPart_128 (by decide) (fun hB => ?_) (fun hB => ?_)
            · replace hf := f_el hB hf
              refine x_iconst (v := (0)) dX11_courtPart_144 (by decide) ?_
              cases hf
              exact x_zret (b := false) dX11_courtPart_145 rfl rfl
            · replace hf := f_if hB hf
              refine x_aload_n 2 dX11_courtPart_131 rfl rfl ?_
              refine x_bipush (v := (59)) dX11_courtPart_132 (by decide) ?_
              obtain ⟨q88, hq89, hf⟩ := f_bd hf
              refine x_callVi [.int (59 : Int32)] (c_X11_wantSign (I := q86.2) (L := L)  hq89) dX11_courtPart_134 lk_X11_260 lm_0 rfl cd_X11_wantSign rfl rfl (Nat.le_of_ble_eq_true rfl) ⟨rfl, rfl, Nat.le_of_ble_eq_true rfl, Nat.le_of_ble_eq_true rfl⟩ ?_
              refine x_if_eqB 144 dX11_courtPart_137 (by decide) (fun hB => ?_) (fun hB => ?_)
              · replace hf := f_el hB hf
                refine x_iconst (v := (0)) dX11_courtPart_144 (by decide) ?_
                cases hf
                exact x_zret (b := false) dX11_courtPart_145 rfl rfl
              · replace hf := f_if hB hf
                refine x_iconst (v := (1)) dX11_courtPart_140 (by decide) ?_
                refine x_goto 145 dX11_courtPart_141 (by decide) ?_
                cases hf
                exact x_zret (b := true) dX11_courtPart_145 rfl rfl
          replace hf := f_el hs90 hf
          by_cases hs95 : q1 = (2)
          · replace hf := f_if hs95 hf
            refine x_tabIn (2) 106 dX11_courtPart_54 hs95 (by decide) (by decide) rfl (by decide) ?_
            refine x_aload_n 1 dX11_courtPart_106 rfl rfl ?_
            obtain ⟨q91, hq92, hf⟩ := f_bd hf
            refine x_callVi [] (c_X11_aCase (I := I) (L := L)  hq92) dX11_courtPart_107 lk_X11_251 lm_0 rfl cd_X11_aCase rfl rfl (Nat.le_of_ble_eq_true rfl) ⟨rfl, rfl, Nat.le_of_ble_eq_true rfl, Nat.le_of_ble_eq_true rfl⟩ ?_
            refine x_istore_n [(2, .int (zb q91.1)), (1, .int q1), (0, .ref 0)] dX11_courtPart_110 rfl (by decide) rfl ?_
            refine x_goto 127 dX11_courtPart_111 (by decide) ?_
            refine x_iload_n 0 dX11_courtPart_127 rfl rfl ?_
            refine x_if_eqB 144 dX11_courtPart_128 (by decide) (fun hB => ?_) (fun hB => ?_)
            · replace hf := f_el hB hf
              refine x_iconst (v := (0)) dX11_courtPart_144 (by decide) ?_
              cases hf
              exact x_zret (b := false) dX11_courtPart_145 rfl rfl
            · replace hf := f_if hB hf
              refine x_aload_n 2 dX11_courtPart_131 rfl rfl ?_
              refine x_bipush (v := (59)) dX11_courtPart_132 (by decide) ?_
              obtain ⟨q93, hq94, hf⟩ := f_bd hf
              refine x_callVi [.int (59 : Int32)] (c_X11_wantSign (I := q91.2.1) (L := q91.2.2)  hq94) dX11_courtPart_134 lk_X11_260 lm_0 rfl cd_X11_wantSign rfl rfl (Nat.le_of_ble_eq_true rfl) ⟨rfl, rfl, Nat.le_of_ble_eq_true rfl, Nat.le_of_ble_eq_true rfl⟩ ?_
              refine x_if_eqB 144 dX11_courtPart_137 (by decide) (fun hB => ?_) (fun hB => ?_)
              · replace hf := f_el hB hf
                refine x_iconst (v := (0)) dX11_courtPart_144 (by decide) ?_
                cases hf
                exact x_zret (b := false) dX11_courtPart_145 rfl rfl
              · replace hf := f_if hB hf
                refine x_iconst (v := (1)) dX11_courtPart_140 (by decide) ?_
                refine x_goto 145 dX11_courtPart_141 (by decide) ?_
                cases hf
                exact x_zret (b := true) dX11_courtPart_145 rfl rfl
          replace hf := f_el hs95 hf
          by_cases hs100 : q1 = (3)
          · replace hf := f_if hs100 hf
            refine x_tabIn (3) 114 dX11_courtPart_54 hs100 (by decide) (by decide) rfl (by decide) ?_
            refine x_aload_n 1 dX11_courtPart_114 rfl rfl ?_
            obtain ⟨q96, hq97, hf⟩ := f_bd hf
            refine x_callVi [] (c_X11_aClaim (I := I) (L := L)  hq97) dX11_courtPart_115 lk_X11_254 lm_0 rfl cd_X11_aClaim rfl rfl (Nat.le_of_ble_eq_true rfl) ⟨rfl, rfl, Nat.le_of_ble_eq_true rfl, Nat.le_of_ble_eq_true rfl⟩ ?_
            refine x_istore_n [(2, .int (zb q96.1)), (1, .int q1), (0, .ref 0)] dX11_courtPart_118 rfl (by decide) rfl ?_
            refine x_goto 127 dX11_courtPart_119 (by decide) ?_
            refine x_iload_n 0 dX11_courtPart_127 rfl rfl ?_
            refine x_if_eqB 144 dX11_courtPart_128 (by decide) (fun hB => ?_) (fun hB => ?_)
            · replace hf := f_el hB hf
              refine x_iconst (v := (0)) dX11_courtPart_144 (by decide) ?_
              cases hf
              exact x_zret (b := false) dX11_courtPart_145 rfl rfl
            · replace hf := f_if hB hf
              refine x_aload_n 2 dX11_courtPart_131 rfl rfl ?_
              refine x_bipush (v := (59)) dX11_courtPart_132 (by decide) ?_
              obtain ⟨q98, hq99, hf⟩ := f_bd hf
              refine x_callVi [.int (59 : Int32)] (c_X11_wantSign (I := q96.2.1) (L := q96.2.2)  hq99) dX11_courtPart_134 lk_X11_260 lm_0 rfl cd_X11_wantSign rfl rfl (Nat.le_of_ble_eq_true rfl) ⟨rfl, rfl, Nat.le_of_ble_eq_true rfl, Nat.le_of_ble_eq_true rfl⟩ ?_
              refine x_if_eqB 144 dX11_courtPart_137 (by decide) (fun hB => ?_) (fun hB => ?_)
              · replace hf := f_el hB hf
                refine x_iconst (v := (0)) dX11_courtPart_144 (by decide) ?_
                cases hf
                exact x_zret (b := false) dX11_courtPart_145 rfl rfl
              · replace hf := f_if hB hf
                refine x_iconst (v := (1)) dX11_courtPart_140 (by decide) ?_
                refine x_goto 145 dX11_courtPart_141 (by decide) ?_
                cases hf
                exact x_zret (b := true) dX11_courtPart_145 rfl rfl
          replace hf := f_el hs100 hf
          refine x_tabOut 122 dX11_courtPart_54 (by have := lv_neT (a := 0) hs85 (by decide); have := lv_neT (a := 1) hs90 (by decide); have := lv_neT (a := 2) hs95 (by decide); have := lv_neT (a := 3) hs100 (by decide); omega) (by decide) ?_
          refine x_aload_n 1 dX11_courtPart_122 rfl rfl ?_
          obtain ⟨q101, hq102, hf⟩ := f_bd hf
          refine x_callVi [] (c_X11_aScholar (I := I) (L := L)  hq102) dX11_courtPart_123 lk_X11_257 lm_0 rfl cd_X11_aScholar rfl rfl (Nat.le_of_ble_eq_true rfl) ⟨rfl, rfl, Nat.le_of_ble_eq_true rfl, Nat.le_of_ble_eq_true rfl⟩ ?_
          refine x_istore_n [(2, .int (zb q101.1)), (1, .int q1), (0, .ref 0)] dX11_courtPart_126 rfl (by decide) rfl ?_
          refine x_iload_n 0 dX11_courtPart_127 rfl rfl ?_
          refine x_if_eqB 144 dX11_courtPart_128 (by decide) (fun hB => ?_) (fun hB => ?_)
          · replace hf := f_el hB hf
            refine x_iconst (v := (0)) dX11_courtPart_144 (by decide) ?_
            cases hf
            exact x_zret (b := false) dX11_courtPart_145 rfl rfl
          · replace hf := f_if hB hf
            refine x_aload_n 2 dX11_courtPart_131 rfl rfl ?_
            refine x_bipush (v := (59)) dX11_courtPart_132 (by decide) ?_
            obtain ⟨q103, hq104, hf⟩ := f_bd hf
            refine x_callVi [.int (59 : Int32)] (c_X11_wantSign (I := q101.2.1) (L := q101.2.2)  hq104) dX11_courtPart_134 lk_X11_260 lm_0 rfl cd_X11_wantSign rfl rfl (Nat.le_of_ble_eq_true rfl) ⟨rfl, rfl, Nat.le_of_ble_eq_true rfl, Nat.le_of_ble_eq_true rfl⟩ ?_
            refine x_if_eqB 144 dX11_courtPart_137 (by decide) (fun hB => ?_) (fun hB => ?_)
            · replace hf := f_el hB hf
              refine x_iconst (v := (0)) dX11_courtPart_144 (by decide) ?_
              cases hf
              exact x_zret (b := false) dX11_courtPart_145 rfl rfl
            · replace hf := f_if hB hf
              refine x_iconst (v := (1)) dX11_courtPart_140 (by decide) ?_
              refine x_goto 145 dX11_courtPart_141 (by decide) ?_
              cases hf
              exact x_zret (b := true) dX11_courtPart_145 rfl rfl
        · replace hf := f_if hB hf
          refine x_aload_n 1 dX11_courtPart_44 rfl rfl ?_
          refine x_iconst (v := (1)) dX11_courtPart_45 (by decide) ?_
          obtain ⟨I54, hI54, hf⟩ := f_lt hf
          refine x_putI dX11_courtPart_46 lm_0 fl_X11_245 rfl rfl rfl hI54 ?_
          refine x_aload_n 1 dX11_courtPart_49 rfl rfl ?_
          obtain ⟨q55, hq56, hf⟩ := f_bd hf
          refine x_callVv [] (c_X11_ahead (I := I54) (L := L)  hq56) dX11_courtPart_50 lk_X11_175 lm_0 rfl cd_X11_ahead rfl rfl (Nat.le_of_ble_eq_true rfl) ⟨rfl, rfl, Nat.le_of_ble_eq_true rfl, Nat.le_of_ble_eq_true rfl⟩ ?_
          refine x_iload_n 0 dX11_courtPart_53 rfl rfl ?_
          by_cases hs61 : q1 = (0)
          · replace hf := f_if hs61 hf
            refine x_tabIn (0) 84 dX11_courtPart_54 hs61 (by decide) (by decide) rfl (by decide) ?_
            refine x_aload_n 1 dX11_courtPart_84 rfl rfl ?_
            refine x_sipush (v := (1716)) dX11_courtPart_85 (by decide) ?_
            refine x_iconst (v := (0)) dX11_courtPart_88 (by decide) ?_
            refine x_bipush (v := (16)) dX11_courtPart_89 (by decide) ?_
            obtain ⟨q57, hq58, hf⟩ := f_bd hf
            refine x_callVi [.int (1716 : Int32), .int (0 : Int32), .int (16 : Int32)] (c_X11_number (I := q55) (L := L)  hq58) dX11_courtPart_91 lk_X11_197 lm_0 rfl cd_X11_number rfl rfl (Nat.le_of_ble_eq_true rfl) ⟨rfl, rfl, Nat.le_of_ble_eq_true rfl, Nat.le_of_ble_eq_true rfl⟩ ?_
            refine x_istore_n [(2, .int (zb q57.1)), (1, .int q1), (0, .ref 0)] dX11_courtPart_94 rfl (by decide) rfl ?_
            refine x_goto 127 dX11_courtPart_95 (by decide) ?_
            refine x_iload_n 0 dX11_courtPart_127 rfl rfl ?_
            refine x_if_eqB 144 dX11_courtPart_128 (by decide) (fun hB => ?_) (fun hB => ?_)
            · replace hf := f_el hB hf
              refine x_iconst (v := (0)) dX11_courtPart_144 (by decide) ?_
              cases hf
              exact x_zret (b := false) dX11_courtPart_145 rfl rfl
            · replace hf := f_if hB hf
              refine x_aload_n 2 dX11_courtPart_131 rfl rfl ?_
              refine x_bipush (v := (59)) dX11_courtPart_132 (by decide) ?_
              obtain ⟨q59, hq60, hf⟩ := f_bd hf
              refine x_callVi [.int (59 : Int32)] (c_X11_wantSign (I := q57.2) (L := L)  hq60) dX11_courtPart_134 lk_X11_260 lm_0 rfl cd_X11_wantSign rfl rfl (Nat.le_of_ble_eq_true rfl) ⟨rfl, rfl, Nat.le_of_ble_eq_true rfl, Nat.le_of_ble_eq_true rfl⟩ ?_
              refine x_if_eqB 144 dX11_courtPart_137 (by decide) (fun hB => ?_) (fun hB => ?_)
              · replace hf := f_el hB hf
                refine x_iconst (v := (0)) dX11_courtPart_144 (by decide) ?_
                cases hf
                exact x_zret (b := false) dX11_courtPart_145 rfl rfl
              · replace hf := f_if hB hf
                refine x_iconst (v := (1)) dX11_courtPart_140 (by decide) ?_
                refine x_goto 145 dX11_courtPart_141 (by decide) ?_
                cases hf
                exact x_zret (b := true) dX11_courtPart_145 rfl rfl
          replace hf := f_el hs61 hf
          by_cases hs66 : q1 = (1)
          · replace hf := f_if hs66 hf
            refine x_tabIn (1) 98 dX11_courtPart_54 hs66 (by decide) (by decide) rfl (by decide) ?_
            refine x_aload_n 1 dX11_courtPart_98 rfl rfl ?_
            obtain ⟨q62, hq63, hf⟩ := f_bd hf
            refine x_callVi [] (c_X11_aBed (I := q55) (L := L)  hq63) dX11_courtPart_99 lk_X11_248 lm_0 rfl cd_X11_aBed rfl rfl (Nat.le_of_ble_eq_true rfl) ⟨rfl, rfl, Nat.le_of_ble_eq_true rfl, Nat.le_of_ble_eq_true rfl⟩ ?_
            refine x_istore_n [(2, .int (zb q62.1)), (1, .int q1), (0, .ref 0)] dX11_courtPart_102 rfl (by decide) rfl ?_
            refine x_goto 127 dX11_courtPart_103 (by decide) ?_
            refine x_iload_n 0 dX11_courtPart_127 rfl rfl ?_
            refine x_if_eqB 144 dX11_courtPart_128 (by decide) (fun hB => ?_) (fun hB => ?_)
            · replace hf := f_el hB hf
              refine x_iconst (v := (0)) dX11_courtPart_144 (by decide) ?_
              cases hf
              exact x_zret (b := false) dX11_courtPart_145 rfl rfl
            · replace hf := f_if hB hf
              refine x_aload_n 2 dX11_courtPart_131 rfl rfl ?_
              refine x_bipush (v := (59)) dX11_courtPart_132 (by decide) ?_
              obtain ⟨q64, hq65, hf⟩ := f_bd hf
              refine x_callVi [.int (59 : Int32)] (c_X11_wantSign (I := q62.2) (L := L)  hq65) dX11_courtPart_134 lk_X11_260 lm_0 rfl cd_X11_wantSign rfl rfl (Nat.le_of_ble_eq_true rfl) ⟨rfl, rfl, Nat.le_of_ble_eq_true rfl, Nat.le_of_ble_eq_true rfl⟩ ?_
              refine x_if_eqB 144 dX11_courtPart_137 (by decide) (fun hB => ?_) (fun hB => ?_)
              · replace hf := f_el hB hf
                refine x_iconst (v := (0)) dX11_courtPart_144 (by decide) ?_
                cases hf
                exact x_zret (b := false) dX11_courtPart_145 rfl rfl
              · replace hf := f_if hB hf
                refine x_iconst (v := (1)) dX11_courtPart_140 (by decide) ?_
                refine x_goto 145 dX11_courtPart_141 (by decide) ?_
                cases hf
                exact x_zret (b := true) dX11_courtPart_145 rfl rfl
          replace hf := f_el hs66 hf
          by_cases hs71 : q1 = (2)
          · replace hf := f_if hs71 hf
            refine x_tabIn (2) 106 dX11_courtPart_54 hs71 (by decide) (by decide) rfl (by decide) ?_
            refine x_aload_n 1 dX11_courtPart_106 rfl rfl ?_
            obtain ⟨q67, hq68, hf⟩ := f_bd hf
            refine x_callVi [] (c_X11_aCase (I := q55) (L := L)  hq68) dX11_courtPart_107 lk_X11_251 lm_0 rfl cd_X11_aCase rfl rfl (Nat.le_of_ble_eq_true rfl) ⟨rfl, rfl, Nat.le_of_ble_eq_true rfl, Nat.le_of_ble_eq_true rfl⟩ ?_
            refine x_istore_n [(2, .int (zb q67.1)), (1, .int q1), (0, .ref 0)] dX11_courtPart_110 rfl (by decide) rfl ?_
            refine x_goto 127 dX11_courtPart_111 (by decide) ?_
            refine x_iload_n 0 dX11_courtPart_127 rfl rfl ?_
            refine x_if_eqB 144 dX11_courtPart_128 (by decide) (fun hB => ?_) (fun hB => ?_)
            · replace hf := f_el hB hf
              refine x_iconst (v := (0)) dX11_courtPart_144 (by decide) ?_
              cases hf
              exact x_zret (b := false) dX11_courtPart_145 rfl rfl
            · replace hf := f_if hB hf
              refine x_aload_n 2 dX11_courtPart_131 rfl rfl ?_
              refine x_bipush (v := (59)) dX11_courtPart_132 (by decide) ?_
              obtain ⟨q69, hq70, hf⟩ := f_bd hf
              refine x_callVi [.int (59 : Int32)] (c_X11_wantSign (I := q67.2.1) (L := q67.2.2)  hq70) dX11_courtPart_134 lk_X11_260 lm_0 rfl cd_X11_wantSign rfl rfl (Nat.le_of_ble_eq_true rfl) ⟨rfl, rfl, Nat.le_of_ble_eq_true rfl, Nat.le_of_ble_eq_true rfl⟩ ?_
              refine x_if_eqB 144 dX11_courtPart_137 (by decide) (fun hB => ?_) (fun hB => ?_)
              · replace hf := f_el hB hf
                refine x_iconst (v := (0)) dX11_courtPart_144 (by decide) ?_
                cases hf
                exact x_zret (b := false) dX11_courtPart_145 rfl rfl
              · replace hf := f_if hB hf
                refine x_iconst (v := (1)) dX11_courtPart_140 (by decide) ?_
                refine x_goto 145 dX11_courtPart_141 (by decide) ?_
                cases hf
                exact x_zret (b := true) dX11_courtPart_145 rfl rfl
          replace hf := f_el hs71 hf
          by_cases hs76 : q1 = (3)
          · replace hf := f_if hs76 hf
            refine x_tabIn (3) 114 dX11_courtPart_54 hs76 (by decide) (by decide) rfl (by decide) ?_
            refine x_aload_n 1 dX11_courtPart_114 rfl rfl ?_
            obtain ⟨q72, hq73, hf⟩ := f_bd hf
            refine x_callVi [] (c_X11_aClaim (I := q55) (L := L)  hq73) dX11_courtPart_115 lk_X11_254 lm_0 rfl cd_X11_aClaim rfl rfl (Nat.le_of_ble_eq_true rfl) ⟨rfl, rfl, Nat.le_of_ble_eq_true rfl, Nat.le_of_ble_eq_true rfl⟩ ?_
            refine x_istore_n [(2, .int (zb q72.1)), (1, .int q1), (0, .ref 0)] dX11_courtPart_118 rfl (by decide) rfl ?_
            refine x_goto 127 dX11_courtPart_119 (by decide) ?_
            refine x_iload_n 0 dX11_courtPart_127 rfl rfl ?_
            refine x_if_eqB 144 dX11_courtPart_128 (by decide) (fun hB => ?_) (fun hB => ?_)
            · replace hf := f_el hB hf
              refine x_iconst (v := (0)) dX11_courtPart_144 (by decide) ?_
              cases hf
              exact x_zret (b := false) dX11_courtPart_145 rfl rfl
            · replace hf := f_if hB hf
              refine x_aload_n 2 dX11_courtPart_131 rfl rfl ?_
              refine x_bipush (v := (59)) dX11_courtPart_132 (by decide) ?_
              obtain ⟨q74, hq75, hf⟩ := f_bd hf
              refine x_callVi [.int (59 : Int32)] (c_X11_wantSign (I := q72.2.1) (L := q72.2.2)  hq75) dX11_courtPart_134 lk_X11_260 lm_0 rfl cd_X11_wantSign rfl rfl (Nat.le_of_ble_eq_true rfl) ⟨rfl, rfl, Nat.le_of_ble_eq_true rfl, Nat.le_of_ble_eq_true rfl⟩ ?_
              refine x_if_eqB 144 dX11_courtPart_137 (by decide) (fun hB => ?_) (fun hB => ?_)
              · replace hf := f_el hB hf
                refine x_iconst (v := (0)) dX11_courtPart_144 (by decide) ?_
                cases hf
                exact x_zret (b := false) dX11_courtPart_145 rfl rfl
              · replace hf := f_if hB hf
                refine x_iconst (v := (1)) dX11_courtPart_140 (by decide) ?_
                refine x_goto 145 dX11_courtPart_141 (by decide) ?_
                cases hf
                exact x_zret (b := true) dX11_courtPart_145 rfl rfl
          replace hf := f_el hs76 hf
          refine x_tabOut 122 dX11_courtPart_54 (by have := lv_neT (a := 0) hs61 (by decide); have := lv_neT (a := 1) hs66 (by decide); have := lv_neT (a := 2) hs71 (by decide); have := lv_neT (a := 3) hs76 (by decide); omega) (by decide) ?_
          refine x_aload_n 1 dX11_courtPart_122 rfl rfl ?_
          obtain ⟨q77, hq78, hf⟩ := f_bd hf
          refine x_callVi [] (c_X11_aScholar (I := q55) (L := L)  hq78) dX11_courtPart_123 lk_X11_257 lm_0 rfl cd_X11_aScholar rfl rfl (Nat.le_of_ble_eq_true rfl) ⟨rfl, rfl, Nat.le_of_ble_eq_true rfl, Nat.le_of_ble_eq_true rfl⟩ ?_
          refine x_istore_n [(2, .int (zb q77.1)), (1, .int q1), (0, .ref 0)] dX11_courtPart_126 rfl (by decide) rfl ?_
          refine x_iload_n 0 dX11_courtPart_127 rfl rfl ?_
          refine x_if_eqB 144 dX11_courtPart_128 (by decide) (fun hB => ?_) (fun hB => ?_)
          · replace hf := f_el hB hf
            refine x_iconst (v := (0)) dX11_courtPart_144 (by decide) ?_
            cases hf
            exact x_zret (b := false) dX11_courtPart_145 rfl rfl
          · replace hf := f_if hB hf
            refine x_aload_n 2 dX11_courtPart_131 rfl rfl ?_
            refine x_bipush (v := (59)) dX11_courtPart_132 (by decide) ?_
            obtain ⟨q79, hq80, hf⟩ := f_bd hf
            refine x_callVi [.int (59 : Int32)] (c_X11_wantSign (I := q77.2.1) (L := q77.2.2)  hq80) dX11_courtPart_134 lk_X11_260 lm_0 rfl cd_X11_wantSign rfl rfl (Nat.le_of_ble_eq_true rfl) ⟨rfl, rfl, Nat.le_of_ble_eq_true rfl, Nat.le_of_ble_eq_true rfl⟩ ?_
            refine x_if_eqB 144 dX11_courtPart_137 (by decide) (fun hB => ?_) (fun hB => ?_)
            · replace hf := f_el hB hf
              refine x_iconst (v := (0)) dX11_courtPart_144 (by decide) ?_
              cases hf
              exact x_zret (b := false) dX11_courtPart_145 rfl rfl
            · replace hf := f_if hB hf
              refine x_iconst (v := (1)) dX11_courtPart_140 (by decide) ?_
              refine x_goto 145 dX11_courtPart_141 (by decide) ?_
              cases hf
              exact x_zret (b := true) dX11_courtPart_145 rfl rfl
      · replace hf := f_if hB hf
        refine x_aload_n 1 dX11_courtPart_26 rfl rfl ?_
        refine x_getI (v := (I 0 20)) dX11_courtPart_27 lm_0 fl_X11_245 rfl rfl ?_
        refine x_iconst (v := (1)) dX11_courtPart_30 (by decide) ?_
        refine x_icmp_ne 40 dX11_courtPart_31 (by decide) (fun hB => ?_) (fun hB => ?_)
        · replace hf := f_el hB hf
          refine x_iload_n 0 dX11_courtPart_40 rfl rfl ?_
          refine x_if_ne 53 dX11_courtPart_41 (by decide) (fun hB => ?_) (fun hB => ?_)
          · replace hf := f_el hB hf
            refine x_iload_n 0 dX11_courtPart_53 rfl rfl ?_
            by_cases hs34 : q1 = (0)
            · replace hf := f_if hs34 hf
              refine x_tabIn (0) 84 dX11_courtPart_54 hs34 (by decide) (by decide) rfl (by decide) ?_
              refine x_aload_n 1 dX11_courtPart_84 rfl rfl ?_
              refine x_sipush (v := (1716)) dX11_courtPart_85 (by decide) ?_
              refine x_iconst (v := (0)) dX11_courtPart_88 (by decide) ?_
              refine x_bipush (v := (16)) dX11_courtPart_89 (by decide) ?_
              obtain ⟨q30, hq31, hf⟩ := f_bd hf
              refine x_callVi [.int (1716 : Int32), .int (0 : Int32), .int (16 : Int32)] (c_X11_number (I := I) (L := L)  hq31) dX11_courtPart_91 lk_X11_197 lm_0 rfl cd_X11_number rfl rfl (Nat.le_of_ble_eq_true rfl) ⟨rfl, rfl, Nat.le_of_ble_eq_true rfl, Nat.le_of_ble_eq_true rfl⟩ ?_
              refine x_istore_n [(2, .int (zb q30.1)), (1, .int q1), (0, .ref 0)] dX11_courtPart_94 rfl (by decide) rfl ?_
              refine x_goto 127 dX11_courtPart_95 (by decide) ?_
              refine x_iload_n 0 dX11_courtPart_127 rfl rfl ?_
              refine x_if_eqB 144 dX11_courtPart_128 (by decide) (fun hB => ?_) (fun hB => ?_)
              · replace hf := f_el hB hf
                refine x_iconst (v := (0)) dX11_courtPart_144 (by decide) ?_
                cases hf
                exact x_zret (b := false) dX11_courtPart_145 rfl rfl
              · replace hf := f_if hB hf
                refine x_aload_n 2 dX11_courtPart_131 rfl rfl ?_
                refine x_bipush (v := (59)) dX11_courtPart_132 (by decide) ?_
                obtain ⟨q32, hq33, hf⟩ := f_bd hf
                refine x_callVi [.int (59 : Int32)] (c_X11_wantSign (I := q30.2) (L := L)  hq33) dX11_courtPart_134 lk_X11_260 lm_0 rfl cd_X11_wantSign rfl rfl (Nat.le_of_ble_eq_true rfl) ⟨rfl, rfl, Nat.le_of_ble_eq_true rfl, Nat.le_of_ble_eq_true rfl⟩ ?_
                refine x_if_eqB 144 dX11_courtPart_137 (by decide) (fun hB => ?_) (fun hB => ?_)
                · replace hf := f_el hB hf
                  refine x_iconst (v := (0)) dX11_courtPart_144 (by decide) ?_
                  cases hf
                  exact x_zret (b := false) dX11_courtPart_145 rfl rfl
                · replace hf := f_if hB hf
                  refine x_iconst (v := (1)) dX11_courtPart_140 (by decide) ?_
                  refine x_goto 145 dX11_courtPart_141 (by decide) ?_
                  cases hf
                  exact x_zret (b := true) dX11_courtPart_145 rfl rfl
            replace hf := f_el hs34 hf
            by_cases hs39 : q1 = (1)
            · replace hf := f_if hs39 hf
              refine x_tabIn (1) 98 dX11_courtPart_54 hs39 (by decide) (by decide) rfl (by decide) ?_
              refine x_aload_n 1 dX11_courtPart_98 rfl rfl ?_
              obtain ⟨q35, hq36, hf⟩ := f_bd hf
              refine x_callVi [] (c_X11_aBed (I := I) (L := L)  hq36) dX11_courtPart_99 lk_X11_248 lm_0 rfl cd_X11_aBed rfl rfl (Nat.le_of_ble_eq_true rfl) ⟨rfl, rfl, Nat.le_of_ble_eq_true rfl, Nat.le_of_ble_eq_true rfl⟩ ?_
              refine x_istore_n [(2, .int (zb q35.1)), (1, .int q1), (0, .ref 0)] dX11_courtPart_102 rfl (by decide) rfl ?_
              refine x_goto 127 dX11_courtPart_103 (by decide) ?_
              refine x_iload_n 0 dX11_courtPart_127 rfl rfl ?_
              refine x_if_eqB 144 dX11_courtPart_128 (by decide) (fun hB => ?_) (fun hB => ?_)
              · replace hf := f_el hB hf
                refine x_iconst (v := (0)) dX11_courtPart_144 (by decide) ?_
                cases hf
                exact x_zret (b := false) dX11_courtPart_145 rfl rfl
              · replace hf := f_if hB hf
                refine x_aload_n 2 dX11_courtPart_131 rfl rfl ?_
                refine x_bipush (v := (59)) dX11_courtPart_132 (by decide) ?_
                obtain ⟨q37, hq38, hf⟩ := f_bd hf
                refine x_callVi [.int (59 : Int32)] (c_X11_wantSign (I := q35.2) (L := L)  hq38) dX11_courtPart_134 lk_X11_260 lm_0 rfl cd_X11_wantSign rfl rfl (Nat.le_of_ble_eq_true rfl) ⟨rfl, rfl, Nat.le_of_ble_eq_true rfl, Nat.le_of_ble_eq_true rfl⟩ ?_
                refine x_if_eqB 144 dX11_courtPart_137 (by decide) (fun hB => ?_) (fun hB => ?_)
                · replace hf := f_el hB hf
                  refine x_iconst (v := (0)) dX11_courtPart_144 (by decide) ?_
                  cases hf
                  exact x_zret (b := false) dX11_courtPart_145 rfl rfl
                · replace hf := f_if hB hf
                  refine x_iconst (v := (1)) dX11_courtPart_140 (by decide) ?_
                  refine x_goto 145 dX11_courtPart_141 (by decide) ?_
                  cases hf
                  exact x_zret (b := true) dX11_courtPart_145 rfl rfl
            replace hf := f_el hs39 hf
            by_cases hs44 : q1 = (2)
            · replace hf := f_if hs44 hf
              refine x_tabIn (2) 106 dX11_courtPart_54 hs44 (by decide) (by decide) rfl (by decide) ?_
              refine x_aload_n 1 dX11_courtPart_106 rfl rfl ?_
              obtain ⟨q40, hq41, hf⟩ := f_bd hf
              refine x_callVi [] (c_X11_aCase (I := I) (L := L)  hq41) dX11_courtPart_107 lk_X11_251 lm_0 rfl cd_X11_aCase rfl rfl (Nat.le_of_ble_eq_true rfl) ⟨rfl, rfl, Nat.le_of_ble_eq_true rfl, Nat.le_of_ble_eq_true rfl⟩ ?_
              refine x_istore_n [(2, .int (zb q40.1)), (1, .int q1), (0, .ref 0)] dX11_courtPart_110 rfl (by decide) rfl ?_
              refine x_goto 127 dX11_courtPart_111 (by decide) ?_
              refine x_iload_n 0 dX11_courtPart_127 rfl rfl ?_
              refine x_if_eqB 144 dX11_courtPart_128 (by decide) (fun hB => ?_) (fun hB => ?_)
              · replace hf := f_el hB hf
                refine x_iconst (v := (0)) dX11_courtPart_144 (by decide) ?_
                cases hf
                exact x_zret (b := false) dX11_courtPart_145 rfl rfl
              · replace hf := f_if hB hf
                refine x_aload_n 2 dX11_courtPart_131 rfl rfl ?_
                refine x_bipush (v := (59)) dX11_courtPart_132 (by decide) ?_
                obtain ⟨q42, hq43, hf⟩ := f_bd hf
                refine x_callVi [.int (59 : Int32)] (c_X11_wantSign (I := q40.2.1) (L := q40.2.2)  hq43) dX11_courtPart_134 lk_X11_260 lm_0 rfl cd_X11_wantSign rfl rfl (Nat.le_of_ble_eq_true rfl) ⟨rfl, rfl, Nat.le_of_ble_eq_true rfl, Nat.le_of_ble_eq_true rfl⟩ ?_
                refine x_if_eqB 144 dX11_courtPart_137 (by decide) (fun hB => ?_) (fun hB => ?_)
                · replace hf := f_el hB hf
                  refine x_iconst (v := (0)) dX11_courtPart_144 (by decide) ?_
                  cases hf
                  exact x_zret (b := false) dX11_courtPart_145 rfl rfl
                · replace hf := f_if hB hf
                  refine x_iconst (v := (1)) dX11_courtPart_140 (by decide) ?_
                  refine x_goto 145 dX11_courtPart_141 (by decide) ?_
                  cases hf
                  exact x_zret (b := true) dX11_courtPart_145 rfl rfl
            replace hf := f_el hs44 hf
            by_cases hs49 : q1 = (3)
            · replace hf := f_if hs49 hf
              refine x_tabIn (3) 114 dX11_courtPart_54 hs49 (by decide) (by decide) rfl (by decide) ?_
              refine x_aload_n 1 dX11_courtPart_114 rfl rfl ?_
              obtain ⟨q45, hq46, hf⟩ := f_bd hf
              refine x_callVi [] (c_X11_aClaim (I := I) (L := L)  hq46) dX11_courtPart_115 lk_X11_254 lm_0 rfl cd_X11_aClaim rfl rfl (Nat.le_of_ble_eq_true rfl) ⟨rfl, rfl, Nat.le_of_ble_eq_true rfl, Nat.le_of_ble_eq_true rfl⟩ ?_
              refine x_istore_n [(2, .int (zb q45.1)), (1, .int q1), (0, .ref 0)] dX11_courtPart_118 rfl (by decide) rfl ?_
              refine x_goto 127 dX11_courtPart_119 (by decide) ?_
              refine x_iload_n 0 dX11_courtPart_127 rfl rfl ?_
              refine x_if_eqB 144 dX11_courtPart_128 (by decide) (fun hB => ?_) (fun hB => ?_)
              · replace hf := f_el hB hf
                refine x_iconst (v := (0)) dX11_courtPart_144 (by decide) ?_
                cases hf
                exact x_zret (b := false) dX11_courtPart_145 rfl rfl
              · replace hf := f_if hB hf
                refine x_aload_n 2 dX11_courtPart_131 rfl rfl ?_
                refine x_bipush (v := (59)) dX11_courtPart_132 (by decide) ?_
                obtain ⟨q47, hq48, hf⟩ := f_bd hf
                refine x_callVi [.int (59 : Int32)] (c_X11_wantSign (I := q45.2.1) (L := q45.2.2)  hq48) dX11_courtPart_134 lk_X11_260 lm_0 rfl cd_X11_wantSign rfl rfl (Nat.le_of_ble_eq_true rfl) ⟨rfl, rfl, Nat.le_of_ble_eq_true rfl, Nat.le_of_ble_eq_true rfl⟩ ?_
                refine x_if_eqB 144 dX11_courtPart_137 (by decide) (fun hB => ?_) (fun hB => ?_)
                · replace hf := f_el hB hf
                  refine x_iconst (v := (0)) dX11_courtPart_144 (by decide) ?_
                  cases hf
                  exact x_zret (b := false) dX11_courtPart_145 rfl rfl
                · replace hf := f_if hB hf
                  refine x_iconst (v := (1)) dX11_courtPart_140 (by decide) ?_
                  refine x_goto 145 dX11_courtPart_141 (by decide) ?_
                  cases hf
                  exact x_zret (b := true) dX11_courtPart_145 rfl rfl
            replace hf := f_el hs49 hf
            refine x_tabOut 122 dX11_courtPart_54 (by have := lv_neT (a := 0) hs34 (by decide); have := lv_neT (a := 1) hs39 (by decide); have := lv_neT (a := 2) hs44 (by decide); have := lv_neT (a := 3) hs49 (by decide); omega) (by decide) ?_
            refine x_aload_n 1 dX11_courtPart_122 rfl rfl ?_
            obtain ⟨q50, hq51, hf⟩ := f_bd hf
            refine x_callVi [] (c_X11_aScholar (I := I) (L := L)  hq51) dX11_courtPart_123 lk_X11_257 lm_0 rfl cd_X11_aScholar rfl rfl (Nat.le_of_ble_eq_true rfl) ⟨rfl, rfl, Nat.le_of_ble_eq_true rfl, Nat.le_of_ble_eq_true rfl⟩ ?_
            refine x_istore_n [(2, .int (zb q50.1)), (1, .int q1), (0, .ref 0)] dX11_courtPart_126 rfl (by decide) rfl ?_
            refine x_iload_n 0 dX11_courtPart_127 rfl rfl ?_
            refine x_if_eqB 144 dX11_courtPart_128 (by decide) (fun hB => ?_) (fun hB => ?_)
            · replace hf := f_el hB hf
              refine x_iconst (v := (0)) dX11_courtPart_144 (by decide) ?_
              cases hf
              exact x_zret (b := false) dX11_courtPart_145 rfl rfl
            · replace hf := f_if hB hf
              refine x_aload_n 2 dX11_courtPart_131 rfl rfl ?_
              refine x_bipush (v := (59)) dX11_courtPart_132 (by decide) ?_
              obtain ⟨q52, hq53, hf⟩ := f_bd hf
              refine x_callVi [.int (59 : Int32)] (c_X11_wantSign (I := q50.2.1) (L := q50.2.2)  hq53) dX11_courtPart_134 lk_X11_260 lm_0 rfl cd_X11_wantSign rfl rfl (Nat.le_of_ble_eq_true rfl) ⟨rfl, rfl, Nat.le_of_ble_eq_true rfl, Nat.le_of_ble_eq_true rfl⟩ ?_
              refine x_if_eqB 144 dX11_courtPart_137 (by decide) (fun hB => ?_) (fun hB => ?_)
              · replace hf := f_el hB hf
                refine x_iconst (v := (0)) dX11_courtPart_144 (by decide) ?_
                cases hf
                exact x_zret (b := false) dX11_courtPart_145 rfl rfl
              · replace hf := f_if hB hf
                refine x_iconst (v := (1)) dX11_courtPart_140 (by decide) ?_
                refine x_goto 145 dX11_courtPart_141 (by decide) ?_
                cases hf
                exact x_zret (b := true) dX11_courtPart_145 rfl rfl
          · replace hf := f_if hB hf
            refine x_aload_n 1 dX11_courtPart_44 rfl rfl ?_
            refine x_iconst (v := (1)) dX11_courtPart_45 (by decide) ?_
            obtain ⟨I3, hI3, hf⟩ := f_lt hf
            refine x_putI dX11_courtPart_46 lm_0 fl_X11_245 rfl rfl rfl hI3 ?_
            refine x_aload_n 1 dX11_courtPart_49 rfl rfl ?_
            obtain ⟨q4, hq5, hf⟩ := f_bd hf
            refine x_callVv [] (c_X11_ahead (I := I3) (L := L)  hq5) dX11_courtPart_50 lk_X11_175 lm_0 rfl cd_X11_ahead rfl rfl (Nat.le_of_ble_eq_true rfl) ⟨rfl, rfl, Nat.le_of_ble_eq_true rfl, Nat.le_of_ble_eq_true rfl⟩ ?_
            refine x_iload_n 0 dX11_courtPart_53 rfl rfl ?_
            by_cases hs10 : q1 = (0)
            · replace hf := f_if hs10 hf
              refine x_tabIn (0) 84 dX11_courtPart_54 hs10 (by decide) (by decide) rfl (by decide) ?_
              refine x_aload_n 1 dX11_courtPart_84 rfl rfl ?_
              refine x_sipush (v := (1716)) dX11_courtPart_85 (by decide) ?_
              refine x_iconst (v := (0)) dX11_courtPart_88 (by decide) ?_
              refine x_bipush (v := (16)) dX11_courtPart_89 (by decide) ?_
              obtain ⟨q6, hq7, hf⟩ := f_bd hf
              refine x_callVi [.int (1716 : Int32), .int (0 : Int32), .int (16 : Int32)] (c_X11_number (I := q4) (L := L)  hq7) dX11_courtPart_91 lk_X11_197 lm_0 rfl cd_X11_number rfl rfl (Nat.le_of_ble_eq_true rfl) ⟨rfl, rfl, Nat.le_of_ble_eq_true rfl, Nat.le_of_ble_eq_true rfl⟩ ?_
              refine x_istore_n [(2, .int (zb q6.1)), (1, .int q1), (0, .ref 0)] dX11_courtPart_94 rfl (by decide) rfl ?_
              refine x_goto 127 dX11_courtPart_95 (by decide) ?_
              refine x_iload_n 0 dX11_courtPart_127 rfl rfl ?_
              refine x_if_eqB 144 dX11_courtPart_128 (by decide) (fun hB => ?_) (fun hB => ?_)
              · replace hf := f_el hB hf
                refine x_iconst (v := (0)) dX11_courtPart_144 (by decide) ?_
                cases hf
                exact x_zret (b := false) dX11_courtPart_145 rfl rfl
              · replace hf := f_if hB hf
                refine x_aload_n 2 dX11_courtPart_131 rfl rfl ?_
                refine x_bipush (v := (59)) dX11_courtPart_132 (by decide) ?_
                obtain ⟨q8, hq9, hf⟩ := f_bd hf
                refine x_callVi [.int (59 : Int32)] (c_X11_wantSign (I := q6.2) (L := L)  hq9) dX11_courtPart_134 lk_X11_260 lm_0 rfl cd_X11_wantSign rfl rfl (Nat.le_of_ble_eq_true rfl) ⟨rfl, rfl, Nat.le_of_ble_eq_true rfl, Nat.le_of_ble_eq_true rfl⟩ ?_
                refine x_if_eqB 144 dX11_courtPart_137 (by decide) (fun hB => ?_) (fun hB => ?_)
                · replace hf := f_el hB hf
                  refine x_iconst (v := (0)) dX11_courtPart_144 (by decide) ?_
                  cases hf
                  exact x_zret (b := false) dX11_courtPart_145 rfl rfl
                · replace hf := f_if hB hf
                  refine x_iconst (v := (1)) dX11_courtPart_140 (by decide) ?_
                  refine x_goto 145 dX11_courtPart_141 (by decide) ?_
                  cases hf
                  exact x_zret (b := true) dX11_courtPart_145 rfl rfl
            replace hf := f_el hs10 hf
            by_cases hs15 : q1 = (1)
            · replace hf := f_if hs15 hf
              refine x_tabIn (1) 98 dX11_courtPart_54 hs15 (by decide) (by decide) rfl (by decide) ?_
              refine x_aload_n 1 dX11_courtPart_98 rfl rfl ?_
              obtain ⟨q11, hq12, hf⟩ := f_bd hf
              refine x_callVi [] (c_X11_aBed (I := q4) (L := L)  hq12) dX11_courtPart_99 lk_X11_248 lm_0 rfl cd_X11_aBed rfl rfl (Nat.le_of_ble_eq_true rfl) ⟨rfl, rfl, Nat.le_of_ble_eq_true rfl, Nat.le_of_ble_eq_true rfl⟩ ?_
              refine x_istore_n [(2, .int (zb q11.1)), (1, .int q1), (0, .ref 0)] dX11_courtPart_102 rfl (by decide) rfl ?_
              refine x_goto 127 dX11_courtPart_103 (by decide) ?_
              refine x_iload_n 0 dX11_courtPart_127 rfl rfl ?_
              refine x_if_eqB 144 dX11_courtPart_128 (by decide) (fun hB => ?_) (fun hB => ?_)
              · replace hf := f_el hB hf
                refine x_iconst (v := (0)) dX11_courtPart_144 (by decide) ?_
                cases hf
                exact x_zret (b := false) dX11_courtPart_145 rfl rfl
              · replace hf := f_if hB hf
                refine x_aload_n 2 dX11_courtPart_131 rfl rfl ?_
                refine x_bipush (v := (59)) dX11_courtPart_132 (by decide) ?_
                obtain ⟨q13, hq14, hf⟩ := f_bd hf
                refine x_callVi [.int (59 : Int32)] (c_X11_wantSign (I := q11.2) (L := L)  hq14) dX11_courtPart_134 lk_X11_260 lm_0 rfl cd_X11_wantSign rfl rfl (Nat.le_of_ble_eq_true rfl) ⟨rfl, rfl, Nat.le_of_ble_eq_true rfl, Nat.le_of_ble_eq_true rfl⟩ ?_
                refine x_if_eqB 144 dX11_courtPart_137 (by decide) (fun hB => ?_) (fun hB => ?_)
                · replace hf := f_el hB hf
                  refine x_iconst (v := (0)) dX11_courtPart_144 (by decide) ?_
                  cases hf
                  exact x_zret (b := false) dX11_courtPart_145 rfl rfl
                · replace hf := f_if hB hf
                  refine x_iconst (v := (1)) dX11_courtPart_140 (by decide) ?_
                  refine x_goto 145 dX11_courtPart_141 (by decide) ?_
                  cases hf
                  exact x_zret (b := true) dX11_courtPart_145 rfl rfl
            replace hf := f_el hs15 hf
            by_cases hs20 : q1 = (2)
            · replace hf := f_if hs20 hf
              refine x_tabIn (2) 106 dX11_courtPart_54 hs20 (by decide) (by decide) rfl (by decide) ?_
              refine x_aload_n 1 dX11_courtPart_106 rfl rfl ?_
              obtain ⟨q16, hq17, hf⟩ := f_bd hf
              refine x_callVi [] (c_X11_aCase (I := q4) (L := L)  hq17) dX11_courtPart_107 lk_X11_251 lm_0 rfl cd_X11_aCase rfl rfl (Nat.le_of_ble_eq_true rfl) ⟨rfl, rfl, Nat.le_of_ble_eq_true rfl, Nat.le_of_ble_eq_true rfl⟩ ?_
              refine x_istore_n [(2, .int (zb q16.1)), (1, .int q1), (0, .ref 0)] dX11_courtPart_110 rfl (by decide) rfl ?_
              refine x_goto 127 dX11_courtPart_111 (by decide) ?_
              refine x_iload_n 0 dX11_courtPart_127 rfl rfl ?_
              refine x_if_eqB 144 dX11_courtPart_128 (by decide) (fun hB => ?_) (fun hB => ?_)
              · replace hf := f_el hB hf
                refine x_iconst (v := (0)) dX11_courtPart_144 (by decide) ?_
                cases hf
                exact x_zret (b := false) dX11_courtPart_145 rfl rfl
              · replace hf := f_if hB hf
                refine x_aload_n 2 dX11_courtPart_131 rfl rfl ?_
                refine x_bipush (v := (59)) dX11_courtPart_132 (by decide) ?_
                obtain ⟨q18, hq19, hf⟩ := f_bd hf
                refine x_callVi [.int (59 : Int32)] (c_X11_wantSign (I := q16.2.1) (L := q16.2.2)  hq19) dX11_courtPart_134 lk_X11_260 lm_0 rfl cd_X11_wantSign rfl rfl (Nat.le_of_ble_eq_true rfl) ⟨rfl, rfl, Nat.le_of_ble_eq_true rfl, Nat.le_of_ble_eq_true rfl⟩ ?_
                refine x_if_eqB 144 dX11_courtPart_137 (by decide) (fun hB => ?_) (fun hB => ?_)
                · replace hf := f_el hB hf
                  refine x_iconst (v := (0)) dX11_courtPart_144 (by decide) ?_
                  cases hf
                  exact x_zret (b := false) dX11_courtPart_145 rfl rfl
                · replace hf := f_if hB hf
                  refine x_iconst (v := (1)) dX11_courtPart_140 (by decide) ?_
                  refine x_goto 145 dX11_courtPart_141 (by decide) ?_
                  cases hf
                  exact x_zret (b := true) dX11_courtPart_145 rfl rfl
            replace hf := f_el hs20 hf
            by_cases hs25 : q1 = (3)
            · replace hf := f_if hs25 hf
              refine x_tabIn (3) 114 dX11_courtPart_54 hs25 (by decide) (by decide) rfl (by decide) ?_
              refine x_aload_n 1 dX11_courtPart_114 rfl rfl ?_
              obtain ⟨q21, hq22, hf⟩ := f_bd hf
              refine x_callVi [] (c_X11_aClaim (I := q4) (L := L)  hq22) dX11_courtPart_115 lk_X11_254 lm_0 rfl cd_X11_aClaim rfl rfl (Nat.le_of_ble_eq_true rfl) ⟨rfl, rfl, Nat.le_of_ble_eq_true rfl, Nat.le_of_ble_eq_true rfl⟩ ?_
              refine x_istore_n [(2, .int (zb q21.1)), (1, .int q1), (0, .ref 0)] dX11_courtPart_118 rfl (by decide) rfl ?_
              refine x_goto 127 dX11_courtPart_119 (by decide) ?_
              refine x_iload_n 0 dX11_courtPart_127 rfl rfl ?_
              refine x_if_eqB 144 dX11_courtPart_128 (by decide) (fun hB => ?_) (fun hB => ?_)
              · replace hf := f_el hB hf
                refine x_iconst (v := (0)) dX11_courtPart_144 (by decide) ?_
                cases hf
                exact x_zret (b := false) dX11_courtPart_145 rfl rfl
              · replace hf := f_if hB hf
                refine x_aload_n 2 dX11_courtPart_131 rfl rfl ?_
                refine x_bipush (v := (59)) dX11_courtPart_132 (by decide) ?_
                obtain ⟨q23, hq24, hf⟩ := f_bd hf
                refine x_callVi [.int (59 : Int32)] (c_X11_wantSign (I := q21.2.1) (L := q21.2.2)  hq24) dX11_courtPart_134 lk_X11_260 lm_0 rfl cd_X11_wantSign rfl rfl (Nat.le_of_ble_eq_true rfl) ⟨rfl, rfl, Nat.le_of_ble_eq_true rfl, Nat.le_of_ble_eq_true rfl⟩ ?_
                refine x_if_eqB 144 dX11_courtPart_137 (by decide) (fun hB => ?_) (fun hB => ?_)
                · replace hf := f_el hB hf
                  refine x_iconst (v := (0)) dX11_courtPart_144 (by decide) ?_
                  cases hf
                  exact x_zret (b := false) dX11_courtPart_145 rfl rfl
                · replace hf := f_if hB hf
                  refine x_iconst (v := (1)) dX11_courtPart_140 (by decide) ?_
                  refine x_goto 145 dX11_courtPart_141 (by decide) ?_
                  cases hf
                  exact x_zret (b := true) dX11_courtPart_145 rfl rfl
            replace hf := f_el hs25 hf
            refine x_tabOut 122 dX11_courtPart_54 (by have := lv_neT (a := 0) hs10 (by decide); have := lv_neT (a := 1) hs15 (by decide); have := lv_neT (a := 2) hs20 (by decide); have := lv_neT (a := 3) hs25 (by decide); omega) (by decide) ?_
            refine x_aload_n 1 dX11_courtPart_122 rfl rfl ?_
            obtain ⟨q26, hq27, hf⟩ := f_bd hf
            refine x_callVi [] (c_X11_aScholar (I := q4) (L := L)  hq27) dX11_courtPart_123 lk_X11_257 lm_0 rfl cd_X11_aScholar rfl rfl (Nat.le_of_ble_eq_true rfl) ⟨rfl, rfl, Nat.le_of_ble_eq_true rfl, Nat.le_of_ble_eq_true rfl⟩ ?_
            refine x_istore_n [(2, .int (zb q26.1)), (1, .int q1), (0, .ref 0)] dX11_courtPart_126 rfl (by decide) rfl ?_
            refine x_iload_n 0 dX11_courtPart_127 rfl rfl ?_
            refine x_if_eqB 144 dX11_courtPart_128 (by decide) (fun hB => ?_) (fun hB => ?_)
            · replace hf := f_el hB hf
              refine x_iconst (v := (0)) dX11_courtPart_144 (by decide) ?_
              cases hf
              exact x_zret (b := false) dX11_courtPart_145 rfl rfl
            · replace hf := f_if hB hf
              refine x_aload_n 2 dX11_courtPart_131 rfl rfl ?_
              refine x_bipush (v := (59)) dX11_courtPart_132 (by decide) ?_
              obtain ⟨q28, hq29, hf⟩ := f_bd hf
              refine x_callVi [.int (59 : Int32)] (c_X11_wantSign (I := q26.2.1) (L := q26.2.2)  hq29) dX11_courtPart_134 lk_X11_260 lm_0 rfl cd_X11_wantSign rfl rfl (Nat.le_of_ble_eq_true rfl) ⟨rfl, rfl, Nat.le_of_ble_eq_true rfl, Nat.le_of_ble_eq_true rfl⟩ ?_
              refine x_if_eqB 144 dX11_courtPart_137 (by decide) (fun hB => ?_) (fun hB => ?_)
              · replace hf := f_el hB hf
                refine x_iconst (v := (0)) dX11_courtPart_144 (by decide) ?_
                cases hf
                exact x_zret (b := false) dX11_courtPart_145 rfl rfl
              · replace hf := f_if hB hf
                refine x_iconst (v := (1)) dX11_courtPart_140 (by decide) ?_
                refine x_goto 145 dX11_courtPart_141 (by decide) ?_
                cases hf
                exact x_zret (b := true) dX11_courtPart_145 rfl rfl
        · replace hf := f_if hB hf
          refine x_aload_n 1 dX11_courtPart_34 rfl rfl ?_
          refine x_iconst (v := (5)) dX11_courtPart_35 (by decide) ?_
          refine x_callVi [.int (5 : Int32)] (c_X11_fails (I := I) (L := L) (5 : Int32)) dX11_courtPart_36 lk_X11_181 lm_0 rfl cd_X11_fails rfl rfl (Nat.le_of_ble_eq_true rfl) ⟨rfl, rfl, Nat.le_of_ble_eq_true rfl, Nat.le_of_ble_eq_true rfl⟩ ?_
          cases hf
          exact x_zret dX11_courtPart_39 rfl rfl
    · replace hf := f_el hB hf
      refine x_aload_n 1 dX11_courtPart_16 rfl rfl ?_
      refine x_iconst (v := (2)) dX11_courtPart_17 (by decide) ?_
      refine x_callVi [.int (2 : Int32)] (c_X11_fails (I := I) (L := L) (2 : Int32)) dX11_courtPart_18 lk_X11_181 lm_0 rfl cd_X11_fails rfl rfl (Nat.le_of_ble_eq_true rfl) ⟨rfl, rfl, Nat.le_of_ble_eq_true rfl, Nat.le_of_ble_eq_true rfl⟩ ?_
      cases hf
      exact x_zret dX11_courtPart_21 rfl rfl
set_option maxRecDepth 100000 in
set_option maxHeartbeats 4000000 in
theorem l_X11_court_31     {r : Int32 × z_I × z_L} (k50 : z_I → z_L → Option (Int32 × z_I × z_L)) (hk50 : ∀ (I : z_I) (L : z_L), k50 I L = some r → z_X layM RX11 cX11_court 4 (some .int) ({ frames := 9, cells := 0, slots := 0, locals := 207 } : Room) 50 [(0, .ref 0)] [] I L (some (.int r.1), r.2.1, r.2.2)) : ∀ (n : Nat) (v2 : Bool) (I : z_I) (L : z_L), g_X11_court_31  k50 n v2 I L = some r → z_X layM RX11 cX11_court 4 (some .int) ({ frames := 9, cells := 0, slots := 0, locals := 207 } : Room) 31 [(0, .ref 0), (2, .int (zb v2))] [] I L (some (.int r.1), r.2.1, r.2.2) := by
  intro n
  induction n with
  | zero => intro v2 I L hf; cases hf
  | succ n ih =>
    intro v2 I L hf
    rw [g_X11_court_31] at hf
    refine x_iload_n 1 dX11_court_31 rfl rfl ?_
    refine x_if_eqB 50 dX11_court_32 (by decide) (fun hB => ?_) (fun hB => ?_)
    · replace hf := f_el hB hf
      refine x_lv [(0, .ref 0)] [0] rfl ?_
      exact hk50 _ _ hf
    · replace hf := f_if hB hf
      refine x_aload_n 0 dX11_court_35 rfl rfl ?_
      refine x_getI (v := (I 0 12)) dX11_court_36 lm_0 fl_X11_144 rfl rfl ?_
      refine x_if_eq 50 dX11_court_39 (by decide) (fun hB => ?_) (fun hB => ?_)
      · replace hf := f_if hB hf
        refine x_lv [(0, .ref 0)] [0] rfl ?_
        exact hk50 _ _ hf
      · replace hf := f_el hB hf
        refine x_aload_n 0 dX11_court_42 rfl rfl ?_
        obtain ⟨q6, hq7, hf⟩ := f_bd hf
        refine x_callVi [] (c_X11_courtPart (I := I) (L := L)  hq7) dX11_court_43 lk_X11_266 lm_0 rfl cd_X11_courtPart rfl rfl (Nat.le_of_ble_eq_true rfl) ⟨rfl, rfl, Nat.le_of_ble_eq_true rfl, Nat.le_of_ble_eq_true rfl⟩ ?_
        refine x_istore_n [(2, .int (zb q6.1)), (0, .ref 0)] dX11_court_46 rfl (by decide) rfl ?_
        refine x_goto 31 dX11_court_47 (by decide) ?_
        refine x_lv [(0, .ref 0), (2, .int (zb q6.1))] [1, 0] rfl ?_
        exact ih _ _ _ hf
set_option maxRecDepth 100000 in
set_option maxHeartbeats 4000000 in
theorem l_X11_court_59    (L : z_L) {r : Int32 × z_I × z_L} (k88 : z_I → Option (Int32 × z_I × z_L)) (hk88 : ∀ (I : z_I), k88 I = some r → z_X layM RX11 cX11_court 4 (some .int) ({ frames := 9, cells := 0, slots := 0, locals := 207 } : Room) 88 [(0, .ref 0)] [] I L (some (.int r.1), r.2.1, r.2.2)) : ∀ (n : Nat) (v3 : Int32) (I : z_I), g_X11_court_59 L k88 n v3 I = some r → z_X layM RX11 cX11_court 4 (some .int) ({ frames := 9, cells := 0, slots := 0, locals := 207 } : Room) 59 [(0, .ref 0), (3, .int v3)] [] I L (some (.int r.1), r.2.1, r.2.2) := by
  intro n
  induction n with
  | zero => intro v3 I hf; cases hf
  | succ n ih =>
    intro v3 I hf
    rw [g_X11_court_59] at hf
    refine x_iload_n 1 dX11_court_59 rfl rfl ?_
    refine x_sipush (v := (428)) dX11_court_60 (by decide) ?_
    refine x_icmp_ge 88 dX11_court_63 (by decide) (fun hB => ?_) (fun hB => ?_)
    · replace hf := f_if hB hf
      refine x_lv [(0, .ref 0)] [0] rfl ?_
      exact hk88 _ hf
    · replace hf := f_el hB hf
      refine x_aload_n 0 dX11_court_66 rfl rfl ?_
      refine x_getR dX11_court_67 lm_0 fl_X11_7 rfl ?_
      refine x_iload_n 1 dX11_court_70 rfl rfl ?_
      refine x_aload_n 0 dX11_court_71 rfl rfl ?_
      refine x_getR dX11_court_72 lm_0 fl_X11_7 rfl ?_
      refine x_sipush (v := (1712)) dX11_court_75 (by decide) ?_
      refine x_iload_n 1 dX11_court_78 rfl rfl ?_
      refine x_iadd dX11_court_79 ?_
      obtain ⟨h10, hf⟩ := f_gd hf
      refine x_iald (j := (((1712 : Int32) + v3)).toNatClampNeg) (v := (I 1 (((1712 : Int32) + v3)).toNatClampNeg)) dX11_court_80 lm_1 h10 rfl rfl ?_
      obtain ⟨h11, hf⟩ := f_gd hf
      obtain ⟨I12, hI12, hf⟩ := f_lt hf
      refine x_iast (j0 := (v3).toNatClampNeg) dX11_court_81 lm_1 h11 rfl hI12 ?_
      refine x_iinc 1 [(3, .int (v3 + (1 : Int32))), (0, .ref 0)] dX11_court_82 rfl rfl (by decide) rfl ?_
      refine x_goto 59 dX11_court_85 (by decide) ?_
      refine x_lv [(0, .ref 0), (3, .int (v3 + (1 : Int32)))] [1, 0] rfl ?_
      exact ih _ _ hf
set_option maxRecDepth 100000 in
set_option maxHeartbeats 4000000 in
theorem l_X11_court_90    (I : z_I) {r : Int32 × z_I × z_L}  : ∀ (n : Nat) (v3 : Int32) (L : z_L), g_X11_court_90 I  n v3 L = some r → z_X layM RX11 cX11_court 4 (some .int) ({ frames := 9, cells := 0, slots := 0, locals := 207 } : Room) 90 [(0, .ref 0), (3, .int v3)] [] I L (some (.int r.1), r.2.1, r.2.2) := by
  intro n
  induction n with
  | zero => intro v3 L hf; cases hf
  | succ n ih =>
    intro v3 L hf
    rw [g_X11_court_90] at hf
    refine x_iload_n 1 dX11_court_90 rfl rfl ?_
    refine x_bipush (v := (19)) dX11_court_91 (by decide) ?_
    refine x_icmp_ge 117 dX11_court_93 (by decide) (fun hB => ?_) (fun hB => ?_)
    · replace hf := f_if hB hf
      refine x_aload_n 0 dX11_court_117 rfl rfl ?_
      refine x_aload_n 0 dX11_court_118 rfl rfl ?_
      refine x_getR dX11_court_119 lm_0 fl_X11_7 rfl ?_
      refine x_iconst (v := (2)) dX11_court_122 (by decide) ?_
      refine x_iald (j := 2) (v := (I 1 2)) dX11_court_123 lm_1 (by decide +kernel) (by decide +kernel) rfl ?_
      refine x_callVi [.int (I 1 2)] (c_X11_taken (I := I) (L := L) (I 1 2)) dX11_court_124 lk_X11_269 lm_0 rfl cd_X11_taken rfl rfl (Nat.le_of_ble_eq_true rfl) ⟨rfl, rfl, Nat.le_of_ble_eq_true rfl, Nat.le_of_ble_eq_true rfl⟩ ?_
      cases hf
      exact x_iret dX11_court_127 rfl rfl
    · replace hf := f_el hB hf
      refine x_aload_n 0 dX11_court_96 rfl rfl ?_
      refine x_getR dX11_court_97 lm_0 fl_X11_13 rfl ?_
      refine x_iload_n 1 dX11_court_100 rfl rfl ?_
      refine x_aload_n 0 dX11_court_101 rfl rfl ?_
      refine x_getR dX11_court_102 lm_0 fl_X11_13 rfl ?_
      refine x_bipush (v := (76)) dX11_court_105 (by decide) ?_
      refine x_iload_n 1 dX11_court_107 rfl rfl ?_
      refine x_iadd dX11_court_108 ?_
      obtain ⟨h15, hf⟩ := f_gd hf
      refine x_lald (j := (((76 : Int32) + v3)).toNatClampNeg) (v := (L 2 (((76 : Int32) + v3)).toNatClampNeg)) dX11_court_109 lm_2 h15 rfl rfl ?_
      obtain ⟨h16, hf⟩ := f_gd hf
      obtain ⟨L17, hL17, hf⟩ := f_lt hf
      refine x_last (j0 := (v3).toNatClampNeg) dX11_court_110 lm_2 h16 rfl hL17 ?_
      refine x_iinc 1 [(3, .int (v3 + (1 : Int32))), (0, .ref 0)] dX11_court_111 rfl rfl (by decide) rfl ?_
      refine x_goto 90 dX11_court_114 (by decide) ?_
      refine x_lv [(0, .ref 0), (3, .int (v3 + (1 : Int32)))] [1, 0] rfl ?_
      exact ih _ _ hf
set_option maxRecDepth 100000 in
set_option maxHeartbeats 4000000 in
theorem c_X11_court {I : z_I} {L : z_L} {p0 : Int32}  {r : Int32 × z_I × z_L} (hf : f_X11_court I L p0 = some r) : z_C layM yX11_court cX11_court 4 (some .int) ({ frames := 9, cells := 0, slots := 0, locals := 207 } : Room) [.ref 0, .int p0] I L (some (.int r.1), r.2.1, r.2.2) := by
  refine z_C.of (by decide) (Nat.le_of_ble_eq_true rfl) ?_
  show z_X layM RX11 cX11_court 4 (some .int) ({ frames := 9, cells := 0, slots := 0, locals := 207 } : Room) 0 [(0, .ref 0), (1, .int p0)] [] I L (some (.int r.1), r.2.1, r.2.2)
  unfold f_X11_court at hf
  refine x_aload_n 0 dX11_court_0 rfl rfl ?_
  refine x_iload_n 1 dX11_court_1 rfl rfl ?_
  refine x_sipush (v := (900)) dX11_court_2 (by decide) ?_
  obtain ⟨q1, hq2, hf⟩ := f_bd hf
  refine x_callVi [.int p0, .int (900 : Int32)] (c_X11_begins (I := I) (L := L)  hq2) dX11_court_5 lk_X11_263 lm_0 rfl cd_X11_begins rfl rfl (Nat.le_of_ble_eq_true rfl) ⟨rfl, rfl, Nat.le_of_ble_eq_true rfl, Nat.le_of_ble_eq_true rfl⟩ ?_
  refine x_if_neB 17 dX11_court_8 (by decide) (fun hB => ?_) (fun hB => ?_)
  · replace hf := f_if hB hf
    refine x_aload_n 0 dX11_court_17 rfl rfl ?_
    refine x_sipush (v := (1712)) dX11_court_18 (by decide) ?_
    obtain ⟨q3, hq4, hf⟩ := f_bd hf
    refine x_callVv [.int (1712 : Int32)] (c_X11_plain (I := q1.2) (L := L)  hq4) dX11_court_21 lk_X11_89 lm_0 rfl cd_X11_plain rfl rfl (Nat.le_of_ble_eq_true rfl) ⟨rfl, rfl, Nat.le_of_ble_eq_true rfl, Nat.le_of_ble_eq_true rfl⟩ ?_
    refine x_aload_n 0 dX11_court_24 rfl rfl ?_
    refine x_iconst (v := (0)) dX11_court_25 (by decide) ?_
    obtain ⟨I5, hI5, hf⟩ := f_lt hf
    refine x_putI dX11_court_26 lm_0 fl_X11_245 rfl rfl rfl hI5 ?_
    refine x_iconst (v := (1)) dX11_court_29 (by decide) ?_
    refine x_istore_n [(2, .int (1 : Int32)), (0, .ref 0), (1, .int p0)] dX11_court_30 rfl (by decide) rfl ?_
    refine x_lv [(0, .ref 0), (2, .int (zb true))] [1, 0] rfl ?_
    refine l_X11_court_31  _ ?_ _ _ _ _ hf
    · intro I_8 L_9 hf
      refine x_aload_n 0 dX11_court_50 rfl rfl ?_
      refine x_getI (v := (I_8 0 18)) dX11_court_51 lm_0 fl_X11_169 rfl rfl ?_
      refine x_if_ne 117 dX11_court_54 (by decide) (fun hB => ?_) (fun hB => ?_)
      · replace hf := f_el hB hf
        refine x_aload_n 0 dX11_court_117 rfl rfl ?_
        refine x_aload_n 0 dX11_court_118 rfl rfl ?_
        refine x_getR dX11_court_119 lm_0 fl_X11_7 rfl ?_
        refine x_iconst (v := (2)) dX11_court_122 (by decide) ?_
        refine x_iald (j := 2) (v := (I_8 1 2)) dX11_court_123 lm_1 (by decide +kernel) (by decide +kernel) rfl ?_
        refine x_callVi [.int (I_8 1 2)] (c_X11_taken (I := I_8) (L := L_9) (I_8 1 2)) dX11_court_124 lk_X11_269 lm_0 rfl cd_X11_taken rfl rfl (Nat.le_of_ble_eq_true rfl) ⟨rfl, rfl, Nat.le_of_ble_eq_true rfl, Nat.le_of_ble_eq_true rfl⟩ ?_
        cases hf
        exact x_iret dX11_court_127 rfl rfl
      · replace hf := f_if hB hf
        refine x_iconst (v := (0)) dX11_court_57 (by decide) ?_
        refine x_istore_n [(3, .int (0 : Int32)), (0, .ref 0)] dX11_court_58 rfl (by decide) rfl ?_
        refine x_lv [(0, .ref 0), (3, .int (0 : Int32))] [1, 0] rfl ?_
        refine l_X11_court_59 (L_9) _ ?_ _ _ _ hf
        · intro I_13 hf
          refine x_iconst (v := (0)) dX11_court_88 (by decide) ?_
          refine x_istore_n [(3, .int (0 : Int32)), (0, .ref 0)] dX11_court_89 rfl (by decide) rfl ?_
          refine x_lv [(0, .ref 0), (3, .int (0 : Int32))] [1, 0] rfl ?_
          refine l_X11_court_90 (I_13)   _ _ _ hf
  · replace hf := f_el hB hf
    refine x_aload_n 0 dX11_court_11 rfl rfl ?_
    refine x_iconst (v := (1)) dX11_court_12 (by decide) ?_
    refine x_callVi [.int (1 : Int32)] (c_X11_refuse (I := q1.2) (L := L) (1 : Int32)) dX11_court_13 lk_X11_99 lm_0 rfl cd_X11_refuse rfl rfl (Nat.le_of_ble_eq_true rfl) ⟨rfl, rfl, Nat.le_of_ble_eq_true rfl, Nat.le_of_ble_eq_true rfl⟩ ?_
    cases hf
    exact x_iret dX11_court_16 rfl rfl
set_option maxRecDepth 100000 in
set_option maxHeartbeats 4000000 in
theorem c_X11_claimTo {I : z_I} {L : z_L} {p0 : Int32}  {r : Bool × z_I} (hf : f_X11_claimTo I L p0 = some r) : z_C layM yX11_claimTo cX11_claimTo 2 (some .boolean) ({ frames := 7, cells := 0, slots := 0, locals := 160 } : Room) [.ref 0, .int p0] I L (some (.int (zb r.1)), r.2, L) := by
  refine z_C.of (by decide) (Nat.le_of_ble_eq_true rfl) ?_
  show z_X layM RX11 cX11_claimTo 2 (some .boolean) ({ frames := 7, cells := 0, slots := 0, locals := 160 } : Room) 0 [(0, .ref 0), (1, .int p0)] [] I L (some (.int (zb r.1)), r.2, L)
  unfold f_X11_claimTo at hf
  refine x_aload_n 0 dX11_claimTo_0 rfl rfl ?_
  refine x_bipush (v := (8)) dX11_claimTo_1 (by decide) ?_
  refine x_aload_n 0 dX11_claimTo_3 rfl rfl ?_
  refine x_getR dX11_claimTo_4 lm_0 fl_X11_7 rfl ?_
  refine x_iconst (v := (2)) dX11_claimTo_7 (by decide) ?_
  refine x_iald (j := 2) (v := (I 1 2)) dX11_claimTo_8 lm_1 (by decide +kernel) (by decide +kernel) rfl ?_
  refine x_iload_n 1 dX11_claimTo_9 rfl rfl ?_
  obtain ⟨q2, hq3, hf⟩ := f_bd hf
  refine x_callVi [.int (8 : Int32), .int (I 1 2), .int p0] (c_X11_oldOne (I := I) (L := L)  hq3) dX11_claimTo_10 lk_X11_239 lm_0 rfl cd_X11_oldOne rfl rfl (Nat.le_of_ble_eq_true rfl) ⟨rfl, rfl, Nat.le_of_ble_eq_true rfl, Nat.le_of_ble_eq_true rfl⟩ ?_
  cases hf
  exact x_zret dX11_claimTo_13 rfl rfl
set_option maxRecDepth 100000 in
set_option maxHeartbeats 4000000 in
theorem c_X11_scholarTo {I : z_I} {L : z_L} {p0 : Int32}  {r : Bool × z_I} (hf : f_X11_scholarTo I L p0 = some r) : z_C layM yX11_scholarTo cX11_scholarTo 2 (some .boolean) ({ frames := 7, cells := 0, slots := 0, locals := 160 } : Room) [.ref 0, .int p0] I L (some (.int (zb r.1)), r.2, L) := by
  refine z_C.of (by decide) (Nat.le_of_ble_eq_true rfl) ?_
  show z_X layM RX11 cX11_scholarTo 2 (some .boolean) ({ frames := 7, cells := 0, slots := 0, locals := 160 } : Room) 0 [(0, .ref 0), (1, .int p0)] [] I L (some (.int (zb r.1)), r.2, L)
  unfold f_X11_scholarTo at hf
  refine x_aload_n 0 dX11_scholarTo_0 rfl rfl ?_
  refine x_bipush (v := (15)) dX11_scholarTo_1 (by decide) ?_
  refine x_aload_n 0 dX11_scholarTo_3 rfl rfl ?_
  refine x_getR dX11_scholarTo_4 lm_0 fl_X11_7 rfl ?_
  refine x_iconst (v := (3)) dX11_scholarTo_7 (by decide) ?_
  refine x_iald (j := 3) (v := (I 1 3)) dX11_scholarTo_8 lm_1 (by decide +kernel) (by decide +kernel) rfl ?_
  refine x_iload_n 1 dX11_scholarTo_9 rfl rfl ?_
  obtain ⟨q2, hq3, hf⟩ := f_bd hf
  refine x_callVi [.int (15 : Int32), .int (I 1 3), .int p0] (c_X11_oldOne (I := I) (L := L)  hq3) dX11_scholarTo_10 lk_X11_239 lm_0 rfl cd_X11_oldOne rfl rfl (Nat.le_of_ble_eq_true rfl) ⟨rfl, rfl, Nat.le_of_ble_eq_true rfl, Nat.le_of_ble_eq_true rfl⟩ ?_
  cases hf
  exact x_zret dX11_scholarTo_13 rfl rfl
set_option maxRecDepth 100000 in
set_option maxHeartbeats 4000000 in
theorem c_X11_bedTo {I : z_I} {L : z_L} {p0 : Int32}  {r : Bool × z_I} (hf : f_X11_bedTo I p0 = some r) : z_C layM yX11_bedTo cX11_bedTo 2 (some .boolean) ({ frames := 3, cells := 0, slots := 0, locals := 72 } : Room) [.ref 0, .int p0] I L (some (.int (zb r.1)), r.2, L) := by
  refine z_C.of (by decide) (Nat.le_of_ble_eq_true rfl) ?_
  show z_X layM RX11 cX11_bedTo 2 (some .boolean) ({ frames := 3, cells := 0, slots := 0, locals := 72 } : Room) 0 [(0, .ref 0), (1, .int p0)] [] I L (some (.int (zb r.1)), r.2, L)
  unfold f_X11_bedTo at hf
  refine x_aload_n 0 dX11_bedTo_0 rfl rfl ?_
  refine x_iload_n 1 dX11_bedTo_1 rfl rfl ?_
  refine x_iconst (v := (0)) dX11_bedTo_2 (by decide) ?_
  refine x_aload_n 0 dX11_bedTo_3 rfl rfl ?_
  refine x_getR dX11_bedTo_4 lm_0 fl_X11_7 rfl ?_
  refine x_iconst (v := (0)) dX11_bedTo_7 (by decide) ?_
  refine x_iald (j := 0) (v := (I 1 0)) dX11_bedTo_8 lm_1 (by decide +kernel) (by decide +kernel) rfl ?_
  refine x_iconst (v := (1)) dX11_bedTo_9 (by decide) ?_
  refine x_isub dX11_bedTo_10 ?_
  obtain ⟨q2, hq3, hf⟩ := f_bd hf
  refine x_callVi [.int p0, .int (0 : Int32), .int ((I 1 0) - (1 : Int32))] (c_X11_number (I := I) (L := L)  hq3) dX11_bedTo_11 lk_X11_197 lm_0 rfl cd_X11_number rfl rfl (Nat.le_of_ble_eq_true rfl) ⟨rfl, rfl, Nat.le_of_ble_eq_true rfl, Nat.le_of_ble_eq_true rfl⟩ ?_
  cases hf
  exact x_zret dX11_bedTo_14 rfl rfl
set_option maxRecDepth 100000 in
set_option maxHeartbeats 4000000 in
theorem c_X11_test {I : z_I} {L : z_L} {p0 : Int32}  {r : Bool × z_I} (hf : f_X11_test I L p0 = some r) : z_C layM yX11_test cX11_test 4 (some .boolean) ({ frames := 8, cells := 0, slots := 0, locals := 181 } : Room) [.ref 0, .int p0] I L (some (.int (zb r.1)), r.2, L) := by
  refine z_C.of (by decide) (Nat.le_of_ble_eq_true rfl) ?_
  show z_X layM RX11 cX11_test 4 (some .boolean) ({ frames := 8, cells := 0, slots := 0, locals := 181 } : Room) 0 [(0, .ref 0), (1, .int p0)] [] I L (some (.int (zb r.1)), r.2, L)
  unfold f_X11_test at hf
  refine x_aload_n 0 dX11_test_0 rfl rfl ?_
  refine x_ldcS dX11_test_1 ?_
  obtain ⟨q1, hq2, hf⟩ := f_bd hf
  refine x_callVi [.ref 9001] (c_X11_inWords (I := I) (L := L)  hq2) dX11_test_3 lk_X11_184 lm_0 rfl cd_X11_inWords rfl rfl (Nat.le_of_ble_eq_true rfl) ⟨rfl, rfl, Nat.le_of_ble_eq_true rfl, Nat.le_of_ble_eq_true rfl⟩ ?_
  refine x_istore_n [(2, .int q1), (0, .ref 0), (1, .int p0)] dX11_test_6 rfl (by decide) rfl ?_
  refine x_iload_n 0 dX11_test_7 rfl rfl ?_
  refine x_iconst (v := (5)) dX11_test_8 (by decide) ?_
  refine x_icmp_eq 30 dX11_test_9 (by decide) (fun hB => ?_) (fun hB => ?_)
  · replace hf := f_if hB hf
    refine x_aload_n 1 dX11_test_30 rfl rfl ?_
    refine x_getR dX11_test_31 lm_0 fl_X11_7 rfl ?_
    refine x_iload_n 2 dX11_test_34 rfl rfl ?_
    refine x_sipush (v := (1800)) dX11_test_35 (by decide) ?_
    refine x_iload_n 0 dX11_test_38 rfl rfl ?_
    refine x_iadd dX11_test_39 ?_
    obtain ⟨h3, hf⟩ := f_gd hf
    obtain ⟨I4, hI4, hf⟩ := f_lt hf
    refine x_iast (j0 := (p0).toNatClampNeg) dX11_test_40 lm_1 h3 rfl hI4 ?_
    refine x_aload_n 1 dX11_test_41 rfl rfl ?_
    obtain ⟨q5, hq6, hf⟩ := f_bd hf
    refine x_callVv [] (c_X11_ahead (I := I4) (L := L)  hq6) dX11_test_42 lk_X11_175 lm_0 rfl cd_X11_ahead rfl rfl (Nat.le_of_ble_eq_true rfl) ⟨rfl, rfl, Nat.le_of_ble_eq_true rfl, Nat.le_of_ble_eq_true rfl⟩ ?_
    refine x_iload_n 0 dX11_test_45 rfl rfl ?_
    refine x_bipush (v := (22)) dX11_test_46 (by decide) ?_
    refine x_icmp_ne 59 dX11_test_48 (by decide) (fun hB => ?_) (fun hB => ?_)
    · replace hf := f_el hB hf
      refine x_iload_n 0 dX11_test_59 rfl rfl ?_
      refine x_bipush (v := (11)) dX11_test_60 (by decide) ?_
      refine x_icmp_ne 75 dX11_test_62 (by decide) (fun hB => ?_) (fun hB => ?_)
      · replace hf := f_el hB hf
        refine x_aload_n 1 dX11_test_75 rfl rfl ?_
        refine x_iload_n 2 dX11_test_76 rfl rfl ?_
        refine x_iconst (v := (1)) dX11_test_77 (by decide) ?_
        refine x_iadd dX11_test_78 ?_
        obtain ⟨q29, hq30, hf⟩ := f_bd hf
        refine x_callVi [.int (p0 + (1 : Int32))] (c_X11_bedTo (I := q5) (L := L)  hq30) dX11_test_79 lk_X11_278 lm_0 rfl cd_X11_bedTo rfl rfl (Nat.le_of_ble_eq_true rfl) ⟨rfl, rfl, Nat.le_of_ble_eq_true rfl, Nat.le_of_ble_eq_true rfl⟩ ?_
        refine x_istore_n [(3, .int (zb q29.1)), (2, .int q1), (0, .ref 0), (1, .int p0)] dX11_test_82 rfl (by decide) rfl ?_
        refine x_iload_n 0 dX11_test_83 rfl rfl ?_
        refine x_if_neB 89 dX11_test_84 (by decide) (fun hB => ?_) (fun hB => ?_)
        · replace hf := f_if hB hf
          refine x_aload_n 2 dX11_test_89 rfl rfl ?_
          refine x_bipush (v := (60)) dX11_test_90 (by decide) ?_
          refine x_callVi [.int (60 : Int32)] (c_X11_isSign (I := q29.2) (L := L) (60 : Int32)) dX11_test_92 lk_X11_178 lm_0 rfl cd_X11_isSign rfl rfl (Nat.le_of_ble_eq_true rfl) ⟨rfl, rfl, Nat.le_of_ble_eq_true rfl, Nat.le_of_ble_eq_true rfl⟩ ?_
          refine x_if_neB 122 dX11_test_95 (by decide) (fun hB => ?_) (fun hB => ?_)
          · replace hf := f_if hB hf
            refine x_aload_n 2 dX11_test_122 rfl rfl ?_
            refine x_getR dX11_test_123 lm_0 fl_X11_7 rfl ?_
            refine x_iload_n 3 dX11_test_126 rfl rfl ?_
            refine x_iconst (v := (5)) dX11_test_127 (by decide) ?_
            refine x_iadd dX11_test_128 ?_
            refine x_aload_n 2 dX11_test_129 rfl rfl ?_
            refine x_getI (v := (q29.2 0 15)) dX11_test_130 lm_0 fl_X11_141 rfl rfl ?_
            obtain ⟨h31, hf⟩ := f_gd hf
            obtain ⟨I32, hI32, hf⟩ := f_lt hf
            refine x_iast (j0 := ((p0 + (5 : Int32))).toNatClampNeg) dX11_test_133 lm_1 h31 rfl hI32 ?_
            refine x_aload_n 2 dX11_test_134 rfl rfl ?_
            obtain ⟨q33, hq34, hf⟩ := f_bd hf
            refine x_callVv [] (c_X11_ahead (I := I32) (L := L)  hq34) dX11_test_135 lk_X11_175 lm_0 rfl cd_X11_ahead rfl rfl (Nat.le_of_ble_eq_true rfl) ⟨rfl, rfl, Nat.le_of_ble_eq_true rfl, Nat.le_of_ble_eq_true rfl⟩ ?_
            refine x_aload_n 2 dX11_test_138 rfl rfl ?_
            refine x_iload_n 3 dX11_test_139 rfl rfl ?_
            refine x_iconst (v := (2)) dX11_test_140 (by decide) ?_
            refine x_iadd dX11_test_141 ?_
            refine x_iconst (v := (0)) dX11_test_142 (by decide) ?_
            refine x_sipush (v := (9999)) dX11_test_143 (by decide) ?_
            obtain ⟨q35, hq36, hf⟩ := f_bd hf
            refine x_callVi [.int (p0 + (2 : Int32)), .int (0 : Int32), .int (9999 : Int32)] (c_X11_number (I := q33) (L := L)  hq36) dX11_test_146 lk_X11_197 lm_0 rfl cd_X11_number rfl rfl (Nat.le_of_ble_eq_true rfl) ⟨rfl, rfl, Nat.le_of_ble_eq_true rfl, Nat.le_of_ble_eq_true rfl⟩ ?_
            cases hf
            exact x_zret dX11_test_149 rfl rfl
          · replace hf := f_el hB hf
            refine x_aload_n 2 dX11_test_98 rfl rfl ?_
            refine x_bipush (v := (62)) dX11_test_99 (by decide) ?_
            refine x_callVi [.int (62 : Int32)] (c_X11_isSign (I := q29.2) (L := L) (62 : Int32)) dX11_test_101 lk_X11_178 lm_0 rfl cd_X11_isSign rfl rfl (Nat.le_of_ble_eq_true rfl) ⟨rfl, rfl, Nat.le_of_ble_eq_true rfl, Nat.le_of_ble_eq_true rfl⟩ ?_
            refine x_if_neB 122 dX11_test_104 (by decide) (fun hB => ?_) (fun hB => ?_)
            · replace hf := f_if hB hf
              refine x_aload_n 2 dX11_test_122 rfl rfl ?_
              refine x_getR dX11_test_123 lm_0 fl_X11_7 rfl ?_
              refine x_iload_n 3 dX11_test_126 rfl rfl ?_
              refine x_iconst (v := (5)) dX11_test_127 (by decide) ?_
              refine x_iadd dX11_test_128 ?_
              refine x_aload_n 2 dX11_test_129 rfl rfl ?_
              refine x_getI (v := (q29.2 0 15)) dX11_test_130 lm_0 fl_X11_141 rfl rfl ?_
              obtain ⟨h37, hf⟩ := f_gd hf
              obtain ⟨I38, hI38, hf⟩ := f_lt hf
              refine x_iast (j0 := ((p0 + (5 : Int32))).toNatClampNeg) dX11_test_133 lm_1 h37 rfl hI38 ?_
              refine x_aload_n 2 dX11_test_134 rfl rfl ?_
              obtain ⟨q39, hq40, hf⟩ := f_bd hf
              refine x_callVv [] (c_X11_ahead (I := I38) (L := L)  hq40) dX11_test_135 lk_X11_175 lm_0 rfl cd_X11_ahead rfl rfl (Nat.le_of_ble_eq_true rfl) ⟨rfl, rfl, Nat.le_of_ble_eq_true rfl, Nat.le_of_ble_eq_true rfl⟩ ?_
              refine x_aload_n 2 dX11_test_138 rfl rfl ?_
              refine x_iload_n 3 dX11_test_139 rfl rfl ?_
              refine x_iconst (v := (2)) dX11_test_140 (by decide) ?_
              refine x_iadd dX11_test_141 ?_
              refine x_iconst (v := (0)) dX11_test_142 (by decide) ?_
              refine x_sipush (v := (9999)) dX11_test_143 (by decide) ?_
              obtain ⟨q41, hq42, hf⟩ := f_bd hf
              refine x_callVi [.int (p0 + (2 : Int32)), .int (0 : Int32), .int (9999 : Int32)] (c_X11_number (I := q39) (L := L)  hq42) dX11_test_146 lk_X11_197 lm_0 rfl cd_X11_number rfl rfl (Nat.le_of_ble_eq_true rfl) ⟨rfl, rfl, Nat.le_of_ble_eq_true rfl, Nat.le_of_ble_eq_true rfl⟩ ?_
              cases hf
              exact x_zret dX11_test_149 rfl rfl
            · replace hf := f_el hB hf
              refine x_aload_n 2 dX11_test_107 rfl rfl ?_
              refine x_bipush (v := (61)) dX11_test_108 (by decide) ?_
              refine x_callVi [.int (61 : Int32)] (c_X11_isSign (I := q29.2) (L := L) (61 : Int32)) dX11_test_110 lk_X11_178 lm_0 rfl cd_X11_isSign rfl rfl (Nat.le_of_ble_eq_true rfl) ⟨rfl, rfl, Nat.le_of_ble_eq_true rfl, Nat.le_of_ble_eq_true rfl⟩ ?_
              refine x_if_neB 122 dX11_test_113 (by decide) (fun hB => ?_) (fun hB => ?_)
              · replace hf := f_if hB hf
                refine x_aload_n 2 dX11_test_122 rfl rfl ?_
                refine x_getR dX11_test_123 lm_0 fl_X11_7 rfl ?_
                refine x_iload_n 3 dX11_test_126 rfl rfl ?_
                refine x_iconst (v := (5)) dX11_test_127 (by decide) ?_
                refine x_iadd dX11_test_128 ?_
                refine x_aload_n 2 dX11_test_129 rfl rfl ?_
                refine x_getI (v := (q29.2 0 15)) dX11_test_130 lm_0 fl_X11_141 rfl rfl ?_
                obtain ⟨h43, hf⟩ := f_gd hf
                obtain ⟨I44, hI44, hf⟩ := f_lt hf
                refine x_iast (j0 := ((p0 + (5 : Int32))).toNatClampNeg) dX11_test_133 lm_1 h43 rfl hI44 ?_
                refine x_aload_n 2 dX11_test_134 rfl rfl ?_
                obtain ⟨q45, hq46, hf⟩ := f_bd hf
                refine x_callVv [] (c_X11_ahead (I := I44) (L := L)  hq46) dX11_test_135 lk_X11_175 lm_0 rfl cd_X11_ahead rfl rfl (Nat.le_of_ble_eq_true rfl) ⟨rfl, rfl, Nat.le_of_ble_eq_true rfl, Nat.le_of_ble_eq_true rfl⟩ ?_
                refine x_aload_n 2 dX11_test_138 rfl rfl ?_
                refine x_iload_n 3 dX11_test_139 rfl rfl ?_
                refine x_iconst (v := (2)) dX11_test_140 (by decide) ?_
                refine x_iadd dX11_test_141 ?_
                refine x_iconst (v := (0)) dX11_test_142 (by decide) ?_
                refine x_sipush (v := (9999)) dX11_test_143 (by decide) ?_
                obtain ⟨q47, hq48, hf⟩ := f_bd hf
                refine x_callVi [.int (p0 + (2 : Int32)), .int (0 : Int32), .int (9999 : Int32)] (c_X11_number (I := q45) (L := L)  hq48) dX11_test_146 lk_X11_197 lm_0 rfl cd_X11_number rfl rfl (Nat.le_of_ble_eq_true rfl) ⟨rfl, rfl, Nat.le_of_ble_eq_true rfl, Nat.le_of_ble_eq_true rfl⟩ ?_
                cases hf
                exact x_zret dX11_test_149 rfl rfl
              · replace hf := f_el hB hf
                refine x_aload_n 2 dX11_test_116 rfl rfl ?_
                refine x_iconst (v := (2)) dX11_test_117 (by decide) ?_
                refine x_callVi [.int (2 : Int32)] (c_X11_fails (I := q29.2) (L := L) (2 : Int32)) dX11_test_118 lk_X11_181 lm_0 rfl cd_X11_fails rfl rfl (Nat.le_of_ble_eq_true rfl) ⟨rfl, rfl, Nat.le_of_ble_eq_true rfl, Nat.le_of_ble_eq_true rfl⟩ ?_
                cases hf
                exact x_zret dX11_test_121 rfl rfl
        · replace hf := f_el hB hf
          refine x_iconst (v := (0)) dX11_test_87 (by decide) ?_
          cases hf
          exact x_zret (b := false) dX11_test_88 rfl rfl
      · replace hf := f_if hB hf
        refine x_aload_n 1 dX11_test_65 rfl rfl ?_
        refine x_iload_n 2 dX11_test_66 rfl rfl ?_
        refine x_iconst (v := (1)) dX11_test_67 (by decide) ?_
        refine x_iadd dX11_test_68 ?_
        obtain ⟨q9, hq10, hf⟩ := f_bd hf
        refine x_callVi [.int (p0 + (1 : Int32))] (c_X11_scholarTo (I := q5) (L := L)  hq10) dX11_test_69 lk_X11_275 lm_0 rfl cd_X11_scholarTo rfl rfl (Nat.le_of_ble_eq_true rfl) ⟨rfl, rfl, Nat.le_of_ble_eq_true rfl, Nat.le_of_ble_eq_true rfl⟩ ?_
        refine x_goto 82 dX11_test_72 (by decide) ?_
        refine x_istore_n [(3, .int (zb q9.1)), (2, .int q1), (0, .ref 0), (1, .int p0)] dX11_test_82 rfl (by decide) rfl ?_
        refine x_iload_n 0 dX11_test_83 rfl rfl ?_
        refine x_if_neB 89 dX11_test_84 (by decide) (fun hB => ?_) (fun hB => ?_)
        · replace hf := f_if hB hf
          refine x_aload_n 2 dX11_test_89 rfl rfl ?_
          refine x_bipush (v := (60)) dX11_test_90 (by decide) ?_
          refine x_callVi [.int (60 : Int32)] (c_X11_isSign (I := q9.2) (L := L) (60 : Int32)) dX11_test_92 lk_X11_178 lm_0 rfl cd_X11_isSign rfl rfl (Nat.le_of_ble_eq_true rfl) ⟨rfl, rfl, Nat.le_of_ble_eq_true rfl, Nat.le_of_ble_eq_true rfl⟩ ?_
          refine x_if_neB 122 dX11_test_95 (by decide) (fun hB => ?_) (fun hB => ?_)
          · replace hf := f_if hB hf
            refine x_aload_n 2 dX11_test_122 rfl rfl ?_
            refine x_getR dX11_test_123 lm_0 fl_X11_7 rfl ?_
            refine x_iload_n 3 dX11_test_126 rfl rfl ?_
            refine x_iconst (v := (5)) dX11_test_127 (by decide) ?_
            refine x_iadd dX11_test_128 ?_
            refine x_aload_n 2 dX11_test_129 rfl rfl ?_
            refine x_getI (v := (q9.2 0 15)) dX11_test_130 lm_0 fl_X11_141 rfl rfl ?_
            obtain ⟨h11, hf⟩ := f_gd hf
            obtain ⟨I12, hI12, hf⟩ := f_lt hf
            refine x_iast (j0 := ((p0 + (5 : Int32))).toNatClampNeg) dX11_test_133 lm_1 h11 rfl hI12 ?_
            refine x_aload_n 2 dX11_test_134 rfl rfl ?_
            obtain ⟨q13, hq14, hf⟩ := f_bd hf
            refine x_callVv [] (c_X11_ahead (I := I12) (L := L)  hq14) dX11_test_135 lk_X11_175 lm_0 rfl cd_X11_ahead rfl rfl (Nat.le_of_ble_eq_true rfl) ⟨rfl, rfl, Nat.le_of_ble_eq_true rfl, Nat.le_of_ble_eq_true rfl⟩ ?_
            refine x_aload_n 2 dX11_test_138 rfl rfl ?_
            refine x_iload_n 3 dX11_test_139 rfl rfl ?_
            refine x_iconst (v := (2)) dX11_test_140 (by decide) ?_
            refine x_iadd dX11_test_141 ?_
            refine x_iconst (v := (0)) dX11_test_142 (by decide) ?_
            refine x_sipush (v := (9999)) dX11_test_143 (by decide) ?_
            obtain ⟨q15, hq16, hf⟩ := f_bd hf
            refine x_callVi [.int (p0 + (2 : Int32)), .int (0 : Int32), .int (9999 : Int32)] (c_X11_number (I := q13) (L := L)  hq16) dX11_test_146 lk_X11_197 lm_0 rfl cd_X11_number rfl rfl (Nat.le_of_ble_eq_true rfl) ⟨rfl, rfl, Nat.le_of_ble_eq_true rfl, Nat.le_of_ble_eq_true rfl⟩ ?_
            cases hf
            exact x_zret dX11_test_149 rfl rfl
          · replace hf := f_el hB hf
            refine x_aload_n 2 dX11_test_98 rfl rfl ?_
            refine x_bipush (v := (62)) dX11_test_99 (by decide) ?_
            refine x_callVi [.int (62 : Int32)] (c_X11_isSign (I := q9.2) (L := L) (62 : Int32)) dX11_test_101 lk_X11_178 lm_0 rfl cd_X11_isSign rfl rfl (Nat.le_of_ble_eq_true rfl) ⟨rfl, rfl, Nat.le_of_ble_eq_true rfl, Nat.le_of_ble_eq_true rfl⟩ ?_
            refine x_if_neB 122 dX11_test_104 (by decide) (fun hB => ?_) (fun hB => ?_)
            · replace hf := f_if hB hf
              refine x_aload_n 2 dX11_test_122 rfl rfl ?_
              refine x_getR dX11_test_123 lm_0 fl_X11_7 rfl ?_
              refine x_iload_n 3 dX11_test_126 rfl rfl ?_
              refine x_iconst (v := (5)) dX11_test_127 (by decide) ?_
              refine x_iadd dX11_test_128 ?_
              refine x_aload_n 2 dX11_test_129 rfl rfl ?_
              refine x_getI (v := (q9.2 0 15)) dX11_test_130 lm_0 fl_X11_141 rfl rfl ?_
              obtain ⟨h17, hf⟩ := f_gd hf
              obtain ⟨I18, hI18, hf⟩ := f_lt hf
              refine x_iast (j0 := ((p0 + (5 : Int32))).toNatClampNeg) dX11_test_133 lm_1 h17 rfl hI18 ?_
              refine x_aload_n 2 dX11_test_134 rfl rfl ?_
              obtain ⟨q19, hq20, hf⟩ := f_bd hf
              refine x_callVv [] (c_X11_ahead (I := I18) (L := L)  hq20) dX11_test_135 lk_X11_175 lm_0 rfl cd_X11_ahead rfl rfl (Nat.le_of_ble_eq_true rfl) ⟨rfl, rfl, Nat.le_of_ble_eq_true rfl, Nat.le_of_ble_eq_true rfl⟩ ?_
              refine x_aload_n 2 dX11_test_138 rfl rfl ?_
              refine x_iload_n 3 dX11_test_139 rfl rfl ?_
              refine x_iconst (v := (2)) dX11_test_140 (by decide) ?_
              refine x_iadd dX11_test_141 ?_
              refine x_iconst (v := (0)) dX11_test_142 (by decide) ?_
              refine x_sipush (v := (9999)) dX11_test_143 (by decide) ?_
              obtain ⟨q21, hq22, hf⟩ := f_bd hf
              refine x_callVi [.int (p0 + (2 : Int32)), .int (0 : Int32), .int (9999 : Int32)] (c_X11_number (I := q19) (L := L)  hq22) dX11_test_146 lk_X11_197 lm_0 rfl cd_X11_number rfl rfl (Nat.le_of_ble_eq_true rfl) ⟨rfl, rfl, Nat.le_of_ble_eq_true rfl, Nat.le_of_ble_eq_true rfl⟩ ?_
              cases hf
              exact x_zret dX11_test_149 rfl rfl
            · replace hf := f_el hB hf
              refine x_aload_n 2 dX11_test_107 rfl rfl ?_
              refine x_bipush (v := (61)) dX11_test_108 (by decide) ?_
              refine x_callVi [.int (61 : Int32)] (c_X11_isSign (I := q9.2) (L := L) (61 : Int32)) dX11_test_110 lk_X11_178 lm_0 rfl cd_X11_isSign rfl rfl (Nat.le_of_ble_eq_true rfl) ⟨rfl, rfl, Nat.le_of_ble_eq_true rfl, Nat.le_of_ble_eq_true rfl⟩ ?_
              refine x_if_neB 122 dX11_test_113 (by decide) (fun hB => ?_) (fun hB => ?_)
              · replace hf := f_if hB hf
                refine x_aload_n 2 dX11_test_122 rfl rfl ?_
                refine x_getR dX11_test_123 lm_0 fl_X11_7 rfl ?_
                refine x_iload_n 3 dX11_test_126 rfl rfl ?_
                refine x_iconst (v := (5)) dX11_test_127 (by decide) ?_
                refine x_iadd dX11_test_128 ?_
                refine x_aload_n 2 dX11_test_129 rfl rfl ?_
                refine x_getI (v := (q9.2 0 15)) dX11_test_130 lm_0 fl_X11_141 rfl rfl ?_
                obtain ⟨h23, hf⟩ := f_gd hf
                obtain ⟨I24, hI24, hf⟩ := f_lt hf
                refine x_iast (j0 := ((p0 + (5 : Int32))).toNatClampNeg) dX11_test_133 lm_1 h23 rfl hI24 ?_
                refine x_aload_n 2 dX11_test_134 rfl rfl ?_
                obtain ⟨q25, hq26, hf⟩ := f_bd hf
                refine x_callVv [] (c_X11_ahead (I := I24) (L := L)  hq26) dX11_test_135 lk_X11_175 lm_0 rfl cd_X11_ahead rfl rfl (Nat.le_of_ble_eq_true rfl) ⟨rfl, rfl, Nat.le_of_ble_eq_true rfl, Nat.le_of_ble_eq_true rfl⟩ ?_
                refine x_aload_n 2 dX11_test_138 rfl rfl ?_
                refine x_iload_n 3 dX11_test_139 rfl rfl ?_
                refine x_iconst (v := (2)) dX11_test_140 (by decide) ?_
                refine x_iadd dX11_test_141 ?_
                refine x_iconst (v := (0)) dX11_test_142 (by decide) ?_
                refine x_sipush (v := (9999)) dX11_test_143 (by decide) ?_
                obtain ⟨q27, hq28, hf⟩ := f_bd hf
                refine x_callVi [.int (p0 + (2 : Int32)), .int (0 : Int32), .int (9999 : Int32)] (c_X11_number (I := q25) (L := L)  hq28) dX11_test_146 lk_X11_197 lm_0 rfl cd_X11_number rfl rfl (Nat.le_of_ble_eq_true rfl) ⟨rfl, rfl, Nat.le_of_ble_eq_true rfl, Nat.le_of_ble_eq_true rfl⟩ ?_
                cases hf
                exact x_zret dX11_test_149 rfl rfl
              · replace hf := f_el hB hf
                refine x_aload_n 2 dX11_test_116 rfl rfl ?_
                refine x_iconst (v := (2)) dX11_test_117 (by decide) ?_
                refine x_callVi [.int (2 : Int32)] (c_X11_fails (I := q9.2) (L := L) (2 : Int32)) dX11_test_118 lk_X11_181 lm_0 rfl cd_X11_fails rfl rfl (Nat.le_of_ble_eq_true rfl) ⟨rfl, rfl, Nat.le_of_ble_eq_true rfl, Nat.le_of_ble_eq_true rfl⟩ ?_
                cases hf
                exact x_zret dX11_test_121 rfl rfl
        · replace hf := f_el hB hf
          refine x_iconst (v := (0)) dX11_test_87 (by decide) ?_
          cases hf
          exact x_zret (b := false) dX11_test_88 rfl rfl
    · replace hf := f_if hB hf
      refine x_aload_n 1 dX11_test_51 rfl rfl ?_
      refine x_iload_n 2 dX11_test_52 rfl rfl ?_
      refine x_iconst (v := (1)) dX11_test_53 (by decide) ?_
      refine x_iadd dX11_test_54 ?_
      obtain ⟨q7, hq8, hf⟩ := f_bd hf
      refine x_callVi [.int (p0 + (1 : Int32))] (c_X11_claimTo (I := q5) (L := L)  hq8) dX11_test_55 lk_X11_272 lm_0 rfl cd_X11_claimTo rfl rfl (Nat.le_of_ble_eq_true rfl) ⟨rfl, rfl, Nat.le_of_ble_eq_true rfl, Nat.le_of_ble_eq_true rfl⟩ ?_
      cases hf
      exact x_zret dX11_test_58 rfl rfl
  · replace hf := f_el hB hf
    refine x_iload_n 0 dX11_test_12 rfl rfl ?_
    refine x_bipush (v := (11)) dX11_test_13 (by decide) ?_
    refine x_icmp_eq 30 dX11_test_15 (by decide) (fun hB => ?_) (fun hB => ?_)
    · replace hf := f_if hB hf
      refine x_aload_n 1 dX11_test_30 rfl rfl ?_
      refine x_getR dX11_test_31 lm_0 fl_X11_7 rfl ?_
      refine x_iload_n 2 dX11_test_34 rfl rfl ?_
      refine x_sipush (v := (1800)) dX11_test_35 (by decide) ?_
      refine x_iload_n 0 dX11_test_38 rfl rfl ?_
      refine x_iadd dX11_test_39 ?_
      obtain ⟨h49, hf⟩ := f_gd hf
      obtain ⟨I50, hI50, hf⟩ := f_lt hf
      refine x_iast (j0 := (p0).toNatClampNeg) dX11_test_40 lm_1 h49 rfl hI50 ?_
      refine x_aload_n 1 dX11_test_41 rfl rfl ?_
      obtain ⟨q51, hq52, hf⟩ := f_bd hf
      refine x_callVv [] (c_X11_ahead (I := I50) (L := L)  hq52) dX11_test_42 lk_X11_175 lm_0 rfl cd_X11_ahead rfl rfl (Nat.le_of_ble_eq_true rfl) ⟨rfl, rfl, Nat.le_of_ble_eq_true rfl, Nat.le_of_ble_eq_true rfl⟩ ?_
      refine x_iload_n 0 dX11_test_45 rfl rfl ?_
      refine x_bipush (v := (22)) dX11_test_46 (by decide) ?_
      refine x_icmp_ne 59 dX11_test_48 (by decide) (fun hB => ?_) (fun hB => ?_)
      · replace hf := f_el hB hf
        refine x_iload_n 0 dX11_test_59 rfl rfl ?_
        refine x_bipush (v := (11)) dX11_test_60 (by decide) ?_
        refine x_icmp_ne 75 dX11_test_62 (by decide) (fun hB => ?_) (fun hB => ?_)
        · replace hf := f_el hB hf
          refine x_aload_n 1 dX11_test_75 rfl rfl ?_
          refine x_iload_n 2 dX11_test_76 rfl rfl ?_
          refine x_iconst (v := (1)) dX11_test_77 (by decide) ?_
          refine x_iadd dX11_test_78 ?_
          obtain ⟨q75, hq76, hf⟩ := f_bd hf
          refine x_callVi [.int (p0 + (1 : Int32))] (c_X11_bedTo (I := q51) (L := L)  hq76) dX11_test_79 lk_X11_278 lm_0 rfl cd_X11_bedTo rfl rfl (Nat.le_of_ble_eq_true rfl) ⟨rfl, rfl, Nat.le_of_ble_eq_true rfl, Nat.le_of_ble_eq_true rfl⟩ ?_
          refine x_istore_n [(3, .int (zb q75.1)), (2, .int q1), (0, .ref 0), (1, .int p0)] dX11_test_82 rfl (by decide) rfl ?_
          refine x_iload_n 0 dX11_test_83 rfl rfl ?_
          refine x_if_neB 89 dX11_test_84 (by decide) (fun hB => ?_) (fun hB => ?_)
          · replace hf := f_if hB hf
            refine x_aload_n 2 dX11_test_89 rfl rfl ?_
            refine x_bipush (v := (60)) dX11_test_90 (by decide) ?_
            refine x_callVi [.int (60 : Int32)] (c_X11_isSign (I := q75.2) (L := L) (60 : Int32)) dX11_test_92 lk_X11_178 lm_0 rfl cd_X11_isSign rfl rfl (Nat.le_of_ble_eq_true rfl) ⟨rfl, rfl, Nat.le_of_ble_eq_true rfl, Nat.le_of_ble_eq_true rfl⟩ ?_
            refine x_if_neB 122 dX11_test_95 (by decide) (fun hB => ?_) (fun hB => ?_)
            · replace hf := f_if hB hf
              refine x_aload_n 2 dX11_test_122 rfl rfl ?_
              refine x_getR dX11_test_123 lm_0 fl_X11_7 rfl ?_
              refine x_iload_n 3 dX11_test_126 rfl rfl ?_
              refine x_iconst (v := (5)) dX11_test_127 (by decide) ?_
              refine x_iadd dX11_test_128 ?_
              refine x_aload_n 2 dX11_test_129 rfl rfl ?_
              refine x_getI (v := (q75.2 0 15)) dX11_test_130 lm_0 fl_X11_141 rfl rfl ?_
              obtain ⟨h77, hf⟩ := f_gd hf
              obtain ⟨I78, hI78, hf⟩ := f_lt hf
              refine x_iast (j0 := ((p0 + (5 : Int32))).toNatClampNeg) dX11_test_133 lm_1 h77 rfl hI78 ?_
              refine x_aload_n 2 dX11_test_134 rfl rfl ?_
              obtain ⟨q79, hq80, hf⟩ := f_bd hf
              refine x_callVv [] (c_X11_ahead (I := I78) (L := L)  hq80) dX11_test_135 lk_X11_175 lm_0 rfl cd_X11_ahead rfl rfl (Nat.le_of_ble_eq_true rfl) ⟨rfl, rfl, Nat.le_of_ble_eq_true rfl, Nat.le_of_ble_eq_true rfl⟩ ?_
              refine x_aload_n 2 dX11_test_138 rfl rfl ?_
              refine x_iload_n 3 dX11_test_139 rfl rfl ?_
              refine x_iconst (v := (2)) dX11_test_140 (by decide) ?_
              refine x_iadd dX11_test_141 ?_
              refine x_iconst (v := (0)) dX11_test_142 (by decide) ?_
              refine x_sipush (v := (9999)) dX11_test_143 (by decide) ?_
              obtain ⟨q81, hq82, hf⟩ := f_bd hf
              refine x_callVi [.int (p0 + (2 : Int32)), .int (0 : Int32), .int (9999 : Int32)] (c_X11_number (I := q79) (L := L)  hq82) dX11_test_146 lk_X11_197 lm_0 rfl cd_X11_number rfl rfl (Nat.le_of_ble_eq_true rfl) ⟨rfl, rfl, Nat.le_of_ble_eq_true rfl, Nat.le_of_ble_eq_true rfl⟩ ?_
              cases hf
              exact x_zret dX11_test_149 rfl rfl
            · replace hf := f_el hB hf
              refine x_aload_n 2 dX11_test_98 rfl rfl ?_
              refine x_bipush (v := (62)) dX11_test_99 (by decide) ?_
              refine x_callVi [.int (62 : Int32)] (c_X11_isSign (I := q75.2) (L := L) (62 : Int32)) dX11_test_101 lk_X11_178 lm_0 rfl cd_X11_isSign rfl rfl (Nat.le_of_ble_eq_true rfl) ⟨rfl, rfl, Nat.le_of_ble_eq_true rfl, Nat.le_of_ble_eq_true rfl⟩ ?_
              refine x_if_neB 122 dX11_test_104 (by decide) (fun hB => ?_) (fun hB => ?_)
              · replace hf := f_if hB hf
                refine x_aload_n 2 dX11_test_122 rfl rfl ?_
                refine x_getR dX11_test_123 lm_0 fl_X11_7 rfl ?_
                refine x_iload_n 3 dX11_test_126 rfl rfl ?_
                refine x_iconst (v := (5)) dX11_test_127 (by decide) ?_
                refine x_iadd dX11_test_128 ?_
                refine x_aload_n 2 dX11_test_129 rfl rfl ?_
                refine x_getI (v := (q75.2 0 15)) dX11_test_130 lm_0 fl_X11_141 rfl rfl ?_
                obtain ⟨h83, hf⟩ := f_gd hf
                obtain ⟨I84, hI84, hf⟩ := f_lt hf
                refine x_iast (j0 := ((p0 + (5 : Int32))).toNatClampNeg) dX11_test_133 lm_1 h83 rfl hI84 ?_
                refine x_aload_n 2 dX11_test_134 rfl rfl ?_
                obtain ⟨q85, hq86, hf⟩ := f_bd hf
                refine x_callVv [] (c_X11_ahead (I := I84) (L := L)  hq86) dX11_test_135 lk_X11_175 lm_0 rfl cd_X11_ahead rfl rfl (Nat.le_of_ble_eq_true rfl) ⟨rfl, rfl, Nat.le_of_ble_eq_true rfl, Nat.le_of_ble_eq_true rfl⟩ ?_
                refine x_aload_n 2 dX11_test_138 rfl rfl ?_
                refine x_iload_n 3 dX11_test_139 rfl rfl ?_
                refine x_iconst (v := (2)) dX11_test_140 (by decide) ?_
                refine x_iadd dX11_test_141 ?_
                refine x_iconst (v := (0)) dX11_test_142 (by decide) ?_
                refine x_sipush (v := (9999)) dX11_test_143 (by decide) ?_
                obtain ⟨q87, hq88, hf⟩ := f_bd hf
                refine x_callVi [.int (p0 + (2 : Int32)), .int (0 : Int32), .int (9999 : Int32)] (c_X11_number (I := q85) (L := L)  hq88) dX11_test_146 lk_X11_197 lm_0 rfl cd_X11_number rfl rfl (Nat.le_of_ble_eq_true rfl) ⟨rfl, rfl, Nat.le_of_ble_eq_true rfl, Nat.le_of_ble_eq_true rfl⟩ ?_
                cases hf
                exact x_zret dX11_test_149 rfl rfl
              · replace hf := f_el hB hf
                refine x_aload_n 2 dX11_test_107 rfl rfl ?_
                refine x_bipush (v := (61)) dX11_test_108 (by decide) ?_
                refine x_callVi [.int (61 : Int32)] (c_X11_isSign (I := q75.2) (L := L) (61 : Int32)) dX11_test_110 lk_X11_178 lm_0 rfl cd_X11_isSign rfl rfl (Nat.le_of_ble_eq_true rfl) ⟨rfl, rfl, Nat.le_of_ble_eq_true rfl, Nat.le_of_ble_eq_true rfl⟩ ?_
                refine x_if_neB 122 dX11_test_113 (by decide) (fun hB => ?_) (fun hB => ?_)
                · replace hf := f_if hB hf
                  refine x_aload_n 2 dX11_test_122 rfl rfl ?_
                  refine x_getR dX11_test_123 lm_0 fl_X11_7 rfl ?_
                  refine x_iload_n 3 dX11_test_126 rfl rfl ?_
                  refine x_iconst (v := (5)) dX11_test_127 (by decide) ?_
                  refine x_iadd dX11_test_128 ?_
                  refine x_aload_n 2 dX11_test_129 rfl rfl ?_
                  refine x_getI (v := (q75.2 0 15)) dX11_test_130 lm_0 fl_X11_141 rfl rfl ?_
                  obtain ⟨h89, hf⟩ := f_gd hf
                  obtain ⟨I90, hI90, hf⟩ := f_lt hf
                  refine x_iast (j0 := ((p0 + (5 : Int32))).toNatClampNeg) dX11_test_133 lm_1 h89 rfl hI90 ?_
                  refine x_aload_n 2 dX11_test_134 rfl rfl ?_
                  obtain ⟨q91, hq92, hf⟩ := f_bd hf
                  refine x_callVv [] (c_X11_ahead (I := I90) (L := L)  hq92) dX11_test_135 lk_X11_175 lm_0 rfl cd_X11_ahead rfl rfl (Nat.le_of_ble_eq_true rfl) ⟨rfl, rfl, Nat.le_of_ble_eq_true rfl, Nat.le_of_ble_eq_true rfl⟩ ?_
                  refine x_aload_n 2 dX11_test_138 rfl rfl ?_
                  refine x_iload_n 3 dX11_test_139 rfl rfl ?_
                  refine x_iconst (v := (2)) dX11_test_140 (by decide) ?_
                  refine x_iadd dX11_test_141 ?_
                  refine x_iconst (v := (0)) dX11_test_142 (by decide) ?_
                  refine x_sipush (v := (9999)) dX11_test_143 (by decide) ?_
                  obtain ⟨q93, hq94, hf⟩ := f_bd hf
                  refine x_callVi [.int (p0 + (2 : Int32)), .int (0 : Int32), .int (9999 : Int32)] (c_X11_number (I := q91) (L := L)  hq94) dX11_test_146 lk_X11_197 lm_0 rfl cd_X11_number rfl rfl (Nat.le_of_ble_eq_true rfl) ⟨rfl, rfl, Nat.le_of_ble_eq_true rfl, Nat.le_of_ble_eq_true rfl⟩ ?_
                  cases hf
                  exact x_zret dX11_test_149 rfl rfl
                · replace hf := f_el hB hf
                  refine x_aload_n 2 dX11_test_116 rfl rfl ?_
                  refine x_iconst (v := (2)) dX11_test_117 (by decide) ?_
                  refine x_callVi [.int (2 : Int32)] (c_X11_fails (I := q75.2) (L := L) (2 : Int32)) dX11_test_118 lk_X11_181 lm_0 rfl cd_X11_fails rfl rfl (Nat.le_of_ble_eq_true rfl) ⟨rfl, rfl, Nat.le_of_ble_eq_true rfl, Nat.le_of_ble_eq_true rfl⟩ ?_
                  cases hf
                  exact x_zret dX11_test_121 rfl rfl
          · replace hf := f_el hB hf
            refine x_iconst (v := (0)) dX11_test_87 (by decide) ?_
            cases hf
            exact x_zret (b := false) dX11_test_88 rfl rfl
        · replace hf := f_if hB hf
          refine x_aload_n 1 dX11_test_65 rfl rfl ?_
          refine x_iload_n 2 dX11_test_66 rfl rfl ?_
          refine x_iconst (v := (1)) dX11_test_67 (by decide) ?_
          refine x_iadd dX11_test_68 ?_
          obtain ⟨q55, hq56, hf⟩ := f_bd hf
          refine x_callVi [.int (p0 + (1 : Int32))] (c_X11_scholarTo (I := q51) (L := L)  hq56) dX11_test_69 lk_X11_275 lm_0 rfl cd_X11_scholarTo rfl rfl (Nat.le_of_ble_eq_true rfl) ⟨rfl, rfl, Nat.le_of_ble_eq_true rfl, Nat.le_of_ble_eq_true rfl⟩ ?_
          refine x_goto 82 dX11_test_72 (by decide) ?_
          refine x_istore_n [(3, .int (zb q55.1)), (2, .int q1), (0, .ref 0), (1, .int p0)] dX11_test_82 rfl (by decide) rfl ?_
          refine x_iload_n 0 dX11_test_83 rfl rfl ?_
          refine x_if_neB 89 dX11_test_84 (by decide) (fun hB => ?_) (fun hB => ?_)
          · replace hf := f_if hB hf
            refine x_aload_n 2 dX11_test_89 rfl rfl ?_
            refine x_bipush (v := (60)) dX11_test_90 (by decide) ?_
            refine x_callVi [.int (60 : Int32)] (c_X11_isSign (I := q55.2) (L := L) (60 : Int32)) dX11_test_92 lk_X11_178 lm_0 rfl cd_X11_isSign rfl rfl (Nat.le_of_ble_eq_true rfl) ⟨rfl, rfl, Nat.le_of_ble_eq_true rfl, Nat.le_of_ble_eq_true rfl⟩ ?_
            refine x_if_neB 122 dX11_test_95 (by decide) (fun hB => ?_) (fun hB => ?_)
            · replace hf := f_if hB hf
              refine x_aload_n 2 dX11_test_122 rfl rfl ?_
              refine x_getR dX11_test_123 lm_0 fl_X11_7 rfl ?_
              refine x_iload_n 3 dX11_test_126 rfl rfl ?_
              refine x_iconst (v := (5)) dX11_test_127 (by decide) ?_
              refine x_iadd dX11_test_128 ?_
              refine x_aload_n 2 dX11_test_129 rfl rfl ?_
              refine x_getI (v := (q55.2 0 15)) dX11_test_130 lm_0 fl_X11_141 rfl rfl ?_
              obtain ⟨h57, hf⟩ := f_gd hf
              obtain ⟨I58, hI58, hf⟩ := f_lt hf
              refine x_iast (j0 := ((p0 + (5 : Int32))).toNatClampNeg) dX11_test_133 lm_1 h57 rfl hI58 ?_
              refine x_aload_n 2 dX11_test_134 rfl rfl ?_
              obtain ⟨q59, hq60, hf⟩ := f_bd hf
              refine x_callVv [] (c_X11_ahead (I := I58) (L := L)  hq60) dX11_test_135 lk_X11_175 lm_0 rfl cd_X11_ahead rfl rfl (Nat.le_of_ble_eq_true rfl) ⟨rfl, rfl, Nat.le_of_ble_eq_true rfl, Nat.le_of_ble_eq_true rfl⟩ ?_
              refine x_aload_n 2 dX11_test_138 rfl rfl ?_
              refine x_iload_n 3 dX11_test_139 rfl rfl ?_
              refine x_iconst (v := (2)) dX11_test_140 (by decide) ?_
              refine x_iadd dX11_test_141 ?_
              refine x_iconst (v := (0)) dX11_test_142 (by decide) ?_
              refine x_sipush (v := (9999)) dX11_test_143 (by decide) ?_
              obtain ⟨q61, hq62, hf⟩ := f_bd hf
              refine x_callVi [.int (p0 + (2 : Int32)), .int (0 : Int32), .int (9999 : Int32)] (c_X11_number (I := q59) (L := L)  hq62) dX11_test_146 lk_X11_197 lm_0 rfl cd_X11_number rfl rfl (Nat.le_of_ble_eq_true rfl) ⟨rfl, rfl, Nat.le_of_ble_eq_true rfl, Nat.le_of_ble_eq_true rfl⟩ ?_
              cases hf
              exact x_zret dX11_test_149 rfl rfl
            · replace hf := f_el hB hf
              refine x_aload_n 2 dX11_test_98 rfl rfl ?_
              refine x_bipush (v := (62)) dX11_test_99 (by decide) ?_
              refine x_callVi [.int (62 : Int32)] (c_X11_isSign (I := q55.2) (L := L) (62 : Int32)) dX11_test_101 lk_X11_178 lm_0 rfl cd_X11_isSign rfl rfl (Nat.le_of_ble_eq_true rfl) ⟨rfl, rfl, Nat.le_of_ble_eq_true rfl, Nat.le_of_ble_eq_true rfl⟩ ?_
              refine x_if_neB 122 dX11_test_104 (by decide) (fun hB => ?_) (fun hB => ?_)
              · replace hf := f_if hB hf
                refine x_aload_n 2 dX11_test_122 rfl rfl ?_
                refine x_getR dX11_test_123 lm_0 fl_X11_7 rfl ?_
                refine x_iload_n 3 dX11_test_126 rfl rfl ?_
                refine x_iconst (v := (5)) dX11_test_127 (by decide) ?_
                refine x_iadd dX11_test_128 ?_
                refine x_aload_n 2 dX11_test_129 rfl rfl ?_
                refine x_getI (v := (q55.2 0 15)) dX11_test_130 lm_0 fl_X11_141 rfl rfl ?_
                obtain ⟨h63, hf⟩ := f_gd hf
                obtain ⟨I64, hI64, hf⟩ := f_lt hf
                refine x_iast (j0 := ((p0 + (5 : Int32))).toNatClampNeg) dX11_test_133 lm_1 h63 rfl hI64 ?_
                refine x_aload_n 2 dX11_test_134 rfl rfl ?_
                obtain ⟨q65, hq66, hf⟩ := f_bd hf
                refine x_callVv [] (c_X11_ahead (I := I64) (L := L)  hq66) dX11_test_135 lk_X11_175 lm_0 rfl cd_X11_ahead rfl rfl (Nat.le_of_ble_eq_true rfl) ⟨rfl, rfl, Nat.le_of_ble_eq_true rfl, Nat.le_of_ble_eq_true rfl⟩ ?_
                refine x_aload_n 2 dX11_test_138 rfl rfl ?_
                refine x_iload_n 3 dX11_test_139 rfl rfl ?_
                refine x_iconst (v := (2)) dX11_test_140 (by decide) ?_
                refine x_iadd dX11_test_141 ?_
                refine x_iconst (v := (0)) dX11_test_142 (by decide) ?_
                refine x_sipush (v := (9999)) dX11_test_143 (by decide) ?_
                obtain ⟨q67, hq68, hf⟩ := f_bd hf
                refine x_callVi [.int (p0 + (2 : Int32)), .int (0 : Int32), .int (9999 : Int32)] (c_X11_number (I := q65) (L := L)  hq68) dX11_test_146 lk_X11_197 lm_0 rfl cd_X11_number rfl rfl (Nat.le_of_ble_eq_true rfl) ⟨rfl, rfl, Nat.le_of_ble_eq_true rfl, Nat.le_of_ble_eq_true rfl⟩ ?_
                cases hf
                exact x_zret dX11_test_149 rfl rfl
              · replace hf := f_el hB hf
                refine x_aload_n 2 dX11_test_107 rfl rfl ?_
                refine x_bipush (v := (61)) dX11_test_108 (by decide) ?_
                refine x_callVi [.int (61 : Int32)] (c_X11_isSign (I := q55.2) (L := L) (61 : Int32)) dX11_test_110 lk_X11_178 lm_0 rfl cd_X11_isSign rfl rfl (Nat.le_of_ble_eq_true rfl) ⟨rfl, rfl, Nat.le_of_ble_eq_true rfl, Nat.le_of_ble_eq_true rfl⟩ ?_
                refine x_if_neB 122 dX11_test_113 (by decide) (fun hB => ?_) (fun hB => ?_)
                · replace hf := f_if hB hf
                  refine x_aload_n 2 dX11_test_122 rfl rfl ?_
                  refine x_getR dX11_test_123 lm_0 fl_X11_7 rfl ?_
                  refine x_iload_n 3 dX11_test_126 rfl rfl ?_
                  refine x_iconst (v := (5)) dX11_test_127 (by decide) ?_
                  refine x_iadd dX11_test_128 ?_
                  refine x_aload_n 2 dX11_test_129 rfl rfl ?_
                  refine x_getI (v := (q55.2 0 15)) dX11_test_130 lm_0 fl_X11_141 rfl rfl ?_
                  obtain ⟨h69, hf⟩ := f_gd hf
                  obtain ⟨I70, hI70, hf⟩ := f_lt hf
                  refine x_iast (j0 := ((p0 + (5 : Int32))).toNatClampNeg) dX11_test_133 lm_1 h69 rfl hI70 ?_
                  refine x_aload_n 2 dX11_test_134 rfl rfl ?_
                  obtain ⟨q71, hq72, hf⟩ := f_bd hf
                  refine x_callVv [] (c_X11_ahead (I := I70) (L := L)  hq72) dX11_test_135 lk_X11_175 lm_0 rfl cd_X11_ahead rfl rfl (Nat.le_of_ble_eq_true rfl) ⟨rfl, rfl, Nat.le_of_ble_eq_true rfl, Nat.le_of_ble_eq_true rfl⟩ ?_
                  refine x_aload_n 2 dX11_test_138 rfl rfl ?_
                  refine x_iload_n 3 dX11_test_139 rfl rfl ?_
                  refine x_iconst (v := (2)) dX11_test_140 (by decide) ?_
                  refine x_iadd dX11_test_141 ?_
                  refine x_iconst (v := (0)) dX11_test_142 (by decide) ?_
                  refine x_sipush (v := (9999)) dX11_test_143 (by decide) ?_
                  obtain ⟨q73, hq74, hf⟩ := f_bd hf
                  refine x_callVi [.int (p0 + (2 : Int32)), .int (0 : Int32), .int (9999 : Int32)] (c_X11_number (I := q71) (L := L)  hq74) dX11_test_146 lk_X11_197 lm_0 rfl cd_X11_number rfl rfl (Nat.le_of_ble_eq_true rfl) ⟨rfl, rfl, Nat.le_of_ble_eq_true rfl, Nat.le_of_ble_eq_true rfl⟩ ?_
                  cases hf
                  exact x_zret dX11_test_149 rfl rfl
                · replace hf := f_el hB hf
                  refine x_aload_n 2 dX11_test_116 rfl rfl ?_
                  refine x_iconst (v := (2)) dX11_test_117 (by decide) ?_
                  refine x_callVi [.int (2 : Int32)] (c_X11_fails (I := q55.2) (L := L) (2 : Int32)) dX11_test_118 lk_X11_181 lm_0 rfl cd_X11_fails rfl rfl (Nat.le_of_ble_eq_true rfl) ⟨rfl, rfl, Nat.le_of_ble_eq_true rfl, Nat.le_of_ble_eq_true rfl⟩ ?_
                  cases hf
                  exact x_zret dX11_test_121 rfl rfl
          · replace hf := f_el hB hf
            refine x_iconst (v := (0)) dX11_test_87 (by decide) ?_
            cases hf
            exact x_zret (b := false) dX11_test_88 rfl rfl
      · replace hf := f_if hB hf
        refine x_aload_n 1 dX11_test_51 rfl rfl ?_
        refine x_iload_n 2 dX11_test_52 rfl rfl ?_
        refine x_iconst (v := (1)) dX11_test_53 (by decide) ?_
        refine x_iadd dX11_test_54 ?_
        obtain ⟨q53, hq54, hf⟩ := f_bd hf
        refine x_callVi [.int (p0 + (1 : Int32))] (c_X11_claimTo (I := q51) (L := L)  hq54) dX11_test_55 lk_X11_272 lm_0 rfl cd_X11_claimTo rfl rfl (Nat.le_of_ble_eq_true rfl) ⟨rfl, rfl, Nat.le_of_ble_eq_true rfl, Nat.le_of_ble_eq_true rfl⟩ ?_
        cases hf
        exact x_zret dX11_test_58 rfl rfl
    · replace hf := f_el hB hf
      refine x_iload_n 0 dX11_test_18 rfl rfl ?_
      refine x_bipush (v := (22)) dX11_test_19 (by decide) ?_
      refine x_icmp_eq 30 dX11_test_21 (by decide) (fun hB => ?_) (fun hB => ?_)
      · replace hf := f_if hB hf
        refine x_aload_n 1 dX11_test_30 rfl rfl ?_
        refine x_getR dX11_test_31 lm_0 fl_X11_7 rfl ?_
        refine x_iload_n 2 dX11_test_34 rfl rfl ?_
        refine x_sipush (v := (1800)) dX11_test_35 (by decide) ?_
        refine x_iload_n 0 dX11_test_38 rfl rfl ?_
        refine x_iadd dX11_test_39 ?_
        obtain ⟨h95, hf⟩ := f_gd hf
        obtain ⟨I96, hI96, hf⟩ := f_lt hf
        refine x_iast (j0 := (p0).toNatClampNeg) dX11_test_40 lm_1 h95 rfl hI96 ?_
        refine x_aload_n 1 dX11_test_41 rfl rfl ?_
        obtain ⟨q97, hq98, hf⟩ := f_bd hf
        refine x_callVv [] (c_X11_ahead (I := I96) (L := L)  hq98) dX11_test_42 lk_X11_175 lm_0 rfl cd_X11_ahead rfl rfl (Nat.le_of_ble_eq_true rfl) ⟨rfl, rfl, Nat.le_of_ble_eq_true rfl, Nat.le_of_ble_eq_true rfl⟩ ?_
        refine x_iload_n 0 dX11_test_45 rfl rfl ?_
        refine x_bipush (v := (22)) dX11_test_46 (by decide) ?_
        refine x_icmp_ne 59 dX11_test_48 (by decide) (fun hB => ?_) (fun hB => ?_)
        · replace hf := f_el hB hf
          refine x_iload_n 0 dX11_test_59 rfl rfl ?_
          refine x_bipush (v := (11)) dX11_test_60 (by decide) ?_
          refine x_icmp_ne 75 dX11_test_62 (by decide) (fun hB => ?_) (fun hB => ?_)
          · replace hf := f_el hB hf
            refine x_aload_n 1 dX11_test_75 rfl rfl ?_
            refine x_iload_n 2 dX11_test_76 rfl rfl ?_
            refine x_iconst (v := (1)) dX11_test_77 (by decide) ?_
            refine x_iadd dX11_test_78 ?_
            obtain ⟨q121, hq122, hf⟩ := f_bd hf
            refine x_callVi [.int (p0 + (1 : Int32))] (c_X11_bedTo (I := q97) (L := L)  hq122) dX11_test_79 lk_X11_278 lm_0 rfl cd_X11_bedTo rfl rfl (Nat.le_of_ble_eq_true rfl) ⟨rfl, rfl, Nat.le_of_ble_eq_true rfl, Nat.le_of_ble_eq_true rfl⟩ ?_
            refine x_istore_n [(3, .int (zb q121.1)), (2, .int q1), (0, .ref 0), (1, .int p0)] dX11_test_82 rfl (by decide) rfl ?_
            refine x_iload_n 0 dX11_test_83 rfl rfl ?_
            refine x_if_neB 89 dX11_test_84 (by decide) (fun hB => ?_) (fun hB => ?_)
            · replace hf := f_if hB hf
              refine x_aload_n 2 dX11_test_89 rfl rfl ?_
              refine x_bipush (v := (60)) dX11_test_90 (by decide) ?_
              refine x_callVi [.int (60 : Int32)] (c_X11_isSign (I := q121.2) (L := L) (60 : Int32)) dX11_test_92 lk_X11_178 lm_0 rfl cd_X11_isSign rfl rfl (Nat.le_of_ble_eq_true rfl) ⟨rfl, rfl, Nat.le_of_ble_eq_true rfl, Nat.le_of_ble_eq_true rfl⟩ ?_
              refine x_if_neB 122 dX11_test_95 (by decide) (fun hB => ?_) (fun hB => ?_)
              · replace hf := f_if hB hf
                refine x_aload_n 2 dX11_test_122 rfl rfl ?_
                refine x_getR dX11_test_123 lm_0 fl_X11_7 rfl ?_
                refine x_iload_n 3 dX11_test_126 rfl rfl ?_
                refine x_iconst (v := (5)) dX11_test_127 (by decide) ?_
                refine x_iadd dX11_test_128 ?_
                refine x_aload_n 2 dX11_test_129 rfl rfl ?_
                refine x_getI (v := (q121.2 0 15)) dX11_test_130 lm_0 fl_X11_141 rfl rfl ?_
                obtain ⟨h123, hf⟩ := f_gd hf
                obtain ⟨I124, hI124, hf⟩ := f_lt hf
                refine x_iast (j0 := ((p0 + (5 : Int32))).toNatClampNeg) dX11_test_133 lm_1 h123 rfl hI124 ?_
                refine x_aload_n 2 dX11_test_134 rfl rfl ?_
                obtain ⟨q125, hq126, hf⟩ := f_bd hf
                refine x_callVv [] (c_X11_ahead (I := I124) (L := L)  hq126) dX11_test_135 lk_X11_175 lm_0 rfl cd_X11_ahead rfl rfl (Nat.le_of_ble_eq_true rfl) ⟨rfl, rfl, Nat.le_of_ble_eq_true rfl, Nat.le_of_ble_eq_true rfl⟩ ?_
                refine x_aload_n 2 dX11_test_138 rfl rfl ?_
                refine x_iload_n 3 dX11_test_139 rfl rfl ?_
                refine x_iconst (v := (2)) dX11_test_140 (by decide) ?_
                refine x_iadd dX11_test_141 ?_
                refine x_iconst (v := (0)) dX11_test_142 (by decide) ?_
                refine x_sipush (v := (9999)) dX11_test_143 (by decide) ?_
                obtain ⟨q127, hq128, hf⟩ := f_bd hf
                refine x_callVi [.int (p0 + (2 : Int32)), .int (0 : Int32), .int (9999 : Int32)] (c_X11_number (I := q125) (L := L)  hq128) dX11_test_146 lk_X11_197 lm_0 rfl cd_X11_number rfl rfl (Nat.le_of_ble_eq_true rfl) ⟨rfl, rfl, Nat.le_of_ble_eq_true rfl, Nat.le_of_ble_eq_true rfl⟩ ?_
                cases hf
                exact x_zret dX11_test_149 rfl rfl
              · replace hf := f_el hB hf
                refine x_aload_n 2 dX11_test_98 rfl rfl ?_
                refine x_bipush (v := (62)) dX11_test_99 (by decide) ?_
                refine x_callVi [.int (62 : Int32)] (c_X11_isSign (I := q121.2) (L := L) (62 : Int32)) dX11_test_101 lk_X11_178 lm_0 rfl cd_X11_isSign rfl rfl (Nat.le_of_ble_eq_true rfl) ⟨rfl, rfl, Nat.le_of_ble_eq_true rfl, Nat.le_of_ble_eq_true rfl⟩ ?_
                refine x_if_neB 122 dX11_test_104 (by decide) (fun hB => ?_) (fun hB => ?_)
                · replace hf := f_if hB hf
                  refine x_aload_n 2 dX11_test_122 rfl rfl ?_
                  refine x_getR dX11_test_123 lm_0 fl_X11_7 rfl ?_
                  refine x_iload_n 3 dX11_test_126 rfl rfl ?_
                  refine x_iconst (v := (5)) dX11_test_127 (by decide) ?_
                  refine x_iadd dX11_test_128 ?_
                  refine x_aload_n 2 dX11_test_129 rfl rfl ?_
                  refine x_getI (v := (q121.2 0 15)) dX11_test_130 lm_0 fl_X11_141 rfl rfl ?_
                  obtain ⟨h129, hf⟩ := f_gd hf
                  obtain ⟨I130, hI130, hf⟩ := f_lt hf
                  refine x_iast (j0 := ((p0 + (5 : Int32))).toNatClampNeg) dX11_test_133 lm_1 h129 rfl hI130 ?_
                  refine x_aload_n 2 dX11_test_134 rfl rfl ?_
                  obtain ⟨q131, hq132, hf⟩ := f_bd hf
                  refine x_callVv [] (c_X11_ahead (I := I130) (L := L)  hq132) dX11_test_135 lk_X11_175 lm_0 rfl cd_X11_ahead rfl rfl (Nat.le_of_ble_eq_true rfl) ⟨rfl, rfl, Nat.le_of_ble_eq_true rfl, Nat.le_of_ble_eq_true rfl⟩ ?_
                  refine x_aload_n 2 dX11_test_138 rfl rfl ?_
                  refine x_iload_n 3 dX11_test_139 rfl rfl ?_
                  refine x_iconst (v := (2)) dX11_test_140 (by decide) ?_
                  refine x_iadd dX11_test_141 ?_
                  refine x_iconst (v := (0)) dX11_test_142 (by decide) ?_
                  refine x_sipush (v := (9999)) dX11_test_143 (by decide) ?_
                  obtain ⟨q133, hq134, hf⟩ := f_bd hf
                  refine x_callVi [.int (p0 + (2 : Int32)), .int (0 : Int32), .int (9999 : Int32)] (c_X11_number (I := q131) (L := L)  hq134) dX11_test_146 lk_X11_197 lm_0 rfl cd_X11_number rfl rfl (Nat.le_of_ble_eq_true rfl) ⟨rfl, rfl, Nat.le_of_ble_eq_true rfl, Nat.le_of_ble_eq_true rfl⟩ ?_
                  cases hf
                  exact x_zret dX11_test_149 rfl rfl
                · replace hf := f_el hB hf
                  refine x_aload_n 2 dX11_test_107 rfl rfl ?_
                  refine x_bipush (v := (61)) dX11_test_108 (by decide) ?_
                  refine x_callVi [.int (61 : Int32)] (c_X11_isSign (I := q121.2) (L := L) (61 : Int32)) dX11_test_110 lk_X11_178 lm_0 rfl cd_X11_isSign rfl rfl (Nat.le_of_ble_eq_true rfl) ⟨rfl, rfl, Nat.le_of_ble_eq_true rfl, Nat.le_of_ble_eq_true rfl⟩ ?_
                  refine x_if_neB 122 dX11_test_113 (by decide) (fun hB => ?_) (fun hB => ?_)
                  · replace hf := f_if hB hf
                    refine x_aload_n 2 dX11_test_122 rfl rfl ?_
                    refine x_getR dX11_test_123 lm_0 fl_X11_7 rfl ?_
                    refine x_iload_n 3 dX11_test_126 rfl rfl ?_
                    refine x_iconst (v := (5)) dX11_test_127 (by decide) ?_
                    refine x_iadd dX11_test_128 ?_
                    refine x_aload_n 2 dX11_test_129 rfl rfl ?_
                    refine x_getI (v := (q121.2 0 15)) dX11_test_130 lm_0 fl_X11_141 rfl rfl ?_
                    obtain ⟨h135, hf⟩ := f_gd hf
                    obtain ⟨I136, hI136, hf⟩ := f_lt hf
                    refine x_iast (j0 := ((p0 + (5 : Int32))).toNatClampNeg) dX11_test_133 lm_1 h135 rfl hI136 ?_
                    refine x_aload_n 2 dX11_test_134 rfl rfl ?_
                    obtain ⟨q137, hq138, hf⟩ := f_bd hf
                    refine x_callVv [] (c_X11_ahead (I := I136) (L := L)  hq138) dX11_test_135 lk_X11_175 lm_0 rfl cd_X11_ahead rfl rfl (Nat.le_of_ble_eq_true rfl) ⟨rfl, rfl, Nat.le_of_ble_eq_true rfl, Nat.le_of_ble_eq_true rfl⟩ ?_
                    refine x_aload_n 2 dX11_test_138 rfl rfl ?_
                    refine x_iload_n 3 dX11_test_139 rfl rfl ?_
                    refine x_iconst (v := (2)) dX11_test_140 (by decide) ?_
                    refine x_iadd dX11_test_141 ?_
                    refine x_iconst (v := (0)) dX11_test_142 (by decide) ?_
                    refine x_sipush (v := (9999)) dX11_test_143 (by decide) ?_
                    obtain ⟨q139, hq140, hf⟩ := f_bd hf
                    refine x_callVi [.int (p0 + (2 : Int32)), .int (0 : Int32), .int (9999 : Int32)] (c_X11_number (I := q137) (L := L)  hq140) dX11_test_146 lk_X11_197 lm_0 rfl cd_X11_number rfl rfl (Nat.le_of_ble_eq_true rfl) ⟨rfl, rfl, Nat.le_of_ble_eq_true rfl, Nat.le_of_ble_eq_true rfl⟩ ?_
                    cases hf
                    exact x_zret dX11_test_149 rfl rfl
                  · replace hf := f_el hB hf
                    refine x_aload_n 2 dX11_test_116 rfl rfl ?_
                    refine x_iconst (v := (2)) dX11_test_117 (by decide) ?_
                    refine x_callVi [.int (2 : Int32)] (c_X11_fails (I := q121.2) (L := L) (2 : Int32)) dX11_test_118 lk_X11_181 lm_0 rfl cd_X11_fails rfl rfl (Nat.le_of_ble_eq_true rfl) ⟨rfl, rfl, Nat.le_of_ble_eq_true rfl, Nat.le_of_ble_eq_true rfl⟩ ?_
                    cases hf
                    exact x_zret dX11_test_121 rfl rfl
            · replace hf := f_el hB hf
              refine x_iconst (v := (0)) dX11_test_87 (by decide) ?_
              cases hf
              exact x_zret (b := false) dX11_test_88 rfl rfl
          · replace hf := f_if hB hf
            refine x_aload_n 1 dX11_test_65 rfl rfl ?_
            refine x_iload_n 2 dX11_test_66 rfl rfl ?_
            refine x_iconst (v := (1)) dX11_test_67 (by decide) ?_
            refine x_iadd dX11_test_68 ?_
            obtain ⟨q101, hq102, hf⟩ := f_bd hf
            refine x_callVi [.int (p0 + (1 : Int32))] (c_X11_scholarTo (I := q97) (L := L)  hq102) dX11_test_69 lk_X11_275 lm_0 rfl cd_X11_scholarTo rfl rfl (Nat.le_of_ble_eq_true rfl) ⟨rfl, rfl, Nat.le_of_ble_eq_true rfl, Nat.le_of_ble_eq_true rfl⟩ ?_
            refine x_goto 82 dX11_test_72 (by decide) ?_
            refine x_istore_n [(3, .int (zb q101.1)), (2, .int q1), (0, .ref 0), (1, .int p0)] dX11_test_82 rfl (by decide) rfl ?_
            refine x_iload_n 0 dX11_test_83 rfl rfl ?_
            refine x_if_neB 89 dX11_test_84 (by decide) (fun hB => ?_) (fun hB => ?_)
            · replace hf := f_if hB hf
              refine x_aload_n 2 dX11_test_89 rfl rfl ?_
              refine x_bipush (v := (60)) dX11_test_90 (by decide) ?_
              refine x_callVi [.int (60 : Int32)] (c_X11_isSign (I := q101.2) (L := L) (60 : Int32)) dX11_test_92 lk_X11_178 lm_0 rfl cd_X11_isSign rfl rfl (Nat.le_of_ble_eq_true rfl) ⟨rfl, rfl, Nat.le_of_ble_eq_true rfl, Nat.le_of_ble_eq_true rfl⟩ ?_
              refine x_if_neB 122 dX11_test_95 (by decide) (fun hB => ?_) (fun hB => ?_)
              · replace hf := f_if hB hf
                refine x_aload_n 2 dX11_test_122 rfl rfl ?_
                refine x_getR dX11_test_123 lm_0 fl_X11_7 rfl ?_
                refine x_iload_n 3 dX11_test_126 rfl rfl ?_
                refine x_iconst (v := (5)) dX11_test_127 (by decide) ?_
                refine x_iadd dX11_test_128 ?_
                refine x_aload_n 2 dX11_test_129 rfl rfl ?_
                refine x_getI (v := (q101.2 0 15)) dX11_test_130 lm_0 fl_X11_141 rfl rfl ?_
                obtain ⟨h103, hf⟩ := f_gd hf
                obtain ⟨I104, hI104, hf⟩ := f_lt hf
                refine x_iast (j0 := ((p0 + (5 : Int32))).toNatClampNeg) dX11_test_133 lm_1 h103 rfl hI104 ?_
                refine x_aload_n 2 dX11_test_134 rfl rfl ?_
                obtain ⟨q105, hq106, hf⟩ := f_bd hf
                refine x_callVv [] (c_X11_ahead (I := I104) (L := L)  hq106) dX11_test_135 lk_X11_175 lm_0 rfl cd_X11_ahead rfl rfl (Nat.le_of_ble_eq_true rfl) ⟨rfl, rfl, Nat.le_of_ble_eq_true rfl, Nat.le_of_ble_eq_true rfl⟩ ?_
                refine x_aload_n 2 dX11_test_138 rfl rfl ?_
                refine x_iload_n 3 dX11_test_139 rfl rfl ?_
                refine x_iconst (v := (2)) dX11_test_140 (by decide) ?_
                refine x_iadd dX11_test_141 ?_
                refine x_iconst (v := (0)) dX11_test_142 (by decide) ?_
                refine x_sipush (v := (9999)) dX11_test_143 (by decide) ?_
                obtain ⟨q107, hq108, hf⟩ := f_bd hf
                refine x_callVi [.int (p0 + (2 : Int32)), .int (0 : Int32), .int (9999 : Int32)] (c_X11_number (I := q105) (L := L)  hq108) dX11_test_146 lk_X11_197 lm_0 rfl cd_X11_number rfl rfl (Nat.le_of_ble_eq_true rfl) ⟨rfl, rfl, Nat.le_of_ble_eq_true rfl, Nat.le_of_ble_eq_true rfl⟩ ?_
                cases hf
                exact x_zret dX11_test_149 rfl rfl
              · replace hf := f_el hB hf
                refine x_aload_n 2 dX11_test_98 rfl rfl ?_
                refine x_bipush (v := (62)) dX11_test_99 (by decide) ?_
                refine x_callVi [.int (62 : Int32)] (c_X11_isSign (I := q101.2) (L := L) (62 : Int32)) dX11_test_101 lk_X11_178 lm_0 rfl cd_X11_isSign rfl rfl (Nat.le_of_ble_eq_true rfl) ⟨rfl, rfl, Nat.le_of_ble_eq_true rfl, Nat.le_of_ble_eq_true rfl⟩ ?_
                refine x_if_neB 122 dX11_test_104 (by decide) (fun hB => ?_) (fun hB => ?_)
                · replace hf := f_if hB hf
                  refine x_aload_n 2 dX11_test_122 rfl rfl ?_
                  refine x_getR dX11_test_123 lm_0 fl_X11_7 rfl ?_
                  refine x_iload_n 3 dX11_test_126 rfl rfl ?_
                  refine x_iconst (v := (5)) dX11_test_127 (by decide) ?_
                  refine x_iadd dX11_test_128 ?_
                  refine x_aload_n 2 dX11_test_129 rfl rfl ?_
                  refine x_getI (v := (q101.2 0 15)) dX11_test_130 lm_0 fl_X11_141 rfl rfl ?_
                  obtain ⟨h109, hf⟩ := f_gd hf
                  obtain ⟨I110, hI110, hf⟩ := f_lt hf
                  refine x_iast (j0 := ((p0 + (5 : Int32))).toNatClampNeg) dX11_test_133 lm_1 h109 rfl hI110 ?_
                  refine x_aload_n 2 dX11_test_134 rfl rfl ?_
                  obtain ⟨q111, hq112, hf⟩ := f_bd hf
                  refine x_callVv [] (c_X11_ahead (I := I110) (L := L)  hq112) dX11_test_135 lk_X11_175 lm_0 rfl cd_X11_ahead rfl rfl (Nat.le_of_ble_eq_true rfl) ⟨rfl, rfl, Nat.le_of_ble_eq_true rfl, Nat.le_of_ble_eq_true rfl⟩ ?_
                  refine x_aload_n 2 dX11_test_138 rfl rfl ?_
                  refine x_iload_n 3 dX11_test_139 rfl rfl ?_
                  refine x_iconst (v := (2)) dX11_test_140 (by decide) ?_
                  refine x_iadd dX11_test_141 ?_
                  refine x_iconst (v := (0)) dX11_test_142 (by decide) ?_
                  refine x_sipush (v := (9999)) dX11_test_143 (by decide) ?_
                  obtain ⟨q113, hq114, hf⟩ := f_bd hf
                  refine x_callVi [.int (p0 + (2 : Int32)), .int (0 : Int32), .int (9999 : Int32)] (c_X11_number (I := q111) (L := L)  hq114) dX11_test_146 lk_X11_197 lm_0 rfl cd_X11_number rfl rfl (Nat.le_of_ble_eq_true rfl) ⟨rfl, rfl, Nat.le_of_ble_eq_true rfl, Nat.le_of_ble_eq_true rfl⟩ ?_
                  cases hf
                  exact x_zret dX11_test_149 rfl rfl
                · replace hf := f_el hB hf
                  refine x_aload_n 2 dX11_test_107 rfl rfl ?_
                  refine x_bipush (v := (61)) dX11_test_108 (by decide) ?_
                  refine x_callVi [.int (61 : Int32)] (c_X11_isSign (I := q101.2) (L := L) (61 : Int32)) dX11_test_110 lk_X11_178 lm_0 rfl cd_X11_isSign rfl rfl (Nat.le_of_ble_eq_true rfl) ⟨rfl, rfl, Nat.le_of_ble_eq_true rfl, Nat.le_of_ble_eq_true rfl⟩ ?_
                  refine x_if_neB 122 dX11_test_113 (by decide) (fun hB => ?_) (fun hB => ?_)
                  · replace hf := f_if hB hf
                    refine x_aload_n 2 dX11_test_122 rfl rfl ?_
                    refine x_getR dX11_test_123 lm_0 fl_X11_7 rfl ?_
                    refine x_iload_n 3 dX11_test_126 rfl rfl ?_
                    refine x_iconst (v := (5)) dX11_test_127 (by decide) ?_
                    refine x_iadd dX11_test_128 ?_
                    refine x_aload_n 2 dX11_test_129 rfl rfl ?_
                    refine x_getI (v := (q101.2 0 15)) dX11_test_130 lm_0 fl_X11_141 rfl rfl ?_
                    obtain ⟨h115, hf⟩ := f_gd hf
                    obtain ⟨I116, hI116, hf⟩ := f_lt hf
                    refine x_iast (j0 := ((p0 + (5 : Int32))).toNatClampNeg) dX11_test_133 lm_1 h115 rfl hI116 ?_
                    refine x_aload_n 2 dX11_test_134 rfl rfl ?_
                    obtain ⟨q117, hq118, hf⟩ := f_bd hf
                    refine x_callVv [] (c_X11_ahead (I := I116) (L := L)  hq118) dX11_test_135 lk_X11_175 lm_0 rfl cd_X11_ahead rfl rfl (Nat.le_of_ble_eq_true rfl) ⟨rfl, rfl, Nat.le_of_ble_eq_true rfl, Nat.le_of_ble_eq_true rfl⟩ ?_
                    refine x_aload_n 2 dX11_test_138 rfl rfl ?_
                    refine x_iload_n 3 dX11_test_139 rfl rfl ?_
                    refine x_iconst (v := (2)) dX11_test_140 (by decide) ?_
                    refine x_iadd dX11_test_141 ?_
                    refine x_iconst (v := (0)) dX11_test_142 (by decide) ?_
                    refine x_sipush (v := (9999)) dX11_test_143 (by decide) ?_
                    obtain ⟨q119, hq120, hf⟩ := f_bd hf
                    refine x_callVi [.int (p0 + (2 : Int32)), .int (0 : Int32), .int (9999 : Int32)] (c_X11_number (I := q117) (L := L)  hq120) dX11_test_146 lk_X11_197 lm_0 rfl cd_X11_number rfl rfl (Nat.le_of_ble_eq_true rfl) ⟨rfl, rfl, Nat.le_of_ble_eq_true rfl, Nat.le_of_ble_eq_true rfl⟩ ?_
                    cases hf
                    exact x_zret dX11_test_149 rfl rfl
                  · replace hf := f_el hB hf
                    refine x_aload_n 2 dX11_test_116 rfl rfl ?_
                    refine x_iconst (v := (2)) dX11_test_117 (by decide) ?_
                    refine x_callVi [.int (2 : Int32)] (c_X11_fails (I := q101.2) (L := L) (2 : Int32)) dX11_test_118 lk_X11_181 lm_0 rfl cd_X11_fails rfl rfl (Nat.le_of_ble_eq_true rfl) ⟨rfl, rfl, Nat.le_of_ble_eq_true rfl, Nat.le_of_ble_eq_true rfl⟩ ?_
                    cases hf
                    exact x_zret dX11_test_121 rfl rfl
            · replace hf := f_el hB hf
              refine x_iconst (v := (0)) dX11_test_87 (by decide) ?_
              cases hf
              exact x_zret (b := false) dX11_test_88 rfl rfl
        · replace hf := f_if hB hf
          refine x_aload_n 1 dX11_test_51 rfl rfl ?_
          refine x_iload_n 2 dX11_test_52 rfl rfl ?_
          refine x_iconst (v := (1)) dX11_test_53 (by decide) ?_
          refine x_iadd dX11_test_54 ?_
          obtain ⟨q99, hq100, hf⟩ := f_bd hf
          refine x_callVi [.int (p0 + (1 : Int32))] (c_X11_claimTo (I := q97) (L := L)  hq100) dX11_test_55 lk_X11_272 lm_0 rfl cd_X11_claimTo rfl rfl (Nat.le_of_ble_eq_true rfl) ⟨rfl, rfl, Nat.le_of_ble_eq_true rfl, Nat.le_of_ble_eq_true rfl⟩ ?_
          cases hf
          exact x_zret dX11_test_58 rfl rfl
      · replace hf := f_el hB hf
        refine x_aload_n 1 dX11_test_24 rfl rfl ?_
        refine x_iconst (v := (2)) dX11_test_25 (by decide) ?_
        refine x_callVi [.int (2 : Int32)] (c_X11_fails (I := I) (L := L) (2 : Int32)) dX11_test_26 lk_X11_181 lm_0 rfl cd_X11_fails rfl rfl (Nat.le_of_ble_eq_true rfl) ⟨rfl, rfl, Nat.le_of_ble_eq_true rfl, Nat.le_of_ble_eq_true rfl⟩ ?_
        cases hf
        exact x_zret dX11_test_29 rfl rfl
set_option maxRecDepth 100000 in
set_option maxHeartbeats 4000000 in
theorem c_X11_termOrder {I : z_I} {L : z_L} {p0 : Int32} {p1 : Int32}  {r : Bool × z_I} (hf : f_X11_termOrder I L p0 p1 = some r) : z_C layM yX11_termOrder cX11_termOrder 3 (some .boolean) ({ frames := 9, cells := 0, slots := 0, locals := 204 } : Room) [.ref 0, .int p0, .int p1] I L (some (.int (zb r.1)), r.2, L) := by
  refine z_C.of (by decide) (Nat.le_of_ble_eq_true rfl) ?_
  show z_X layM RX11 cX11_termOrder 3 (some .boolean) ({ frames := 9, cells := 0, slots := 0, locals := 204 } : Room) 0 [(0, .ref 0), (1, .int p0), (2, .int p1)] [] I L (some (.int (zb r.1)), r.2, L)
  unfold f_X11_termOrder at hf
  refine x_iload_n 1 dX11_termOrder_0 rfl rfl ?_
  by_cases hs3 : p0 = (12)
  · replace hf := f_if hs3 hf
    refine x_tabIn (12) 48 dX11_termOrder_1 hs3 (by decide) (by decide) rfl (by decide) ?_
    refine x_aload_n 0 dX11_termOrder_48 rfl rfl ?_
    refine x_iload_n 2 dX11_termOrder_49 rfl rfl ?_
    refine x_iconst (v := (1)) dX11_termOrder_50 (by decide) ?_
    refine x_iadd dX11_termOrder_51 ?_
    obtain ⟨q1, hq2, hf⟩ := f_bd hf
    refine x_callVi [.int (p1 + (1 : Int32))] (c_X11_claimTo (I := I) (L := L)  hq2) dX11_termOrder_52 lk_X11_272 lm_0 rfl cd_X11_claimTo rfl rfl (Nat.le_of_ble_eq_true rfl) ⟨rfl, rfl, Nat.le_of_ble_eq_true rfl, Nat.le_of_ble_eq_true rfl⟩ ?_
    cases hf
    exact x_zret dX11_termOrder_55 rfl rfl
  replace hf := f_el hs3 hf
  by_cases hs8 : p0 = (13)
  · replace hf := f_if hs8 hf
    refine x_tabIn (13) 56 dX11_termOrder_1 hs8 (by decide) (by decide) rfl (by decide) ?_
    refine x_aload_n 0 dX11_termOrder_56 rfl rfl ?_
    refine x_iload_n 2 dX11_termOrder_57 rfl rfl ?_
    refine x_iconst (v := (1)) dX11_termOrder_58 (by decide) ?_
    refine x_iadd dX11_termOrder_59 ?_
    obtain ⟨q4, hq5, hf⟩ := f_bd hf
    refine x_callVi [.int (p1 + (1 : Int32))] (c_X11_scholarTo (I := I) (L := L)  hq5) dX11_termOrder_60 lk_X11_275 lm_0 rfl cd_X11_scholarTo rfl rfl (Nat.le_of_ble_eq_true rfl) ⟨rfl, rfl, Nat.le_of_ble_eq_true rfl, Nat.le_of_ble_eq_true rfl⟩ ?_
    refine x_if_eqB 80 dX11_termOrder_63 (by decide) (fun hB => ?_) (fun hB => ?_)
    · replace hf := f_el hB hf
      refine x_iconst (v := (0)) dX11_termOrder_80 (by decide) ?_
      cases hf
      exact x_zret (b := false) dX11_termOrder_81 rfl rfl
    · replace hf := f_if hB hf
      refine x_aload_n 0 dX11_termOrder_66 rfl rfl ?_
      refine x_iload_n 2 dX11_termOrder_67 rfl rfl ?_
      refine x_iconst (v := (2)) dX11_termOrder_68 (by decide) ?_
      refine x_iadd dX11_termOrder_69 ?_
      obtain ⟨q6, hq7, hf⟩ := f_bd hf
      refine x_callVi [.int (p1 + (2 : Int32))] (c_X11_bedTo (I := q4.2) (L := L)  hq7) dX11_termOrder_70 lk_X11_278 lm_0 rfl cd_X11_bedTo rfl rfl (Nat.le_of_ble_eq_true rfl) ⟨rfl, rfl, Nat.le_of_ble_eq_true rfl, Nat.le_of_ble_eq_true rfl⟩ ?_
      refine x_if_eqB 80 dX11_termOrder_73 (by decide) (fun hB => ?_) (fun hB => ?_)
      · replace hf := f_el hB hf
        refine x_iconst (v := (0)) dX11_termOrder_80 (by decide) ?_
        cases hf
        exact x_zret (b := false) dX11_termOrder_81 rfl rfl
      · replace hf := f_if hB hf
        refine x_iconst (v := (1)) dX11_termOrder_76 (by decide) ?_
        refine x_goto 81 dX11_termOrder_77 (by decide) ?_
        cases hf
        exact x_zret (b := true) dX11_termOrder_81 rfl rfl
  replace hf := f_el hs8 hf
  by_cases hs11 : p0 = (14)
  · replace hf := f_if hs11 hf
    refine x_tabIn (14) 82 dX11_termOrder_1 hs11 (by decide) (by decide) rfl (by decide) ?_
    refine x_aload_n 0 dX11_termOrder_82 rfl rfl ?_
    refine x_iload_n 2 dX11_termOrder_83 rfl rfl ?_
    refine x_iconst (v := (1)) dX11_termOrder_84 (by decide) ?_
    refine x_iadd dX11_termOrder_85 ?_
    obtain ⟨q9, hq10, hf⟩ := f_bd hf
    refine x_callVi [.int (p1 + (1 : Int32))] (c_X11_scholarTo (I := I) (L := L)  hq10) dX11_termOrder_86 lk_X11_275 lm_0 rfl cd_X11_scholarTo rfl rfl (Nat.le_of_ble_eq_true rfl) ⟨rfl, rfl, Nat.le_of_ble_eq_true rfl, Nat.le_of_ble_eq_true rfl⟩ ?_
    cases hf
    exact x_zret dX11_termOrder_89 rfl rfl
  replace hf := f_el hs11 hf
  by_cases hs14 : p0 = (15)
  · replace hf := f_if hs14 hf
    refine x_tabIn (15) 90 dX11_termOrder_1 hs14 (by decide) (by decide) rfl (by decide) ?_
    refine x_aload_n 0 dX11_termOrder_90 rfl rfl ?_
    refine x_iload_n 2 dX11_termOrder_91 rfl rfl ?_
    refine x_iconst (v := (1)) dX11_termOrder_92 (by decide) ?_
    refine x_iadd dX11_termOrder_93 ?_
    refine x_iconst (v := (1)) dX11_termOrder_94 (by decide) ?_
    refine x_bipush (v := (40)) dX11_termOrder_95 (by decide) ?_
    obtain ⟨q12, hq13, hf⟩ := f_bd hf
    refine x_callVi [.int (p1 + (1 : Int32)), .int (1 : Int32), .int (40 : Int32)] (c_X11_number (I := I) (L := L)  hq13) dX11_termOrder_97 lk_X11_197 lm_0 rfl cd_X11_number rfl rfl (Nat.le_of_ble_eq_true rfl) ⟨rfl, rfl, Nat.le_of_ble_eq_true rfl, Nat.le_of_ble_eq_true rfl⟩ ?_
    cases hf
    exact x_zret dX11_termOrder_100 rfl rfl
  replace hf := f_el hs14 hf
  by_cases hs15 : p0 = (16)
  · replace hf := f_if hs15 hf
    refine x_tabIn (16) 118 dX11_termOrder_1 hs15 (by decide) (by decide) rfl (by decide) ?_
    refine x_iconst (v := (1)) dX11_termOrder_118 (by decide) ?_
    cases hf
    exact x_zret (b := true) dX11_termOrder_119 rfl rfl
  replace hf := f_el hs15 hf
  by_cases hs16 : p0 = (17)
  · replace hf := f_if hs16 hf
    refine x_tabIn (17) 118 dX11_termOrder_1 hs16 (by decide) (by decide) rfl (by decide) ?_
    refine x_iconst (v := (1)) dX11_termOrder_118 (by decide) ?_
    cases hf
    exact x_zret (b := true) dX11_termOrder_119 rfl rfl
  replace hf := f_el hs16 hf
  by_cases hs19 : p0 = (18)
  · replace hf := f_if hs19 hf
    refine x_tabIn (18) 112 dX11_termOrder_1 hs19 (by decide) (by decide) rfl (by decide) ?_
    refine x_aload_n 0 dX11_termOrder_112 rfl rfl ?_
    refine x_iload_n 2 dX11_termOrder_113 rfl rfl ?_
    obtain ⟨q17, hq18, hf⟩ := f_bd hf
    refine x_callVi [.int p1] (c_X11_test (I := I) (L := L)  hq18) dX11_termOrder_114 lk_X11_281 lm_0 rfl cd_X11_test rfl rfl (Nat.le_of_ble_eq_true rfl) ⟨rfl, rfl, Nat.le_of_ble_eq_true rfl, Nat.le_of_ble_eq_true rfl⟩ ?_
    cases hf
    exact x_zret dX11_termOrder_117 rfl rfl
  replace hf := f_el hs19 hf
  by_cases hs22 : p0 = (19)
  · replace hf := f_if hs22 hf
    refine x_tabIn (19) 101 dX11_termOrder_1 hs22 (by decide) (by decide) rfl (by decide) ?_
    refine x_aload_n 0 dX11_termOrder_101 rfl rfl ?_
    refine x_iload_n 2 dX11_termOrder_102 rfl rfl ?_
    refine x_iconst (v := (1)) dX11_termOrder_103 (by decide) ?_
    refine x_iadd dX11_termOrder_104 ?_
    refine x_iconst (v := (1)) dX11_termOrder_105 (by decide) ?_
    refine x_bipush (v := (99)) dX11_termOrder_106 (by decide) ?_
    obtain ⟨q20, hq21, hf⟩ := f_bd hf
    refine x_callVi [.int (p1 + (1 : Int32)), .int (1 : Int32), .int (99 : Int32)] (c_X11_number (I := I) (L := L)  hq21) dX11_termOrder_108 lk_X11_197 lm_0 rfl cd_X11_number rfl rfl (Nat.le_of_ble_eq_true rfl) ⟨rfl, rfl, Nat.le_of_ble_eq_true rfl, Nat.le_of_ble_eq_true rfl⟩ ?_
    cases hf
    exact x_zret dX11_termOrder_111 rfl rfl
  replace hf := f_el hs22 hf
  refine x_tabOut 118 dX11_termOrder_1 (by have := lv_neT (a := 12) hs3 (by decide); have := lv_neT (a := 13) hs8 (by decide); have := lv_neT (a := 14) hs11 (by decide); have := lv_neT (a := 15) hs14 (by decide); have := lv_neT (a := 16) hs15 (by decide); have := lv_neT (a := 17) hs16 (by decide); have := lv_neT (a := 18) hs19 (by decide); have := lv_neT (a := 19) hs22 (by decide); omega) (by decide) ?_
  refine x_iconst (v := (1)) dX11_termOrder_118 (by decide) ?_
  cases hf
  exact x_zret (b := true) dX11_termOrder_119 rfl rfl
set_option maxRecDepth 100000 in
set_option maxHeartbeats 4000000 in
theorem l_X11_termStep_147   (v1 : Int32) (v2 : Int32) (v3 : Int32) (v4 : Int32) (L : z_L) {r : Bool × z_I} (k170 : z_I → Option (Bool × z_I)) (hk170 : ∀ (I : z_I), k170 I = some r → z_X layM RX11 cX11_termStep 6 (some .boolean) ({ frames := 10, cells := 0, slots := 0, locals := 226 } : Room) 170 [(0, .ref 0), (1, .int v1), (2, .int v2), (3, .int v3), (4, .int v4)] [] I L (some (.int (zb r.1)), r.2, L)) : ∀ (n : Nat) (v5 : Int32) (I : z_I), g_X11_termStep_147 v1 v2 v3 v4 L k170 n v5 I = some r → z_X layM RX11 cX11_termStep 6 (some .boolean) ({ frames := 10, cells := 0, slots := 0, locals := 226 } : Room) 147 [(0, .ref 0), (1, .int v1), (2, .int v2), (3, .int v3), (4, .int v4), (5, .int v5)] [] I L (some (.int (zb r.1)), r.2, L) := by
  intro n
  induction n with
  | zero => intro v5 I hf; cases hf
  | succ n ih =>
    intro v5 I hf
    rw [g_X11_termStep_147] at hf
    refine x_iload 5 dX11_termStep_147 rfl ?_
    refine x_bipush (v := (6)) dX11_termStep_149 (by decide) ?_
    refine x_icmp_ge 170 dX11_termStep_151 (by decide) (fun hB => ?_) (fun hB => ?_)
    · replace hf := f_if hB hf
      refine x_lv [(0, .ref 0), (1, .int v1), (2, .int v2), (3, .int v3), (4, .int v4)] [0, 1, 2, 3, 4] rfl ?_
      exact hk170 _ hf
    · replace hf := f_el hB hf
      refine x_aload_n 0 dX11_termStep_154 rfl rfl ?_
      refine x_getR dX11_termStep_155 lm_0 fl_X11_7 rfl ?_
      refine x_iload_n 3 dX11_termStep_158 rfl rfl ?_
      refine x_iload 5 dX11_termStep_159 rfl ?_
      refine x_iadd dX11_termStep_161 ?_
      refine x_iconst (v := (0)) dX11_termStep_162 (by decide) ?_
      obtain ⟨h8, hf⟩ := f_gd hf
      obtain ⟨I9, hI9, hf⟩ := f_lt hf
      refine x_iast (j0 := ((v3 + v5)).toNatClampNeg) dX11_termStep_163 lm_1 h8 rfl hI9 ?_
      refine x_iinc 5 [(5, .int (v5 + (1 : Int32))), (0, .ref 0), (1, .int v1), (2, .int v2), (3, .int v3), (4, .int v4)] dX11_termStep_164 rfl rfl (by decide) rfl ?_
      refine x_goto 147 dX11_termStep_167 (by decide) ?_
      refine x_lv [(0, .ref 0), (1, .int v1), (2, .int v2), (3, .int v3), (4, .int v4), (5, .int (v5 + (1 : Int32)))] [1, 2, 3, 4, 5, 0] rfl ?_
      exact ih _ _ hf
set_option maxRecDepth 100000 in
set_option maxHeartbeats 4000000 in
theorem c_X11_termStep {I : z_I} {L : z_L}   {r : Bool × z_I} (hf : f_X11_termStep I L = some r) : z_C layM yX11_termStep cX11_termStep 6 (some .boolean) ({ frames := 10, cells := 0, slots := 0, locals := 226 } : Room) [.ref 0] I L (some (.int (zb r.1)), r.2, L) := by
  refine z_C.of (by decide) (Nat.le_of_ble_eq_true rfl) ?_
  show z_X layM RX11 cX11_termStep 6 (some .boolean) ({ frames := 10, cells := 0, slots := 0, locals := 226 } : Room) 0 [(0, .ref 0)] [] I L (some (.int (zb r.1)), r.2, L)
  unfold f_X11_termStep at hf
  refine x_aload_n 0 dX11_termStep_0 rfl rfl ?_
  refine x_ldcS dX11_termStep_1 ?_
  obtain ⟨q1, hq2, hf⟩ := f_bd hf
  refine x_callVi [.ref 9001] (c_X11_inWords (I := I) (L := L)  hq2) dX11_termStep_3 lk_X11_184 lm_0 rfl cd_X11_inWords rfl rfl (Nat.le_of_ble_eq_true rfl) ⟨rfl, rfl, Nat.le_of_ble_eq_true rfl, Nat.le_of_ble_eq_true rfl⟩ ?_
  refine x_istore_n [(1, .int q1), (0, .ref 0)] dX11_termStep_6 rfl (by decide) rfl ?_
  refine x_aload_n 1 dX11_termStep_7 rfl rfl ?_
  refine x_getR dX11_termStep_8 lm_0 fl_X11_7 rfl ?_
  refine x_sipush (v := (1719)) dX11_termStep_11 (by decide) ?_
  refine x_iald (j := 1719) (v := (I 1 1719)) dX11_termStep_14 lm_1 (by decide +kernel) (by decide +kernel) rfl ?_
  refine x_istore_n [(2, .int (I 1 1719)), (1, .int q1), (0, .ref 0)] dX11_termStep_15 rfl (by decide) rfl ?_
  refine x_sipush (v := (1772)) dX11_termStep_16 (by decide) ?_
  refine x_bipush (v := (6)) dX11_termStep_19 (by decide) ?_
  refine x_iload_n 0 dX11_termStep_21 rfl rfl ?_
  refine x_imul dX11_termStep_22 ?_
  refine x_iadd dX11_termStep_23 ?_
  obtain ⟨w4, hw4, hf⟩ := f_lt hf
  refine x_topI hw4 ?_
  refine x_istore_n [(3, .int w4), (2, .int (I 1 1719)), (1, .int q1), (0, .ref 0)] dX11_termStep_24 rfl (by decide) rfl ?_
  refine x_iload_n 2 dX11_termStep_25 rfl rfl ?_
  refine x_bipush (v := (18)) dX11_termStep_26 (by decide) ?_
  refine x_icmp_eq 37 dX11_termStep_28 (by decide) (fun hB => ?_) (fun hB => ?_)
  · replace hf := f_if hB hf
    refine x_iconst (v := (1)) dX11_termStep_37 (by decide) ?_
    refine x_goto 42 dX11_termStep_38 (by decide) ?_
    refine x_istore [(4, .int (1 : Int32)), (3, .int w4), (2, .int (I 1 1719)), (1, .int q1), (0, .ref 0)] dX11_termStep_42 (by decide) rfl ?_
    refine x_iload_n 3 dX11_termStep_44 rfl rfl ?_
    refine x_bipush (v := (12)) dX11_termStep_45 (by decide) ?_
    refine x_icmp_lt 69 dX11_termStep_47 (by decide) (fun hB => ?_) (fun hB => ?_)
    · replace hf := f_if hB hf
      refine x_aload_n 4 dX11_termStep_69 rfl rfl ?_
      refine x_iconst (v := (2)) dX11_termStep_70 (by decide) ?_
      refine x_callVi [.int (2 : Int32)] (c_X11_fails (I := I) (L := L) (2 : Int32)) dX11_termStep_71 lk_X11_181 lm_0 rfl cd_X11_fails rfl rfl (Nat.le_of_ble_eq_true rfl) ⟨rfl, rfl, Nat.le_of_ble_eq_true rfl, Nat.le_of_ble_eq_true rfl⟩ ?_
      cases hf
      exact x_zret dX11_termStep_74 rfl rfl
    · replace hf := f_el hB hf
      refine x_iload_n 3 dX11_termStep_50 rfl rfl ?_
      refine x_bipush (v := (21)) dX11_termStep_51 (by decide) ?_
      refine x_icmp_gt 69 dX11_termStep_53 (by decide) (fun hB => ?_) (fun hB => ?_)
      · replace hf := f_if hB hf
        refine x_aload_n 4 dX11_termStep_69 rfl rfl ?_
        refine x_iconst (v := (2)) dX11_termStep_70 (by decide) ?_
        refine x_callVi [.int (2 : Int32)] (c_X11_fails (I := I) (L := L) (2 : Int32)) dX11_termStep_71 lk_X11_181 lm_0 rfl cd_X11_fails rfl rfl (Nat.le_of_ble_eq_true rfl) ⟨rfl, rfl, Nat.le_of_ble_eq_true rfl, Nat.le_of_ble_eq_true rfl⟩ ?_
        cases hf
        exact x_zret dX11_termStep_74 rfl rfl
      · replace hf := f_el hB hf
        refine x_iload_n 3 dX11_termStep_56 rfl rfl ?_
        refine x_bipush (v := (20)) dX11_termStep_57 (by decide) ?_
        refine x_icmp_ne 75 dX11_termStep_59 (by decide) (fun hB => ?_) (fun hB => ?_)
        · replace hf := f_el hB hf
          refine x_iload_n 3 dX11_termStep_75 rfl rfl ?_
          refine x_bipush (v := (20)) dX11_termStep_76 (by decide) ?_
          refine x_icmp_eq 97 dX11_termStep_78 (by decide) (fun hB => ?_) (fun hB => ?_)
          · replace hf := f_if hB hf
            refine x_iload 0 dX11_termStep_97 rfl ?_
            refine x_if_eq 117 dX11_termStep_99 (by decide) (fun h => absurd h (by decide)) (fun _ => ?_)
            refine x_aload_n 4 dX11_termStep_102 rfl rfl ?_
            refine x_getI (v := (I 0 22)) dX11_termStep_103 lm_0 fl_X11_284 rfl rfl ?_
            refine x_iconst (v := (3)) dX11_termStep_106 (by decide) ?_
            refine x_icmp_ne 117 dX11_termStep_107 (by decide) (fun hB => ?_) (fun hB => ?_)
            · replace hf := f_el hB hf
              refine x_aload_n 4 dX11_termStep_117 rfl rfl ?_
              refine x_dup dX11_termStep_118 rfl ?_
              refine x_getI (v := (I 0 23)) dX11_termStep_119 lm_0 fl_X11_287 rfl rfl ?_
              refine x_iload_n 3 dX11_termStep_122 rfl rfl ?_
              refine x_bipush (v := (20)) dX11_termStep_123 (by decide) ?_
              refine x_icmp_ne 132 dX11_termStep_125 (by decide) (fun hB => ?_) (fun hB => ?_)
              · replace hf := f_el hB hf
                refine x_iconst (v := (1)) dX11_termStep_132 (by decide) ?_
                refine x_iadd dX11_termStep_133 ?_
                obtain ⟨I132, hI132, hf⟩ := f_lt hf
                refine x_putI dX11_termStep_134 lm_0 fl_X11_287 rfl rfl rfl hI132 ?_
                refine x_aload_n 4 dX11_termStep_137 rfl rfl ?_
                refine x_getR dX11_termStep_138 lm_0 fl_X11_7 rfl ?_
                refine x_iload_n 1 dX11_termStep_141 rfl rfl ?_
                refine x_iload_n 3 dX11_termStep_142 rfl rfl ?_
                obtain ⟨h133, hf⟩ := f_gd hf
                obtain ⟨I134, hI134, hf⟩ := f_lt hf
                refine x_iast (j0 := (w4).toNatClampNeg) dX11_termStep_143 lm_1 h133 rfl hI134 ?_
                refine x_iconst (v := (1)) dX11_termStep_144 (by decide) ?_
                refine x_istore [(5, .int (1 : Int32)), (4, .int (1 : Int32)), (3, .int w4), (2, .int (I 1 1719)), (1, .int q1), (0, .ref 0)] dX11_termStep_145 (by decide) rfl ?_
                refine x_lv [(0, .ref 0), (1, .int q1), (2, .int (I 1 1719)), (3, .int w4), (4, .int (1 : Int32)), (5, .int (1 : Int32))] [5, 4, 3, 2, 1, 0] rfl ?_
                refine l_X11_termStep_147 q1 (I 1 1719) w4 (1 : Int32) (L) _ ?_ _ _ _ hf
                · intro I_135 hf
                  refine x_aload_n 0 dX11_termStep_170 rfl rfl ?_
                  refine x_getR dX11_termStep_171 lm_0 fl_X11_7 rfl ?_
                  refine x_sipush (v := (1719)) dX11_termStep_174 (by decide) ?_
                  refine x_dup2 dX11_termStep_177 rfl rfl ?_
                  refine x_iald (j := 1719) (v := (I_135 1 1719)) dX11_termStep_178 lm_1 (by decide +kernel) (by decide +kernel) rfl ?_
                  refine x_iconst (v := (1)) dX11_termStep_179 (by decide) ?_
                  refine x_iadd dX11_termStep_180 ?_
                  obtain ⟨I138, hI138, hf⟩ := f_lt hf
                  refine x_iast (j0 := 1719) dX11_termStep_181 lm_1 (by decide +kernel) (by decide +kernel) hI138 ?_
                  refine x_aload_n 0 dX11_termStep_182 rfl rfl ?_
                  obtain ⟨q139, hq140, hf⟩ := f_bd hf
                  refine x_callVv [] (c_X11_ahead (I := I138) (L := L)  hq140) dX11_termStep_183 lk_X11_175 lm_0 rfl cd_X11_ahead rfl rfl (Nat.le_of_ble_eq_true rfl) ⟨rfl, rfl, Nat.le_of_ble_eq_true rfl, Nat.le_of_ble_eq_true rfl⟩ ?_
                  refine x_aload_n 0 dX11_termStep_186 rfl rfl ?_
                  refine x_iload_n 1 dX11_termStep_187 rfl rfl ?_
                  refine x_iload_n 3 dX11_termStep_188 rfl rfl ?_
                  obtain ⟨q141, hq142, hf⟩ := f_bd hf
                  refine x_callVi [.int q1, .int w4] (c_X11_termOrder (I := q139) (L := L)  hq142) dX11_termStep_189 lk_X11_290 lm_0 rfl cd_X11_termOrder rfl rfl (Nat.le_of_ble_eq_true rfl) ⟨rfl, rfl, Nat.le_of_ble_eq_true rfl, Nat.le_of_ble_eq_true rfl⟩ ?_
                  refine x_if_neB 197 dX11_termStep_192 (by decide) (fun hB => ?_) (fun hB => ?_)
                  · replace hf := f_if hB hf
                    refine x_iload 4 dX11_termStep_197 rfl ?_
                    refine x_if_eq 222 dX11_termStep_199 (by decide) (fun h => absurd h (by decide)) (fun _ => ?_)
                    refine x_aload_n 0 dX11_termStep_202 rfl rfl ?_
                    refine x_getR dX11_termStep_203 lm_0 fl_X11_44 rfl ?_
                    refine x_aload_n 0 dX11_termStep_206 rfl rfl ?_
                    refine x_getI (v := (q141.2 0 22)) dX11_termStep_207 lm_0 fl_X11_284 rfl rfl ?_
                    refine x_iload_n 2 dX11_termStep_210 rfl rfl ?_
                    obtain ⟨h143, hf⟩ := f_gd hf
                    obtain ⟨I144, hI144, hf⟩ := f_lt hf
                    refine x_iast (j0 := ((q141.2 0 22)).toNatClampNeg) dX11_termStep_211 lm_8 h143 rfl hI144 ?_
                    refine x_aload_n 0 dX11_termStep_212 rfl rfl ?_
                    refine x_dup dX11_termStep_213 rfl ?_
                    refine x_getI (v := (q141.2 0 22)) dX11_termStep_214 lm_0 fl_X11_284 rfl (by rw [hI144, z2_o (by decide)]) ?_
                    refine x_iconst (v := (1)) dX11_termStep_217 (by decide) ?_
                    refine x_iadd dX11_termStep_218 ?_
                    obtain ⟨I145, hI145, hf⟩ := f_lt hf
                    refine x_putI dX11_termStep_219 lm_0 fl_X11_284 rfl rfl rfl hI145 ?_
                    refine x_iload_n 1 dX11_termStep_222 rfl rfl ?_
                    refine x_bipush (v := (20)) dX11_termStep_223 (by decide) ?_
                    refine x_icmp_ne 279 dX11_termStep_225 (by decide) (fun hB => ?_) (fun hB => ?_)
                    · replace hf := f_el hB hf
                      refine x_aload_n 0 dX11_termStep_279 rfl rfl ?_
                      refine x_bipush (v := (59)) dX11_termStep_280 (by decide) ?_
                      obtain ⟨q155, hq156, hf⟩ := f_bd hf
                      refine x_callVi [.int (59 : Int32)] (c_X11_wantSign (I := I145) (L := L)  hq156) dX11_termStep_282 lk_X11_260 lm_0 rfl cd_X11_wantSign rfl rfl (Nat.le_of_ble_eq_true rfl) ⟨rfl, rfl, Nat.le_of_ble_eq_true rfl, Nat.le_of_ble_eq_true rfl⟩ ?_
                      cases hf
                      exact x_zret dX11_termStep_285 rfl rfl
                    · replace hf := f_if hB hf
                      refine x_aload_n 0 dX11_termStep_228 rfl rfl ?_
                      refine x_dup dX11_termStep_229 rfl ?_
                      refine x_getI (v := ((q141.2 0 22) + (1 : Int32))) dX11_termStep_230 lm_0 fl_X11_284 rfl (by rw [hI145, z2_s, z1_s]) ?_
                      refine x_iconst (v := (1)) dX11_termStep_233 (by decide) ?_
                      refine x_isub dX11_termStep_234 ?_
                      obtain ⟨I146, hI146, hf⟩ := f_lt hf
                      refine x_putI dX11_termStep_235 lm_0 fl_X11_284 rfl rfl rfl hI146 ?_
                      refine x_aload_n 0 dX11_termStep_238 rfl rfl ?_
                      refine x_getR dX11_termStep_239 lm_0 fl_X11_7 rfl ?_
                      refine x_iload_n 3 dX11_termStep_242 rfl rfl ?_
                      refine x_iconst (v := (4)) dX11_termStep_243 (by decide) ?_
                      refine x_iadd dX11_termStep_244 ?_
                      refine x_aload_n 0 dX11_termStep_245 rfl rfl ?_
                      refine x_getR dX11_termStep_246 lm_0 fl_X11_44 rfl ?_
                      refine x_aload_n 0 dX11_termStep_249 rfl rfl ?_
                      refine x_getI (v := (((q141.2 0 22) + (1 : Int32)) - (1 : Int32))) dX11_termStep_250 lm_0 fl_X11_284 rfl (by rw [hI146, z2_s, z1_s]) ?_
                      obtain ⟨h147, hf⟩ := f_gd hf
                      refine x_iald (j := ((((q141.2 0 22) + (1 : Int32)) - (1 : Int32))).toNatClampNeg) (v := (I144 8 ((((q141.2 0 22) + (1 : Int32)) - (1 : Int32))).toNatClampNeg)) dX11_termStep_253 lm_8 h147 rfl (by rw [hI146, z2_o (by decide), hI145, z2_o (by decide)]) ?_
                      obtain ⟨h148, hf⟩ := f_gd hf
                      obtain ⟨I149, hI149, hf⟩ := f_lt hf
                      refine x_iast (j0 := ((w4 + (4 : Int32))).toNatClampNeg) dX11_termStep_254 lm_1 h148 rfl hI149 ?_
                      refine x_aload_n 0 dX11_termStep_255 rfl rfl ?_
                      refine x_getR dX11_termStep_256 lm_0 fl_X11_7 rfl ?_
                      refine x_sipush (v := (1772)) dX11_termStep_259 (by decide) ?_
                      refine x_bipush (v := (6)) dX11_termStep_262 (by decide) ?_
                      refine x_aload_n 0 dX11_termStep_264 rfl rfl ?_
                      refine x_getR dX11_termStep_265 lm_0 fl_X11_44 rfl ?_
                      refine x_aload_n 0 dX11_termStep_268 rfl rfl ?_
                      refine x_getI (v := (((q141.2 0 22) + (1 : Int32)) - (1 : Int32))) dX11_termStep_269 lm_0 fl_X11_284 rfl (by rw [hI149, z2_o (by decide), hI146, z2_s, z1_s]) ?_
                      refine x_iald (j := ((((q141.2 0 22) + (1 : Int32)) - (1 : Int32))).toNatClampNeg) (v := (I144 8 ((((q141.2 0 22) + (1 : Int32)) - (1 : Int32))).toNatClampNeg)) dX11_termStep_272 lm_8 h147 rfl (by rw [hI149, z2_o (by decide), hI146, z2_o (by decide), hI145, z2_o (by decide)]) ?_
                      refine x_imul dX11_termStep_273 ?_
                      refine x_iadd dX11_termStep_274 ?_
                      refine x_iconst (v := (4)) dX11_termStep_275 (by decide) ?_
                      refine x_iadd dX11_termStep_276 ?_
                      refine x_iload_n 2 dX11_termStep_277 rfl rfl ?_
                      obtain ⟨h151, hf⟩ := f_gd hf
                      obtain ⟨I152, hI152, hf⟩ := f_lt hf
                      refine x_iast (j0 := ((((1772 : Int32) + ((6 : Int32) * (I144 8 ((((q141.2 0 22) + (1 : Int32)) - (1 : Int32))).toNatClampNeg))) + (4 : Int32))).toNatClampNeg) dX11_termStep_278 lm_1 h151 rfl hI152 ?_
                      refine x_aload_n 0 dX11_termStep_279 rfl rfl ?_
                      refine x_bipush (v := (59)) dX11_termStep_280 (by decide) ?_
                      obtain ⟨q153, hq154, hf⟩ := f_bd hf
                      refine x_callVi [.int (59 : Int32)] (c_X11_wantSign (I := I152) (L := L)  hq154) dX11_termStep_282 lk_X11_260 lm_0 rfl cd_X11_wantSign rfl rfl (Nat.le_of_ble_eq_true rfl) ⟨rfl, rfl, Nat.le_of_ble_eq_true rfl, Nat.le_of_ble_eq_true rfl⟩ ?_
                      cases hf
                      exact x_zret dX11_termStep_285 rfl rfl
                  · replace hf := f_el hB hf
                    refine x_iconst (v := (0)) dX11_termStep_195 (by decide) ?_
                    cases hf
                    exact x_zret (b := false) dX11_termStep_196 rfl rfl
              · replace hf := f_if hB hf
                refine x_iconst (v := (0)) dX11_termStep_128 (by decide) ?_
                refine x_goto 133 dX11_termStep_129 (by decide) ?_
                refine x_iadd dX11_termStep_133 ?_
                obtain ⟨I107, hI107, hf⟩ := f_lt hf
                refine x_putI dX11_termStep_134 lm_0 fl_X11_287 rfl rfl rfl hI107 ?_
                refine x_aload_n 4 dX11_termStep_137 rfl rfl ?_
                refine x_getR dX11_termStep_138 lm_0 fl_X11_7 rfl ?_
                refine x_iload_n 1 dX11_termStep_141 rfl rfl ?_
                refine x_iload_n 3 dX11_termStep_142 rfl rfl ?_
                obtain ⟨h108, hf⟩ := f_gd hf
                obtain ⟨I109, hI109, hf⟩ := f_lt hf
                refine x_iast (j0 := (w4).toNatClampNeg) dX11_termStep_143 lm_1 h108 rfl hI109 ?_
                refine x_iconst (v := (1)) dX11_termStep_144 (by decide) ?_
                refine x_istore [(5, .int (1 : Int32)), (4, .int (1 : Int32)), (3, .int w4), (2, .int (I 1 1719)), (1, .int q1), (0, .ref 0)] dX11_termStep_145 (by decide) rfl ?_
                refine x_lv [(0, .ref 0), (1, .int q1), (2, .int (I 1 1719)), (3, .int w4), (4, .int (1 : Int32)), (5, .int (1 : Int32))] [5, 4, 3, 2, 1, 0] rfl ?_
                refine l_X11_termStep_147 q1 (I 1 1719) w4 (1 : Int32) (L) _ ?_ _ _ _ hf
                · intro I_110 hf
                  refine x_aload_n 0 dX11_termStep_170 rfl rfl ?_
                  refine x_getR dX11_termStep_171 lm_0 fl_X11_7 rfl ?_
                  refine x_sipush (v := (1719)) dX11_termStep_174 (by decide) ?_
                  refine x_dup2 dX11_termStep_177 rfl rfl ?_
                  refine x_iald (j := 1719) (v := (I_110 1 1719)) dX11_termStep_178 lm_1 (by decide +kernel) (by decide +kernel) rfl ?_
                  refine x_iconst (v := (1)) dX11_termStep_179 (by decide) ?_
                  refine x_iadd dX11_termStep_180 ?_
                  obtain ⟨I113, hI113, hf⟩ := f_lt hf
                  refine x_iast (j0 := 1719) dX11_termStep_181 lm_1 (by decide +kernel) (by decide +kernel) hI113 ?_
                  refine x_aload_n 0 dX11_termStep_182 rfl rfl ?_
                  obtain ⟨q114, hq115, hf⟩ := f_bd hf
                  refine x_callVv [] (c_X11_ahead (I := I113) (L := L)  hq115) dX11_termStep_183 lk_X11_175 lm_0 rfl cd_X11_ahead rfl rfl (Nat.le_of_ble_eq_true rfl) ⟨rfl, rfl, Nat.le_of_ble_eq_true rfl, Nat.le_of_ble_eq_true rfl⟩ ?_
                  refine x_aload_n 0 dX11_termStep_186 rfl rfl ?_
                  refine x_iload_n 1 dX11_termStep_187 rfl rfl ?_
                  refine x_iload_n 3 dX11_termStep_188 rfl rfl ?_
                  obtain ⟨q116, hq117, hf⟩ := f_bd hf
                  refine x_callVi [.int q1, .int w4] (c_X11_termOrder (I := q114) (L := L)  hq117) dX11_termStep_189 lk_X11_290 lm_0 rfl cd_X11_termOrder rfl rfl (Nat.le_of_ble_eq_true rfl) ⟨rfl, rfl, Nat.le_of_ble_eq_true rfl, Nat.le_of_ble_eq_true rfl⟩ ?_
                  refine x_if_neB 197 dX11_termStep_192 (by decide) (fun hB => ?_) (fun hB => ?_)
                  · replace hf := f_if hB hf
                    refine x_iload 4 dX11_termStep_197 rfl ?_
                    refine x_if_eq 222 dX11_termStep_199 (by decide) (fun h => absurd h (by decide)) (fun _ => ?_)
                    refine x_aload_n 0 dX11_termStep_202 rfl rfl ?_
                    refine x_getR dX11_termStep_203 lm_0 fl_X11_44 rfl ?_
                    refine x_aload_n 0 dX11_termStep_206 rfl rfl ?_
                    refine x_getI (v := (q116.2 0 22)) dX11_termStep_207 lm_0 fl_X11_284 rfl rfl ?_
                    refine x_iload_n 2 dX11_termStep_210 rfl rfl ?_
                    obtain ⟨h118, hf⟩ := f_gd hf
                    obtain ⟨I119, hI119, hf⟩ := f_lt hf
                    refine x_iast (j0 := ((q116.2 0 22)).toNatClampNeg) dX11_termStep_211 lm_8 h118 rfl hI119 ?_
                    refine x_aload_n 0 dX11_termStep_212 rfl rfl ?_
                    refine x_dup dX11_termStep_213 rfl ?_
                    refine x_getI (v := (q116.2 0 22)) dX11_termStep_214 lm_0 fl_X11_284 rfl (by rw [hI119, z2_o (by decide)]) ?_
                    refine x_iconst (v := (1)) dX11_termStep_217 (by decide) ?_
                    refine x_iadd dX11_termStep_218 ?_
                    obtain ⟨I120, hI120, hf⟩ := f_lt hf
                    refine x_putI dX11_termStep_219 lm_0 fl_X11_284 rfl rfl rfl hI120 ?_
                    refine x_iload_n 1 dX11_termStep_222 rfl rfl ?_
                    refine x_bipush (v := (20)) dX11_termStep_223 (by decide) ?_
                    refine x_icmp_ne 279 dX11_termStep_225 (by decide) (fun hB => ?_) (fun hB => ?_)
                    · replace hf := f_el hB hf
                      refine x_aload_n 0 dX11_termStep_279 rfl rfl ?_
                      refine x_bipush (v := (59)) dX11_termStep_280 (by decide) ?_
                      obtain ⟨q130, hq131, hf⟩ := f_bd hf
                      refine x_callVi [.int (59 : Int32)] (c_X11_wantSign (I := I120) (L := L)  hq131) dX11_termStep_282 lk_X11_260 lm_0 rfl cd_X11_wantSign rfl rfl (Nat.le_of_ble_eq_true rfl) ⟨rfl, rfl, Nat.le_of_ble_eq_true rfl, Nat.le_of_ble_eq_true rfl⟩ ?_
                      cases hf
                      exact x_zret dX11_termStep_285 rfl rfl
                    · replace hf := f_if hB hf
                      refine x_aload_n 0 dX11_termStep_228 rfl rfl ?_
                      refine x_dup dX11_termStep_229 rfl ?_
                      refine x_getI (v := ((q116.2 0 22) + (1 : Int32))) dX11_termStep_230 lm_0 fl_X11_284 rfl (by rw [hI120, z2_s, z1_s]) ?_
                      refine x_iconst (v := (1)) dX11_termStep_233 (by decide) ?_
                      refine x_isub dX11_termStep_234 ?_
                      obtain ⟨I121, hI121, hf⟩ := f_lt hf
                      refine x_putI dX11_termStep_235 lm_0 fl_X11_284 rfl rfl rfl hI121 ?_
                      refine x_aload_n 0 dX11_termStep_238 rfl rfl ?_
                      refine x_getR dX11_termStep_239 lm_0 fl_X11_7 rfl ?_
                      refine x_iload_n 3 dX11_termStep_242 rfl rfl ?_
                      refine x_iconst (v := (4)) dX11_termStep_243 (by decide) ?_
                      refine x_iadd dX11_termStep_244 ?_
                      refine x_aload_n 0 dX11_termStep_245 rfl rfl ?_
                      refine x_getR dX11_termStep_246 lm_0 fl_X11_44 rfl ?_
                      refine x_aload_n 0 dX11_termStep_249 rfl rfl ?_
                      refine x_getI (v := (((q116.2 0 22) + (1 : Int32)) - (1 : Int32))) dX11_termStep_250 lm_0 fl_X11_284 rfl (by rw [hI121, z2_s, z1_s]) ?_
                      obtain ⟨h122, hf⟩ := f_gd hf
                      refine x_iald (j := ((((q116.2 0 22) + (1 : Int32)) - (1 : Int32))).toNatClampNeg) (v := (I119 8 ((((q116.2 0 22) + (1 : Int32)) - (1 : Int32))).toNatClampNeg)) dX11_termStep_253 lm_8 h122 rfl (by rw [hI121, z2_o (by decide), hI120, z2_o (by decide)]) ?_
                      obtain ⟨h123, hf⟩ := f_gd hf
                      obtain ⟨I124, hI124, hf⟩ := f_lt hf
                      refine x_iast (j0 := ((w4 + (4 : Int32))).toNatClampNeg) dX11_termStep_254 lm_1 h123 rfl hI124 ?_
                      refine x_aload_n 0 dX11_termStep_255 rfl rfl ?_
                      refine x_getR dX11_termStep_256 lm_0 fl_X11_7 rfl ?_
                      refine x_sipush (v := (1772)) dX11_termStep_259 (by decide) ?_
                      refine x_bipush (v := (6)) dX11_termStep_262 (by decide) ?_
                      refine x_aload_n 0 dX11_termStep_264 rfl rfl ?_
                      refine x_getR dX11_termStep_265 lm_0 fl_X11_44 rfl ?_
                      refine x_aload_n 0 dX11_termStep_268 rfl rfl ?_
                      refine x_getI (v := (((q116.2 0 22) + (1 : Int32)) - (1 : Int32))) dX11_termStep_269 lm_0 fl_X11_284 rfl (by rw [hI124, z2_o (by decide), hI121, z2_s, z1_s]) ?_
                      refine x_iald (j := ((((q116.2 0 22) + (1 : Int32)) - (1 : Int32))).toNatClampNeg) (v := (I119 8 ((((q116.2 0 22) + (1 : Int32)) - (1 : Int32))).toNatClampNeg)) dX11_termStep_272 lm_8 h122 rfl (by rw [hI124, z2_o (by decide), hI121, z2_o (by decide), hI120, z2_o (by decide)]) ?_
                      refine x_imul dX11_termStep_273 ?_
                      refine x_iadd dX11_termStep_274 ?_
                      refine x_iconst (v := (4)) dX11_termStep_275 (by decide) ?_
                      refine x_iadd dX11_termStep_276 ?_
                      refine x_iload_n 2 dX11_termStep_277 rfl rfl ?_
                      obtain ⟨h126, hf⟩ := f_gd hf
                      obtain ⟨I127, hI127, hf⟩ := f_lt hf
                      refine x_iast (j0 := ((((1772 : Int32) + ((6 : Int32) * (I119 8 ((((q116.2 0 22) + (1 : Int32)) - (1 : Int32))).toNatClampNeg))) + (4 : Int32))).toNatClampNeg) dX11_termStep_278 lm_1 h126 rfl hI127 ?_
                      refine x_aload_n 0 dX11_termStep_279 rfl rfl ?_
                      refine x_bipush (v := (59)) dX11_termStep_280 (by decide) ?_
                      obtain ⟨q128, hq129, hf⟩ := f_bd hf
                      refine x_callVi [.int (59 : Int32)] (c_X11_wantSign (I := I127) (L := L)  hq129) dX11_termStep_282 lk_X11_260 lm_0 rfl cd_X11_wantSign rfl rfl (Nat.le_of_ble_eq_true rfl) ⟨rfl, rfl, Nat.le_of_ble_eq_true rfl, Nat.le_of_ble_eq_true rfl⟩ ?_
                      cases hf
                      exact x_zret dX11_termStep_285 rfl rfl
                  · replace hf := f_el hB hf
                    refine x_iconst (v := (0)) dX11_termStep_195 (by decide) ?_
                    cases hf
                    exact x_zret (b := false) dX11_termStep_196 rfl rfl
            · replace hf := f_if hB hf
              refine x_aload_n 4 dX11_termStep_110 rfl rfl ?_
              refine x_bipush (v := (7)) dX11_termStep_111 (by decide) ?_
              refine x_callVi [.int (7 : Int32)] (c_X11_fails (I := I) (L := L) (7 : Int32)) dX11_termStep_113 lk_X11_181 lm_0 rfl cd_X11_fails rfl rfl (Nat.le_of_ble_eq_true rfl) ⟨rfl, rfl, Nat.le_of_ble_eq_true rfl, Nat.le_of_ble_eq_true rfl⟩ ?_
              cases hf
              exact x_zret dX11_termStep_116 rfl rfl
          · replace hf := f_el hB hf
            refine x_aload_n 4 dX11_termStep_81 rfl rfl ?_
            refine x_getI (v := (I 0 23)) dX11_termStep_82 lm_0 fl_X11_287 rfl rfl ?_
            refine x_bipush (v := (30)) dX11_termStep_85 (by decide) ?_
            refine x_icmp_ne 97 dX11_termStep_87 (by decide) (fun hB => ?_) (fun hB => ?_)
            · replace hf := f_el hB hf
              refine x_iload 0 dX11_termStep_97 rfl ?_
              refine x_if_eq 117 dX11_termStep_99 (by decide) (fun h => absurd h (by decide)) (fun _ => ?_)
              refine x_aload_n 4 dX11_termStep_102 rfl rfl ?_
              refine x_getI (v := (I 0 22)) dX11_termStep_103 lm_0 fl_X11_284 rfl rfl ?_
              refine x_iconst (v := (3)) dX11_termStep_106 (by decide) ?_
              refine x_icmp_ne 117 dX11_termStep_107 (by decide) (fun hB => ?_) (fun hB => ?_)
              · replace hf := f_el hB hf
                refine x_aload_n 4 dX11_termStep_117 rfl rfl ?_
                refine x_dup dX11_termStep_118 rfl ?_
                refine x_getI (v := (I 0 23)) dX11_termStep_119 lm_0 fl_X11_287 rfl rfl ?_
                refine x_iload_n 3 dX11_termStep_122 rfl rfl ?_
                refine x_bipush (v := (20)) dX11_termStep_123 (by decide) ?_
                refine x_icmp_ne 132 dX11_termStep_125 (by decide) (fun hB => ?_) (fun hB => ?_)
                · replace hf := f_el hB hf
                  refine x_iconst (v := (1)) dX11_termStep_132 (by decide) ?_
                  refine x_iadd dX11_termStep_133 ?_
                  obtain ⟨I182, hI182, hf⟩ := f_lt hf
                  refine x_putI dX11_termStep_134 lm_0 fl_X11_287 rfl rfl rfl hI182 ?_
                  refine x_aload_n 4 dX11_termStep_137 rfl rfl ?_
                  refine x_getR dX11_termStep_138 lm_0 fl_X11_7 rfl ?_
                  refine x_iload_n 1 dX11_termStep_141 rfl rfl ?_
                  refine x_iload_n 3 dX11_termStep_142 rfl rfl ?_
                  obtain ⟨h183, hf⟩ := f_gd hf
                  obtain ⟨I184, hI184, hf⟩ := f_lt hf
                  refine x_iast (j0 := (w4).toNatClampNeg) dX11_termStep_143 lm_1 h183 rfl hI184 ?_
                  refine x_iconst (v := (1)) dX11_termStep_144 (by decide) ?_
                  refine x_istore [(5, .int (1 : Int32)), (4, .int (1 : Int32)), (3, .int w4), (2, .int (I 1 1719)), (1, .int q1), (0, .ref 0)] dX11_termStep_145 (by decide) rfl ?_
                  refine x_lv [(0, .ref 0), (1, .int q1), (2, .int (I 1 1719)), (3, .int w4), (4, .int (1 : Int32)), (5, .int (1 : Int32))] [5, 4, 3, 2, 1, 0] rfl ?_
                  refine l_X11_termStep_147 q1 (I 1 1719) w4 (1 : Int32) (L) _ ?_ _ _ _ hf
                  · intro I_185 hf
                    refine x_aload_n 0 dX11_termStep_170 rfl rfl ?_
                    refine x_getR dX11_termStep_171 lm_0 fl_X11_7 rfl ?_
                    refine x_sipush (v := (1719)) dX11_termStep_174 (by decide) ?_
                    refine x_dup2 dX11_termStep_177 rfl rfl ?_
                    refine x_iald (j := 1719) (v := (I_185 1 1719)) dX11_termStep_178 lm_1 (by decide +kernel) (by decide +kernel) rfl ?_
                    refine x_iconst (v := (1)) dX11_termStep_179 (by decide) ?_
                    refine x_iadd dX11_termStep_180 ?_
                    obtain ⟨I188, hI188, hf⟩ := f_lt hf
                    refine x_iast (j0 := 1719) dX11_termStep_181 lm_1 (by decide +kernel) (by decide +kernel) hI188 ?_
                    refine x_aload_n 0 dX11_termStep_182 rfl rfl ?_
                    obtain ⟨q189, hq190, hf⟩ := f_bd hf
                    refine x_callVv [] (c_X11_ahead (I := I188) (L := L)  hq190) dX11_termStep_183 lk_X11_175 lm_0 rfl cd_X11_ahead rfl rfl (Nat.le_of_ble_eq_true rfl) ⟨rfl, rfl, Nat.le_of_ble_eq_true rfl, Nat.le_of_ble_eq_true rfl⟩ ?_
                    refine x_aload_n 0 dX11_termStep_186 rfl rfl ?_
                    refine x_iload_n 1 dX11_termStep_187 rfl rfl ?_
                    refine x_iload_n 3 dX11_termStep_188 rfl rfl ?_
                    obtain ⟨q191, hq192, hf⟩ := f_bd hf
                    refine x_callVi [.int q1, .int w4] (c_X11_termOrder (I := q189) (L := L)  hq192) dX11_termStep_189 lk_X11_290 lm_0 rfl cd_X11_termOrder rfl rfl (Nat.le_of_ble_eq_true rfl) ⟨rfl, rfl, Nat.le_of_ble_eq_true rfl, Nat.le_of_ble_eq_true rfl⟩ ?_
                    refine x_if_neB 197 dX11_termStep_192 (by decide) (fun hB => ?_) (fun hB => ?_)
                    · replace hf := f_if hB hf
                      refine x_iload 4 dX11_termStep_197 rfl ?_
                      refine x_if_eq 222 dX11_termStep_199 (by decide) (fun h => absurd h (by decide)) (fun _ => ?_)
                      refine x_aload_n 0 dX11_termStep_202 rfl rfl ?_
                      refine x_getR dX11_termStep_203 lm_0 fl_X11_44 rfl ?_
                      refine x_aload_n 0 dX11_termStep_206 rfl rfl ?_
                      refine x_getI (v := (q191.2 0 22)) dX11_termStep_207 lm_0 fl_X11_284 rfl rfl ?_
                      refine x_iload_n 2 dX11_termStep_210 rfl rfl ?_
                      obtain ⟨h193, hf⟩ := f_gd hf
                      obtain ⟨I194, hI194, hf⟩ := f_lt hf
                      refine x_iast (j0 := ((q191.2 0 22)).toNatClampNeg) dX11_termStep_211 lm_8 h193 rfl hI194 ?_
                      refine x_aload_n 0 dX11_termStep_212 rfl rfl ?_
                      refine x_dup dX11_termStep_213 rfl ?_
                      refine x_getI (v := (q191.2 0 22)) dX11_termStep_214 lm_0 fl_X11_284 rfl (by rw [hI194, z2_o (by decide)]) ?_
                      refine x_iconst (v := (1)) dX11_termStep_217 (by decide) ?_
                      refine x_iadd dX11_termStep_218 ?_
                      obtain ⟨I195, hI195, hf⟩ := f_lt hf
                      refine x_putI dX11_termStep_219 lm_0 fl_X11_284 rfl rfl rfl hI195 ?_
                      refine x_iload_n 1 dX11_termStep_222 rfl rfl ?_
                      refine x_bipush (v := (20)) dX11_termStep_223 (by decide) ?_
                      refine x_icmp_ne 279 dX11_termStep_225 (by decide) (fun hB => ?_) (fun hB => ?_)
                      · replace hf := f_el hB hf
                        refine x_aload_n 0 dX11_termStep_279 rfl rfl ?_
                        refine x_bipush (v := (59)) dX11_termStep_280 (by decide) ?_
                        obtain ⟨q205, hq206, hf⟩ := f_bd hf
                        refine x_callVi [.int (59 : Int32)] (c_X11_wantSign (I := I195) (L := L)  hq206) dX11_termStep_282 lk_X11_260 lm_0 rfl cd_X11_wantSign rfl rfl (Nat.le_of_ble_eq_true rfl) ⟨rfl, rfl, Nat.le_of_ble_eq_true rfl, Nat.le_of_ble_eq_true rfl⟩ ?_
                        cases hf
                        exact x_zret dX11_termStep_285 rfl rfl
                      · replace hf := f_if hB hf
                        refine x_aload_n 0 dX11_termStep_228 rfl rfl ?_
                        refine x_dup dX11_termStep_229 rfl ?_
                        refine x_getI (v := ((q191.2 0 22) + (1 : Int32))) dX11_termStep_230 lm_0 fl_X11_284 rfl (by rw [hI195, z2_s, z1_s]) ?_
                        refine x_iconst (v := (1)) dX11_termStep_233 (by decide) ?_
                        refine x_isub dX11_termStep_234 ?_
                        obtain ⟨I196, hI196, hf⟩ := f_lt hf
                        refine x_putI dX11_termStep_235 lm_0 fl_X11_284 rfl rfl rfl hI196 ?_
                        refine x_aload_n 0 dX11_termStep_238 rfl rfl ?_
                        refine x_getR dX11_termStep_239 lm_0 fl_X11_7 rfl ?_
                        refine x_iload_n 3 dX11_termStep_242 rfl rfl ?_
                        refine x_iconst (v := (4)) dX11_termStep_243 (by decide) ?_
                        refine x_iadd dX11_termStep_244 ?_
                        refine x_aload_n 0 dX11_termStep_245 rfl rfl ?_
                        refine x_getR dX11_termStep_246 lm_0 fl_X11_44 rfl ?_
                        refine x_aload_n 0 dX11_termStep_249 rfl rfl ?_
                        refine x_getI (v := (((q191.2 0 22) + (1 : Int32)) - (1 : Int32))) dX11_termStep_250 lm_0 fl_X11_284 rfl (by rw [hI196, z2_s, z1_s]) ?_
                        obtain ⟨h197, hf⟩ := f_gd hf
                        refine x_iald (j := ((((q191.2 0 22) + (1 : Int32)) - (1 : Int32))).toNatClampNeg) (v := (I194 8 ((((q191.2 0 22) + (1 : Int32)) - (1 : Int32))).toNatClampNeg)) dX11_termStep_253 lm_8 h197 rfl (by rw [hI196, z2_o (by decide), hI195, z2_o (by decide)]) ?_
                        obtain ⟨h198, hf⟩ := f_gd hf
                        obtain ⟨I199, hI199, hf⟩ := f_lt hf
                        refine x_iast (j0 := ((w4 + (4 : Int32))).toNatClampNeg) dX11_termStep_254 lm_1 h198 rfl hI199 ?_
                        refine x_aload_n 0 dX11_termStep_255 rfl rfl ?_
                        refine x_getR dX11_termStep_256 lm_0 fl_X11_7 rfl ?_
                        refine x_sipush (v := (1772)) dX11_termStep_259 (by decide) ?_
                        refine x_bipush (v := (6)) dX11_termStep_262 (by decide) ?_
                        refine x_aload_n 0 dX11_termStep_264 rfl rfl ?_
                        refine x_getR dX11_termStep_265 lm_0 fl_X11_44 rfl ?_
                        refine x_aload_n 0 dX11_termStep_268 rfl rfl ?_
                        refine x_getI (v := (((q191.2 0 22) + (1 : Int32)) - (1 : Int32))) dX11_termStep_269 lm_0 fl_X11_284 rfl (by rw [hI199, z2_o (by decide), hI196, z2_s, z1_s]) ?_
                        refine x_iald (j := ((((q191.2 0 22) + (1 : Int32)) - (1 : Int32))).toNatClampNeg) (v := (I194 8 ((((q191.2 0 22) + (1 : Int32)) - (1 : Int32))).toNatClampNeg)) dX11_termStep_272 lm_8 h197 rfl (by rw [hI199, z2_o (by decide), hI196, z2_o (by decide), hI195, z2_o (by decide)]) ?_
                        refine x_imul dX11_termStep_273 ?_
                        refine x_iadd dX11_termStep_274 ?_
                        refine x_iconst (v := (4)) dX11_termStep_275 (by decide) ?_
                        refine x_iadd dX11_termStep_276 ?_
                        refine x_iload_n 2 dX11_termStep_277 rfl rfl ?_
                        obtain ⟨h201, hf⟩ := f_gd hf
                        obtain ⟨I202, hI202, hf⟩ := f_lt hf
                        refine x_iast (j0 := ((((1772 : Int32) + ((6 : Int32) * (I194 8 ((((q191.2 0 22) + (1 : Int32)) - (1 : Int32))).toNatClampNeg))) + (4 : Int32))).toNatClampNeg) dX11_termStep_278 lm_1 h201 rfl hI202 ?_
                        refine x_aload_n 0 dX11_termStep_279 rfl rfl ?_
                        refine x_bipush (v := (59)) dX11_termStep_280 (by decide) ?_
                        obtain ⟨q203, hq204, hf⟩ := f_bd hf
                        refine x_callVi [.int (59 : Int32)] (c_X11_wantSign (I := I202) (L := L)  hq204) dX11_termStep_282 lk_X11_260 lm_0 rfl cd_X11_wantSign rfl rfl (Nat.le_of_ble_eq_true rfl) ⟨rfl, rfl, Nat.le_of_ble_eq_true rfl, Nat.le_of_ble_eq_true rfl⟩ ?_
                        cases hf
                        exact x_zret dX11_termStep_285 rfl rfl
                    · replace hf := f_el hB hf
                      refine x_iconst (v := (0)) dX11_termStep_195 (by decide) ?_
                      cases hf
                      exact x_zret (b := false) dX11_termStep_196 rfl rfl
                · replace hf := f_if hB hf
                  refine x_iconst (v := (0)) dX11_termStep_128 (by decide) ?_
                  refine x_goto 133 dX11_termStep_129 (by decide) ?_
                  refine x_iadd dX11_termStep_133 ?_
                  obtain ⟨I157, hI157, hf⟩ := f_lt hf
                  refine x_putI dX11_termStep_134 lm_0 fl_X11_287 rfl rfl rfl hI157 ?_
                  refine x_aload_n 4 dX11_termStep_137 rfl rfl ?_
                  refine x_getR dX11_termStep_138 lm_0 fl_X11_7 rfl ?_
                  refine x_iload_n 1 dX11_termStep_141 rfl rfl ?_
                  refine x_iload_n 3 dX11_termStep_142 rfl rfl ?_
                  obtain ⟨h158, hf⟩ := f_gd hf
                  obtain ⟨I159, hI159, hf⟩ := f_lt hf
                  refine x_iast (j0 := (w4).toNatClampNeg) dX11_termStep_143 lm_1 h158 rfl hI159 ?_
                  refine x_iconst (v := (1)) dX11_termStep_144 (by decide) ?_
                  refine x_istore [(5, .int (1 : Int32)), (4, .int (1 : Int32)), (3, .int w4), (2, .int (I 1 1719)), (1, .int q1), (0, .ref 0)] dX11_termStep_145 (by decide) rfl ?_
                  refine x_lv [(0, .ref 0), (1, .int q1), (2, .int (I 1 1719)), (3, .int w4), (4, .int (1 : Int32)), (5, .int (1 : Int32))] [5, 4, 3, 2, 1, 0] rfl ?_
                  refine l_X11_termStep_147 q1 (I 1 1719) w4 (1 : Int32) (L) _ ?_ _ _ _ hf
                  · intro I_160 hf
                    refine x_aload_n 0 dX11_termStep_170 rfl rfl ?_
                    refine x_getR dX11_termStep_171 lm_0 fl_X11_7 rfl ?_
                    refine x_sipush (v := (1719)) dX11_termStep_174 (by decide) ?_
                    refine x_dup2 dX11_termStep_177 rfl rfl ?_
                    refine x_iald (j := 1719) (v := (I_160 1 1719)) dX11_termStep_178 lm_1 (by decide +kernel) (by decide +kernel) rfl ?_
                    refine x_iconst (v := (1)) dX11_termStep_179 (by decide) ?_
                    refine x_iadd dX11_termStep_180 ?_
                    obtain ⟨I163, hI163, hf⟩ := f_lt hf
                    refine x_iast (j0 := 1719) dX11_termStep_181 lm_1 (by decide +kernel) (by decide +kernel) hI163 ?_
                    refine x_aload_n 0 dX11_termStep_182 rfl rfl ?_
                    obtain ⟨q164, hq165, hf⟩ := f_bd hf
                    refine x_callVv [] (c_X11_ahead (I := I163) (L := L)  hq165) dX11_termStep_183 lk_X11_175 lm_0 rfl cd_X11_ahead rfl rfl (Nat.le_of_ble_eq_true rfl) ⟨rfl, rfl, Nat.le_of_ble_eq_true rfl, Nat.le_of_ble_eq_true rfl⟩ ?_
                    refine x_aload_n 0 dX11_termStep_186 rfl rfl ?_
                    refine x_iload_n 1 dX11_termStep_187 rfl rfl ?_
                    refine x_iload_n 3 dX11_termStep_188 rfl rfl ?_
                    obtain ⟨q166, hq167, hf⟩ := f_bd hf
                    refine x_callVi [.int q1, .int w4] (c_X11_termOrder (I := q164) (L := L)  hq167) dX11_termStep_189 lk_X11_290 lm_0 rfl cd_X11_termOrder rfl rfl (Nat.le_of_ble_eq_true rfl) ⟨rfl, rfl, Nat.le_of_ble_eq_true rfl, Nat.le_of_ble_eq_true rfl⟩ ?_
                    refine x_if_neB 197 dX11_termStep_192 (by decide) (fun hB => ?_) (fun hB => ?_)
                    · replace hf := f_if hB hf
                      refine x_iload 4 dX11_termStep_197 rfl ?_
                      refine x_if_eq 222 dX11_termStep_199 (by decide) (fun h => absurd h (by decide)) (fun _ => ?_)
                      refine x_aload_n 0 dX11_termStep_202 rfl rfl ?_
                      refine x_getR dX11_termStep_203 lm_0 fl_X11_44 rfl ?_
                      refine x_aload_n 0 dX11_termStep_206 rfl rfl ?_
                      refine x_getI (v := (q166.2 0 22)) dX11_termStep_207 lm_0 fl_X11_284 rfl rfl ?_
                      refine x_iload_n 2 dX11_termStep_210 rfl rfl ?_
                      obtain ⟨h168, hf⟩ := f_gd hf
                      obtain ⟨I169, hI169, hf⟩ := f_lt hf
                      refine x_iast (j0 := ((q166.2 0 22)).toNatClampNeg) dX11_termStep_211 lm_8 h168 rfl hI169 ?_
                      refine x_aload_n 0 dX11_termStep_212 rfl rfl ?_
                      refine x_dup dX11_termStep_213 rfl ?_
                      refine x_getI (v := (q166.2 0 22)) dX11_termStep_214 lm_0 fl_X11_284 rfl (by rw [hI169, z2_o (by decide)]) ?_
                      refine x_iconst (v := (1)) dX11_termStep_217 (by decide) ?_
                      refine x_iadd dX11_termStep_218 ?_
                      obtain ⟨I170, hI170, hf⟩ := f_lt hf
                      refine x_putI dX11_termStep_219 lm_0 fl_X11_284 rfl rfl rfl hI170 ?_
                      refine x_iload_n 1 dX11_termStep_222 rfl rfl ?_
                      refine x_bipush (v := (20)) dX11_termStep_223 (by decide) ?_
                      refine x_icmp_ne 279 dX11_termStep_225 (by decide) (fun hB => ?_) (fun hB => ?_)
                      · replace hf := f_el hB hf
                        refine x_aload_n 0 dX11_termStep_279 rfl rfl ?_
                        refine x_bipush (v := (59)) dX11_termStep_280 (by decide) ?_
                        obtain ⟨q180, hq181, hf⟩ := f_bd hf
                        refine x_callVi [.int (59 : Int32)] (c_X11_wantSign (I := I170) (L := L)  hq181) dX11_termStep_282 lk_X11_260 lm_0 rfl cd_X11_wantSign rfl rfl (Nat.le_of_ble_eq_true rfl) ⟨rfl, rfl, Nat.le_of_ble_eq_true rfl, Nat.le_of_ble_eq_true rfl⟩ ?_
                        cases hf
                        exact x_zret dX11_termStep_285 rfl rfl
                      · replace hf := f_if hB hf
                        refine x_aload_n 0 dX11_termStep_228 rfl rfl ?_
                        refine x_dup dX11_termStep_229 rfl ?_
                        refine x_getI (v := ((q166.2 0 22) + (1 : Int32))) dX11_termStep_230 lm_0 fl_X11_284 rfl (by rw [hI170, z2_s, z1_s]) ?_
                        refine x_iconst (v := (1)) dX11_termStep_233 (by decide) ?_
                        refine x_isub dX11_termStep_234 ?_
                        obtain ⟨I171, hI171, hf⟩ := f_lt hf
                        refine x_putI dX11_termStep_235 lm_0 fl_X11_284 rfl rfl rfl hI171 ?_
                        refine x_aload_n 0 dX11_termStep_238 rfl rfl ?_
                        refine x_getR dX11_termStep_239 lm_0 fl_X11_7 rfl ?_
                        refine x_iload_n 3 dX11_termStep_242 rfl rfl ?_
                        refine x_iconst (v := (4)) dX11_termStep_243 (by decide) ?_
                        refine x_iadd dX11_termStep_244 ?_
                        refine x_aload_n 0 dX11_termStep_245 rfl rfl ?_
                        refine x_getR dX11_termStep_246 lm_0 fl_X11_44 rfl ?_
                        refine x_aload_n 0 dX11_termStep_249 rfl rfl ?_
                        refine x_getI (v := (((q166.2 0 22) + (1 : Int32)) - (1 : Int32))) dX11_termStep_250 lm_0 fl_X11_284 rfl (by rw [hI171, z2_s, z1_s]) ?_
                        obtain ⟨h172, hf⟩ := f_gd hf
                        refine x_iald (j := ((((q166.2 0 22) + (1 : Int32)) - (1 : Int32))).toNatClampNeg) (v := (I169 8 ((((q166.2 0 22) + (1 : Int32)) - (1 : Int32))).toNatClampNeg)) dX11_termStep_253 lm_8 h172 rfl (by rw [hI171, z2_o (by decide), hI170, z2_o (by decide)]) ?_
                        obtain ⟨h173, hf⟩ := f_gd hf
                        obtain ⟨I174, hI174, hf⟩ := f_lt hf
                        refine x_iast (j0 := ((w4 + (4 : Int32))).toNatClampNeg) dX11_termStep_254 lm_1 h173 rfl hI174 ?_
                        refine x_aload_n 0 dX11_termStep_255 rfl rfl ?_
                        refine x_getR dX11_termStep_256 lm_0 fl_X11_7 rfl ?_
                        refine x_sipush (v := (1772)) dX11_termStep_259 (by decide) ?_
                        refine x_bipush (v := (6)) dX11_termStep_262 (by decide) ?_
                        refine x_aload_n 0 dX11_termStep_264 rfl rfl ?_
                        refine x_getR dX11_termStep_265 lm_0 fl_X11_44 rfl ?_
                        refine x_aload_n 0 dX11_termStep_268 rfl rfl ?_
                        refine x_getI (v := (((q166.2 0 22) + (1 : Int32)) - (1 : Int32))) dX11_termStep_269 lm_0 fl_X11_284 rfl (by rw [hI174, z2_o (by decide), hI171, z2_s, z1_s]) ?_
                        refine x_iald (j := ((((q166.2 0 22) + (1 : Int32)) - (1 : Int32))).toNatClampNeg) (v := (I169 8 ((((q166.2 0 22) + (1 : Int32)) - (1 : Int32))).toNatClampNeg)) dX11_termStep_272 lm_8 h172 rfl (by rw [hI174, z2_o (by decide), hI171, z2_o (by decide), hI170, z2_o (by decide)]) ?_
                        refine x_imul dX11_termStep_273 ?_
                        refine x_iadd dX11_termStep_274 ?_
                        refine x_iconst (v := (4)) dX11_termStep_275 (by decide) ?_
                        refine x_iadd dX11_termStep_276 ?_
                        refine x_iload_n 2 dX11_termStep_277 rfl rfl ?_
                        obtain ⟨h176, hf⟩ := f_gd hf
                        obtain ⟨I177, hI177, hf⟩ := f_lt hf
                        refine x_iast (j0 := ((((1772 : Int32) + ((6 : Int32) * (I169 8 ((((q166.2 0 22) + (1 : Int32)) - (1 : Int32))).toNatClampNeg))) + (4 : Int32))).toNatClampNeg) dX11_termStep_278 lm_1 h176 rfl hI177 ?_
                        refine x_aload_n 0 dX11_termStep_279 rfl rfl ?_
                        refine x_bipush (v := (59)) dX11_termStep_280 (by decide) ?_
                        obtain ⟨q178, hq179, hf⟩ := f_bd hf
                        refine x_callVi [.int (59 : Int32)] (c_X11_wantSign (I := I177) (L := L)  hq179) dX11_termStep_282 lk_X11_260 lm_0 rfl cd_X11_wantSign rfl rfl (Nat.le_of_ble_eq_true rfl) ⟨rfl, rfl, Nat.le_of_ble_eq_true rfl, Nat.le_of_ble_eq_true rfl⟩ ?_
                        cases hf
                        exact x_zret dX11_termStep_285 rfl rfl
                    · replace hf := f_el hB hf
                      refine x_iconst (v := (0)) dX11_termStep_195 (by decide) ?_
                      cases hf
                      exact x_zret (b := false) dX11_termStep_196 rfl rfl
              · replace hf := f_if hB hf
                refine x_aload_n 4 dX11_termStep_110 rfl rfl ?_
                refine x_bipush (v := (7)) dX11_termStep_111 (by decide) ?_
                refine x_callVi [.int (7 : Int32)] (c_X11_fails (I := I) (L := L) (7 : Int32)) dX11_termStep_113 lk_X11_181 lm_0 rfl cd_X11_fails rfl rfl (Nat.le_of_ble_eq_true rfl) ⟨rfl, rfl, Nat.le_of_ble_eq_true rfl, Nat.le_of_ble_eq_true rfl⟩ ?_
                cases hf
                exact x_zret dX11_termStep_116 rfl rfl
            · replace hf := f_if hB hf
              refine x_aload_n 4 dX11_termStep_90 rfl rfl ?_
              refine x_bipush (v := (6)) dX11_termStep_91 (by decide) ?_
              refine x_callVi [.int (6 : Int32)] (c_X11_fails (I := I) (L := L) (6 : Int32)) dX11_termStep_93 lk_X11_181 lm_0 rfl cd_X11_fails rfl rfl (Nat.le_of_ble_eq_true rfl) ⟨rfl, rfl, Nat.le_of_ble_eq_true rfl, Nat.le_of_ble_eq_true rfl⟩ ?_
              cases hf
              exact x_zret dX11_termStep_96 rfl rfl
        · replace hf := f_if hB hf
          refine x_aload_n 4 dX11_termStep_62 rfl rfl ?_
          refine x_getI (v := (I 0 22)) dX11_termStep_63 lm_0 fl_X11_284 rfl rfl ?_
          refine x_if_ne 75 dX11_termStep_66 (by decide) (fun hB => ?_) (fun hB => ?_)
          · replace hf := f_el hB hf
            refine x_iload_n 3 dX11_termStep_75 rfl rfl ?_
            refine x_bipush (v := (20)) dX11_termStep_76 (by decide) ?_
            refine x_icmp_eq 97 dX11_termStep_78 (by decide) (fun hB => ?_) (fun hB => ?_)
            · replace hf := f_if hB hf
              refine x_iload 0 dX11_termStep_97 rfl ?_
              refine x_if_eq 117 dX11_termStep_99 (by decide) (fun h => absurd h (by decide)) (fun _ => ?_)
              refine x_aload_n 4 dX11_termStep_102 rfl rfl ?_
              refine x_getI (v := (I 0 22)) dX11_termStep_103 lm_0 fl_X11_284 rfl rfl ?_
              refine x_iconst (v := (3)) dX11_termStep_106 (by decide) ?_
              refine x_icmp_ne 117 dX11_termStep_107 (by decide) (fun hB => ?_) (fun hB => ?_)
              · replace hf := f_el hB hf
                refine x_aload_n 4 dX11_termStep_117 rfl rfl ?_
                refine x_dup dX11_termStep_118 rfl ?_
                refine x_getI (v := (I 0 23)) dX11_termStep_119 lm_0 fl_X11_287 rfl rfl ?_
                refine x_iload_n 3 dX11_termStep_122 rfl rfl ?_
                refine x_bipush (v := (20)) dX11_termStep_123 (by decide) ?_
                refine x_icmp_ne 132 dX11_termStep_125 (by decide) (fun hB => ?_) (fun hB => ?_)
                · replace hf := f_el hB hf
                  refine x_iconst (v := (1)) dX11_termStep_132 (by decide) ?_
                  refine x_iadd dX11_termStep_133 ?_
                  obtain ⟨I32, hI32, hf⟩ := f_lt hf
                  refine x_putI dX11_termStep_134 lm_0 fl_X11_287 rfl rfl rfl hI32 ?_
                  refine x_aload_n 4 dX11_termStep_137 rfl rfl ?_
                  refine x_getR dX11_termStep_138 lm_0 fl_X11_7 rfl ?_
                  refine x_iload_n 1 dX11_termStep_141 rfl rfl ?_
                  refine x_iload_n 3 dX11_termStep_142 rfl rfl ?_
                  obtain ⟨h33, hf⟩ := f_gd hf
                  obtain ⟨I34, hI34, hf⟩ := f_lt hf
                  refine x_iast (j0 := (w4).toNatClampNeg) dX11_termStep_143 lm_1 h33 rfl hI34 ?_
                  refine x_iconst (v := (1)) dX11_termStep_144 (by decide) ?_
                  refine x_istore [(5, .int (1 : Int32)), (4, .int (1 : Int32)), (3, .int w4), (2, .int (I 1 1719)), (1, .int q1), (0, .ref 0)] dX11_termStep_145 (by decide) rfl ?_
                  refine x_lv [(0, .ref 0), (1, .int q1), (2, .int (I 1 1719)), (3, .int w4), (4, .int (1 : Int32)), (5, .int (1 : Int32))] [5, 4, 3, 2, 1, 0] rfl ?_
                  refine l_X11_termStep_147 q1 (I 1 1719) w4 (1 : Int32) (L) _ ?_ _ _ _ hf
                  · intro I_35 hf
                    refine x_aload_n 0 dX11_termStep_170 rfl rfl ?_
                    refine x_getR dX11_termStep_171 lm_0 fl_X11_7 rfl ?_
                    refine x_sipush (v := (1719)) dX11_termStep_174 (by decide) ?_
                    refine x_dup2 dX11_termStep_177 rfl rfl ?_
                    refine x_iald (j := 1719) (v := (I_35 1 1719)) dX11_termStep_178 lm_1 (by decide +kernel) (by decide +kernel) rfl ?_
                    refine x_iconst (v := (1)) dX11_termStep_179 (by decide) ?_
                    refine x_iadd dX11_termStep_180 ?_
                    obtain ⟨I38, hI38, hf⟩ := f_lt hf
                    refine x_iast (j0 := 1719) dX11_termStep_181 lm_1 (by decide +kernel) (by decide +kernel) hI38 ?_
                    refine x_aload_n 0 dX11_termStep_182 rfl rfl ?_
                    obtain ⟨q39, hq40, hf⟩ := f_bd hf
                    refine x_callVv [] (c_X11_ahead (I := I38) (L := L)  hq40) dX11_termStep_183 lk_X11_175 lm_0 rfl cd_X11_ahead rfl rfl (Nat.le_of_ble_eq_true rfl) ⟨rfl, rfl, Nat.le_of_ble_eq_true rfl, Nat.le_of_ble_eq_true rfl⟩ ?_
                    refine x_aload_n 0 dX11_termStep_186 rfl rfl ?_
                    refine x_iload_n 1 dX11_termStep_187 rfl rfl ?_
                    refine x_iload_n 3 dX11_termStep_188 rfl rfl ?_
                    obtain ⟨q41, hq42, hf⟩ := f_bd hf
                    refine x_callVi [.int q1, .int w4] (c_X11_termOrder (I := q39) (L := L)  hq42) dX11_termStep_189 lk_X11_290 lm_0 rfl cd_X11_termOrder rfl rfl (Nat.le_of_ble_eq_true rfl) ⟨rfl, rfl, Nat.le_of_ble_eq_true rfl, Nat.le_of_ble_eq_true rfl⟩ ?_
                    refine x_if_neB 197 dX11_termStep_192 (by decide) (fun hB => ?_) (fun hB => ?_)
                    · replace hf := f_if hB hf
                      refine x_iload 4 dX11_termStep_197 rfl ?_
                      refine x_if_eq 222 dX11_termStep_199 (by decide) (fun h => absurd h (by decide)) (fun _ => ?_)
                      refine x_aload_n 0 dX11_termStep_202 rfl rfl ?_
                      refine x_getR dX11_termStep_203 lm_0 fl_X11_44 rfl ?_
                      refine x_aload_n 0 dX11_termStep_206 rfl rfl ?_
                      refine x_getI (v := (q41.2 0 22)) dX11_termStep_207 lm_0 fl_X11_284 rfl rfl ?_
                      refine x_iload_n 2 dX11_termStep_210 rfl rfl ?_
                      obtain ⟨h43, hf⟩ := f_gd hf
                      obtain ⟨I44, hI44, hf⟩ := f_lt hf
                      refine x_iast (j0 := ((q41.2 0 22)).toNatClampNeg) dX11_termStep_211 lm_8 h43 rfl hI44 ?_
                      refine x_aload_n 0 dX11_termStep_212 rfl rfl ?_
                      refine x_dup dX11_termStep_213 rfl ?_
                      refine x_getI (v := (q41.2 0 22)) dX11_termStep_214 lm_0 fl_X11_284 rfl (by rw [hI44, z2_o (by decide)]) ?_
                      refine x_iconst (v := (1)) dX11_termStep_217 (by decide) ?_
                      refine x_iadd dX11_termStep_218 ?_
                      obtain ⟨I45, hI45, hf⟩ := f_lt hf
                      refine x_putI dX11_termStep_219 lm_0 fl_X11_284 rfl rfl rfl hI45 ?_
                      refine x_iload_n 1 dX11_termStep_222 rfl rfl ?_
                      refine x_bipush (v := (20)) dX11_termStep_223 (by decide) ?_
                      refine x_icmp_ne 279 dX11_termStep_225 (by decide) (fun hB => ?_) (fun hB => ?_)
                      · replace hf := f_el hB hf
                        refine x_aload_n 0 dX11_termStep_279 rfl rfl ?_
                        refine x_bipush (v := (59)) dX11_termStep_280 (by decide) ?_
                        obtain ⟨q55, hq56, hf⟩ := f_bd hf
                        refine x_callVi [.int (59 : Int32)] (c_X11_wantSign (I := I45) (L := L)  hq56) dX11_termStep_282 lk_X11_260 lm_0 rfl cd_X11_wantSign rfl rfl (Nat.le_of_ble_eq_true rfl) ⟨rfl, rfl, Nat.le_of_ble_eq_true rfl, Nat.le_of_ble_eq_true rfl⟩ ?_
                        cases hf
                        exact x_zret dX11_termStep_285 rfl rfl
                      · replace hf := f_if hB hf
                        refine x_aload_n 0 dX11_termStep_228 rfl rfl ?_
                        refine x_dup dX11_termStep_229 rfl ?_
                        refine x_getI (v := ((q41.2 0 22) + (1 : Int32))) dX11_termStep_230 lm_0 fl_X11_284 rfl (by rw [hI45, z2_s, z1_s]) ?_
                        refine x_iconst (v := (1)) dX11_termStep_233 (by decide) ?_
                        refine x_isub dX11_termStep_234 ?_
                        obtain ⟨I46, hI46, hf⟩ := f_lt hf
                        refine x_putI dX11_termStep_235 lm_0 fl_X11_284 rfl rfl rfl hI46 ?_
                        refine x_aload_n 0 dX11_termStep_238 rfl rfl ?_
                        refine x_getR dX11_termStep_239 lm_0 fl_X11_7 rfl ?_
                        refine x_iload_n 3 dX11_termStep_242 rfl rfl ?_
                        refine x_iconst (v := (4)) dX11_termStep_243 (by decide) ?_
                        refine x_iadd dX11_termStep_244 ?_
                        refine x_aload_n 0 dX11_termStep_245 rfl rfl ?_
                        refine x_getR dX11_termStep_246 lm_0 fl_X11_44 rfl ?_
                        refine x_aload_n 0 dX11_termStep_249 rfl rfl ?_
                        refine x_getI (v := (((q41.2 0 22) + (1 : Int32)) - (1 : Int32))) dX11_termStep_250 lm_0 fl_X11_284 rfl (by rw [hI46, z2_s, z1_s]) ?_
                        obtain ⟨h47, hf⟩ := f_gd hf
                        refine x_iald (j := ((((q41.2 0 22) + (1 : Int32)) - (1 : Int32))).toNatClampNeg) (v := (I44 8 ((((q41.2 0 22) + (1 : Int32)) - (1 : Int32))).toNatClampNeg)) dX11_termStep_253 lm_8 h47 rfl (by rw [hI46, z2_o (by decide), hI45, z2_o (by decide)]) ?_
                        obtain ⟨h48, hf⟩ := f_gd hf
                        obtain ⟨I49, hI49, hf⟩ := f_lt hf
                        refine x_iast (j0 := ((w4 + (4 : Int32))).toNatClampNeg) dX11_termStep_254 lm_1 h48 rfl hI49 ?_
                        refine x_aload_n 0 dX11_termStep_255 rfl rfl ?_
                        refine x_getR dX11_termStep_256 lm_0 fl_X11_7 rfl ?_
                        refine x_sipush (v := (1772)) dX11_termStep_259 (by decide) ?_
                        refine x_bipush (v := (6)) dX11_termStep_262 (by decide) ?_
                        refine x_aload_n 0 dX11_termStep_264 rfl rfl ?_
                        refine x_getR dX11_termStep_265 lm_0 fl_X11_44 rfl ?_
                        refine x_aload_n 0 dX11_termStep_268 rfl rfl ?_
                        refine x_getI (v := (((q41.2 0 22) + (1 : Int32)) - (1 : Int32))) dX11_termStep_269 lm_0 fl_X11_284 rfl (by rw [hI49, z2_o (by decide), hI46, z2_s, z1_s]) ?_
                        refine x_iald (j := ((((q41.2 0 22) + (1 : Int32)) - (1 : Int32))).toNatClampNeg) (v := (I44 8 ((((q41.2 0 22) + (1 : Int32)) - (1 : Int32))).toNatClampNeg)) dX11_termStep_272 lm_8 h47 rfl (by rw [hI49, z2_o (by decide), hI46, z2_o (by decide), hI45, z2_o (by decide)]) ?_
                        refine x_imul dX11_termStep_273 ?_
                        refine x_iadd dX11_termStep_274 ?_
                        refine x_iconst (v := (4)) dX11_termStep_275 (by decide) ?_
                        refine x_iadd dX11_termStep_276 ?_
                        refine x_iload_n 2 dX11_termStep_277 rfl rfl ?_
                        obtain ⟨h51, hf⟩ := f_gd hf
                        obtain ⟨I52, hI52, hf⟩ := f_lt hf
                        refine x_iast (j0 := ((((1772 : Int32) + ((6 : Int32) * (I44 8 ((((q41.2 0 22) + (1 : Int32)) - (1 : Int32))).toNatClampNeg))) + (4 : Int32))).toNatClampNeg) dX11_termStep_278 lm_1 h51 rfl hI52 ?_
                        refine x_aload_n 0 dX11_termStep_279 rfl rfl ?_
                        refine x_bipush (v := (59)) dX11_termStep_280 (by decide) ?_
                        obtain ⟨q53, hq54, hf⟩ := f_bd hf
                        refine x_callVi [.int (59 : Int32)] (c_X11_wantSign (I := I52) (L := L)  hq54) dX11_termStep_282 lk_X11_260 lm_0 rfl cd_X11_wantSign rfl rfl (Nat.le_of_ble_eq_true rfl) ⟨rfl, rfl, Nat.le_of_ble_eq_true rfl, Nat.le_of_ble_eq_true rfl⟩ ?_
                        cases hf
                        exact x_zret dX11_termStep_285 rfl rfl
                    · replace hf := f_el hB hf
                      refine x_iconst (v := (0)) dX11_termStep_195 (by decide) ?_
                      cases hf
                      exact x_zret (b := false) dX11_termStep_196 rfl rfl
                · replace hf := f_if hB hf
                  refine x_iconst (v := (0)) dX11_termStep_128 (by decide) ?_
                  refine x_goto 133 dX11_termStep_129 (by decide) ?_
                  refine x_iadd dX11_termStep_133 ?_
                  obtain ⟨I5, hI5, hf⟩ := f_lt hf
                  refine x_putI dX11_termStep_134 lm_0 fl_X11_287 rfl rfl rfl hI5 ?_
                  refine x_aload_n 4 dX11_termStep_137 rfl rfl ?_
                  refine x_getR dX11_termStep_138 lm_0 fl_X11_7 rfl ?_
                  refine x_iload_n 1 dX11_termStep_141 rfl rfl ?_
                  refine x_iload_n 3 dX11_termStep_142 rfl rfl ?_
                  obtain ⟨h6, hf⟩ := f_gd hf
                  obtain ⟨I7, hI7, hf⟩ := f_lt hf
                  refine x_iast (j0 := (w4).toNatClampNeg) dX11_termStep_143 lm_1 h6 rfl hI7 ?_
                  refine x_iconst (v := (1)) dX11_termStep_144 (by decide) ?_
                  refine x_istore [(5, .int (1 : Int32)), (4, .int (1 : Int32)), (3, .int w4), (2, .int (I 1 1719)), (1, .int q1), (0, .ref 0)] dX11_termStep_145 (by decide) rfl ?_
                  refine x_lv [(0, .ref 0), (1, .int q1), (2, .int (I 1 1719)), (3, .int w4), (4, .int (1 : Int32)), (5, .int (1 : Int32))] [5, 4, 3, 2, 1, 0] rfl ?_
                  refine l_X11_termStep_147 q1 (I 1 1719) w4 (1 : Int32) (L) _ ?_ _ _ _ hf
                  · intro I_10 hf
                    refine x_aload_n 0 dX11_termStep_170 rfl rfl ?_
                    refine x_getR dX11_termStep_171 lm_0 fl_X11_7 rfl ?_
                    refine x_sipush (v := (1719)) dX11_termStep_174 (by decide) ?_
                    refine x_dup2 dX11_termStep_177 rfl rfl ?_
                    refine x_iald (j := 1719) (v := (I_10 1 1719)) dX11_termStep_178 lm_1 (by decide +kernel) (by decide +kernel) rfl ?_
                    refine x_iconst (v := (1)) dX11_termStep_179 (by decide) ?_
                    refine x_iadd dX11_termStep_180 ?_
                    obtain ⟨I13, hI13, hf⟩ := f_lt hf
                    refine x_iast (j0 := 1719) dX11_termStep_181 lm_1 (by decide +kernel) (by decide +kernel) hI13 ?_
                    refine x_aload_n 0 dX11_termStep_182 rfl rfl ?_
                    obtain ⟨q14, hq15, hf⟩ := f_bd hf
                    refine x_callVv [] (c_X11_ahead (I := I13) (L := L)  hq15) dX11_termStep_183 lk_X11_175 lm_0 rfl cd_X11_ahead rfl rfl (Nat.le_of_ble_eq_true rfl) ⟨rfl, rfl, Nat.le_of_ble_eq_true rfl, Nat.le_of_ble_eq_true rfl⟩ ?_
                    refine x_aload_n 0 dX11_termStep_186 rfl rfl ?_
                    refine x_iload_n 1 dX11_termStep_187 rfl rfl ?_
                    refine x_iload_n 3 dX11_termStep_188 rfl rfl ?_
                    obtain ⟨q16, hq17, hf⟩ := f_bd hf
                    refine x_callVi [.int q1, .int w4] (c_X11_termOrder (I := q14) (L := L)  hq17) dX11_termStep_189 lk_X11_290 lm_0 rfl cd_X11_termOrder rfl rfl (Nat.le_of_ble_eq_true rfl) ⟨rfl, rfl, Nat.le_of_ble_eq_true rfl, Nat.le_of_ble_eq_true rfl⟩ ?_
                    refine x_if_neB 197 dX11_termStep_192 (by decide) (fun hB => ?_) (fun hB => ?_)
                    · replace hf := f_if hB hf
                      refine x_iload 4 dX11_termStep_197 rfl ?_
                      refine x_if_eq 222 dX11_termStep_199 (by decide) (fun h => absurd h (by decide)) (fun _ => ?_)
                      refine x_aload_n 0 dX11_termStep_202 rfl rfl ?_
                      refine x_getR dX11_termStep_203 lm_0 fl_X11_44 rfl ?_
                      refine x_aload_n 0 dX11_termStep_206 rfl rfl ?_
                      refine x_getI (v := (q16.2 0 22)) dX11_termStep_207 lm_0 fl_X11_284 rfl rfl ?_
                      refine x_iload_n 2 dX11_termStep_210 rfl rfl ?_
                      obtain ⟨h18, hf⟩ := f_gd hf
                      obtain ⟨I19, hI19, hf⟩ := f_lt hf
                      refine x_iast (j0 := ((q16.2 0 22)).toNatClampNeg) dX11_termStep_211 lm_8 h18 rfl hI19 ?_
                      refine x_aload_n 0 dX11_termStep_212 rfl rfl ?_
                      refine x_dup dX11_termStep_213 rfl ?_
                      refine x_getI (v := (q16.2 0 22)) dX11_termStep_214 lm_0 fl_X11_284 rfl (by rw [hI19, z2_o (by decide)]) ?_
                      refine x_iconst (v := (1)) dX11_termStep_217 (by decide) ?_
                      refine x_iadd dX11_termStep_218 ?_
                      obtain ⟨I20, hI20, hf⟩ := f_lt hf
                      refine x_putI dX11_termStep_219 lm_0 fl_X11_284 rfl rfl rfl hI20 ?_
                      refine x_iload_n 1 dX11_termStep_222 rfl rfl ?_
                      refine x_bipush (v := (20)) dX11_termStep_223 (by decide) ?_
                      refine x_icmp_ne 279 dX11_termStep_225 (by decide) (fun hB => ?_) (fun hB => ?_)
                      · replace hf := f_el hB hf
                        refine x_aload_n 0 dX11_termStep_279 rfl rfl ?_
                        refine x_bipush (v := (59)) dX11_termStep_280 (by decide) ?_
                        obtain ⟨q30, hq31, hf⟩ := f_bd hf
                        refine x_callVi [.int (59 : Int32)] (c_X11_wantSign (I := I20) (L := L)  hq31) dX11_termStep_282 lk_X11_260 lm_0 rfl cd_X11_wantSign rfl rfl (Nat.le_of_ble_eq_true rfl) ⟨rfl, rfl, Nat.le_of_ble_eq_true rfl, Nat.le_of_ble_eq_true rfl⟩ ?_
                        cases hf
                        exact x_zret dX11_termStep_285 rfl rfl
                      · replace hf := f_if hB hf
                        refine x_aload_n 0 dX11_termStep_228 rfl rfl ?_
                        refine x_dup dX11_termStep_229 rfl ?_
                        refine x_getI (v := ((q16.2 0 22) + (1 : Int32))) dX11_termStep_230 lm_0 fl_X11_284 rfl (by rw [hI20, z2_s, z1_s]) ?_
                        refine x_iconst (v := (1)) dX11_termStep_233 (by decide) ?_
                        refine x_isub dX11_termStep_234 ?_
                        obtain ⟨I21, hI21, hf⟩ := f_lt hf
                        refine x_putI dX11_termStep_235 lm_0 fl_X11_284 rfl rfl rfl hI21 ?_
                        refine x_aload_n 0 dX11_termStep_238 rfl rfl ?_
                        refine x_getR dX11_termStep_239 lm_0 fl_X11_7 rfl ?_
                        refine x_iload_n 3 dX11_termStep_242 rfl rfl ?_
                        refine x_iconst (v := (4)) dX11_termStep_243 (by decide) ?_
                        refine x_iadd dX11_termStep_244 ?_
                        refine x_aload_n 0 dX11_termStep_245 rfl rfl ?_
                        refine x_getR dX11_termStep_246 lm_0 fl_X11_44 rfl ?_
                        refine x_aload_n 0 dX11_termStep_249 rfl rfl ?_
                        refine x_getI (v := (((q16.2 0 22) + (1 : Int32)) - (1 : Int32))) dX11_termStep_250 lm_0 fl_X11_284 rfl (by rw [hI21, z2_s, z1_s]) ?_
                        obtain ⟨h22, hf⟩ := f_gd hf
                        refine x_iald (j := ((((q16.2 0 22) + (1 : Int32)) - (1 : Int32))).toNatClampNeg) (v := (I19 8 ((((q16.2 0 22) + (1 : Int32)) - (1 : Int32))).toNatClampNeg)) dX11_termStep_253 lm_8 h22 rfl (by rw [hI21, z2_o (by decide), hI20, z2_o (by decide)]) ?_
                        obtain ⟨h23, hf⟩ := f_gd hf
                        obtain ⟨I24, hI24, hf⟩ := f_lt hf
                        refine x_iast (j0 := ((w4 + (4 : Int32))).toNatClampNeg) dX11_termStep_254 lm_1 h23 rfl hI24 ?_
                        refine x_aload_n 0 dX11_termStep_255 rfl rfl ?_
                        refine x_getR dX11_termStep_256 lm_0 fl_X11_7 rfl ?_
                        refine x_sipush (v := (1772)) dX11_termStep_259 (by decide) ?_
                        refine x_bipush (v := (6)) dX11_termStep_262 (by decide) ?_
                        refine x_aload_n 0 dX11_termStep_264 rfl rfl ?_
                        refine x_getR dX11_termStep_265 lm_0 fl_X11_44 rfl ?_
                        refine x_aload_n 0 dX11_termStep_268 rfl rfl ?_
                        refine x_getI (v := (((q16.2 0 22) + (1 : Int32)) - (1 : Int32))) dX11_termStep_269 lm_0 fl_X11_284 rfl (by rw [hI24, z2_o (by decide), hI21, z2_s, z1_s]) ?_
                        refine x_iald (j := ((((q16.2 0 22) + (1 : Int32)) - (1 : Int32))).toNatClampNeg) (v := (I19 8 ((((q16.2 0 22) + (1 : Int32)) - (1 : Int32))).toNatClampNeg)) dX11_termStep_272 lm_8 h22 rfl (by rw [hI24, z2_o (by decide), hI21, z2_o (by decide), hI20, z2_o (by decide)]) ?_
                        refine x_imul dX11_termStep_273 ?_
                        refine x_iadd dX11_termStep_274 ?_
                        refine x_iconst (v := (4)) dX11_termStep_275 (by decide) ?_
                        refine x_iadd dX11_termStep_276 ?_
                        refine x_iload_n 2 dX11_termStep_277 rfl rfl ?_
                        obtain ⟨h26, hf⟩ := f_gd hf
                        obtain ⟨I27, hI27, hf⟩ := f_lt hf
                        refine x_iast (j0 := ((((1772 : Int32) + ((6 : Int32) * (I19 8 ((((q16.2 0 22) + (1 : Int32)) - (1 : Int32))).toNatClampNeg))) + (4 : Int32))).toNatClampNeg) dX11_termStep_278 lm_1 h26 rfl hI27 ?_
                        refine x_aload_n 0 dX11_termStep_279 rfl rfl ?_
                        refine x_bipush (v := (59)) dX11_termStep_280 (by decide) ?_
                        obtain ⟨q28, hq29, hf⟩ := f_bd hf
                        refine x_callVi [.int (59 : Int32)] (c_X11_wantSign (I := I27) (L := L)  hq29) dX11_termStep_282 lk_X11_260 lm_0 rfl cd_X11_wantSign rfl rfl (Nat.le_of_ble_eq_true rfl) ⟨rfl, rfl, Nat.le_of_ble_eq_true rfl, Nat.le_of_ble_eq_true rfl⟩ ?_
                        cases hf
                        exact x_zret dX11_termStep_285 rfl rfl
                    · replace hf := f_el hB hf
                      refine x_iconst (v := (0)) dX11_termStep_195 (by decide) ?_
                      cases hf
                      exact x_zret (b := false) dX11_termStep_196 rfl rfl
              · replace hf := f_if hB hf
                refine x_aload_n 4 dX11_termStep_110 rfl rfl ?_
                refine x_bipush (v := (7)) dX11_termStep_111 (by decide) ?_
                refine x_callVi [.int (7 : Int32)] (c_X11_fails (I := I) (L := L) (7 : Int32)) dX11_termStep_113 lk_X11_181 lm_0 rfl cd_X11_fails rfl rfl (Nat.le_of_ble_eq_true rfl) ⟨rfl, rfl, Nat.le_of_ble_eq_true rfl, Nat.le_of_ble_eq_true rfl⟩ ?_
                cases hf
                exact x_zret dX11_termStep_116 rfl rfl
            · replace hf := f_el hB hf
              refine x_aload_n 4 dX11_termStep_81 rfl rfl ?_
              refine x_getI (v := (I 0 23)) dX11_termStep_82 lm_0 fl_X11_287 rfl rfl ?_
              refine x_bipush (v := (30)) dX11_termStep_85 (by decide) ?_
              refine x_icmp_ne 97 dX11_termStep_87 (by decide) (fun hB => ?_) (fun hB => ?_)
              · replace hf := f_el hB hf
                refine x_iload 0 dX11_termStep_97 rfl ?_
                refine x_if_eq 117 dX11_termStep_99 (by decide) (fun h => absurd h (by decide)) (fun _ => ?_)
                refine x_aload_n 4 dX11_termStep_102 rfl rfl ?_
                refine x_getI (v := (I 0 22)) dX11_termStep_103 lm_0 fl_X11_284 rfl rfl ?_
                refine x_iconst (v := (3)) dX11_termStep_106 (by decide) ?_
                refine x_icmp_ne 117 dX11_termStep_107 (by decide) (fun hB => ?_) (fun hB => ?_)
                · replace hf := f_el hB hf
                  refine x_aload_n 4 dX11_termStep_117 rfl rfl ?_
                  refine x_dup dX11_termStep_118 rfl ?_
                  refine x_getI (v := (I 0 23)) dX11_termStep_119 lm_0 fl_X11_287 rfl rfl ?_
                  refine x_iload_n 3 dX11_termStep_122 rfl rfl ?_
                  refine x_bipush (v := (20)) dX11_termStep_123 (by decide) ?_
                  refine x_icmp_ne 132 dX11_termStep_125 (by decide) (fun hB => ?_) (fun hB => ?_)
                  · replace hf := f_el hB hf
                    refine x_iconst (v := (1)) dX11_termStep_132 (by decide) ?_
                    refine x_iadd dX11_termStep_133 ?_
                    obtain ⟨I82, hI82, hf⟩ := f_lt hf
                    refine x_putI dX11_termStep_134 lm_0 fl_X11_287 rfl rfl rfl hI82 ?_
                    refine x_aload_n 4 dX11_termStep_137 rfl rfl ?_
                    refine x_getR dX11_termStep_138 lm_0 fl_X11_7 rfl ?_
                    refine x_iload_n 1 dX11_termStep_141 rfl rfl ?_
                    refine x_iload_n 3 dX11_termStep_142 rfl rfl ?_
                    obtain ⟨h83, hf⟩ := f_gd hf
                    obtain ⟨I84, hI84, hf⟩ := f_lt hf
                    refine x_iast (j0 := (w4).toNatClampNeg) dX11_termStep_143 lm_1 h83 rfl hI84 ?_
                    refine x_iconst (v := (1)) dX11_termStep_144 (by decide) ?_
                    refine x_istore [(5, .int (1 : Int32)), (4, .int (1 : Int32)), (3, .int w4), (2, .int (I 1 1719)), (1, .int q1), (0, .ref 0)] dX11_termStep_145 (by decide) rfl ?_
                    refine x_lv [(0, .ref 0), (1, .int q1), (2, .int (I 1 1719)), (3, .int w4), (4, .int (1 : Int32)), (5, .int (1 : Int32))] [5, 4, 3, 2, 1, 0] rfl ?_
                    refine l_X11_termStep_147 q1 (I 1 1719) w4 (1 : Int32) (L) _ ?_ _ _ _ hf
                    · intro I_85 hf
                      refine x_aload_n 0 dX11_termStep_170 rfl rfl ?_
                      refine x_getR dX11_termStep_171 lm_0 fl_X11_7 rfl ?_
                      refine x_sipush (v := (1719)) dX11_termStep_174 (by decide) ?_
                      refine x_dup2 dX11_termStep_177 rfl rfl ?_
                      refine x_iald (j := 1719) (v := (I_85 1 1719)) dX11_termStep_178 lm_1 (by decide +kernel) (by decide +kernel) rfl ?_
                      refine x_iconst (v := (1)) dX11_termStep_179 (by decide) ?_
                      refine x_iadd dX11_termStep_180 ?_
                      obtain ⟨I88, hI88, hf⟩ := f_lt hf
                      refine x_iast (j0 := 1719) dX11_termStep_181 lm_1 (by decide +kernel) (by decide +kernel) hI88 ?_
                      refine x_aload_n 0 dX11_termStep_182 rfl rfl ?_
                      obtain ⟨q89, hq90, hf⟩ := f_bd hf
                      refine x_callVv [] (c_X11_ahead (I := I88) (L := L)  hq90) dX11_termStep_183 lk_X11_175 lm_0 rfl cd_X11_ahead rfl rfl (Nat.le_of_ble_eq_true rfl) ⟨rfl, rfl, Nat.le_of_ble_eq_true rfl, Nat.le_of_ble_eq_true rfl⟩ ?_
                      refine x_aload_n 0 dX11_termStep_186 rfl rfl ?_
                      refine x_iload_n 1 dX11_termStep_187 rfl rfl ?_
                      refine x_iload_n 3 dX11_termStep_188 rfl rfl ?_
                      obtain ⟨q91, hq92, hf⟩ := f_bd hf
                      refine x_callVi [.int q1, .int w4] (c_X11_termOrder (I := q89) (L := L)  hq92) dX11_termStep_189 lk_X11_290 lm_0 rfl cd_X11_termOrder rfl rfl (Nat.le_of_ble_eq_true rfl) ⟨rfl, rfl, Nat.le_of_ble_eq_true rfl, Nat.le_of_ble_eq_true rfl⟩ ?_
                      refine x_if_neB 197 dX11_termStep_192 (by decide) (fun hB => ?_) (fun hB => ?_)
                      · replace hf := f_if hB hf
                        refine x_iload 4 dX11_termStep_197 rfl ?_
                        refine x_if_eq 222 dX11_termStep_199 (by decide) (fun h => absurd h (by decide)) (fun _ => ?_)
                        refine x_aload_n 0 dX11_termStep_202 rfl rfl ?_
                        refine x_getR dX11_termStep_203 lm_0 fl_X11_44 rfl ?_
                        refine x_aload_n 0 dX11_termStep_206 rfl rfl ?_
                        refine x_getI (v := (q91.2 0 22)) dX11_termStep_207 lm_0 fl_X11_284 rfl rfl ?_
                        refine x_iload_n 2 dX11_termStep_210 rfl rfl ?_
                        obtain ⟨h93, hf⟩ := f_gd hf
                        obtain ⟨I94, hI94, hf⟩ := f_lt hf
                        refine x_iast (j0 := ((q91.2 0 22)).toNatClampNeg) dX11_termStep_211 lm_8 h93 rfl hI94 ?_
                        refine x_aload_n 0 dX11_termStep_212 rfl rfl ?_
                        refine x_dup dX11_termStep_213 rfl ?_
                        refine x_getI (v := (q91.2 0 22)) dX11_termStep_214 lm_0 fl_X11_284 rfl (by rw [hI94, z2_o (by decide)]) ?_
                        refine x_iconst (v := (1)) dX11_termStep_217 (by decide) ?_
                        refine x_iadd dX11_termStep_218 ?_
                        obtain ⟨I95, hI95, hf⟩ := f_lt hf
                        refine x_putI dX11_termStep_219 lm_0 fl_X11_284 rfl rfl rfl hI95 ?_
                        refine x_iload_n 1 dX11_termStep_222 rfl rfl ?_
                        refine x_bipush (v := (20)) dX11_termStep_223 (by decide) ?_
                        refine x_icmp_ne 279 dX11_termStep_225 (by decide) (fun hB => ?_) (fun hB => ?_)
                        · replace hf := f_el hB hf
                          refine x_aload_n 0 dX11_termStep_279 rfl rfl ?_
                          refine x_bipush (v := (59)) dX11_termStep_280 (by decide) ?_
                          obtain ⟨q105, hq106, hf⟩ := f_bd hf
                          refine x_callVi [.int (59 : Int32)] (c_X11_wantSign (I := I95) (L := L)  hq106) dX11_termStep_282 lk_X11_260 lm_0 rfl cd_X11_wantSign rfl rfl (Nat.le_of_ble_eq_true rfl) ⟨rfl, rfl, Nat.le_of_ble_eq_true rfl, Nat.le_of_ble_eq_true rfl⟩ ?_
                          cases hf
                          exact x_zret dX11_termStep_285 rfl rfl
                        · replace hf := f_if hB hf
                          refine x_aload_n 0 dX11_termStep_228 rfl rfl ?_
                          refine x_dup dX11_termStep_229 rfl ?_
                          refine x_getI (v := ((q91.2 0 22) + (1 : Int32))) dX11_termStep_230 lm_0 fl_X11_284 rfl (by rw [hI95, z2_s, z1_s]) ?_
                          refine x_iconst (v := (1)) dX11_termStep_233 (by decide) ?_
                          refine x_isub dX11_termStep_234 ?_
                          obtain ⟨I96, hI96, hf⟩ := f_lt hf
                          refine x_putI dX11_termStep_235 lm_0 fl_X11_284 rfl rfl rfl hI96 ?_
                          refine x_aload_n 0 dX11_termStep_238 rfl rfl ?_
                          refine x_getR dX11_termStep_239 lm_0 fl_X11_7 rfl ?_
                          refine x_iload_n 3 dX11_termStep_242 rfl rfl ?_
                          refine x_iconst (v := (4)) dX11_termStep_243 (by decide) ?_
                          refine x_iadd dX11_termStep_244 ?_
                          refine x_aload_n 0 dX11_termStep_245 rfl rfl ?_
                          refine x_getR dX11_termStep_246 lm_0 fl_X11_44 rfl ?_
                          refine x_aload_n 0 dX11_termStep_249 rfl rfl ?_
                          refine x_getI (v := (((q91.2 0 22) + (1 : Int32)) - (1 : Int32))) dX11_termStep_250 lm_0 fl_X11_284 rfl (by rw [hI96, z2_s, z1_s]) ?_
                          obtain ⟨h97, hf⟩ := f_gd hf
                          refine x_iald (j := ((((q91.2 0 22) + (1 : Int32)) - (1 : Int32))).toNatClampNeg) (v := (I94 8 ((((q91.2 0 22) + (1 : Int32)) - (1 : Int32))).toNatClampNeg)) dX11_termStep_253 lm_8 h97 rfl (by rw [hI96, z2_o (by decide), hI95, z2_o (by decide)]) ?_
                          obtain ⟨h98, hf⟩ := f_gd hf
                          obtain ⟨I99, hI99, hf⟩ := f_lt hf
                          refine x_iast (j0 := ((w4 + (4 : Int32))).toNatClampNeg) dX11_termStep_254 lm_1 h98 rfl hI99 ?_
                          refine x_aload_n 0 dX11_termStep_255 rfl rfl ?_
                          refine x_getR dX11_termStep_256 lm_0 fl_X11_7 rfl ?_
                          refine x_sipush (v := (1772)) dX11_termStep_259 (by decide) ?_
                          refine x_bipush (v := (6)) dX11_termStep_262 (by decide) ?_
                          refine x_aload_n 0 dX11_termStep_264 rfl rfl ?_
                          refine x_getR dX11_termStep_265 lm_0 fl_X11_44 rfl ?_
                          refine x_aload_n 0 dX11_termStep_268 rfl rfl ?_
                          refine x_getI (v := (((q91.2 0 22) + (1 : Int32)) - (1 : Int32))) dX11_termStep_269 lm_0 fl_X11_284 rfl (by rw [hI99, z2_o (by decide), hI96, z2_s, z1_s]) ?_
                          refine x_iald (j := ((((q91.2 0 22) + (1 : Int32)) - (1 : Int32))).toNatClampNeg) (v := (I94 8 ((((q91.2 0 22) + (1 : Int32)) - (1 : Int32))).toNatClampNeg)) dX11_termStep_272 lm_8 h97 rfl (by rw [hI99, z2_o (by decide), hI96, z2_o (by decide), hI95, z2_o (by decide)]) ?_
                          refine x_imul dX11_termStep_273 ?_
                          refine x_iadd dX11_termStep_274 ?_
                          refine x_iconst (v := (4)) dX11_termStep_275 (by decide) ?_
                          refine x_iadd dX11_termStep_276 ?_
                          refine x_iload_n 2 dX11_termStep_277 rfl rfl ?_
                          obtain ⟨h101, hf⟩ := f_gd hf
                          obtain ⟨I102, hI102, hf⟩ := f_lt hf
                          refine x_iast (j0 := ((((1772 : Int32) + ((6 : Int32) * (I94 8 ((((q91.2 0 22) + (1 : Int32)) - (1 : Int32))).toNatClampNeg))) + (4 : Int32))).toNatClampNeg) dX11_termStep_278 lm_1 h101 rfl hI102 ?_
                          refine x_aload_n 0 dX11_termStep_279 rfl rfl ?_
                          refine x_bipush (v := (59)) dX11_termStep_280 (by decide) ?_
                          obtain ⟨q103, hq104, hf⟩ := f_bd hf
                          refine x_callVi [.int (59 : Int32)] (c_X11_wantSign (I := I102) (L := L)  hq104) dX11_termStep_282 lk_X11_260 lm_0 rfl cd_X11_wantSign rfl rfl (Nat.le_of_ble_eq_true rfl) ⟨rfl, rfl, Nat.le_of_ble_eq_true rfl, Nat.le_of_ble_eq_true rfl⟩ ?_
                          cases hf
                          exact x_zret dX11_termStep_285 rfl rfl
                      · replace hf := f_el hB hf
                        refine x_iconst (v := (0)) dX11_termStep_195 (by decide) ?_
                        cases hf
                        exact x_zret (b := false) dX11_termStep_196 rfl rfl
                  · replace hf := f_if hB hf
                    refine x_iconst (v := (0)) dX11_termStep_128 (by decide) ?_
                    refine x_goto 133 dX11_termStep_129 (by decide) ?_
                    refine x_iadd dX11_termStep_133 ?_
                    obtain ⟨I57, hI57, hf⟩ := f_lt hf
                    refine x_putI dX11_termStep_134 lm_0 fl_X11_287 rfl rfl rfl hI57 ?_
                    refine x_aload_n 4 dX11_termStep_137 rfl rfl ?_
                    refine x_getR dX11_termStep_138 lm_0 fl_X11_7 rfl ?_
                    refine x_iload_n 1 dX11_termStep_141 rfl rfl ?_
                    refine x_iload_n 3 dX11_termStep_142 rfl rfl ?_
                    obtain ⟨h58, hf⟩ := f_gd hf
                    obtain ⟨I59, hI59, hf⟩ := f_lt hf
                    refine x_iast (j0 := (w4).toNatClampNeg) dX11_termStep_143 lm_1 h58 rfl hI59 ?_
                    refine x_iconst (v := (1)) dX11_termStep_144 (by decide) ?_
                    refine x_istore [(5, .int (1 : Int32)), (4, .int (1 : Int32)), (3, .int w4), (2, .int (I 1 1719)), (1, .int q1), (0, .ref 0)] dX11_termStep_145 (by decide) rfl ?_
                    refine x_lv [(0, .ref 0), (1, .int q1), (2, .int (I 1 1719)), (3, .int w4), (4, .int (1 : Int32)), (5, .int (1 : Int32))] [5, 4, 3, 2, 1, 0] rfl ?_
                    refine l_X11_termStep_147 q1 (I 1 1719) w4 (1 : Int32) (L) _ ?_ _ _ _ hf
                    · intro I_60 hf
                      refine x_aload_n 0 dX11_termStep_170 rfl rfl ?_
                      refine x_getR dX11_termStep_171 lm_0 fl_X11_7 rfl ?_
                      refine x_sipush (v := (1719)) dX11_termStep_174 (by decide) ?_
                      refine x_dup2 dX11_termStep_177 rfl rfl ?_
                      refine x_iald (j := 1719) (v := (I_60 1 1719)) dX11_termStep_178 lm_1 (by decide +kernel) (by decide +kernel) rfl ?_
                      refine x_iconst (v := (1)) dX11_termStep_179 (by decide) ?_
                      refine x_iadd dX11_termStep_180 ?_
                      obtain ⟨I63, hI63, hf⟩ := f_lt hf
                      refine x_iast (j0 := 1719) dX11_termStep_181 lm_1 (by decide +kernel) (by decide +kernel) hI63 ?_
                      refine x_aload_n 0 dX11_termStep_182 rfl rfl ?_
                      obtain ⟨q64, hq65, hf⟩ := f_bd hf
                      refine x_callVv [] (c_X11_ahead (I := I63) (L := L)  hq65) dX11_termStep_183 lk_X11_175 lm_0 rfl cd_X11_ahead rfl rfl (Nat.le_of_ble_eq_true rfl) ⟨rfl, rfl, Nat.le_of_ble_eq_true rfl, Nat.le_of_ble_eq_true rfl⟩ ?_
                      refine x_aload_n 0 dX11_termStep_186 rfl rfl ?_
                      refine x_iload_n 1 dX11_termStep_187 rfl rfl ?_
                      refine x_iload_n 3 dX11_termStep_188 rfl rfl ?_
                      obtain ⟨q66, hq67, hf⟩ := f_bd hf
                      refine x_callVi [.int q1, .int w4] (c_X11_termOrder (I := q64) (L := L)  hq67) dX11_termStep_189 lk_X11_290 lm_0 rfl cd_X11_termOrder rfl rfl (Nat.le_of_ble_eq_true rfl) ⟨rfl, rfl, Nat.le_of_ble_eq_true rfl, Nat.le_of_ble_eq_true rfl⟩ ?_
                      refine x_if_neB 197 dX11_termStep_192 (by decide) (fun hB => ?_) (fun hB => ?_)
                      · replace hf := f_if hB hf
                        refine x_iload 4 dX11_termStep_197 rfl ?_
                        refine x_if_eq 222 dX11_termStep_199 (by decide) (fun h => absurd h (by decide)) (fun _ => ?_)
                        refine x_aload_n 0 dX11_termStep_202 rfl rfl ?_
                        refine x_getR dX11_termStep_203 lm_0 fl_X11_44 rfl ?_
                        refine x_aload_n 0 dX11_termStep_206 rfl rfl ?_
                        refine x_getI (v := (q66.2 0 22)) dX11_termStep_207 lm_0 fl_X11_284 rfl rfl ?_
                        refine x_iload_n 2 dX11_termStep_210 rfl rfl ?_
                        obtain ⟨h68, hf⟩ := f_gd hf
                        obtain ⟨I69, hI69, hf⟩ := f_lt hf
                        refine x_iast (j0 := ((q66.2 0 22)).toNatClampNeg) dX11_termStep_211 lm_8 h68 rfl hI69 ?_
                        refine x_aload_n 0 dX11_termStep_212 rfl rfl ?_
                        refine x_dup dX11_termStep_213 rfl ?_
                        refine x_getI (v := (q66.2 0 22)) dX11_termStep_214 lm_0 fl_X11_284 rfl (by rw [hI69, z2_o (by decide)]) ?_
                        refine x_iconst (v := (1)) dX11_termStep_217 (by decide) ?_
                        refine x_iadd dX11_termStep_218 ?_
                        obtain ⟨I70, hI70, hf⟩ := f_lt hf
                        refine x_putI dX11_termStep_219 lm_0 fl_X11_284 rfl rfl rfl hI70 ?_
                        refine x_iload_n 1 dX11_termStep_222 rfl rfl ?_
                        refine x_bipush (v := (20)) dX11_termStep_223 (by decide) ?_
                        refine x_icmp_ne 279 dX11_termStep_225 (by decide) (fun hB => ?_) (fun hB => ?_)
                        · replace hf := f_el hB hf
                          refine x_aload_n 0 dX11_termStep_279 rfl rfl ?_
                          refine x_bipush (v := (59)) dX11_termStep_280 (by decide) ?_
                          obtain ⟨q80, hq81, hf⟩ := f_bd hf
                          refine x_callVi [.int (59 : Int32)] (c_X11_wantSign (I := I70) (L := L)  hq81) dX11_termStep_282 lk_X11_260 lm_0 rfl cd_X11_wantSign rfl rfl (Nat.le_of_ble_eq_true rfl) ⟨rfl, rfl, Nat.le_of_ble_eq_true rfl, Nat.le_of_ble_eq_true rfl⟩ ?_
                          cases hf
                          exact x_zret dX11_termStep_285 rfl rfl
                        · replace hf := f_if hB hf
                          refine x_aload_n 0 dX11_termStep_228 rfl rfl ?_
                          refine x_dup dX11_termStep_229 rfl ?_
                          refine x_getI (v := ((q66.2 0 22) + (1 : Int32))) dX11_termStep_230 lm_0 fl_X11_284 rfl (by rw [hI70, z2_s, z1_s]) ?_
                          refine x_iconst (v := (1)) dX11_termStep_233 (by decide) ?_
                          refine x_isub dX11_termStep_234 ?_
                          obtain ⟨I71, hI71, hf⟩ := f_lt hf
                          refine x_putI dX11_termStep_235 lm_0 fl_X11_284 rfl rfl rfl hI71 ?_
                          refine x_aload_n 0 dX11_termStep_238 rfl rfl ?_
                          refine x_getR dX11_termStep_239 lm_0 fl_X11_7 rfl ?_
                          refine x_iload_n 3 dX11_termStep_242 rfl rfl ?_
                          refine x_iconst (v := (4)) dX11_termStep_243 (by decide) ?_
                          refine x_iadd dX11_termStep_244 ?_
                          refine x_aload_n 0 dX11_termStep_245 rfl rfl ?_
                          refine x_getR dX11_termStep_246 lm_0 fl_X11_44 rfl ?_
                          refine x_aload_n 0 dX11_termStep_249 rfl rfl ?_
                          refine x_getI (v := (((q66.2 0 22) + (1 : Int32)) - (1 : Int32))) dX11_termStep_250 lm_0 fl_X11_284 rfl (by rw [hI71, z2_s, z1_s]) ?_
                          obtain ⟨h72, hf⟩ := f_gd hf
                          refine x_iald (j := ((((q66.2 0 22) + (1 : Int32)) - (1 : Int32))).toNatClampNeg) (v := (I69 8 ((((q66.2 0 22) + (1 : Int32)) - (1 : Int32))).toNatClampNeg)) dX11_termStep_253 lm_8 h72 rfl (by rw [hI71, z2_o (by decide), hI70, z2_o (by decide)]) ?_
                          obtain ⟨h73, hf⟩ := f_gd hf
                          obtain ⟨I74, hI74, hf⟩ := f_lt hf
                          refine x_iast (j0 := ((w4 + (4 : Int32))).toNatClampNeg) dX11_termStep_254 lm_1 h73 rfl hI74 ?_
                          refine x_aload_n 0 dX11_termStep_255 rfl rfl ?_
                          refine x_getR dX11_termStep_256 lm_0 fl_X11_7 rfl ?_
                          refine x_sipush (v := (1772)) dX11_termStep_259 (by decide) ?_
                          refine x_bipush (v := (6)) dX11_termStep_262 (by decide) ?_
                          refine x_aload_n 0 dX11_termStep_264 rfl rfl ?_
                          refine x_getR dX11_termStep_265 lm_0 fl_X11_44 rfl ?_
                          refine x_aload_n 0 dX11_termStep_268 rfl rfl ?_
                          refine x_getI (v := (((q66.2 0 22) + (1 : Int32)) - (1 : Int32))) dX11_termStep_269 lm_0 fl_X11_284 rfl (by rw [hI74, z2_o (by decide), hI71, z2_s, z1_s]) ?_
                          refine x_iald (j := ((((q66.2 0 22) + (1 : Int32)) - (1 : Int32))).toNatClampNeg) (v := (I69 8 ((((q66.2 0 22) + (1 : Int32)) - (1 : Int32))).toNatClampNeg)) dX11_termStep_272 lm_8 h72 rfl (by rw [hI74, z2_o (by decide), hI71, z2_o (by decide), hI70, z2_o (by decide)]) ?_
                          refine x_imul dX11_termStep_273 ?_
                          refine x_iadd dX11_termStep_274 ?_
                          refine x_iconst (v := (4)) dX11_termStep_275 (by decide) ?_
                          refine x_iadd dX11_termStep_276 ?_
                          refine x_iload_n 2 dX11_termStep_277 rfl rfl ?_
                          obtain ⟨h76, hf⟩ := f_gd hf
                          obtain ⟨I77, hI77, hf⟩ := f_lt hf
                          refine x_iast (j0 := ((((1772 : Int32) + ((6 : Int32) * (I69 8 ((((q66.2 0 22) + (1 : Int32)) - (1 : Int32))).toNatClampNeg))) + (4 : Int32))).toNatClampNeg) dX11_termStep_278 lm_1 h76 rfl hI77 ?_
                          refine x_aload_n 0 dX11_termStep_279 rfl rfl ?_
                          refine x_bipush (v := (59)) dX11_termStep_280 (by decide) ?_
                          obtain ⟨q78, hq79, hf⟩ := f_bd hf
                          refine x_callVi [.int (59 : Int32)] (c_X11_wantSign (I := I77) (L := L)  hq79) dX11_termStep_282 lk_X11_260 lm_0 rfl cd_X11_wantSign rfl rfl (Nat.le_of_ble_eq_true rfl) ⟨rfl, rfl, Nat.le_of_ble_eq_true rfl, Nat.le_of_ble_eq_true rfl⟩ ?_
                          cases hf
                          exact x_zret dX11_termStep_285 rfl rfl
                      · replace hf := f_el hB hf
                        refine x_iconst (v := (0)) dX11_termStep_195 (by decide) ?_
                        cases hf
                        exact x_zret (b := false) dX11_termStep_196 rfl rfl
                · replace hf := f_if hB hf
                  refine x_aload_n 4 dX11_termStep_110 rfl rfl ?_
                  refine x_bipush (v := (7)) dX11_termStep_111 (by decide) ?_
                  refine x_callVi [.int (7 : Int32)] (c_X11_fails (I := I) (L := L) (7 : Int32)) dX11_termStep_113 lk_X11_181 lm_0 rfl cd_X11_fails rfl rfl (Nat.le_of_ble_eq_true rfl) ⟨rfl, rfl, Nat.le_of_ble_eq_true rfl, Nat.le_of_ble_eq_true rfl⟩ ?_
                  cases hf
                  exact x_zret dX11_termStep_116 rfl rfl
              · replace hf := f_if hB hf
                refine x_aload_n 4 dX11_termStep_90 rfl rfl ?_
                refine x_bipush (v := (6)) dX11_termStep_91 (by decide) ?_
                refine x_callVi [.int (6 : Int32)] (c_X11_fails (I := I) (L := L) (6 : Int32)) dX11_termStep_93 lk_X11_181 lm_0 rfl cd_X11_fails rfl rfl (Nat.le_of_ble_eq_true rfl) ⟨rfl, rfl, Nat.le_of_ble_eq_true rfl, Nat.le_of_ble_eq_true rfl⟩ ?_
                cases hf
                exact x_zret dX11_termStep_96 rfl rfl
          · replace hf := f_if hB hf
            refine x_aload_n 4 dX11_termStep_69 rfl rfl ?_
            refine x_iconst (v := (2)) dX11_termStep_70 (by decide) ?_
            refine x_callVi [.int (2 : Int32)] (c_X11_fails (I := I) (L := L) (2 : Int32)) dX11_termStep_71 lk_X11_181 lm_0 rfl cd_X11_fails rfl rfl (Nat.le_of_ble_eq_true rfl) ⟨rfl, rfl, Nat.le_of_ble_eq_true rfl, Nat.le_of_ble_eq_true rfl⟩ ?_
            cases hf
            exact x_zret dX11_termStep_74 rfl rfl
  · replace hf := f_el hB hf
    refine x_iload_n 2 dX11_termStep_31 rfl rfl ?_
    refine x_bipush (v := (19)) dX11_termStep_32 (by decide) ?_
    refine x_icmp_ne 41 dX11_termStep_34 (by decide) (fun hB => ?_) (fun hB => ?_)
    · replace hf := f_el hB hf
      refine x_iconst (v := (0)) dX11_termStep_41 (by decide) ?_
      refine x_istore [(4, .int (0 : Int32)), (3, .int w4), (2, .int (I 1 1719)), (1, .int q1), (0, .ref 0)] dX11_termStep_42 (by decide) rfl ?_
      refine x_iload_n 3 dX11_termStep_44 rfl rfl ?_
      refine x_bipush (v := (12)) dX11_termStep_45 (by decide) ?_
      refine x_icmp_lt 69 dX11_termStep_47 (by decide) (fun hB => ?_) (fun hB => ?_)
      · replace hf := f_if hB hf
        refine x_aload_n 4 dX11_termStep_69 rfl rfl ?_
        refine x_iconst (v := (2)) dX11_termStep_70 (by decide) ?_
        refine x_callVi [.int (2 : Int32)] (c_X11_fails (I := I) (L := L) (2 : Int32)) dX11_termStep_71 lk_X11_181 lm_0 rfl cd_X11_fails rfl rfl (Nat.le_of_ble_eq_true rfl) ⟨rfl, rfl, Nat.le_of_ble_eq_true rfl, Nat.le_of_ble_eq_true rfl⟩ ?_
        cases hf
        exact x_zret dX11_termStep_74 rfl rfl
      · replace hf := f_el hB hf
        refine x_iload_n 3 dX11_termStep_50 rfl rfl ?_
        refine x_bipush (v := (21)) dX11_termStep_51 (by decide) ?_
        refine x_icmp_gt 69 dX11_termStep_53 (by decide) (fun hB => ?_) (fun hB => ?_)
        · replace hf := f_if hB hf
          refine x_aload_n 4 dX11_termStep_69 rfl rfl ?_
          refine x_iconst (v := (2)) dX11_termStep_70 (by decide) ?_
          refine x_callVi [.int (2 : Int32)] (c_X11_fails (I := I) (L := L) (2 : Int32)) dX11_termStep_71 lk_X11_181 lm_0 rfl cd_X11_fails rfl rfl (Nat.le_of_ble_eq_true rfl) ⟨rfl, rfl, Nat.le_of_ble_eq_true rfl, Nat.le_of_ble_eq_true rfl⟩ ?_
          cases hf
          exact x_zret dX11_termStep_74 rfl rfl
        · replace hf := f_el hB hf
          refine x_iload_n 3 dX11_termStep_56 rfl rfl ?_
          refine x_bipush (v := (20)) dX11_termStep_57 (by decide) ?_
          refine x_icmp_ne 75 dX11_termStep_59 (by decide) (fun hB => ?_) (fun hB => ?_)
          · replace hf := f_el hB hf
            refine x_iload_n 3 dX11_termStep_75 rfl rfl ?_
            refine x_bipush (v := (20)) dX11_termStep_76 (by decide) ?_
            refine x_icmp_eq 97 dX11_termStep_78 (by decide) (fun hB => ?_) (fun hB => ?_)
            · replace hf := f_if hB hf
              refine x_iload 0 dX11_termStep_97 rfl ?_
              refine x_if_eq 117 dX11_termStep_99 (by decide) (fun _ => ?_) (fun h => absurd h (by decide))
              refine x_aload_n 4 dX11_termStep_117 rfl rfl ?_
              refine x_dup dX11_termStep_118 rfl ?_
              refine x_getI (v := (I 0 23)) dX11_termStep_119 lm_0 fl_X11_287 rfl rfl ?_
              refine x_iload_n 3 dX11_termStep_122 rfl rfl ?_
              refine x_bipush (v := (20)) dX11_termStep_123 (by decide) ?_
              refine x_icmp_ne 132 dX11_termStep_125 (by decide) (fun hB => ?_) (fun hB => ?_)
              · replace hf := f_el hB hf
                refine x_iconst (v := (1)) dX11_termStep_132 (by decide) ?_
                refine x_iadd dX11_termStep_133 ?_
                obtain ⟨I517, hI517, hf⟩ := f_lt hf
                refine x_putI dX11_termStep_134 lm_0 fl_X11_287 rfl rfl rfl hI517 ?_
                refine x_aload_n 4 dX11_termStep_137 rfl rfl ?_
                refine x_getR dX11_termStep_138 lm_0 fl_X11_7 rfl ?_
                refine x_iload_n 1 dX11_termStep_141 rfl rfl ?_
                refine x_iload_n 3 dX11_termStep_142 rfl rfl ?_
                obtain ⟨h518, hf⟩ := f_gd hf
                obtain ⟨I519, hI519, hf⟩ := f_lt hf
                refine x_iast (j0 := (w4).toNatClampNeg) dX11_termStep_143 lm_1 h518 rfl hI519 ?_
                refine x_iconst (v := (1)) dX11_termStep_144 (by decide) ?_
                refine x_istore [(5, .int (1 : Int32)), (4, .int (0 : Int32)), (3, .int w4), (2, .int (I 1 1719)), (1, .int q1), (0, .ref 0)] dX11_termStep_145 (by decide) rfl ?_
                refine x_lv [(0, .ref 0), (1, .int q1), (2, .int (I 1 1719)), (3, .int w4), (4, .int (0 : Int32)), (5, .int (1 : Int32))] [5, 4, 3, 2, 1, 0] rfl ?_
                refine l_X11_termStep_147 q1 (I 1 1719) w4 (0 : Int32) (L) _ ?_ _ _ _ hf
                · intro I_520 hf
                  refine x_aload_n 0 dX11_termStep_170 rfl rfl ?_
                  refine x_getR dX11_termStep_171 lm_0 fl_X11_7 rfl ?_
                  refine x_sipush (v := (1719)) dX11_termStep_174 (by decide) ?_
                  refine x_dup2 dX11_termStep_177 rfl rfl ?_
                  refine x_iald (j := 1719) (v := (I_520 1 1719)) dX11_termStep_178 lm_1 (by decide +kernel) (by decide +kernel) rfl ?_
                  refine x_iconst (v := (1)) dX11_termStep_179 (by decide) ?_
                  refine x_iadd dX11_termStep_180 ?_
                  obtain ⟨I523, hI523, hf⟩ := f_lt hf
                  refine x_iast (j0 := 1719) dX11_termStep_181 lm_1 (by decide +kernel) (by decide +kernel) hI523 ?_
                  refine x_aload_n 0 dX11_termStep_182 rfl rfl ?_
                  obtain ⟨q524, hq525, hf⟩ := f_bd hf
                  refine x_callVv [] (c_X11_ahead (I := I523) (L := L)  hq525) dX11_termStep_183 lk_X11_175 lm_0 rfl cd_X11_ahead rfl rfl (Nat.le_of_ble_eq_true rfl) ⟨rfl, rfl, Nat.le_of_ble_eq_true rfl, Nat.le_of_ble_eq_true rfl⟩ ?_
                  refine x_aload_n 0 dX11_termStep_186 rfl rfl ?_
                  refine x_iload_n 1 dX11_termStep_187 rfl rfl ?_
                  refine x_iload_n 3 dX11_termStep_188 rfl rfl ?_
                  obtain ⟨q526, hq527, hf⟩ := f_bd hf
                  refine x_callVi [.int q1, .int w4] (c_X11_termOrder (I := q524) (L := L)  hq527) dX11_termStep_189 lk_X11_290 lm_0 rfl cd_X11_termOrder rfl rfl (Nat.le_of_ble_eq_true rfl) ⟨rfl, rfl, Nat.le_of_ble_eq_true rfl, Nat.le_of_ble_eq_true rfl⟩ ?_
                  refine x_if_neB 197 dX11_termStep_192 (by decide) (fun hB => ?_) (fun hB => ?_)
                  · replace hf := f_if hB hf
                    refine x_iload 4 dX11_termStep_197 rfl ?_
                    refine x_if_eq 222 dX11_termStep_199 (by decide) (fun _ => ?_) (fun h => absurd h (by decide))
                    refine x_iload_n 1 dX11_termStep_222 rfl rfl ?_
                    refine x_bipush (v := (20)) dX11_termStep_223 (by decide) ?_
                    refine x_icmp_ne 279 dX11_termStep_225 (by decide) (fun hB => ?_) (fun hB => ?_)
                    · replace hf := f_el hB hf
                      refine x_aload_n 0 dX11_termStep_279 rfl rfl ?_
                      refine x_bipush (v := (59)) dX11_termStep_280 (by decide) ?_
                      obtain ⟨q537, hq538, hf⟩ := f_bd hf
                      refine x_callVi [.int (59 : Int32)] (c_X11_wantSign (I := q526.2) (L := L)  hq538) dX11_termStep_282 lk_X11_260 lm_0 rfl cd_X11_wantSign rfl rfl (Nat.le_of_ble_eq_true rfl) ⟨rfl, rfl, Nat.le_of_ble_eq_true rfl, Nat.le_of_ble_eq_true rfl⟩ ?_
                      cases hf
                      exact x_zret dX11_termStep_285 rfl rfl
                    · replace hf := f_if hB hf
                      refine x_aload_n 0 dX11_termStep_228 rfl rfl ?_
                      refine x_dup dX11_termStep_229 rfl ?_
                      refine x_getI (v := (q526.2 0 22)) dX11_termStep_230 lm_0 fl_X11_284 rfl rfl ?_
                      refine x_iconst (v := (1)) dX11_termStep_233 (by decide) ?_
                      refine x_isub dX11_termStep_234 ?_
                      obtain ⟨I528, hI528, hf⟩ := f_lt hf
                      refine x_putI dX11_termStep_235 lm_0 fl_X11_284 rfl rfl rfl hI528 ?_
                      refine x_aload_n 0 dX11_termStep_238 rfl rfl ?_
                      refine x_getR dX11_termStep_239 lm_0 fl_X11_7 rfl ?_
                      refine x_iload_n 3 dX11_termStep_242 rfl rfl ?_
                      refine x_iconst (v := (4)) dX11_termStep_243 (by decide) ?_
                      refine x_iadd dX11_termStep_244 ?_
                      refine x_aload_n 0 dX11_termStep_245 rfl rfl ?_
                      refine x_getR dX11_termStep_246 lm_0 fl_X11_44 rfl ?_
                      refine x_aload_n 0 dX11_termStep_249 rfl rfl ?_
                      refine x_getI (v := ((q526.2 0 22) - (1 : Int32))) dX11_termStep_250 lm_0 fl_X11_284 rfl (by rw [hI528, z2_s, z1_s]) ?_
                      obtain ⟨h529, hf⟩ := f_gd hf
                      refine x_iald (j := (((q526.2 0 22) - (1 : Int32))).toNatClampNeg) (v := (q526.2 8 (((q526.2 0 22) - (1 : Int32))).toNatClampNeg)) dX11_termStep_253 lm_8 h529 rfl (by rw [hI528, z2_o (by decide)]) ?_
                      obtain ⟨h530, hf⟩ := f_gd hf
                      obtain ⟨I531, hI531, hf⟩ := f_lt hf
                      refine x_iast (j0 := ((w4 + (4 : Int32))).toNatClampNeg) dX11_termStep_254 lm_1 h530 rfl hI531 ?_
                      refine x_aload_n 0 dX11_termStep_255 rfl rfl ?_
                      refine x_getR dX11_termStep_256 lm_0 fl_X11_7 rfl ?_
                      refine x_sipush (v := (1772)) dX11_termStep_259 (by decide) ?_
                      refine x_bipush (v := (6)) dX11_termStep_262 (by decide) ?_
                      refine x_aload_n 0 dX11_termStep_264 rfl rfl ?_
                      refine x_getR dX11_termStep_265 lm_0 fl_X11_44 rfl ?_
                      refine x_aload_n 0 dX11_termStep_268 rfl rfl ?_
                      refine x_getI (v := ((q526.2 0 22) - (1 : Int32))) dX11_termStep_269 lm_0 fl_X11_284 rfl (by rw [hI531, z2_o (by decide), hI528, z2_s, z1_s]) ?_
                      refine x_iald (j := (((q526.2 0 22) - (1 : Int32))).toNatClampNeg) (v := (q526.2 8 (((q526.2 0 22) - (1 : Int32))).toNatClampNeg)) dX11_termStep_272 lm_8 h529 rfl (by rw [hI531, z2_o (by decide), hI528, z2_o (by decide)]) ?_
                      refine x_imul dX11_termStep_273 ?_
                      refine x_iadd dX11_termStep_274 ?_
                      refine x_iconst (v := (4)) dX11_termStep_275 (by decide) ?_
                      refine x_iadd dX11_termStep_276 ?_
                      refine x_iload_n 2 dX11_termStep_277 rfl rfl ?_
                      obtain ⟨h533, hf⟩ := f_gd hf
                      obtain ⟨I534, hI534, hf⟩ := f_lt hf
                      refine x_iast (j0 := ((((1772 : Int32) + ((6 : Int32) * (q526.2 8 (((q526.2 0 22) - (1 : Int32))).toNatClampNeg))) + (4 : Int32))).toNatClampNeg) dX11_termStep_278 lm_1 h533 rfl hI534 ?_
                      refine x_aload_n 0 dX11_termStep_279 rfl rfl ?_
                      refine x_bipush (v := (59)) dX11_termStep_280 (by decide) ?_
                      obtain ⟨q535, hq536, hf⟩ := f_bd hf
                      refine x_callVi [.int (59 : Int32)] (c_X11_wantSign (I := I534) (L := L)  hq536) dX11_termStep_282 lk_X11_260 lm_0 rfl cd_X11_wantSign rfl rfl (Nat.le_of_ble_eq_true rfl) ⟨rfl, rfl, Nat.le_of_ble_eq_true rfl, Nat.le_of_ble_eq_true rfl⟩ ?_
                      cases hf
                      exact x_zret dX11_termStep_285 rfl rfl
                  · replace hf := f_el hB hf
                    refine x_iconst (v := (0)) dX11_termStep_195 (by decide) ?_
                    cases hf
                    exact x_zret (b := false) dX11_termStep_196 rfl rfl
              · replace hf := f_if hB hf
                refine x_iconst (v := (0)) dX11_termStep_128 (by decide) ?_
                refine x_goto 133 dX11_termStep_129 (by decide) ?_
                refine x_iadd dX11_termStep_133 ?_
                obtain ⟨I495, hI495, hf⟩ := f_lt hf
                refine x_putI dX11_termStep_134 lm_0 fl_X11_287 rfl rfl rfl hI495 ?_
                refine x_aload_n 4 dX11_termStep_137 rfl rfl ?_
                refine x_getR dX11_termStep_138 lm_0 fl_X11_7 rfl ?_
                refine x_iload_n 1 dX11_termStep_141 rfl rfl ?_
                refine x_iload_n 3 dX11_termStep_142 rfl rfl ?_
                obtain ⟨h496, hf⟩ := f_gd hf
                obtain ⟨I497, hI497, hf⟩ := f_lt hf
                refine x_iast (j0 := (w4).toNatClampNeg) dX11_termStep_143 lm_1 h496 rfl hI497 ?_
                refine x_iconst (v := (1)) dX11_termStep_144 (by decide) ?_
                refine x_istore [(5, .int (1 : Int32)), (4, .int (0 : Int32)), (3, .int w4), (2, .int (I 1 1719)), (1, .int q1), (0, .ref 0)] dX11_termStep_145 (by decide) rfl ?_
                refine x_lv [(0, .ref 0), (1, .int q1), (2, .int (I 1 1719)), (3, .int w4), (4, .int (0 : Int32)), (5, .int (1 : Int32))] [5, 4, 3, 2, 1, 0] rfl ?_
                refine l_X11_termStep_147 q1 (I 1 1719) w4 (0 : Int32) (L) _ ?_ _ _ _ hf
                · intro I_498 hf
                  refine x_aload_n 0 dX11_termStep_170 rfl rfl ?_
                  refine x_getR dX11_termStep_171 lm_0 fl_X11_7 rfl ?_
                  refine x_sipush (v := (1719)) dX11_termStep_174 (by decide) ?_
                  refine x_dup2 dX11_termStep_177 rfl rfl ?_
                  refine x_iald (j := 1719) (v := (I_498 1 1719)) dX11_termStep_178 lm_1 (by decide +kernel) (by decide +kernel) rfl ?_
                  refine x_iconst (v := (1)) dX11_termStep_179 (by decide) ?_
                  refine x_iadd dX11_termStep_180 ?_
                  obtain ⟨I501, hI501, hf⟩ := f_lt hf
                  refine x_iast (j0 := 1719) dX11_termStep_181 lm_1 (by decide +kernel) (by decide +kernel) hI501 ?_
                  refine x_aload_n 0 dX11_termStep_182 rfl rfl ?_
                  obtain ⟨q502, hq503, hf⟩ := f_bd hf
                  refine x_callVv [] (c_X11_ahead (I := I501) (L := L)  hq503) dX11_termStep_183 lk_X11_175 lm_0 rfl cd_X11_ahead rfl rfl (Nat.le_of_ble_eq_true rfl) ⟨rfl, rfl, Nat.le_of_ble_eq_true rfl, Nat.le_of_ble_eq_true rfl⟩ ?_
                  refine x_aload_n 0 dX11_termStep_186 rfl rfl ?_
                  refine x_iload_n 1 dX11_termStep_187 rfl rfl ?_
                  refine x_iload_n 3 dX11_termStep_188 rfl rfl ?_
                  obtain ⟨q504, hq505, hf⟩ := f_bd hf
                  refine x_callVi [.int q1, .int w4] (c_X11_termOrder (I := q502) (L := L)  hq505) dX11_termStep_189 lk_X11_290 lm_0 rfl cd_X11_termOrder rfl rfl (Nat.le_of_ble_eq_true rfl) ⟨rfl, rfl, Nat.le_of_ble_eq_true rfl, Nat.le_of_ble_eq_true rfl⟩ ?_
                  refine x_if_neB 197 dX11_termStep_192 (by decide) (fun hB => ?_) (fun hB => ?_)
                  · replace hf := f_if hB hf
                    refine x_iload 4 dX11_termStep_197 rfl ?_
                    refine x_if_eq 222 dX11_termStep_199 (by decide) (fun _ => ?_) (fun h => absurd h (by decide))
                    refine x_iload_n 1 dX11_termStep_222 rfl rfl ?_
                    refine x_bipush (v := (20)) dX11_termStep_223 (by decide) ?_
                    refine x_icmp_ne 279 dX11_termStep_225 (by decide) (fun hB => ?_) (fun hB => ?_)
                    · replace hf := f_el hB hf
                      refine x_aload_n 0 dX11_termStep_279 rfl rfl ?_
                      refine x_bipush (v := (59)) dX11_termStep_280 (by decide) ?_
                      obtain ⟨q515, hq516, hf⟩ := f_bd hf
                      refine x_callVi [.int (59 : Int32)] (c_X11_wantSign (I := q504.2) (L := L)  hq516) dX11_termStep_282 lk_X11_260 lm_0 rfl cd_X11_wantSign rfl rfl (Nat.le_of_ble_eq_true rfl) ⟨rfl, rfl, Nat.le_of_ble_eq_true rfl, Nat.le_of_ble_eq_true rfl⟩ ?_
                      cases hf
                      exact x_zret dX11_termStep_285 rfl rfl
                    · replace hf := f_if hB hf
                      refine x_aload_n 0 dX11_termStep_228 rfl rfl ?_
                      refine x_dup dX11_termStep_229 rfl ?_
                      refine x_getI (v := (q504.2 0 22)) dX11_termStep_230 lm_0 fl_X11_284 rfl rfl ?_
                      refine x_iconst (v := (1)) dX11_termStep_233 (by decide) ?_
                      refine x_isub dX11_termStep_234 ?_
                      obtain ⟨I506, hI506, hf⟩ := f_lt hf
                      refine x_putI dX11_termStep_235 lm_0 fl_X11_284 rfl rfl rfl hI506 ?_
                      refine x_aload_n 0 dX11_termStep_238 rfl rfl ?_
                      refine x_getR dX11_termStep_239 lm_0 fl_X11_7 rfl ?_
                      refine x_iload_n 3 dX11_termStep_242 rfl rfl ?_
                      refine x_iconst (v := (4)) dX11_termStep_243 (by decide) ?_
                      refine x_iadd dX11_termStep_244 ?_
                      refine x_aload_n 0 dX11_termStep_245 rfl rfl ?_
                      refine x_getR dX11_termStep_246 lm_0 fl_X11_44 rfl ?_
                      refine x_aload_n 0 dX11_termStep_249 rfl rfl ?_
                      refine x_getI (v := ((q504.2 0 22) - (1 : Int32))) dX11_termStep_250 lm_0 fl_X11_284 rfl (by rw [hI506, z2_s, z1_s]) ?_
                      obtain ⟨h507, hf⟩ := f_gd hf
                      refine x_iald (j := (((q504.2 0 22) - (1 : Int32))).toNatClampNeg) (v := (q504.2 8 (((q504.2 0 22) - (1 : Int32))).toNatClampNeg)) dX11_termStep_253 lm_8 h507 rfl (by rw [hI506, z2_o (by decide)]) ?_
                      obtain ⟨h508, hf⟩ := f_gd hf
                      obtain ⟨I509, hI509, hf⟩ := f_lt hf
                      refine x_iast (j0 := ((w4 + (4 : Int32))).toNatClampNeg) dX11_termStep_254 lm_1 h508 rfl hI509 ?_
                      refine x_aload_n 0 dX11_termStep_255 rfl rfl ?_
                      refine x_getR dX11_termStep_256 lm_0 fl_X11_7 rfl ?_
                      refine x_sipush (v := (1772)) dX11_termStep_259 (by decide) ?_
                      refine x_bipush (v := (6)) dX11_termStep_262 (by decide) ?_
                      refine x_aload_n 0 dX11_termStep_264 rfl rfl ?_
                      refine x_getR dX11_termStep_265 lm_0 fl_X11_44 rfl ?_
                      refine x_aload_n 0 dX11_termStep_268 rfl rfl ?_
                      refine x_getI (v := ((q504.2 0 22) - (1 : Int32))) dX11_termStep_269 lm_0 fl_X11_284 rfl (by rw [hI509, z2_o (by decide), hI506, z2_s, z1_s]) ?_
                      refine x_iald (j := (((q504.2 0 22) - (1 : Int32))).toNatClampNeg) (v := (q504.2 8 (((q504.2 0 22) - (1 : Int32))).toNatClampNeg)) dX11_termStep_272 lm_8 h507 rfl (by rw [hI509, z2_o (by decide), hI506, z2_o (by decide)]) ?_
                      refine x_imul dX11_termStep_273 ?_
                      refine x_iadd dX11_termStep_274 ?_
                      refine x_iconst (v := (4)) dX11_termStep_275 (by decide) ?_
                      refine x_iadd dX11_termStep_276 ?_
                      refine x_iload_n 2 dX11_termStep_277 rfl rfl ?_
                      obtain ⟨h511, hf⟩ := f_gd hf
                      obtain ⟨I512, hI512, hf⟩ := f_lt hf
                      refine x_iast (j0 := ((((1772 : Int32) + ((6 : Int32) * (q504.2 8 (((q504.2 0 22) - (1 : Int32))).toNatClampNeg))) + (4 : Int32))).toNatClampNeg) dX11_termStep_278 lm_1 h511 rfl hI512 ?_
                      refine x_aload_n 0 dX11_termStep_279 rfl rfl ?_
                      refine x_bipush (v := (59)) dX11_termStep_280 (by decide) ?_
                      obtain ⟨q513, hq514, hf⟩ := f_bd hf
                      refine x_callVi [.int (59 : Int32)] (c_X11_wantSign (I := I512) (L := L)  hq514) dX11_termStep_282 lk_X11_260 lm_0 rfl cd_X11_wantSign rfl rfl (Nat.le_of_ble_eq_true rfl) ⟨rfl, rfl, Nat.le_of_ble_eq_true rfl, Nat.le_of_ble_eq_true rfl⟩ ?_
                      cases hf
                      exact x_zret dX11_termStep_285 rfl rfl
                  · replace hf := f_el hB hf
                    refine x_iconst (v := (0)) dX11_termStep_195 (by decide) ?_
                    cases hf
                    exact x_zret (b := false) dX11_termStep_196 rfl rfl
            · replace hf := f_el hB hf
              refine x_aload_n 4 dX11_termStep_81 rfl rfl ?_
              refine x_getI (v := (I 0 23)) dX11_termStep_82 lm_0 fl_X11_287 rfl rfl ?_
              refine x_bipush (v := (30)) dX11_termStep_85 (by decide) ?_
              refine x_icmp_ne 97 dX11_termStep_87 (by decide) (fun hB => ?_) (fun hB => ?_)
              · replace hf := f_el hB hf
                refine x_iload 0 dX11_termStep_97 rfl ?_
                refine x_if_eq 117 dX11_termStep_99 (by decide) (fun _ => ?_) (fun h => absurd h (by decide))
                refine x_aload_n 4 dX11_termStep_117 rfl rfl ?_
                refine x_dup dX11_termStep_118 rfl ?_
                refine x_getI (v := (I 0 23)) dX11_termStep_119 lm_0 fl_X11_287 rfl rfl ?_
                refine x_iload_n 3 dX11_termStep_122 rfl rfl ?_
                refine x_bipush (v := (20)) dX11_termStep_123 (by decide) ?_
                refine x_icmp_ne 132 dX11_termStep_125 (by decide) (fun hB => ?_) (fun hB => ?_)
                · replace hf := f_el hB hf
                  refine x_iconst (v := (1)) dX11_termStep_132 (by decide) ?_
                  refine x_iadd dX11_termStep_133 ?_
                  obtain ⟨I561, hI561, hf⟩ := f_lt hf
                  refine x_putI dX11_termStep_134 lm_0 fl_X11_287 rfl rfl rfl hI561 ?_
                  refine x_aload_n 4 dX11_termStep_137 rfl rfl ?_
                  refine x_getR dX11_termStep_138 lm_0 fl_X11_7 rfl ?_
                  refine x_iload_n 1 dX11_termStep_141 rfl rfl ?_
                  refine x_iload_n 3 dX11_termStep_142 rfl rfl ?_
                  obtain ⟨h562, hf⟩ := f_gd hf
                  obtain ⟨I563, hI563, hf⟩ := f_lt hf
                  refine x_iast (j0 := (w4).toNatClampNeg) dX11_termStep_143 lm_1 h562 rfl hI563 ?_
                  refine x_iconst (v := (1)) dX11_termStep_144 (by decide) ?_
                  refine x_istore [(5, .int (1 : Int32)), (4, .int (0 : Int32)), (3, .int w4), (2, .int (I 1 1719)), (1, .int q1), (0, .ref 0)] dX11_termStep_145 (by decide) rfl ?_
                  refine x_lv [(0, .ref 0), (1, .int q1), (2, .int (I 1 1719)), (3, .int w4), (4, .int (0 : Int32)), (5, .int (1 : Int32))] [5, 4, 3, 2, 1, 0] rfl ?_
                  refine l_X11_termStep_147 q1 (I 1 1719) w4 (0 : Int32) (L) _ ?_ _ _ _ hf
                  · intro I_564 hf
                    refine x_aload_n 0 dX11_termStep_170 rfl rfl ?_
                    refine x_getR dX11_termStep_171 lm_0 fl_X11_7 rfl ?_
                    refine x_sipush (v := (1719)) dX11_termStep_174 (by decide) ?_
                    refine x_dup2 dX11_termStep_177 rfl rfl ?_
                    refine x_iald (j := 1719) (v := (I_564 1 1719)) dX11_termStep_178 lm_1 (by decide +kernel) (by decide +kernel) rfl ?_
                    refine x_iconst (v := (1)) dX11_termStep_179 (by decide) ?_
                    refine x_iadd dX11_termStep_180 ?_
                    obtain ⟨I567, hI567, hf⟩ := f_lt hf
                    refine x_iast (j0 := 1719) dX11_termStep_181 lm_1 (by decide +kernel) (by decide +kernel) hI567 ?_
                    refine x_aload_n 0 dX11_termStep_182 rfl rfl ?_
                    obtain ⟨q568, hq569, hf⟩ := f_bd hf
                    refine x_callVv [] (c_X11_ahead (I := I567) (L := L)  hq569) dX11_termStep_183 lk_X11_175 lm_0 rfl cd_X11_ahead rfl rfl (Nat.le_of_ble_eq_true rfl) ⟨rfl, rfl, Nat.le_of_ble_eq_true rfl, Nat.le_of_ble_eq_true rfl⟩ ?_
                    refine x_aload_n 0 dX11_termStep_186 rfl rfl ?_
                    refine x_iload_n 1 dX11_termStep_187 rfl rfl ?_
                    refine x_iload_n 3 dX11_termStep_188 rfl rfl ?_
                    obtain ⟨q570, hq571, hf⟩ := f_bd hf
                    refine x_callVi [.int q1, .int w4] (c_X11_termOrder (I := q568) (L := L)  hq571) dX11_termStep_189 lk_X11_290 lm_0 rfl cd_X11_termOrder rfl rfl (Nat.le_of_ble_eq_true rfl) ⟨rfl, rfl, Nat.le_of_ble_eq_true rfl, Nat.le_of_ble_eq_true rfl⟩ ?_
                    refine x_if_neB 197 dX11_termStep_192 (by decide) (fun hB => ?_) (fun hB => ?_)
                    · replace hf := f_if hB hf
                      refine x_iload 4 dX11_termStep_197 rfl ?_
                      refine x_if_eq 222 dX11_termStep_199 (by decide) (fun _ => ?_) (fun h => absurd h (by decide))
                      refine x_iload_n 1 dX11_termStep_222 rfl rfl ?_
                      refine x_bipush (v := (20)) dX11_termStep_223 (by decide) ?_
                      refine x_icmp_ne 279 dX11_termStep_225 (by decide) (fun hB => ?_) (fun hB => ?_)
                      · replace hf := f_el hB hf
                        refine x_aload_n 0 dX11_termStep_279 rfl rfl ?_
                        refine x_bipush (v := (59)) dX11_termStep_280 (by decide) ?_
                        obtain ⟨q581, hq582, hf⟩ := f_bd hf
                        refine x_callVi [.int (59 : Int32)] (c_X11_wantSign (I := q570.2) (L := L)  hq582) dX11_termStep_282 lk_X11_260 lm_0 rfl cd_X11_wantSign rfl rfl (Nat.le_of_ble_eq_true rfl) ⟨rfl, rfl, Nat.le_of_ble_eq_true rfl, Nat.le_of_ble_eq_true rfl⟩ ?_
                        cases hf
                        exact x_zret dX11_termStep_285 rfl rfl
                      · replace hf := f_if hB hf
                        refine x_aload_n 0 dX11_termStep_228 rfl rfl ?_
                        refine x_dup dX11_termStep_229 rfl ?_
                        refine x_getI (v := (q570.2 0 22)) dX11_termStep_230 lm_0 fl_X11_284 rfl rfl ?_
                        refine x_iconst (v := (1)) dX11_termStep_233 (by decide) ?_
                        refine x_isub dX11_termStep_234 ?_
                        obtain ⟨I572, hI572, hf⟩ := f_lt hf
                        refine x_putI dX11_termStep_235 lm_0 fl_X11_284 rfl rfl rfl hI572 ?_
                        refine x_aload_n 0 dX11_termStep_238 rfl rfl ?_
                        refine x_getR dX11_termStep_239 lm_0 fl_X11_7 rfl ?_
                        refine x_iload_n 3 dX11_termStep_242 rfl rfl ?_
                        refine x_iconst (v := (4)) dX11_termStep_243 (by decide) ?_
                        refine x_iadd dX11_termStep_244 ?_
                        refine x_aload_n 0 dX11_termStep_245 rfl rfl ?_
                        refine x_getR dX11_termStep_246 lm_0 fl_X11_44 rfl ?_
                        refine x_aload_n 0 dX11_termStep_249 rfl rfl ?_
                        refine x_getI (v := ((q570.2 0 22) - (1 : Int32))) dX11_termStep_250 lm_0 fl_X11_284 rfl (by rw [hI572, z2_s, z1_s]) ?_
                        obtain ⟨h573, hf⟩ := f_gd hf
                        refine x_iald (j := (((q570.2 0 22) - (1 : Int32))).toNatClampNeg) (v := (q570.2 8 (((q570.2 0 22) - (1 : Int32))).toNatClampNeg)) dX11_termStep_253 lm_8 h573 rfl (by rw [hI572, z2_o (by decide)]) ?_
                        obtain ⟨h574, hf⟩ := f_gd hf
                        obtain ⟨I575, hI575, hf⟩ := f_lt hf
                        refine x_iast (j0 := ((w4 + (4 : Int32))).toNatClampNeg) dX11_termStep_254 lm_1 h574 rfl hI575 ?_
                        refine x_aload_n 0 dX11_termStep_255 rfl rfl ?_
                        refine x_getR dX11_termStep_256 lm_0 fl_X11_7 rfl ?_
                        refine x_sipush (v := (1772)) dX11_termStep_259 (by decide) ?_
                        refine x_bipush (v := (6)) dX11_termStep_262 (by decide) ?_
                        refine x_aload_n 0 dX11_termStep_264 rfl rfl ?_
                        refine x_getR dX11_termStep_265 lm_0 fl_X11_44 rfl ?_
                        refine x_aload_n 0 dX11_termStep_268 rfl rfl ?_
                        refine x_getI (v := ((q570.2 0 22) - (1 : Int32))) dX11_termStep_269 lm_0 fl_X11_284 rfl (by rw [hI575, z2_o (by decide), hI572, z2_s, z1_s]) ?_
                        refine x_iald (j := (((q570.2 0 22) - (1 : Int32))).toNatClampNeg) (v := (q570.2 8 (((q570.2 0 22) - (1 : Int32))).toNatClampNeg)) dX11_termStep_272 lm_8 h573 rfl (by rw [hI575, z2_o (by decide), hI572, z2_o (by decide)]) ?_
                        refine x_imul dX11_termStep_273 ?_
                        refine x_iadd dX11_termStep_274 ?_
                        refine x_iconst (v := (4)) dX11_termStep_275 (by decide) ?_
                        refine x_iadd dX11_termStep_276 ?_
                        refine x_iload_n 2 dX11_termStep_277 rfl rfl ?_
                        obtain ⟨h577, hf⟩ := f_gd hf
                        obtain ⟨I578, hI578, hf⟩ := f_lt hf
                        refine x_iast (j0 := ((((1772 : Int32) + ((6 : Int32) * (q570.2 8 (((q570.2 0 22) - (1 : Int32))).toNatClampNeg))) + (4 : Int32))).toNatClampNeg) dX11_termStep_278 lm_1 h577 rfl hI578 ?_
                        refine x_aload_n 0 dX11_termStep_279 rfl rfl ?_
                        refine x_bipush (v := (59)) dX11_termStep_280 (by decide) ?_
                        obtain ⟨q579, hq580, hf⟩ := f_bd hf
                        refine x_callVi [.int (59 : Int32)] (c_X11_wantSign (I := I578) (L := L)  hq580) dX11_termStep_282 lk_X11_260 lm_0 rfl cd_X11_wantSign rfl rfl (Nat.le_of_ble_eq_true rfl) ⟨rfl, rfl, Nat.le_of_ble_eq_true rfl, Nat.le_of_ble_eq_true rfl⟩ ?_
                        cases hf
                        exact x_zret dX11_termStep_285 rfl rfl
                    · replace hf := f_el hB hf
                      refine x_iconst (v := (0)) dX11_termStep_195 (by decide) ?_
                      cases hf
                      exact x_zret (b := false) dX11_termStep_196 rfl rfl
                · replace hf := f_if hB hf
                  refine x_iconst (v := (0)) dX11_termStep_128 (by decide) ?_
                  refine x_goto 133 dX11_termStep_129 (by decide) ?_
                  refine x_iadd dX11_termStep_133 ?_
                  obtain ⟨I539, hI539, hf⟩ := f_lt hf
                  refine x_putI dX11_termStep_134 lm_0 fl_X11_287 rfl rfl rfl hI539 ?_
                  refine x_aload_n 4 dX11_termStep_137 rfl rfl ?_
                  refine x_getR dX11_termStep_138 lm_0 fl_X11_7 rfl ?_
                  refine x_iload_n 1 dX11_termStep_141 rfl rfl ?_
                  refine x_iload_n 3 dX11_termStep_142 rfl rfl ?_
                  obtain ⟨h540, hf⟩ := f_gd hf
                  obtain ⟨I541, hI541, hf⟩ := f_lt hf
                  refine x_iast (j0 := (w4).toNatClampNeg) dX11_termStep_143 lm_1 h540 rfl hI541 ?_
                  refine x_iconst (v := (1)) dX11_termStep_144 (by decide) ?_
                  refine x_istore [(5, .int (1 : Int32)), (4, .int (0 : Int32)), (3, .int w4), (2, .int (I 1 1719)), (1, .int q1), (0, .ref 0)] dX11_termStep_145 (by decide) rfl ?_
                  refine x_lv [(0, .ref 0), (1, .int q1), (2, .int (I 1 1719)), (3, .int w4), (4, .int (0 : Int32)), (5, .int (1 : Int32))] [5, 4, 3, 2, 1, 0] rfl ?_
                  refine l_X11_termStep_147 q1 (I 1 1719) w4 (0 : Int32) (L) _ ?_ _ _ _ hf
                  · intro I_542 hf
                    refine x_aload_n 0 dX11_termStep_170 rfl rfl ?_
                    refine x_getR dX11_termStep_171 lm_0 fl_X11_7 rfl ?_
                    refine x_sipush (v := (1719)) dX11_termStep_174 (by decide) ?_
                    refine x_dup2 dX11_termStep_177 rfl rfl ?_
                    refine x_iald (j := 1719) (v := (I_542 1 1719)) dX11_termStep_178 lm_1 (by decide +kernel) (by decide +kernel) rfl ?_
                    refine x_iconst (v := (1)) dX11_termStep_179 (by decide) ?_
                    refine x_iadd dX11_termStep_180 ?_
                    obtain ⟨I545, hI545, hf⟩ := f_lt hf
                    refine x_iast (j0 := 1719) dX11_termStep_181 lm_1 (by decide +kernel) (by decide +kernel) hI545 ?_
                    refine x_aload_n 0 dX11_termStep_182 rfl rfl ?_
                    obtain ⟨q546, hq547, hf⟩ := f_bd hf
                    refine x_callVv [] (c_X11_ahead (I := I545) (L := L)  hq547) dX11_termStep_183 lk_X11_175 lm_0 rfl cd_X11_ahead rfl rfl (Nat.le_of_ble_eq_true rfl) ⟨rfl, rfl, Nat.le_of_ble_eq_true rfl, Nat.le_of_ble_eq_true rfl⟩ ?_
                    refine x_aload_n 0 dX11_termStep_186 rfl rfl ?_
                    refine x_iload_n 1 dX11_termStep_187 rfl rfl ?_
                    refine x_iload_n 3 dX11_termStep_188 rfl rfl ?_
                    obtain ⟨q548, hq549, hf⟩ := f_bd hf
                    refine x_callVi [.int q1, .int w4] (c_X11_termOrder (I := q546) (L := L)  hq549) dX11_termStep_189 lk_X11_290 lm_0 rfl cd_X11_termOrder rfl rfl (Nat.le_of_ble_eq_true rfl) ⟨rfl, rfl, Nat.le_of_ble_eq_true rfl, Nat.le_of_ble_eq_true rfl⟩ ?_
                    refine x_if_neB 197 dX11_termStep_192 (by decide) (fun hB => ?_) (fun hB => ?_)
                    · replace hf := f_if hB hf
                      refine x_iload 4 dX11_termStep_197 rfl ?_
                      refine x_if_eq 222 dX11_termStep_199 (by decide) (fun _ => ?_) (fun h => absurd h (by decide))
                      refine x_iload_n 1 dX11_termStep_222 rfl rfl ?_
                      refine x_bipush (v := (20)) dX11_termStep_223 (by decide) ?_
                      refine x_icmp_ne 279 dX11_termStep_225 (by decide) (fun hB => ?_) (fun hB => ?_)
                      · replace hf := f_el hB hf
                        refine x_aload_n 0 dX11_termStep_279 rfl rfl ?_
                        refine x_bipush (v := (59)) dX11_termStep_280 (by decide) ?_
                        obtain ⟨q559, hq560, hf⟩ := f_bd hf
                        refine x_callVi [.int (59 : Int32)] (c_X11_wantSign (I := q548.2) (L := L)  hq560) dX11_termStep_282 lk_X11_260 lm_0 rfl cd_X11_wantSign rfl rfl (Nat.le_of_ble_eq_true rfl) ⟨rfl, rfl, Nat.le_of_ble_eq_true rfl, Nat.le_of_ble_eq_true rfl⟩ ?_
                        cases hf
                        exact x_zret dX11_termStep_285 rfl rfl
                      · replace hf := f_if hB hf
                        refine x_aload_n 0 dX11_termStep_228 rfl rfl ?_
                        refine x_dup dX11_termStep_229 rfl ?_
                        refine x_getI (v := (q548.2 0 22)) dX11_termStep_230 lm_0 fl_X11_284 rfl rfl ?_
                        refine x_iconst (v := (1)) dX11_termStep_233 (by decide) ?_
                        refine x_isub dX11_termStep_234 ?_
                        obtain ⟨I550, hI550, hf⟩ := f_lt hf
                        refine x_putI dX11_termStep_235 lm_0 fl_X11_284 rfl rfl rfl hI550 ?_
                        refine x_aload_n 0 dX11_termStep_238 rfl rfl ?_
                        refine x_getR dX11_termStep_239 lm_0 fl_X11_7 rfl ?_
                        refine x_iload_n 3 dX11_termStep_242 rfl rfl ?_
                        refine x_iconst (v := (4)) dX11_termStep_243 (by decide) ?_
                        refine x_iadd dX11_termStep_244 ?_
                        refine x_aload_n 0 dX11_termStep_245 rfl rfl ?_
                        refine x_getR dX11_termStep_246 lm_0 fl_X11_44 rfl ?_
                        refine x_aload_n 0 dX11_termStep_249 rfl rfl ?_
                        refine x_getI (v := ((q548.2 0 22) - (1 : Int32))) dX11_termStep_250 lm_0 fl_X11_284 rfl (by rw [hI550, z2_s, z1_s]) ?_
                        obtain ⟨h551, hf⟩ := f_gd hf
                        refine x_iald (j := (((q548.2 0 22) - (1 : Int32))).toNatClampNeg) (v := (q548.2 8 (((q548.2 0 22) - (1 : Int32))).toNatClampNeg)) dX11_termStep_253 lm_8 h551 rfl (by rw [hI550, z2_o (by decide)]) ?_
                        obtain ⟨h552, hf⟩ := f_gd hf
                        obtain ⟨I553, hI553, hf⟩ := f_lt hf
                        refine x_iast (j0 := ((w4 + (4 : Int32))).toNatClampNeg) dX11_termStep_254 lm_1 h552 rfl hI553 ?_
                        refine x_aload_n 0 dX11_termStep_255 rfl rfl ?_
                        refine x_getR dX11_termStep_256 lm_0 fl_X11_7 rfl ?_
                        refine x_sipush (v := (1772)) dX11_termStep_259 (by decide) ?_
                        refine x_bipush (v := (6)) dX11_termStep_262 (by decide) ?_
                        refine x_aload_n 0 dX11_termStep_264 rfl rfl ?_
                        refine x_getR dX11_termStep_265 lm_0 fl_X11_44 rfl ?_
                        refine x_aload_n 0 dX11_termStep_268 rfl rfl ?_
                        refine x_getI (v := ((q548.2 0 22) - (1 : Int32))) dX11_termStep_269 lm_0 fl_X11_284 rfl (by rw [hI553, z2_o (by decide), hI550, z2_s, z1_s]) ?_
                        refine x_iald (j := (((q548.2 0 22) - (1 : Int32))).toNatClampNeg) (v := (q548.2 8 (((q548.2 0 22) - (1 : Int32))).toNatClampNeg)) dX11_termStep_272 lm_8 h551 rfl (by rw [hI553, z2_o (by decide), hI550, z2_o (by decide)]) ?_
                        refine x_imul dX11_termStep_273 ?_
                        refine x_iadd dX11_termStep_274 ?_
                        refine x_iconst (v := (4)) dX11_termStep_275 (by decide) ?_
                        refine x_iadd dX11_termStep_276 ?_
                        refine x_iload_n 2 dX11_termStep_277 rfl rfl ?_
                        obtain ⟨h555, hf⟩ := f_gd hf
                        obtain ⟨I556, hI556, hf⟩ := f_lt hf
                        refine x_iast (j0 := ((((1772 : Int32) + ((6 : Int32) * (q548.2 8 (((q548.2 0 22) - (1 : Int32))).toNatClampNeg))) + (4 : Int32))).toNatClampNeg) dX11_termStep_278 lm_1 h555 rfl hI556 ?_
                        refine x_aload_n 0 dX11_termStep_279 rfl rfl ?_
                        refine x_bipush (v := (59)) dX11_termStep_280 (by decide) ?_
                        obtain ⟨q557, hq558, hf⟩ := f_bd hf
                        refine x_callVi [.int (59 : Int32)] (c_X11_wantSign (I := I556) (L := L)  hq558) dX11_termStep_282 lk_X11_260 lm_0 rfl cd_X11_wantSign rfl rfl (Nat.le_of_ble_eq_true rfl) ⟨rfl, rfl, Nat.le_of_ble_eq_true rfl, Nat.le_of_ble_eq_true rfl⟩ ?_
                        cases hf
                        exact x_zret dX11_termStep_285 rfl rfl
                    · replace hf := f_el hB hf
                      refine x_iconst (v := (0)) dX11_termStep_195 (by decide) ?_
                      cases hf
                      exact x_zret (b := false) dX11_termStep_196 rfl rfl
              · replace hf := f_if hB hf
                refine x_aload_n 4 dX11_termStep_90 rfl rfl ?_
                refine x_bipush (v := (6)) dX11_termStep_91 (by decide) ?_
                refine x_callVi [.int (6 : Int32)] (c_X11_fails (I := I) (L := L) (6 : Int32)) dX11_termStep_93 lk_X11_181 lm_0 rfl cd_X11_fails rfl rfl (Nat.le_of_ble_eq_true rfl) ⟨rfl, rfl, Nat.le_of_ble_eq_true rfl, Nat.le_of_ble_eq_true rfl⟩ ?_
                cases hf
                exact x_zret dX11_termStep_96 rfl rfl
          · replace hf := f_if hB hf
            refine x_aload_n 4 dX11_termStep_62 rfl rfl ?_
            refine x_getI (v := (I 0 22)) dX11_termStep_63 lm_0 fl_X11_284 rfl rfl ?_
            refine x_if_ne 75 dX11_termStep_66 (by decide) (fun hB => ?_) (fun hB => ?_)
            · replace hf := f_el hB hf
              refine x_iload_n 3 dX11_termStep_75 rfl rfl ?_
              refine x_bipush (v := (20)) dX11_termStep_76 (by decide) ?_
              refine x_icmp_eq 97 dX11_termStep_78 (by decide) (fun hB => ?_) (fun hB => ?_)
              · replace hf := f_if hB hf
                refine x_iload 0 dX11_termStep_97 rfl ?_
                refine x_if_eq 117 dX11_termStep_99 (by decide) (fun _ => ?_) (fun h => absurd h (by decide))
                refine x_aload_n 4 dX11_termStep_117 rfl rfl ?_
                refine x_dup dX11_termStep_118 rfl ?_
                refine x_getI (v := (I 0 23)) dX11_termStep_119 lm_0 fl_X11_287 rfl rfl ?_
                refine x_iload_n 3 dX11_termStep_122 rfl rfl ?_
                refine x_bipush (v := (20)) dX11_termStep_123 (by decide) ?_
                refine x_icmp_ne 132 dX11_termStep_125 (by decide) (fun hB => ?_) (fun hB => ?_)
                · replace hf := f_el hB hf
                  refine x_iconst (v := (1)) dX11_termStep_132 (by decide) ?_
                  refine x_iadd dX11_termStep_133 ?_
                  obtain ⟨I429, hI429, hf⟩ := f_lt hf
                  refine x_putI dX11_termStep_134 lm_0 fl_X11_287 rfl rfl rfl hI429 ?_
                  refine x_aload_n 4 dX11_termStep_137 rfl rfl ?_
                  refine x_getR dX11_termStep_138 lm_0 fl_X11_7 rfl ?_
                  refine x_iload_n 1 dX11_termStep_141 rfl rfl ?_
                  refine x_iload_n 3 dX11_termStep_142 rfl rfl ?_
                  obtain ⟨h430, hf⟩ := f_gd hf
                  obtain ⟨I431, hI431, hf⟩ := f_lt hf
                  refine x_iast (j0 := (w4).toNatClampNeg) dX11_termStep_143 lm_1 h430 rfl hI431 ?_
                  refine x_iconst (v := (1)) dX11_termStep_144 (by decide) ?_
                  refine x_istore [(5, .int (1 : Int32)), (4, .int (0 : Int32)), (3, .int w4), (2, .int (I 1 1719)), (1, .int q1), (0, .ref 0)] dX11_termStep_145 (by decide) rfl ?_
                  refine x_lv [(0, .ref 0), (1, .int q1), (2, .int (I 1 1719)), (3, .int w4), (4, .int (0 : Int32)), (5, .int (1 : Int32))] [5, 4, 3, 2, 1, 0] rfl ?_
                  refine l_X11_termStep_147 q1 (I 1 1719) w4 (0 : Int32) (L) _ ?_ _ _ _ hf
                  · intro I_432 hf
                    refine x_aload_n 0 dX11_termStep_170 rfl rfl ?_
                    refine x_getR dX11_termStep_171 lm_0 fl_X11_7 rfl ?_
                    refine x_sipush (v := (1719)) dX11_termStep_174 (by decide) ?_
                    refine x_dup2 dX11_termStep_177 rfl rfl ?_
                    refine x_iald (j := 1719) (v := (I_432 1 1719)) dX11_termStep_178 lm_1 (by decide +kernel) (by decide +kernel) rfl ?_
                    refine x_iconst (v := (1)) dX11_termStep_179 (by decide) ?_
                    refine x_iadd dX11_termStep_180 ?_
                    obtain ⟨I435, hI435, hf⟩ := f_lt hf
                    refine x_iast (j0 := 1719) dX11_termStep_181 lm_1 (by decide +kernel) (by decide +kernel) hI435 ?_
                    refine x_aload_n 0 dX11_termStep_182 rfl rfl ?_
                    obtain ⟨q436, hq437, hf⟩ := f_bd hf
                    refine x_callVv [] (c_X11_ahead (I := I435) (L := L)  hq437) dX11_termStep_183 lk_X11_175 lm_0 rfl cd_X11_ahead rfl rfl (Nat.le_of_ble_eq_true rfl) ⟨rfl, rfl, Nat.le_of_ble_eq_true rfl, Nat.le_of_ble_eq_true rfl⟩ ?_
                    refine x_aload_n 0 dX11_termStep_186 rfl rfl ?_
                    refine x_iload_n 1 dX11_termStep_187 rfl rfl ?_
                    refine x_iload_n 3 dX11_termStep_188 rfl rfl ?_
                    obtain ⟨q438, hq439, hf⟩ := f_bd hf
                    refine x_callVi [.int q1, .int w4] (c_X11_termOrder (I := q436) (L := L)  hq439) dX11_termStep_189 lk_X11_290 lm_0 rfl cd_X11_termOrder rfl rfl (Nat.le_of_ble_eq_true rfl) ⟨rfl, rfl, Nat.le_of_ble_eq_true rfl, Nat.le_of_ble_eq_true rfl⟩ ?_
                    refine x_if_neB 197 dX11_termStep_192 (by decide) (fun hB => ?_) (fun hB => ?_)
                    · replace hf := f_if hB hf
                      refine x_iload 4 dX11_termStep_197 rfl ?_
                      refine x_if_eq 222 dX11_termStep_199 (by decide) (fun _ => ?_) (fun h => absurd h (by decide))
                      refine x_iload_n 1 dX11_termStep_222 rfl rfl ?_
                      refine x_bipush (v := (20)) dX11_termStep_223 (by decide) ?_
                      refine x_icmp_ne 279 dX11_termStep_225 (by decide) (fun hB => ?_) (fun hB => ?_)
                      · replace hf := f_el hB hf
                        refine x_aload_n 0 dX11_termStep_279 rfl rfl ?_
                        refine x_bipush (v := (59)) dX11_termStep_280 (by decide) ?_
                        obtain ⟨q449, hq450, hf⟩ := f_bd hf
                        refine x_callVi [.int (59 : Int32)] (c_X11_wantSign (I := q438.2) (L := L)  hq450) dX11_termStep_282 lk_X11_260 lm_0 rfl cd_X11_wantSign rfl rfl (Nat.le_of_ble_eq_true rfl) ⟨rfl, rfl, Nat.le_of_ble_eq_true rfl, Nat.le_of_ble_eq_true rfl⟩ ?_
                        cases hf
                        exact x_zret dX11_termStep_285 rfl rfl
                      · replace hf := f_if hB hf
                        refine x_aload_n 0 dX11_termStep_228 rfl rfl ?_
                        refine x_dup dX11_termStep_229 rfl ?_
                        refine x_getI (v := (q438.2 0 22)) dX11_termStep_230 lm_0 fl_X11_284 rfl rfl ?_
                        refine x_iconst (v := (1)) dX11_termStep_233 (by decide) ?_
                        refine x_isub dX11_termStep_234 ?_
                        obtain ⟨I440, hI440, hf⟩ := f_lt hf
                        refine x_putI dX11_termStep_235 lm_0 fl_X11_284 rfl rfl rfl hI440 ?_
                        refine x_aload_n 0 dX11_termStep_238 rfl rfl ?_
                        refine x_getR dX11_termStep_239 lm_0 fl_X11_7 rfl ?_
                        refine x_iload_n 3 dX11_termStep_242 rfl rfl ?_
                        refine x_iconst (v := (4)) dX11_termStep_243 (by decide) ?_
                        refine x_iadd dX11_termStep_244 ?_
                        refine x_aload_n 0 dX11_termStep_245 rfl rfl ?_
                        refine x_getR dX11_termStep_246 lm_0 fl_X11_44 rfl ?_
                        refine x_aload_n 0 dX11_termStep_249 rfl rfl ?_
                        refine x_getI (v := ((q438.2 0 22) - (1 : Int32))) dX11_termStep_250 lm_0 fl_X11_284 rfl (by rw [hI440, z2_s, z1_s]) ?_
                        obtain ⟨h441, hf⟩ := f_gd hf
                        refine x_iald (j := (((q438.2 0 22) - (1 : Int32))).toNatClampNeg) (v := (q438.2 8 (((q438.2 0 22) - (1 : Int32))).toNatClampNeg)) dX11_termStep_253 lm_8 h441 rfl (by rw [hI440, z2_o (by decide)]) ?_
                        obtain ⟨h442, hf⟩ := f_gd hf
                        obtain ⟨I443, hI443, hf⟩ := f_lt hf
                        refine x_iast (j0 := ((w4 + (4 : Int32))).toNatClampNeg) dX11_termStep_254 lm_1 h442 rfl hI443 ?_
                        refine x_aload_n 0 dX11_termStep_255 rfl rfl ?_
                        refine x_getR dX11_termStep_256 lm_0 fl_X11_7 rfl ?_
                        refine x_sipush (v := (1772)) dX11_termStep_259 (by decide) ?_
                        refine x_bipush (v := (6)) dX11_termStep_262 (by decide) ?_
                        refine x_aload_n 0 dX11_termStep_264 rfl rfl ?_
                        refine x_getR dX11_termStep_265 lm_0 fl_X11_44 rfl ?_
                        refine x_aload_n 0 dX11_termStep_268 rfl rfl ?_
                        refine x_getI (v := ((q438.2 0 22) - (1 : Int32))) dX11_termStep_269 lm_0 fl_X11_284 rfl (by rw [hI443, z2_o (by decide), hI440, z2_s, z1_s]) ?_
                        refine x_iald (j := (((q438.2 0 22) - (1 : Int32))).toNatClampNeg) (v := (q438.2 8 (((q438.2 0 22) - (1 : Int32))).toNatClampNeg)) dX11_termStep_272 lm_8 h441 rfl (by rw [hI443, z2_o (by decide), hI440, z2_o (by decide)]) ?_
                        refine x_imul dX11_termStep_273 ?_
                        refine x_iadd dX11_termStep_274 ?_
                        refine x_iconst (v := (4)) dX11_termStep_275 (by decide) ?_
                        refine x_iadd dX11_termStep_276 ?_
                        refine x_iload_n 2 dX11_termStep_277 rfl rfl ?_
                        obtain ⟨h445, hf⟩ := f_gd hf
                        obtain ⟨I446, hI446, hf⟩ := f_lt hf
                        refine x_iast (j0 := ((((1772 : Int32) + ((6 : Int32) * (q438.2 8 (((q438.2 0 22) - (1 : Int32))).toNatClampNeg))) + (4 : Int32))).toNatClampNeg) dX11_termStep_278 lm_1 h445 rfl hI446 ?_
                        refine x_aload_n 0 dX11_termStep_279 rfl rfl ?_
                        refine x_bipush (v := (59)) dX11_termStep_280 (by decide) ?_
                        obtain ⟨q447, hq448, hf⟩ := f_bd hf
                        refine x_callVi [.int (59 : Int32)] (c_X11_wantSign (I := I446) (L := L)  hq448) dX11_termStep_282 lk_X11_260 lm_0 rfl cd_X11_wantSign rfl rfl (Nat.le_of_ble_eq_true rfl) ⟨rfl, rfl, Nat.le_of_ble_eq_true rfl, Nat.le_of_ble_eq_true rfl⟩ ?_
                        cases hf
                        exact x_zret dX11_termStep_285 rfl rfl
                    · replace hf := f_el hB hf
                      refine x_iconst (v := (0)) dX11_termStep_195 (by decide) ?_
                      cases hf
                      exact x_zret (b := false) dX11_termStep_196 rfl rfl
                · replace hf := f_if hB hf
                  refine x_iconst (v := (0)) dX11_termStep_128 (by decide) ?_
                  refine x_goto 133 dX11_termStep_129 (by decide) ?_
                  refine x_iadd dX11_termStep_133 ?_
                  obtain ⟨I407, hI407, hf⟩ := f_lt hf
                  refine x_putI dX11_termStep_134 lm_0 fl_X11_287 rfl rfl rfl hI407 ?_
                  refine x_aload_n 4 dX11_termStep_137 rfl rfl ?_
                  refine x_getR dX11_termStep_138 lm_0 fl_X11_7 rfl ?_
                  refine x_iload_n 1 dX11_termStep_141 rfl rfl ?_
                  refine x_iload_n 3 dX11_termStep_142 rfl rfl ?_
                  obtain ⟨h408, hf⟩ := f_gd hf
                  obtain ⟨I409, hI409, hf⟩ := f_lt hf
                  refine x_iast (j0 := (w4).toNatClampNeg) dX11_termStep_143 lm_1 h408 rfl hI409 ?_
                  refine x_iconst (v := (1)) dX11_termStep_144 (by decide) ?_
                  refine x_istore [(5, .int (1 : Int32)), (4, .int (0 : Int32)), (3, .int w4), (2, .int (I 1 1719)), (1, .int q1), (0, .ref 0)] dX11_termStep_145 (by decide) rfl ?_
                  refine x_lv [(0, .ref 0), (1, .int q1), (2, .int (I 1 1719)), (3, .int w4), (4, .int (0 : Int32)), (5, .int (1 : Int32))] [5, 4, 3, 2, 1, 0] rfl ?_
                  refine l_X11_termStep_147 q1 (I 1 1719) w4 (0 : Int32) (L) _ ?_ _ _ _ hf
                  · intro I_410 hf
                    refine x_aload_n 0 dX11_termStep_170 rfl rfl ?_
                    refine x_getR dX11_termStep_171 lm_0 fl_X11_7 rfl ?_
                    refine x_sipush (v := (1719)) dX11_termStep_174 (by decide) ?_
                    refine x_dup2 dX11_termStep_177 rfl rfl ?_
                    refine x_iald (j := 1719) (v := (I_410 1 1719)) dX11_termStep_178 lm_1 (by decide +kernel) (by decide +kernel) rfl ?_
                    refine x_iconst (v := (1)) dX11_termStep_179 (by decide) ?_
                    refine x_iadd dX11_termStep_180 ?_
                    obtain ⟨I413, hI413, hf⟩ := f_lt hf
                    refine x_iast (j0 := 1719) dX11_termStep_181 lm_1 (by decide +kernel) (by decide +kernel) hI413 ?_
                    refine x_aload_n 0 dX11_termStep_182 rfl rfl ?_
                    obtain ⟨q414, hq415, hf⟩ := f_bd hf
                    refine x_callVv [] (c_X11_ahead (I := I413) (L := L)  hq415) dX11_termStep_183 lk_X11_175 lm_0 rfl cd_X11_ahead rfl rfl (Nat.le_of_ble_eq_true rfl) ⟨rfl, rfl, Nat.le_of_ble_eq_true rfl, Nat.le_of_ble_eq_true rfl⟩ ?_
                    refine x_aload_n 0 dX11_termStep_186 rfl rfl ?_
                    refine x_iload_n 1 dX11_termStep_187 rfl rfl ?_
                    refine x_iload_n 3 dX11_termStep_188 rfl rfl ?_
                    obtain ⟨q416, hq417, hf⟩ := f_bd hf
                    refine x_callVi [.int q1, .int w4] (c_X11_termOrder (I := q414) (L := L)  hq417) dX11_termStep_189 lk_X11_290 lm_0 rfl cd_X11_termOrder rfl rfl (Nat.le_of_ble_eq_true rfl) ⟨rfl, rfl, Nat.le_of_ble_eq_true rfl, Nat.le_of_ble_eq_true rfl⟩ ?_
                    refine x_if_neB 197 dX11_termStep_192 (by decide) (fun hB => ?_) (fun hB => ?_)
                    · replace hf := f_if hB hf
                      refine x_iload 4 dX11_termStep_197 rfl ?_
                      refine x_if_eq 222 dX11_termStep_199 (by decide) (fun _ => ?_) (fun h => absurd h (by decide))
                      refine x_iload_n 1 dX11_termStep_222 rfl rfl ?_
                      refine x_bipush (v := (20)) dX11_termStep_223 (by decide) ?_
                      refine x_icmp_ne 279 dX11_termStep_225 (by decide) (fun hB => ?_) (fun hB => ?_)
                      · replace hf := f_el hB hf
                        refine x_aload_n 0 dX11_termStep_279 rfl rfl ?_
                        refine x_bipush (v := (59)) dX11_termStep_280 (by decide) ?_
                        obtain ⟨q427, hq428, hf⟩ := f_bd hf
                        refine x_callVi [.int (59 : Int32)] (c_X11_wantSign (I := q416.2) (L := L)  hq428) dX11_termStep_282 lk_X11_260 lm_0 rfl cd_X11_wantSign rfl rfl (Nat.le_of_ble_eq_true rfl) ⟨rfl, rfl, Nat.le_of_ble_eq_true rfl, Nat.le_of_ble_eq_true rfl⟩ ?_
                        cases hf
                        exact x_zret dX11_termStep_285 rfl rfl
                      · replace hf := f_if hB hf
                        refine x_aload_n 0 dX11_termStep_228 rfl rfl ?_
                        refine x_dup dX11_termStep_229 rfl ?_
                        refine x_getI (v := (q416.2 0 22)) dX11_termStep_230 lm_0 fl_X11_284 rfl rfl ?_
                        refine x_iconst (v := (1)) dX11_termStep_233 (by decide) ?_
                        refine x_isub dX11_termStep_234 ?_
                        obtain ⟨I418, hI418, hf⟩ := f_lt hf
                        refine x_putI dX11_termStep_235 lm_0 fl_X11_284 rfl rfl rfl hI418 ?_
                        refine x_aload_n 0 dX11_termStep_238 rfl rfl ?_
                        refine x_getR dX11_termStep_239 lm_0 fl_X11_7 rfl ?_
                        refine x_iload_n 3 dX11_termStep_242 rfl rfl ?_
                        refine x_iconst (v := (4)) dX11_termStep_243 (by decide) ?_
                        refine x_iadd dX11_termStep_244 ?_
                        refine x_aload_n 0 dX11_termStep_245 rfl rfl ?_
                        refine x_getR dX11_termStep_246 lm_0 fl_X11_44 rfl ?_
                        refine x_aload_n 0 dX11_termStep_249 rfl rfl ?_
                        refine x_getI (v := ((q416.2 0 22) - (1 : Int32))) dX11_termStep_250 lm_0 fl_X11_284 rfl (by rw [hI418, z2_s, z1_s]) ?_
                        obtain ⟨h419, hf⟩ := f_gd hf
                        refine x_iald (j := (((q416.2 0 22) - (1 : Int32))).toNatClampNeg) (v := (q416.2 8 (((q416.2 0 22) - (1 : Int32))).toNatClampNeg)) dX11_termStep_253 lm_8 h419 rfl (by rw [hI418, z2_o (by decide)]) ?_
                        obtain ⟨h420, hf⟩ := f_gd hf
                        obtain ⟨I421, hI421, hf⟩ := f_lt hf
                        refine x_iast (j0 := ((w4 + (4 : Int32))).toNatClampNeg) dX11_termStep_254 lm_1 h420 rfl hI421 ?_
                        refine x_aload_n 0 dX11_termStep_255 rfl rfl ?_
                        refine x_getR dX11_termStep_256 lm_0 fl_X11_7 rfl ?_
                        refine x_sipush (v := (1772)) dX11_termStep_259 (by decide) ?_
                        refine x_bipush (v := (6)) dX11_termStep_262 (by decide) ?_
                        refine x_aload_n 0 dX11_termStep_264 rfl rfl ?_
                        refine x_getR dX11_termStep_265 lm_0 fl_X11_44 rfl ?_
                        refine x_aload_n 0 dX11_termStep_268 rfl rfl ?_
                        refine x_getI (v := ((q416.2 0 22) - (1 : Int32))) dX11_termStep_269 lm_0 fl_X11_284 rfl (by rw [hI421, z2_o (by decide), hI418, z2_s, z1_s]) ?_
                        refine x_iald (j := (((q416.2 0 22) - (1 : Int32))).toNatClampNeg) (v := (q416.2 8 (((q416.2 0 22) - (1 : Int32))).toNatClampNeg)) dX11_termStep_272 lm_8 h419 rfl (by rw [hI421, z2_o (by decide), hI418, z2_o (by decide)]) ?_
                        refine x_imul dX11_termStep_273 ?_
                        refine x_iadd dX11_termStep_274 ?_
                        refine x_iconst (v := (4)) dX11_termStep_275 (by decide) ?_
                        refine x_iadd dX11_termStep_276 ?_
                        refine x_iload_n 2 dX11_termStep_277 rfl rfl ?_
                        obtain ⟨h423, hf⟩ := f_gd hf
                        obtain ⟨I424, hI424, hf⟩ := f_lt hf
                        refine x_iast (j0 := ((((1772 : Int32) + ((6 : Int32) * (q416.2 8 (((q416.2 0 22) - (1 : Int32))).toNatClampNeg))) + (4 : Int32))).toNatClampNeg) dX11_termStep_278 lm_1 h423 rfl hI424 ?_
                        refine x_aload_n 0 dX11_termStep_279 rfl rfl ?_
                        refine x_bipush (v := (59)) dX11_termStep_280 (by decide) ?_
                        obtain ⟨q425, hq426, hf⟩ := f_bd hf
                        refine x_callVi [.int (59 : Int32)] (c_X11_wantSign (I := I424) (L := L)  hq426) dX11_termStep_282 lk_X11_260 lm_0 rfl cd_X11_wantSign rfl rfl (Nat.le_of_ble_eq_true rfl) ⟨rfl, rfl, Nat.le_of_ble_eq_true rfl, Nat.le_of_ble_eq_true rfl⟩ ?_
                        cases hf
                        exact x_zret dX11_termStep_285 rfl rfl
                    · replace hf := f_el hB hf
                      refine x_iconst (v := (0)) dX11_termStep_195 (by decide) ?_
                      cases hf
                      exact x_zret (b := false) dX11_termStep_196 rfl rfl
              · replace hf := f_el hB hf
                refine x_aload_n 4 dX11_termStep_81 rfl rfl ?_
                refine x_getI (v := (I 0 23)) dX11_termStep_82 lm_0 fl_X11_287 rfl rfl ?_
                refine x_bipush (v := (30)) dX11_termStep_85 (by decide) ?_
                refine x_icmp_ne 97 dX11_termStep_87 (by decide) (fun hB => ?_) (fun hB => ?_)
                · replace hf := f_el hB hf
                  refine x_iload 0 dX11_termStep_97 rfl ?_
                  refine x_if_eq 117 dX11_termStep_99 (by decide) (fun _ => ?_) (fun h => absurd h (by decide))
                  refine x_aload_n 4 dX11_termStep_117 rfl rfl ?_
                  refine x_dup dX11_termStep_118 rfl ?_
                  refine x_getI (v := (I 0 23)) dX11_termStep_119 lm_0 fl_X11_287 rfl rfl ?_
                  refine x_iload_n 3 dX11_termStep_122 rfl rfl ?_
                  refine x_bipush (v := (20)) dX11_termStep_123 (by decide) ?_
                  refine x_icmp_ne 132 dX11_termStep_125 (by decide) (fun hB => ?_) (fun hB => ?_)
                  · replace hf := f_el hB hf
                    refine x_iconst (v := (1)) dX11_termStep_132 (by decide) ?_
                    refine x_iadd dX11_termStep_133 ?_
                    obtain ⟨I473, hI473, hf⟩ := f_lt hf
                    refine x_putI dX11_termStep_134 lm_0 fl_X11_287 rfl rfl rfl hI473 ?_
                    refine x_aload_n 4 dX11_termStep_137 rfl rfl ?_
                    refine x_getR dX11_termStep_138 lm_0 fl_X11_7 rfl ?_
                    refine x_iload_n 1 dX11_termStep_141 rfl rfl ?_
                    refine x_iload_n 3 dX11_termStep_142 rfl rfl ?_
                    obtain ⟨h474, hf⟩ := f_gd hf
                    obtain ⟨I475, hI475, hf⟩ := f_lt hf
                    refine x_iast (j0 := (w4).toNatClampNeg) dX11_termStep_143 lm_1 h474 rfl hI475 ?_
                    refine x_iconst (v := (1)) dX11_termStep_144 (by decide) ?_
                    refine x_istore [(5, .int (1 : Int32)), (4, .int (0 : Int32)), (3, .int w4), (2, .int (I 1 1719)), (1, .int q1), (0, .ref 0)] dX11_termStep_145 (by decide) rfl ?_
                    refine x_lv [(0, .ref 0), (1, .int q1), (2, .int (I 1 1719)), (3, .int w4), (4, .int (0 : Int32)), (5, .int (1 : Int32))] [5, 4, 3, 2, 1, 0] rfl ?_
                    refine l_X11_termStep_147 q1 (I 1 1719) w4 (0 : Int32) (L) _ ?_ _ _ _ hf
                    · intro I_476 hf
                      refine x_aload_n 0 dX11_termStep_170 rfl rfl ?_
                      refine x_getR dX11_termStep_171 lm_0 fl_X11_7 rfl ?_
                      refine x_sipush (v := (1719)) dX11_termStep_174 (by decide) ?_
                      refine x_dup2 dX11_termStep_177 rfl rfl ?_
                      refine x_iald (j := 1719) (v := (I_476 1 1719)) dX11_termStep_178 lm_1 (by decide +kernel) (by decide +kernel) rfl ?_
                      refine x_iconst (v := (1)) dX11_termStep_179 (by decide) ?_
                      refine x_iadd dX11_termStep_180 ?_
                      obtain ⟨I479, hI479, hf⟩ := f_lt hf
                      refine x_iast (j0 := 1719) dX11_termStep_181 lm_1 (by decide +kernel) (by decide +kernel) hI479 ?_
                      refine x_aload_n 0 dX11_termStep_182 rfl rfl ?_
                      obtain ⟨q480, hq481, hf⟩ := f_bd hf
                      refine x_callVv [] (c_X11_ahead (I := I479) (L := L)  hq481) dX11_termStep_183 lk_X11_175 lm_0 rfl cd_X11_ahead rfl rfl (Nat.le_of_ble_eq_true rfl) ⟨rfl, rfl, Nat.le_of_ble_eq_true rfl, Nat.le_of_ble_eq_true rfl⟩ ?_
                      refine x_aload_n 0 dX11_termStep_186 rfl rfl ?_
                      refine x_iload_n 1 dX11_termStep_187 rfl rfl ?_
                      refine x_iload_n 3 dX11_termStep_188 rfl rfl ?_
                      obtain ⟨q482, hq483, hf⟩ := f_bd hf
                      refine x_callVi [.int q1, .int w4] (c_X11_termOrder (I := q480) (L := L)  hq483) dX11_termStep_189 lk_X11_290 lm_0 rfl cd_X11_termOrder rfl rfl (Nat.le_of_ble_eq_true rfl) ⟨rfl, rfl, Nat.le_of_ble_eq_true rfl, Nat.le_of_ble_eq_true rfl⟩ ?_
                      refine x_if_neB 197 dX11_termStep_192 (by decide) (fun hB => ?_) (fun hB => ?_)
                      · replace hf := f_if hB hf
                        refine x_iload 4 dX11_termStep_197 rfl ?_
                        refine x_if_eq 222 dX11_termStep_199 (by decide) (fun _ => ?_) (fun h => absurd h (by decide))
                        refine x_iload_n 1 dX11_termStep_222 rfl rfl ?_
                        refine x_bipush (v := (20)) dX11_termStep_223 (by decide) ?_
                        refine x_icmp_ne 279 dX11_termStep_225 (by decide) (fun hB => ?_) (fun hB => ?_)
                        · replace hf := f_el hB hf
                          refine x_aload_n 0 dX11_termStep_279 rfl rfl ?_
                          refine x_bipush (v := (59)) dX11_termStep_280 (by decide) ?_
                          obtain ⟨q493, hq494, hf⟩ := f_bd hf
                          refine x_callVi [.int (59 : Int32)] (c_X11_wantSign (I := q482.2) (L := L)  hq494) dX11_termStep_282 lk_X11_260 lm_0 rfl cd_X11_wantSign rfl rfl (Nat.le_of_ble_eq_true rfl) ⟨rfl, rfl, Nat.le_of_ble_eq_true rfl, Nat.le_of_ble_eq_true rfl⟩ ?_
                          cases hf
                          exact x_zret dX11_termStep_285 rfl rfl
                        · replace hf := f_if hB hf
                          refine x_aload_n 0 dX11_termStep_228 rfl rfl ?_
                          refine x_dup dX11_termStep_229 rfl ?_
                          refine x_getI (v := (q482.2 0 22)) dX11_termStep_230 lm_0 fl_X11_284 rfl rfl ?_
                          refine x_iconst (v := (1)) dX11_termStep_233 (by decide) ?_
                          refine x_isub dX11_termStep_234 ?_
                          obtain ⟨I484, hI484, hf⟩ := f_lt hf
                          refine x_putI dX11_termStep_235 lm_0 fl_X11_284 rfl rfl rfl hI484 ?_
                          refine x_aload_n 0 dX11_termStep_238 rfl rfl ?_
                          refine x_getR dX11_termStep_239 lm_0 fl_X11_7 rfl ?_
                          refine x_iload_n 3 dX11_termStep_242 rfl rfl ?_
                          refine x_iconst (v := (4)) dX11_termStep_243 (by decide) ?_
                          refine x_iadd dX11_termStep_244 ?_
                          refine x_aload_n 0 dX11_termStep_245 rfl rfl ?_
                          refine x_getR dX11_termStep_246 lm_0 fl_X11_44 rfl ?_
                          refine x_aload_n 0 dX11_termStep_249 rfl rfl ?_
                          refine x_getI (v := ((q482.2 0 22) - (1 : Int32))) dX11_termStep_250 lm_0 fl_X11_284 rfl (by rw [hI484, z2_s, z1_s]) ?_
                          obtain ⟨h485, hf⟩ := f_gd hf
                          refine x_iald (j := (((q482.2 0 22) - (1 : Int32))).toNatClampNeg) (v := (q482.2 8 (((q482.2 0 22) - (1 : Int32))).toNatClampNeg)) dX11_termStep_253 lm_8 h485 rfl (by rw [hI484, z2_o (by decide)]) ?_
                          obtain ⟨h486, hf⟩ := f_gd hf
                          obtain ⟨I487, hI487, hf⟩ := f_lt hf
                          refine x_iast (j0 := ((w4 + (4 : Int32))).toNatClampNeg) dX11_termStep_254 lm_1 h486 rfl hI487 ?_
                          refine x_aload_n 0 dX11_termStep_255 rfl rfl ?_
                          refine x_getR dX11_termStep_256 lm_0 fl_X11_7 rfl ?_
                          refine x_sipush (v := (1772)) dX11_termStep_259 (by decide) ?_
                          refine x_bipush (v := (6)) dX11_termStep_262 (by decide) ?_
                          refine x_aload_n 0 dX11_termStep_264 rfl rfl ?_
                          refine x_getR dX11_termStep_265 lm_0 fl_X11_44 rfl ?_
                          refine x_aload_n 0 dX11_termStep_268 rfl rfl ?_
                          refine x_getI (v := ((q482.2 0 22) - (1 : Int32))) dX11_termStep_269 lm_0 fl_X11_284 rfl (by rw [hI487, z2_o (by decide), hI484, z2_s, z1_s]) ?_
                          refine x_iald (j := (((q482.2 0 22) - (1 : Int32))).toNatClampNeg) (v := (q482.2 8 (((q482.2 0 22) - (1 : Int32))).toNatClampNeg)) dX11_termStep_272 lm_8 h485 rfl (by rw [hI487, z2_o (by decide), hI484, z2_o (by decide)]) ?_
                          refine x_imul dX11_termStep_273 ?_
                          refine x_iadd dX11_termStep_274 ?_
                          refine x_iconst (v := (4)) dX11_termStep_275 (by decide) ?_
                          refine x_iadd dX11_termStep_276 ?_
                          refine x_iload_n 2 dX11_termStep_277 rfl rfl ?_
                          obtain ⟨h489, hf⟩ := f_gd hf
                          obtain ⟨I490, hI490, hf⟩ := f_lt hf
                          refine x_iast (j0 := ((((1772 : Int32) + ((6 : Int32) * (q482.2 8 (((q482.2 0 22) - (1 : Int32))).toNatClampNeg))) + (4 : Int32))).toNatClampNeg) dX11_termStep_278 lm_1 h489 rfl hI490 ?_
                          refine x_aload_n 0 dX11_termStep_279 rfl rfl ?_
                          refine x_bipush (v := (59)) dX11_termStep_280 (by decide) ?_
                          obtain ⟨q491, hq492, hf⟩ := f_bd hf
                          refine x_callVi [.int (59 : Int32)] (c_X11_wantSign (I := I490) (L := L)  hq492) dX11_termStep_282 lk_X11_260 lm_0 rfl cd_X11_wantSign rfl rfl (Nat.le_of_ble_eq_true rfl) ⟨rfl, rfl, Nat.le_of_ble_eq_true rfl, Nat.le_of_ble_eq_true rfl⟩ ?_
                          cases hf
                          exact x_zret dX11_termStep_285 rfl rfl
                      · replace hf := f_el hB hf
                        refine x_iconst (v := (0)) dX11_termStep_195 (by decide) ?_
                        cases hf
                        exact x_zret (b := false) dX11_termStep_196 rfl rfl
                  · replace hf := f_if hB hf
                    refine x_iconst (v := (0)) dX11_termStep_128 (by decide) ?_
                    refine x_goto 133 dX11_termStep_129 (by decide) ?_
                    refine x_iadd dX11_termStep_133 ?_
                    obtain ⟨I451, hI451, hf⟩ := f_lt hf
                    refine x_putI dX11_termStep_134 lm_0 fl_X11_287 rfl rfl rfl hI451 ?_
                    refine x_aload_n 4 dX11_termStep_137 rfl rfl ?_
                    refine x_getR dX11_termStep_138 lm_0 fl_X11_7 rfl ?_
                    refine x_iload_n 1 dX11_termStep_141 rfl rfl ?_
                    refine x_iload_n 3 dX11_termStep_142 rfl rfl ?_
                    obtain ⟨h452, hf⟩ := f_gd hf
                    obtain ⟨I453, hI453, hf⟩ := f_lt hf
                    refine x_iast (j0 := (w4).toNatClampNeg) dX11_termStep_143 lm_1 h452 rfl hI453 ?_
                    refine x_iconst (v := (1)) dX11_termStep_144 (by decide) ?_
                    refine x_istore [(5, .int (1 : Int32)), (4, .int (0 : Int32)), (3, .int w4), (2, .int (I 1 1719)), (1, .int q1), (0, .ref 0)] dX11_termStep_145 (by decide) rfl ?_
                    refine x_lv [(0, .ref 0), (1, .int q1), (2, .int (I 1 1719)), (3, .int w4), (4, .int (0 : Int32)), (5, .int (1 : Int32))] [5, 4, 3, 2, 1, 0] rfl ?_
                    refine l_X11_termStep_147 q1 (I 1 1719) w4 (0 : Int32) (L) _ ?_ _ _ _ hf
                    · intro I_454 hf
                      refine x_aload_n 0 dX11_termStep_170 rfl rfl ?_
                      refine x_getR dX11_termStep_171 lm_0 fl_X11_7 rfl ?_
                      refine x_sipush (v := (1719)) dX11_termStep_174 (by decide) ?_
                      refine x_dup2 dX11_termStep_177 rfl rfl ?_
                      refine x_iald (j := 1719) (v := (I_454 1 1719)) dX11_termStep_178 lm_1 (by decide +kernel) (by decide +kernel) rfl ?_
                      refine x_iconst (v := (1)) dX11_termStep_179 (by decide) ?_
                      refine x_iadd dX11_termStep_180 ?_
                      obtain ⟨I457, hI457, hf⟩ := f_lt hf
                      refine x_iast (j0 := 1719) dX11_termStep_181 lm_1 (by decide +kernel) (by decide +kernel) hI457 ?_
                      refine x_aload_n 0 dX11_termStep_182 rfl rfl ?_
                      obtain ⟨q458, hq459, hf⟩ := f_bd hf
                      refine x_callVv [] (c_X11_ahead (I := I457) (L := L)  hq459) dX11_termStep_183 lk_X11_175 lm_0 rfl cd_X11_ahead rfl rfl (Nat.le_of_ble_eq_true rfl) ⟨rfl, rfl, Nat.le_of_ble_eq_true rfl, Nat.le_of_ble_eq_true rfl⟩ ?_
                      refine x_aload_n 0 dX11_termStep_186 rfl rfl ?_
                      refine x_iload_n 1 dX11_termStep_187 rfl rfl ?_
                      refine x_iload_n 3 dX11_termStep_188 rfl rfl ?_
                      obtain ⟨q460, hq461, hf⟩ := f_bd hf
                      refine x_callVi [.int q1, .int w4] (c_X11_termOrder (I := q458) (L := L)  hq461) dX11_termStep_189 lk_X11_290 lm_0 rfl cd_X11_termOrder rfl rfl (Nat.le_of_ble_eq_true rfl) ⟨rfl, rfl, Nat.le_of_ble_eq_true rfl, Nat.le_of_ble_eq_true rfl⟩ ?_
                      refine x_if_neB 197 dX11_termStep_192 (by decide) (fun hB => ?_) (fun hB => ?_)
                      · replace hf := f_if hB hf
                        refine x_iload 4 dX11_termStep_197 rfl ?_
                        refine x_if_eq 222 dX11_termStep_199 (by decide) (fun _ => ?_) (fun h => absurd h (by decide))
                        refine x_iload_n 1 dX11_termStep_222 rfl rfl ?_
                        refine x_bipush (v := (20)) dX11_termStep_223 (by decide) ?_
                        refine x_icmp_ne 279 dX11_termStep_225 (by decide) (fun hB => ?_) (fun hB => ?_)
                        · replace hf := f_el hB hf
                          refine x_aload_n 0 dX11_termStep_279 rfl rfl ?_
                          refine x_bipush (v := (59)) dX11_termStep_280 (by decide) ?_
                          obtain ⟨q471, hq472, hf⟩ := f_bd hf
                          refine x_callVi [.int (59 : Int32)] (c_X11_wantSign (I := q460.2) (L := L)  hq472) dX11_termStep_282 lk_X11_260 lm_0 rfl cd_X11_wantSign rfl rfl (Nat.le_of_ble_eq_true rfl) ⟨rfl, rfl, Nat.le_of_ble_eq_true rfl, Nat.le_of_ble_eq_true rfl⟩ ?_
                          cases hf
                          exact x_zret dX11_termStep_285 rfl rfl
                        · replace hf := f_if hB hf
                          refine x_aload_n 0 dX11_termStep_228 rfl rfl ?_
                          refine x_dup dX11_termStep_229 rfl ?_
                          refine x_getI (v := (q460.2 0 22)) dX11_termStep_230 lm_0 fl_X11_284 rfl rfl ?_
                          refine x_iconst (v := (1)) dX11_termStep_233 (by decide) ?_
                          refine x_isub dX11_termStep_234 ?_
                          obtain ⟨I462, hI462, hf⟩ := f_lt hf
                          refine x_putI dX11_termStep_235 lm_0 fl_X11_284 rfl rfl rfl hI462 ?_
                          refine x_aload_n 0 dX11_termStep_238 rfl rfl ?_
                          refine x_getR dX11_termStep_239 lm_0 fl_X11_7 rfl ?_
                          refine x_iload_n 3 dX11_termStep_242 rfl rfl ?_
                          refine x_iconst (v := (4)) dX11_termStep_243 (by decide) ?_
                          refine x_iadd dX11_termStep_244 ?_
                          refine x_aload_n 0 dX11_termStep_245 rfl rfl ?_
                          refine x_getR dX11_termStep_246 lm_0 fl_X11_44 rfl ?_
                          refine x_aload_n 0 dX11_termStep_249 rfl rfl ?_
                          refine x_getI (v := ((q460.2 0 22) - (1 : Int32))) dX11_termStep_250 lm_0 fl_X11_284 rfl (by rw [hI462, z2_s, z1_s]) ?_
                          obtain ⟨h463, hf⟩ := f_gd hf
                          refine x_iald (j := (((q460.2 0 22) - (1 : Int32))).toNatClampNeg) (v := (q460.2 8 (((q460.2 0 22) - (1 : Int32))).toNatClampNeg)) dX11_termStep_253 lm_8 h463 rfl (by rw [hI462, z2_o (by decide)]) ?_
                          obtain ⟨h464, hf⟩ := f_gd hf
                          obtain ⟨I465, hI465, hf⟩ := f_lt hf
                          refine x_iast (j0 := ((w4 + (4 : Int32))).toNatClampNeg) dX11_termStep_254 lm_1 h464 rfl hI465 ?_
                          refine x_aload_n 0 dX11_termStep_255 rfl rfl ?_
                          refine x_getR dX11_termStep_256 lm_0 fl_X11_7 rfl ?_
                          refine x_sipush (v := (1772)) dX11_termStep_259 (by decide) ?_
                          refine x_bipush (v := (6)) dX11_termStep_262 (by decide) ?_
                          refine x_aload_n 0 dX11_termStep_264 rfl rfl ?_
                          refine x_getR dX11_termStep_265 lm_0 fl_X11_44 rfl ?_
                          refine x_aload_n 0 dX11_termStep_268 rfl rfl ?_
                          refine x_getI (v := ((q460.2 0 22) - (1 : Int32))) dX11_termStep_269 lm_0 fl_X11_284 rfl (by rw [hI465, z2_o (by decide), hI462, z2_s, z1_s]) ?_
                          refine x_iald (j := (((q460.2 0 22) - (1 : Int32))).toNatClampNeg) (v := (q460.2 8 (((q460.2 0 22) - (1 : Int32))).toNatClampNeg)) dX11_termStep_272 lm_8 h463 rfl (by rw [hI465, z2_o (by decide), hI462, z2_o (by decide)]) ?_
                          refine x_imul dX11_termStep_273 ?_
                          refine x_iadd dX11_termStep_274 ?_
                          refine x_iconst (v := (4)) dX11_termStep_275 (by decide) ?_
                          refine x_iadd dX11_termStep_276 ?_
                          refine x_iload_n 2 dX11_termStep_277 rfl rfl ?_
                          obtain ⟨h467, hf⟩ := f_gd hf
                          obtain ⟨I468, hI468, hf⟩ := f_lt hf
                          refine x_iast (j0 := ((((1772 : Int32) + ((6 : Int32) * (q460.2 8 (((q460.2 0 22) - (1 : Int32))).toNatClampNeg))) + (4 : Int32))).toNatClampNeg) dX11_termStep_278 lm_1 h467 rfl hI468 ?_
                          refine x_aload_n 0 dX11_termStep_279 rfl rfl ?_
                          refine x_bipush (v := (59)) dX11_termStep_280 (by decide) ?_
                          obtain ⟨q469, hq470, hf⟩ := f_bd hf
                          refine x_callVi [.int (59 : Int32)] (c_X11_wantSign (I := I468) (L := L)  hq470) dX11_termStep_282 lk_X11_260 lm_0 rfl cd_X11_wantSign rfl rfl (Nat.le_of_ble_eq_true rfl) ⟨rfl, rfl, Nat.le_of_ble_eq_true rfl, Nat.le_of_ble_eq_true rfl⟩ ?_
                          cases hf
                          exact x_zret dX11_termStep_285 rfl rfl
                      · replace hf := f_el hB hf
                        refine x_iconst (v := (0)) dX11_termStep_195 (by decide) ?_
                        cases hf
                        exact x_zret (b := false) dX11_termStep_196 rfl rfl
                · replace hf := f_if hB hf
                  refine x_aload_n 4 dX11_termStep_90 rfl rfl ?_
                  refine x_bipush (v := (6)) dX11_termStep_91 (by decide) ?_
                  refine x_callVi [.int (6 : Int32)] (c_X11_fails (I := I) (L := L) (6 : Int32)) dX11_termStep_93 lk_X11_181 lm_0 rfl cd_X11_fails rfl rfl (Nat.le_of_ble_eq_true rfl) ⟨rfl, rfl, Nat.le_of_ble_eq_true rfl, Nat.le_of_ble_eq_true rfl⟩ ?_
                  cases hf
                  exact x_zret dX11_termStep_96 rfl rfl
            · replace hf := f_if hB hf
              refine x_aload_n 4 dX11_termStep_69 rfl rfl ?_
              refine x_iconst (v := (2)) dX11_termStep_70 (by decide) ?_
              refine x_callVi [.int (2 : Int32)] (c_X11_fails (I := I) (L := L) (2 : Int32)) dX11_termStep_71 lk_X11_181 lm_0 rfl cd_X11_fails rfl rfl (Nat.le_of_ble_eq_true rfl) ⟨rfl, rfl, Nat.le_of_ble_eq_true rfl, Nat.le_of_ble_eq_true rfl⟩ ?_
              cases hf
              exact x_zret dX11_termStep_74 rfl rfl
    · replace hf := f_if hB hf
      refine x_iconst (v := (1)) dX11_termStep_37 (by decide) ?_
      refine x_goto 42 dX11_termStep_38 (by decide) ?_
      refine x_istore [(4, .int (1 : Int32)), (3, .int w4), (2, .int (I 1 1719)), (1, .int q1), (0, .ref 0)] dX11_termStep_42 (by decide) rfl ?_
      refine x_iload_n 3 dX11_termStep_44 rfl rfl ?_
      refine x_bipush (v := (12)) dX11_termStep_45 (by decide) ?_
      refine x_icmp_lt 69 dX11_termStep_47 (by decide) (fun hB => ?_) (fun hB => ?_)
      · replace hf := f_if hB hf
        refine x_aload_n 4 dX11_termStep_69 rfl rfl ?_
        refine x_iconst (v := (2)) dX11_termStep_70 (by decide) ?_
        refine x_callVi [.int (2 : Int32)] (c_X11_fails (I := I) (L := L) (2 : Int32)) dX11_termStep_71 lk_X11_181 lm_0 rfl cd_X11_fails rfl rfl (Nat.le_of_ble_eq_true rfl) ⟨rfl, rfl, Nat.le_of_ble_eq_true rfl, Nat.le_of_ble_eq_true rfl⟩ ?_
        cases hf
        exact x_zret dX11_termStep_74 rfl rfl
      · replace hf := f_el hB hf
        refine x_iload_n 3 dX11_termStep_50 rfl rfl ?_
        refine x_bipush (v := (21)) dX11_termStep_51 (by decide) ?_
        refine x_icmp_gt 69 dX11_termStep_53 (by decide) (fun hB => ?_) (fun hB => ?_)
        · replace hf := f_if hB hf
          refine x_aload_n 4 dX11_termStep_69 rfl rfl ?_
          refine x_iconst (v := (2)) dX11_termStep_70 (by decide) ?_
          refine x_callVi [.int (2 : Int32)] (c_X11_fails (I := I) (L := L) (2 : Int32)) dX11_termStep_71 lk_X11_181 lm_0 rfl cd_X11_fails rfl rfl (Nat.le_of_ble_eq_true rfl) ⟨rfl, rfl, Nat.le_of_ble_eq_true rfl, Nat.le_of_ble_eq_true rfl⟩ ?_
          cases hf
          exact x_zret dX11_termStep_74 rfl rfl
        · replace hf := f_el hB hf
          refine x_iload_n 3 dX11_termStep_56 rfl rfl ?_
          refine x_bipush (v := (20)) dX11_termStep_57 (by decide) ?_
          refine x_icmp_ne 75 dX11_termStep_59 (by decide) (fun hB => ?_) (fun hB => ?_)
          · replace hf := f_el hB hf
            refine x_iload_n 3 dX11_termStep_75 rfl rfl ?_
            refine x_bipush (v := (20)) dX11_termStep_76 (by decide) ?_
            refine x_icmp_eq 97 dX11_termStep_78 (by decide) (fun hB => ?_) (fun hB => ?_)
            · replace hf := f_if hB hf
              refine x_iload 0 dX11_termStep_97 rfl ?_
              refine x_if_eq 117 dX11_termStep_99 (by decide) (fun h => absurd h (by decide)) (fun _ => ?_)
              refine x_aload_n 4 dX11_termStep_102 rfl rfl ?_
              refine x_getI (v := (I 0 22)) dX11_termStep_103 lm_0 fl_X11_284 rfl rfl ?_
              refine x_iconst (v := (3)) dX11_termStep_106 (by decide) ?_
              refine x_icmp_ne 117 dX11_termStep_107 (by decide) (fun hB => ?_) (fun hB => ?_)
              · replace hf := f_el hB hf
                refine x_aload_n 4 dX11_termStep_117 rfl rfl ?_
                refine x_dup dX11_termStep_118 rfl ?_
                refine x_getI (v := (I 0 23)) dX11_termStep_119 lm_0 fl_X11_287 rfl rfl ?_
                refine x_iload_n 3 dX11_termStep_122 rfl rfl ?_
                refine x_bipush (v := (20)) dX11_termStep_123 (by decide) ?_
                refine x_icmp_ne 132 dX11_termStep_125 (by decide) (fun hB => ?_) (fun hB => ?_)
                · replace hf := f_el hB hf
                  refine x_iconst (v := (1)) dX11_termStep_132 (by decide) ?_
                  refine x_iadd dX11_termStep_133 ?_
                  obtain ⟨I332, hI332, hf⟩ := f_lt hf
                  refine x_putI dX11_termStep_134 lm_0 fl_X11_287 rfl rfl rfl hI332 ?_
                  refine x_aload_n 4 dX11_termStep_137 rfl rfl ?_
                  refine x_getR dX11_termStep_138 lm_0 fl_X11_7 rfl ?_
                  refine x_iload_n 1 dX11_termStep_141 rfl rfl ?_
                  refine x_iload_n 3 dX11_termStep_142 rfl rfl ?_
                  obtain ⟨h333, hf⟩ := f_gd hf
                  obtain ⟨I334, hI334, hf⟩ := f_lt hf
                  refine x_iast (j0 := (w4).toNatClampNeg) dX11_termStep_143 lm_1 h333 rfl hI334 ?_
                  refine x_iconst (v := (1)) dX11_termStep_144 (by decide) ?_
                  refine x_istore [(5, .int (1 : Int32)), (4, .int (1 : Int32)), (3, .int w4), (2, .int (I 1 1719)), (1, .int q1), (0, .ref 0)] dX11_termStep_145 (by decide) rfl ?_
                  refine x_lv [(0, .ref 0), (1, .int q1), (2, .int (I 1 1719)), (3, .int w4), (4, .int (1 : Int32)), (5, .int (1 : Int32))] [5, 4, 3, 2, 1, 0] rfl ?_
                  refine l_X11_termStep_147 q1 (I 1 1719) w4 (1 : Int32) (L) _ ?_ _ _ _ hf
                  · intro I_335 hf
                    refine x_aload_n 0 dX11_termStep_170 rfl rfl ?_
                    refine x_getR dX11_termStep_171 lm_0 fl_X11_7 rfl ?_
                    refine x_sipush (v := (1719)) dX11_termStep_174 (by decide) ?_
                    refine x_dup2 dX11_termStep_177 rfl rfl ?_
                    refine x_iald (j := 1719) (v := (I_335 1 1719)) dX11_termStep_178 lm_1 (by decide +kernel) (by decide +kernel) rfl ?_
                    refine x_iconst (v := (1)) dX11_termStep_179 (by decide) ?_
                    refine x_iadd dX11_termStep_180 ?_
                    obtain ⟨I338, hI338, hf⟩ := f_lt hf
                    refine x_iast (j0 := 1719) dX11_termStep_181 lm_1 (by decide +kernel) (by decide +kernel) hI338 ?_
                    refine x_aload_n 0 dX11_termStep_182 rfl rfl ?_
                    obtain ⟨q339, hq340, hf⟩ := f_bd hf
                    refine x_callVv [] (c_X11_ahead (I := I338) (L := L)  hq340) dX11_termStep_183 lk_X11_175 lm_0 rfl cd_X11_ahead rfl rfl (Nat.le_of_ble_eq_true rfl) ⟨rfl, rfl, Nat.le_of_ble_eq_true rfl, Nat.le_of_ble_eq_true rfl⟩ ?_
                    refine x_aload_n 0 dX11_termStep_186 rfl rfl ?_
                    refine x_iload_n 1 dX11_termStep_187 rfl rfl ?_
                    refine x_iload_n 3 dX11_termStep_188 rfl rfl ?_
                    obtain ⟨q341, hq342, hf⟩ := f_bd hf
                    refine x_callVi [.int q1, .int w4] (c_X11_termOrder (I := q339) (L := L)  hq342) dX11_termStep_189 lk_X11_290 lm_0 rfl cd_X11_termOrder rfl rfl (Nat.le_of_ble_eq_true rfl) ⟨rfl, rfl, Nat.le_of_ble_eq_true rfl, Nat.le_of_ble_eq_true rfl⟩ ?_
                    refine x_if_neB 197 dX11_termStep_192 (by decide) (fun hB => ?_) (fun hB => ?_)
                    · replace hf := f_if hB hf
                      refine x_iload 4 dX11_termStep_197 rfl ?_
                      refine x_if_eq 222 dX11_termStep_199 (by decide) (fun h => absurd h (by decide)) (fun _ => ?_)
                      refine x_aload_n 0 dX11_termStep_202 rfl rfl ?_
                      refine x_getR dX11_termStep_203 lm_0 fl_X11_44 rfl ?_
                      refine x_aload_n 0 dX11_termStep_206 rfl rfl ?_
                      refine x_getI (v := (q341.2 0 22)) dX11_termStep_207 lm_0 fl_X11_284 rfl rfl ?_
                      refine x_iload_n 2 dX11_termStep_210 rfl rfl ?_
                      obtain ⟨h343, hf⟩ := f_gd hf
                      obtain ⟨I344, hI344, hf⟩ := f_lt hf
                      refine x_iast (j0 := ((q341.2 0 22)).toNatClampNeg) dX11_termStep_211 lm_8 h343 rfl hI344 ?_
                      refine x_aload_n 0 dX11_termStep_212 rfl rfl ?_
                      refine x_dup dX11_termStep_213 rfl ?_
                      refine x_getI (v := (q341.2 0 22)) dX11_termStep_214 lm_0 fl_X11_284 rfl (by rw [hI344, z2_o (by decide)]) ?_
                      refine x_iconst (v := (1)) dX11_termStep_217 (by decide) ?_
                      refine x_iadd dX11_termStep_218 ?_
                      obtain ⟨I345, hI345, hf⟩ := f_lt hf
                      refine x_putI dX11_termStep_219 lm_0 fl_X11_284 rfl rfl rfl hI345 ?_
                      refine x_iload_n 1 dX11_termStep_222 rfl rfl ?_
                      refine x_bipush (v := (20)) dX11_termStep_223 (by decide) ?_
                      refine x_icmp_ne 279 dX11_termStep_225 (by decide) (fun hB => ?_) (fun hB => ?_)
                      · replace hf := f_el hB hf
                        refine x_aload_n 0 dX11_termStep_279 rfl rfl ?_
                        refine x_bipush (v := (59)) dX11_termStep_280 (by decide) ?_
                        obtain ⟨q355, hq356, hf⟩ := f_bd hf
                        refine x_callVi [.int (59 : Int32)] (c_X11_wantSign (I := I345) (L := L)  hq356) dX11_termStep_282 lk_X11_260 lm_0 rfl cd_X11_wantSign rfl rfl (Nat.le_of_ble_eq_true rfl) ⟨rfl, rfl, Nat.le_of_ble_eq_true rfl, Nat.le_of_ble_eq_true rfl⟩ ?_
                        cases hf
                        exact x_zret dX11_termStep_285 rfl rfl
                      · replace hf := f_if hB hf
                        refine x_aload_n 0 dX11_termStep_228 rfl rfl ?_
                        refine x_dup dX11_termStep_229 rfl ?_
                        refine x_getI (v := ((q341.2 0 22) + (1 : Int32))) dX11_termStep_230 lm_0 fl_X11_284 rfl (by rw [hI345, z2_s, z1_s]) ?_
                        refine x_iconst (v := (1)) dX11_termStep_233 (by decide) ?_
                        refine x_isub dX11_termStep_234 ?_
                        obtain ⟨I346, hI346, hf⟩ := f_lt hf
                        refine x_putI dX11_termStep_235 lm_0 fl_X11_284 rfl rfl rfl hI346 ?_
                        refine x_aload_n 0 dX11_termStep_238 rfl rfl ?_
                        refine x_getR dX11_termStep_239 lm_0 fl_X11_7 rfl ?_
                        refine x_iload_n 3 dX11_termStep_242 rfl rfl ?_
                        refine x_iconst (v := (4)) dX11_termStep_243 (by decide) ?_
                        refine x_iadd dX11_termStep_244 ?_
                        refine x_aload_n 0 dX11_termStep_245 rfl rfl ?_
                        refine x_getR dX11_termStep_246 lm_0 fl_X11_44 rfl ?_
                        refine x_aload_n 0 dX11_termStep_249 rfl rfl ?_
                        refine x_getI (v := (((q341.2 0 22) + (1 : Int32)) - (1 : Int32))) dX11_termStep_250 lm_0 fl_X11_284 rfl (by rw [hI346, z2_s, z1_s]) ?_
                        obtain ⟨h347, hf⟩ := f_gd hf
                        refine x_iald (j := ((((q341.2 0 22) + (1 : Int32)) - (1 : Int32))).toNatClampNeg) (v := (I344 8 ((((q341.2 0 22) + (1 : Int32)) - (1 : Int32))).toNatClampNeg)) dX11_termStep_253 lm_8 h347 rfl (by rw [hI346, z2_o (by decide), hI345, z2_o (by decide)]) ?_
                        obtain ⟨h348, hf⟩ := f_gd hf
                        obtain ⟨I349, hI349, hf⟩ := f_lt hf
                        refine x_iast (j0 := ((w4 + (4 : Int32))).toNatClampNeg) dX11_termStep_254 lm_1 h348 rfl hI349 ?_
                        refine x_aload_n 0 dX11_termStep_255 rfl rfl ?_
                        refine x_getR dX11_termStep_256 lm_0 fl_X11_7 rfl ?_
                        refine x_sipush (v := (1772)) dX11_termStep_259 (by decide) ?_
                        refine x_bipush (v := (6)) dX11_termStep_262 (by decide) ?_
                        refine x_aload_n 0 dX11_termStep_264 rfl rfl ?_
                        refine x_getR dX11_termStep_265 lm_0 fl_X11_44 rfl ?_
                        refine x_aload_n 0 dX11_termStep_268 rfl rfl ?_
                        refine x_getI (v := (((q341.2 0 22) + (1 : Int32)) - (1 : Int32))) dX11_termStep_269 lm_0 fl_X11_284 rfl (by rw [hI349, z2_o (by decide), hI346, z2_s, z1_s]) ?_
                        refine x_iald (j := ((((q341.2 0 22) + (1 : Int32)) - (1 : Int32))).toNatClampNeg) (v := (I344 8 ((((q341.2 0 22) + (1 : Int32)) - (1 : Int32))).toNatClampNeg)) dX11_termStep_272 lm_8 h347 rfl (by rw [hI349, z2_o (by decide), hI346, z2_o (by decide), hI345, z2_o (by decide)]) ?_
                        refine x_imul dX11_termStep_273 ?_
                        refine x_iadd dX11_termStep_274 ?_
                        refine x_iconst (v := (4)) dX11_termStep_275 (by decide) ?_
                        refine x_iadd dX11_termStep_276 ?_
                        refine x_iload_n 2 dX11_termStep_277 rfl rfl ?_
                        obtain ⟨h351, hf⟩ := f_gd hf
                        obtain ⟨I352, hI352, hf⟩ := f_lt hf
                        refine x_iast (j0 := ((((1772 : Int32) + ((6 : Int32) * (I344 8 ((((q341.2 0 22) + (1 : Int32)) - (1 : Int32))).toNatClampNeg))) + (4 : Int32))).toNatClampNeg) dX11_termStep_278 lm_1 h351 rfl hI352 ?_
                        refine x_aload_n 0 dX11_termStep_279 rfl rfl ?_
                        refine x_bipush (v := (59)) dX11_termStep_280 (by decide) ?_
                        obtain ⟨q353, hq354, hf⟩ := f_bd hf
                        refine x_callVi [.int (59 : Int32)] (c_X11_wantSign (I := I352) (L := L)  hq354) dX11_termStep_282 lk_X11_260 lm_0 rfl cd_X11_wantSign rfl rfl (Nat.le_of_ble_eq_true rfl) ⟨rfl, rfl, Nat.le_of_ble_eq_true rfl, Nat.le_of_ble_eq_true rfl⟩ ?_
                        cases hf
                        exact x_zret dX11_termStep_285 rfl rfl
                    · replace hf := f_el hB hf
                      refine x_iconst (v := (0)) dX11_termStep_195 (by decide) ?_
                      cases hf
                      exact x_zret (b := false) dX11_termStep_196 rfl rfl
                · replace hf := f_if hB hf
                  refine x_iconst (v := (0)) dX11_termStep_128 (by decide) ?_
                  refine x_goto 133 dX11_termStep_129 (by decide) ?_
                  refine x_iadd dX11_termStep_133 ?_
                  obtain ⟨I307, hI307, hf⟩ := f_lt hf
                  refine x_putI dX11_termStep_134 lm_0 fl_X11_287 rfl rfl rfl hI307 ?_
                  refine x_aload_n 4 dX11_termStep_137 rfl rfl ?_
                  refine x_getR dX11_termStep_138 lm_0 fl_X11_7 rfl ?_
                  refine x_iload_n 1 dX11_termStep_141 rfl rfl ?_
                  refine x_iload_n 3 dX11_termStep_142 rfl rfl ?_
                  obtain ⟨h308, hf⟩ := f_gd hf
                  obtain ⟨I309, hI309, hf⟩ := f_lt hf
                  refine x_iast (j0 := (w4).toNatClampNeg) dX11_termStep_143 lm_1 h308 rfl hI309 ?_
                  refine x_iconst (v := (1)) dX11_termStep_144 (by decide) ?_
                  refine x_istore [(5, .int (1 : Int32)), (4, .int (1 : Int32)), (3, .int w4), (2, .int (I 1 1719)), (1, .int q1), (0, .ref 0)] dX11_termStep_145 (by decide) rfl ?_
                  refine x_lv [(0, .ref 0), (1, .int q1), (2, .int (I 1 1719)), (3, .int w4), (4, .int (1 : Int32)), (5, .int (1 : Int32))] [5, 4, 3, 2, 1, 0] rfl ?_
                  refine l_X11_termStep_147 q1 (I 1 1719) w4 (1 : Int32) (L) _ ?_ _ _ _ hf
                  · intro I_310 hf
                    refine x_aload_n 0 dX11_termStep_170 rfl rfl ?_
                    refine x_getR dX11_termStep_171 lm_0 fl_X11_7 rfl ?_
                    refine x_sipush (v := (1719)) dX11_termStep_174 (by decide) ?_
                    refine x_dup2 dX11_termStep_177 rfl rfl ?_
                    refine x_iald (j := 1719) (v := (I_310 1 1719)) dX11_termStep_178 lm_1 (by decide +kernel) (by decide +kernel) rfl ?_
                    refine x_iconst (v := (1)) dX11_termStep_179 (by decide) ?_
                    refine x_iadd dX11_termStep_180 ?_
                    obtain ⟨I313, hI313, hf⟩ := f_lt hf
                    refine x_iast (j0 := 1719) dX11_termStep_181 lm_1 (by decide +kernel) (by decide +kernel) hI313 ?_
                    refine x_aload_n 0 dX11_termStep_182 rfl rfl ?_
                    obtain ⟨q314, hq315, hf⟩ := f_bd hf
                    refine x_callVv [] (c_X11_ahead (I := I313) (L := L)  hq315) dX11_termStep_183 lk_X11_175 lm_0 rfl cd_X11_ahead rfl rfl (Nat.le_of_ble_eq_true rfl) ⟨rfl, rfl, Nat.le_of_ble_eq_true rfl, Nat.le_of_ble_eq_true rfl⟩ ?_
                    refine x_aload_n 0 dX11_termStep_186 rfl rfl ?_
                    refine x_iload_n 1 dX11_termStep_187 rfl rfl ?_
                    refine x_iload_n 3 dX11_termStep_188 rfl rfl ?_
                    obtain ⟨q316, hq317, hf⟩ := f_bd hf
                    refine x_callVi [.int q1, .int w4] (c_X11_termOrder (I := q314) (L := L)  hq317) dX11_termStep_189 lk_X11_290 lm_0 rfl cd_X11_termOrder rfl rfl (Nat.le_of_ble_eq_true rfl) ⟨rfl, rfl, Nat.le_of_ble_eq_true rfl, Nat.le_of_ble_eq_true rfl⟩ ?_
                    refine x_if_neB 197 dX11_termStep_192 (by decide) (fun hB => ?_) (fun hB => ?_)
                    · replace hf := f_if hB hf
                      refine x_iload 4 dX11_termStep_197 rfl ?_
                      refine x_if_eq 222 dX11_termStep_199 (by decide) (fun h => absurd h (by decide)) (fun _ => ?_)
                      refine x_aload_n 0 dX11_termStep_202 rfl rfl ?_
                      refine x_getR dX11_termStep_203 lm_0 fl_X11_44 rfl ?_
                      refine x_aload_n 0 dX11_termStep_206 rfl rfl ?_
                      refine x_getI (v := (q316.2 0 22)) dX11_termStep_207 lm_0 fl_X11_284 rfl rfl ?_
                      refine x_iload_n 2 dX11_termStep_210 rfl rfl ?_
                      obtain ⟨h318, hf⟩ := f_gd hf
                      obtain ⟨I319, hI319, hf⟩ := f_lt hf
                      refine x_iast (j0 := ((q316.2 0 22)).toNatClampNeg) dX11_termStep_211 lm_8 h318 rfl hI319 ?_
                      refine x_aload_n 0 dX11_termStep_212 rfl rfl ?_
                      refine x_dup dX11_termStep_213 rfl ?_
                      refine x_getI (v := (q316.2 0 22)) dX11_termStep_214 lm_0 fl_X11_284 rfl (by rw [hI319, z2_o (by decide)]) ?_
                      refine x_iconst (v := (1)) dX11_termStep_217 (by decide) ?_
                      refine x_iadd dX11_termStep_218 ?_
                      obtain ⟨I320, hI320, hf⟩ := f_lt hf
                      refine x_putI dX11_termStep_219 lm_0 fl_X11_284 rfl rfl rfl hI320 ?_
                      refine x_iload_n 1 dX11_termStep_222 rfl rfl ?_
                      refine x_bipush (v := (20)) dX11_termStep_223 (by decide) ?_
                      refine x_icmp_ne 279 dX11_termStep_225 (by decide) (fun hB => ?_) (fun hB => ?_)
                      · replace hf := f_el hB hf
                        refine x_aload_n 0 dX11_termStep_279 rfl rfl ?_
                        refine x_bipush (v := (59)) dX11_termStep_280 (by decide) ?_
                        obtain ⟨q330, hq331, hf⟩ := f_bd hf
                        refine x_callVi [.int (59 : Int32)] (c_X11_wantSign (I := I320) (L := L)  hq331) dX11_termStep_282 lk_X11_260 lm_0 rfl cd_X11_wantSign rfl rfl (Nat.le_of_ble_eq_true rfl) ⟨rfl, rfl, Nat.le_of_ble_eq_true rfl, Nat.le_of_ble_eq_true rfl⟩ ?_
                        cases hf
                        exact x_zret dX11_termStep_285 rfl rfl
                      · replace hf := f_if hB hf
                        refine x_aload_n 0 dX11_termStep_228 rfl rfl ?_
                        refine x_dup dX11_termStep_229 rfl ?_
                        refine x_getI (v := ((q316.2 0 22) + (1 : Int32))) dX11_termStep_230 lm_0 fl_X11_284 rfl (by rw [hI320, z2_s, z1_s]) ?_
                        refine x_iconst (v := (1)) dX11_termStep_233 (by decide) ?_
                        refine x_isub dX11_termStep_234 ?_
                        obtain ⟨I321, hI321, hf⟩ := f_lt hf
                        refine x_putI dX11_termStep_235 lm_0 fl_X11_284 rfl rfl rfl hI321 ?_
                        refine x_aload_n 0 dX11_termStep_238 rfl rfl ?_
                        refine x_getR dX11_termStep_239 lm_0 fl_X11_7 rfl ?_
                        refine x_iload_n 3 dX11_termStep_242 rfl rfl ?_
                        refine x_iconst (v := (4)) dX11_termStep_243 (by decide) ?_
                        refine x_iadd dX11_termStep_244 ?_
                        refine x_aload_n 0 dX11_termStep_245 rfl rfl ?_
                        refine x_getR dX11_termStep_246 lm_0 fl_X11_44 rfl ?_
                        refine x_aload_n 0 dX11_termStep_249 rfl rfl ?_
                        refine x_getI (v := (((q316.2 0 22) + (1 : Int32)) - (1 : Int32))) dX11_termStep_250 lm_0 fl_X11_284 rfl (by rw [hI321, z2_s, z1_s]) ?_
                        obtain ⟨h322, hf⟩ := f_gd hf
                        refine x_iald (j := ((((q316.2 0 22) + (1 : Int32)) - (1 : Int32))).toNatClampNeg) (v := (I319 8 ((((q316.2 0 22) + (1 : Int32)) - (1 : Int32))).toNatClampNeg)) dX11_termStep_253 lm_8 h322 rfl (by rw [hI321, z2_o (by decide), hI320, z2_o (by decide)]) ?_
                        obtain ⟨h323, hf⟩ := f_gd hf
                        obtain ⟨I324, hI324, hf⟩ := f_lt hf
                        refine x_iast (j0 := ((w4 + (4 : Int32))).toNatClampNeg) dX11_termStep_254 lm_1 h323 rfl hI324 ?_
                        refine x_aload_n 0 dX11_termStep_255 rfl rfl ?_
                        refine x_getR dX11_termStep_256 lm_0 fl_X11_7 rfl ?_
                        refine x_sipush (v := (1772)) dX11_termStep_259 (by decide) ?_
                        refine x_bipush (v := (6)) dX11_termStep_262 (by decide) ?_
                        refine x_aload_n 0 dX11_termStep_264 rfl rfl ?_
                        refine x_getR dX11_termStep_265 lm_0 fl_X11_44 rfl ?_
                        refine x_aload_n 0 dX11_termStep_268 rfl rfl ?_
                        refine x_getI (v := (((q316.2 0 22) + (1 : Int32)) - (1 : Int32))) dX11_termStep_269 lm_0 fl_X11_284 rfl (by rw [hI324, z2_o (by decide), hI321, z2_s, z1_s]) ?_
                        refine x_iald (j := ((((q316.2 0 22) + (1 : Int32)) - (1 : Int32))).toNatClampNeg) (v := (I319 8 ((((q316.2 0 22) + (1 : Int32)) - (1 : Int32))).toNatClampNeg)) dX11_termStep_272 lm_8 h322 rfl (by rw [hI324, z2_o (by decide), hI321, z2_o (by decide), hI320, z2_o (by decide)]) ?_
                        refine x_imul dX11_termStep_273 ?_
                        refine x_iadd dX11_termStep_274 ?_
                        refine x_iconst (v := (4)) dX11_termStep_275 (by decide) ?_
                        refine x_iadd dX11_termStep_276 ?_
                        refine x_iload_n 2 dX11_termStep_277 rfl rfl ?_
                        obtain ⟨h326, hf⟩ := f_gd hf
                        obtain ⟨I327, hI327, hf⟩ := f_lt hf
                        refine x_iast (j0 := ((((1772 : Int32) + ((6 : Int32) * (I319 8 ((((q316.2 0 22) + (1 : Int32)) - (1 : Int32))).toNatClampNeg))) + (4 : Int32))).toNatClampNeg) dX11_termStep_278 lm_1 h326 rfl hI327 ?_
                        refine x_aload_n 0 dX11_termStep_279 rfl rfl ?_
                        refine x_bipush (v := (59)) dX11_termStep_280 (by decide) ?_
                        obtain ⟨q328, hq329, hf⟩ := f_bd hf
                        refine x_callVi [.int (59 : Int32)] (c_X11_wantSign (I := I327) (L := L)  hq329) dX11_termStep_282 lk_X11_260 lm_0 rfl cd_X11_wantSign rfl rfl (Nat.le_of_ble_eq_true rfl) ⟨rfl, rfl, Nat.le_of_ble_eq_true rfl, Nat.le_of_ble_eq_true rfl⟩ ?_
                        cases hf
                        exact x_zret dX11_termStep_285 rfl rfl
                    · replace hf := f_el hB hf
                      refine x_iconst (v := (0)) dX11_termStep_195 (by decide) ?_
                      cases hf
                      exact x_zret (b := false) dX11_termStep_196 rfl rfl
              · replace hf := f_if hB hf
                refine x_aload_n 4 dX11_termStep_110 rfl rfl ?_
                refine x_bipush (v := (7)) dX11_termStep_111 (by decide) ?_
                refine x_callVi [.int (7 : Int32)] (c_X11_fails (I := I) (L := L) (7 : Int32)) dX11_termStep_113 lk_X11_181 lm_0 rfl cd_X11_fails rfl rfl (Nat.le_of_ble_eq_true rfl) ⟨rfl, rfl, Nat.le_of_ble_eq_true rfl, Nat.le_of_ble_eq_true rfl⟩ ?_
                cases hf
                exact x_zret dX11_termStep_116 rfl rfl
            · replace hf := f_el hB hf
              refine x_aload_n 4 dX11_termStep_81 rfl rfl ?_
              refine x_getI (v := (I 0 23)) dX11_termStep_82 lm_0 fl_X11_287 rfl rfl ?_
              refine x_bipush (v := (30)) dX11_termStep_85 (by decide) ?_
              refine x_icmp_ne 97 dX11_termStep_87 (by decide) (fun hB => ?_) (fun hB => ?_)
              · replace hf := f_el hB hf
                refine x_iload 0 dX11_termStep_97 rfl ?_
                refine x_if_eq 117 dX11_termStep_99 (by decide) (fun h => absurd h (by decide)) (fun _ => ?_)
                refine x_aload_n 4 dX11_termStep_102 rfl rfl ?_
                refine x_getI (v := (I 0 22)) dX11_termStep_103 lm_0 fl_X11_284 rfl rfl ?_
                refine x_iconst (v := (3)) dX11_termStep_106 (by decide) ?_
                refine x_icmp_ne 117 dX11_termStep_107 (by decide) (fun hB => ?_) (fun hB => ?_)
                · replace hf := f_el hB hf
                  refine x_aload_n 4 dX11_termStep_117 rfl rfl ?_
                  refine x_dup dX11_termStep_118 rfl ?_
                  refine x_getI (v := (I 0 23)) dX11_termStep_119 lm_0 fl_X11_287 rfl rfl ?_
                  refine x_iload_n 3 dX11_termStep_122 rfl rfl ?_
                  refine x_bipush (v := (20)) dX11_termStep_123 (by decide) ?_
                  refine x_icmp_ne 132 dX11_termStep_125 (by decide) (fun hB => ?_) (fun hB => ?_)
                  · replace hf := f_el hB hf
                    refine x_iconst (v := (1)) dX11_termStep_132 (by decide) ?_
                    refine x_iadd dX11_termStep_133 ?_
                    obtain ⟨I382, hI382, hf⟩ := f_lt hf
                    refine x_putI dX11_termStep_134 lm_0 fl_X11_287 rfl rfl rfl hI382 ?_
                    refine x_aload_n 4 dX11_termStep_137 rfl rfl ?_
                    refine x_getR dX11_termStep_138 lm_0 fl_X11_7 rfl ?_
                    refine x_iload_n 1 dX11_termStep_141 rfl rfl ?_
                    refine x_iload_n 3 dX11_termStep_142 rfl rfl ?_
                    obtain ⟨h383, hf⟩ := f_gd hf
                    obtain ⟨I384, hI384, hf⟩ := f_lt hf
                    refine x_iast (j0 := (w4).toNatClampNeg) dX11_termStep_143 lm_1 h383 rfl hI384 ?_
                    refine x_iconst (v := (1)) dX11_termStep_144 (by decide) ?_
                    refine x_istore [(5, .int (1 : Int32)), (4, .int (1 : Int32)), (3, .int w4), (2, .int (I 1 1719)), (1, .int q1), (0, .ref 0)] dX11_termStep_145 (by decide) rfl ?_
                    refine x_lv [(0, .ref 0), (1, .int q1), (2, .int (I 1 1719)), (3, .int w4), (4, .int (1 : Int32)), (5, .int (1 : Int32))] [5, 4, 3, 2, 1, 0] rfl ?_
                    refine l_X11_termStep_147 q1 (I 1 1719) w4 (1 : Int32) (L) _ ?_ _ _ _ hf
                    · intro I_385 hf
                      refine x_aload_n 0 dX11_termStep_170 rfl rfl ?_
                      refine x_getR dX11_termStep_171 lm_0 fl_X11_7 rfl ?_
                      refine x_sipush (v := (1719)) dX11_termStep_174 (by decide) ?_
                      refine x_dup2 dX11_termStep_177 rfl rfl ?_
                      refine x_iald (j := 1719) (v := (I_385 1 1719)) dX11_termStep_178 lm_1 (by decide +kernel) (by decide +kernel) rfl ?_
                      refine x_iconst (v := (1)) dX11_termStep_179 (by decide) ?_
                      refine x_iadd dX11_termStep_180 ?_
                      obtain ⟨I388, hI388, hf⟩ := f_lt hf
                      refine x_iast (j0 := 1719) dX11_termStep_181 lm_1 (by decide +kernel) (by decide +kernel) hI388 ?_
                      refine x_aload_n 0 dX11_termStep_182 rfl rfl ?_
                      obtain ⟨q389, hq390, hf⟩ := f_bd hf
                      refine x_callVv [] (c_X11_ahead (I := I388) (L := L)  hq390) dX11_termStep_183 lk_X11_175 lm_0 rfl cd_X11_ahead rfl rfl (Nat.le_of_ble_eq_true rfl) ⟨rfl, rfl, Nat.le_of_ble_eq_true rfl, Nat.le_of_ble_eq_true rfl⟩ ?_
                      refine x_aload_n 0 dX11_termStep_186 rfl rfl ?_
                      refine x_iload_n 1 dX11_termStep_187 rfl rfl ?_
                      refine x_iload_n 3 dX11_termStep_188 rfl rfl ?_
                      obtain ⟨q391, hq392, hf⟩ := f_bd hf
                      refine x_callVi [.int q1, .int w4] (c_X11_termOrder (I := q389) (L := L)  hq392) dX11_termStep_189 lk_X11_290 lm_0 rfl cd_X11_termOrder rfl rfl (Nat.le_of_ble_eq_true rfl) ⟨rfl, rfl, Nat.le_of_ble_eq_true rfl, Nat.le_of_ble_eq_true rfl⟩ ?_
                      refine x_if_neB 197 dX11_termStep_192 (by decide) (fun hB => ?_) (fun hB => ?_)
                      · replace hf := f_if hB hf
                        refine x_iload 4 dX11_termStep_197 rfl ?_
                        refine x_if_eq 222 dX11_termStep_199 (by decide) (fun h => absurd h (by decide)) (fun _ => ?_)
                        refine x_aload_n 0 dX11_termStep_202 rfl rfl ?_
                        refine x_getR dX11_termStep_203 lm_0 fl_X11_44 rfl ?_
                        refine x_aload_n 0 dX11_termStep_206 rfl rfl ?_
                        refine x_getI (v := (q391.2 0 22)) dX11_termStep_207 lm_0 fl_X11_284 rfl rfl ?_
                        refine x_iload_n 2 dX11_termStep_210 rfl rfl ?_
                        obtain ⟨h393, hf⟩ := f_gd hf
                        obtain ⟨I394, hI394, hf⟩ := f_lt hf
                        refine x_iast (j0 := ((q391.2 0 22)).toNatClampNeg) dX11_termStep_211 lm_8 h393 rfl hI394 ?_
                        refine x_aload_n 0 dX11_termStep_212 rfl rfl ?_
                        refine x_dup dX11_termStep_213 rfl ?_
                        refine x_getI (v := (q391.2 0 22)) dX11_termStep_214 lm_0 fl_X11_284 rfl (by rw [hI394, z2_o (by decide)]) ?_
                        refine x_iconst (v := (1)) dX11_termStep_217 (by decide) ?_
                        refine x_iadd dX11_termStep_218 ?_
                        obtain ⟨I395, hI395, hf⟩ := f_lt hf
                        refine x_putI dX11_termStep_219 lm_0 fl_X11_284 rfl rfl rfl hI395 ?_
                        refine x_iload_n 1 dX11_termStep_222 rfl rfl ?_
                        refine x_bipush (v := (20)) dX11_termStep_223 (by decide) ?_
                        refine x_icmp_ne 279 dX11_termStep_225 (by decide) (fun hB => ?_) (fun hB => ?_)
                        · replace hf := f_el hB hf
                          refine x_aload_n 0 dX11_termStep_279 rfl rfl ?_
                          refine x_bipush (v := (59)) dX11_termStep_280 (by decide) ?_
                          obtain ⟨q405, hq406, hf⟩ := f_bd hf
                          refine x_callVi [.int (59 : Int32)] (c_X11_wantSign (I := I395) (L := L)  hq406) dX11_termStep_282 lk_X11_260 lm_0 rfl cd_X11_wantSign rfl rfl (Nat.le_of_ble_eq_true rfl) ⟨rfl, rfl, Nat.le_of_ble_eq_true rfl, Nat.le_of_ble_eq_true rfl⟩ ?_
                          cases hf
                          exact x_zret dX11_termStep_285 rfl rfl
                        · replace hf := f_if hB hf
                          refine x_aload_n 0 dX11_termStep_228 rfl rfl ?_
                          refine x_dup dX11_termStep_229 rfl ?_
                          refine x_getI (v := ((q391.2 0 22) + (1 : Int32))) dX11_termStep_230 lm_0 fl_X11_284 rfl (by rw [hI395, z2_s, z1_s]) ?_
                          refine x_iconst (v := (1)) dX11_termStep_233 (by decide) ?_
                          refine x_isub dX11_termStep_234 ?_
                          obtain ⟨I396, hI396, hf⟩ := f_lt hf
                          refine x_putI dX11_termStep_235 lm_0 fl_X11_284 rfl rfl rfl hI396 ?_
                          refine x_aload_n 0 dX11_termStep_238 rfl rfl ?_
                          refine x_getR dX11_termStep_239 lm_0 fl_X11_7 rfl ?_
                          refine x_iload_n 3 dX11_termStep_242 rfl rfl ?_
                          refine x_iconst (v := (4)) dX11_termStep_243 (by decide) ?_
                          refine x_iadd dX11_termStep_244 ?_
                          refine x_aload_n 0 dX11_termStep_245 rfl rfl ?_
                          refine x_getR dX11_termStep_246 lm_0 fl_X11_44 rfl ?_
                          refine x_aload_n 0 dX11_termStep_249 rfl rfl ?_
                          refine x_getI (v := (((q391.2 0 22) + (1 : Int32)) - (1 : Int32))) dX11_termStep_250 lm_0 fl_X11_284 rfl (by rw [hI396, z2_s, z1_s]) ?_
                          obtain ⟨h397, hf⟩ := f_gd hf
                          refine x_iald (j := ((((q391.2 0 22) + (1 : Int32)) - (1 : Int32))).toNatClampNeg) (v := (I394 8 ((((q391.2 0 22) + (1 : Int32)) - (1 : Int32))).toNatClampNeg)) dX11_termStep_253 lm_8 h397 rfl (by rw [hI396, z2_o (by decide), hI395, z2_o (by decide)]) ?_
                          obtain ⟨h398, hf⟩ := f_gd hf
                          obtain ⟨I399, hI399, hf⟩ := f_lt hf
                          refine x_iast (j0 := ((w4 + (4 : Int32))).toNatClampNeg) dX11_termStep_254 lm_1 h398 rfl hI399 ?_
                          refine x_aload_n 0 dX11_termStep_255 rfl rfl ?_
                          refine x_getR dX11_termStep_256 lm_0 fl_X11_7 rfl ?_
                          refine x_sipush (v := (1772)) dX11_termStep_259 (by decide) ?_
                          refine x_bipush (v := (6)) dX11_termStep_262 (by decide) ?_
                          refine x_aload_n 0 dX11_termStep_264 rfl rfl ?_
                          refine x_getR dX11_termStep_265 lm_0 fl_X11_44 rfl ?_
                          refine x_aload_n 0 dX11_termStep_268 rfl rfl ?_
                          refine x_getI (v := (((q391.2 0 22) + (1 : Int32)) - (1 : Int32))) dX11_termStep_269 lm_0 fl_X11_284 rfl (by rw [hI399, z2_o (by decide), hI396, z2_s, z1_s]) ?_
                          refine x_iald (j := ((((q391.2 0 22) + (1 : Int32)) - (1 : Int32))).toNatClampNeg) (v := (I394 8 ((((q391.2 0 22) + (1 : Int32)) - (1 : Int32))).toNatClampNeg)) dX11_termStep_272 lm_8 h397 rfl (by rw [hI399, z2_o (by decide), hI396, z2_o (by decide), hI395, z2_o (by decide)]) ?_
                          refine x_imul dX11_termStep_273 ?_
                          refine x_iadd dX11_termStep_274 ?_
                          refine x_iconst (v := (4)) dX11_termStep_275 (by decide) ?_
                          refine x_iadd dX11_termStep_276 ?_
                          refine x_iload_n 2 dX11_termStep_277 rfl rfl ?_
                          obtain ⟨h401, hf⟩ := f_gd hf
                          obtain ⟨I402, hI402, hf⟩ := f_lt hf
                          refine x_iast (j0 := ((((1772 : Int32) + ((6 : Int32) * (I394 8 ((((q391.2 0 22) + (1 : Int32)) - (1 : Int32))).toNatClampNeg))) + (4 : Int32))).toNatClampNeg) dX11_termStep_278 lm_1 h401 rfl hI402 ?_
                          refine x_aload_n 0 dX11_termStep_279 rfl rfl ?_
                          refine x_bipush (v := (59)) dX11_termStep_280 (by decide) ?_
                          obtain ⟨q403, hq404, hf⟩ := f_bd hf
                          refine x_callVi [.int (59 : Int32)] (c_X11_wantSign (I := I402) (L := L)  hq404) dX11_termStep_282 lk_X11_260 lm_0 rfl cd_X11_wantSign rfl rfl (Nat.le_of_ble_eq_true rfl) ⟨rfl, rfl, Nat.le_of_ble_eq_true rfl, Nat.le_of_ble_eq_true rfl⟩ ?_
                          cases hf
                          exact x_zret dX11_termStep_285 rfl rfl
                      · replace hf := f_el hB hf
                        refine x_iconst (v := (0)) dX11_termStep_195 (by decide) ?_
                        cases hf
                        exact x_zret (b := false) dX11_termStep_196 rfl rfl
                  · replace hf := f_if hB hf
                    refine x_iconst (v := (0)) dX11_termStep_128 (by decide) ?_
                    refine x_goto 133 dX11_termStep_129 (by decide) ?_
                    refine x_iadd dX11_termStep_133 ?_
                    obtain ⟨I357, hI357, hf⟩ := f_lt hf
                    refine x_putI dX11_termStep_134 lm_0 fl_X11_287 rfl rfl rfl hI357 ?_
                    refine x_aload_n 4 dX11_termStep_137 rfl rfl ?_
                    refine x_getR dX11_termStep_138 lm_0 fl_X11_7 rfl ?_
                    refine x_iload_n 1 dX11_termStep_141 rfl rfl ?_
                    refine x_iload_n 3 dX11_termStep_142 rfl rfl ?_
                    obtain ⟨h358, hf⟩ := f_gd hf
                    obtain ⟨I359, hI359, hf⟩ := f_lt hf
                    refine x_iast (j0 := (w4).toNatClampNeg) dX11_termStep_143 lm_1 h358 rfl hI359 ?_
                    refine x_iconst (v := (1)) dX11_termStep_144 (by decide) ?_
                    refine x_istore [(5, .int (1 : Int32)), (4, .int (1 : Int32)), (3, .int w4), (2, .int (I 1 1719)), (1, .int q1), (0, .ref 0)] dX11_termStep_145 (by decide) rfl ?_
                    refine x_lv [(0, .ref 0), (1, .int q1), (2, .int (I 1 1719)), (3, .int w4), (4, .int (1 : Int32)), (5, .int (1 : Int32))] [5, 4, 3, 2, 1, 0] rfl ?_
                    refine l_X11_termStep_147 q1 (I 1 1719) w4 (1 : Int32) (L) _ ?_ _ _ _ hf
                    · intro I_360 hf
                      refine x_aload_n 0 dX11_termStep_170 rfl rfl ?_
                      refine x_getR dX11_termStep_171 lm_0 fl_X11_7 rfl ?_
                      refine x_sipush (v := (1719)) dX11_termStep_174 (by decide) ?_
                      refine x_dup2 dX11_termStep_177 rfl rfl ?_
                      refine x_iald (j := 1719) (v := (I_360 1 1719)) dX11_termStep_178 lm_1 (by decide +kernel) (by decide +kernel) rfl ?_
                      refine x_iconst (v := (1)) dX11_termStep_179 (by decide) ?_
                      refine x_iadd dX11_termStep_180 ?_
                      obtain ⟨I363, hI363, hf⟩ := f_lt hf
                      refine x_iast (j0 := 1719) dX11_termStep_181 lm_1 (by decide +kernel) (by decide +kernel) hI363 ?_
                      refine x_aload_n 0 dX11_termStep_182 rfl rfl ?_
                      obtain ⟨q364, hq365, hf⟩ := f_bd hf
                      refine x_callVv [] (c_X11_ahead (I := I363) (L := L)  hq365) dX11_termStep_183 lk_X11_175 lm_0 rfl cd_X11_ahead rfl rfl (Nat.le_of_ble_eq_true rfl) ⟨rfl, rfl, Nat.le_of_ble_eq_true rfl, Nat.le_of_ble_eq_true rfl⟩ ?_
                      refine x_aload_n 0 dX11_termStep_186 rfl rfl ?_
                      refine x_iload_n 1 dX11_termStep_187 rfl rfl ?_
                      refine x_iload_n 3 dX11_termStep_188 rfl rfl ?_
                      obtain ⟨q366, hq367, hf⟩ := f_bd hf
                      refine x_callVi [.int q1, .int w4] (c_X11_termOrder (I := q364) (L := L)  hq367) dX11_termStep_189 lk_X11_290 lm_0 rfl cd_X11_termOrder rfl rfl (Nat.le_of_ble_eq_true rfl) ⟨rfl, rfl, Nat.le_of_ble_eq_true rfl, Nat.le_of_ble_eq_true rfl⟩ ?_
                      refine x_if_neB 197 dX11_termStep_192 (by decide) (fun hB => ?_) (fun hB => ?_)
                      · replace hf := f_if hB hf
                        refine x_iload 4 dX11_termStep_197 rfl ?_
                        refine x_if_eq 222 dX11_termStep_199 (by decide) (fun h => absurd h (by decide)) (fun _ => ?_)
                        refine x_aload_n 0 dX11_termStep_202 rfl rfl ?_
                        refine x_getR dX11_termStep_203 lm_0 fl_X11_44 rfl ?_
                        refine x_aload_n 0 dX11_termStep_206 rfl rfl ?_
                        refine x_getI (v := (q366.2 0 22)) dX11_termStep_207 lm_0 fl_X11_284 rfl rfl ?_
                        refine x_iload_n 2 dX11_termStep_210 rfl rfl ?_
                        obtain ⟨h368, hf⟩ := f_gd hf
                        obtain ⟨I369, hI369, hf⟩ := f_lt hf
                        refine x_iast (j0 := ((q366.2 0 22)).toNatClampNeg) dX11_termStep_211 lm_8 h368 rfl hI369 ?_
                        refine x_aload_n 0 dX11_termStep_212 rfl rfl ?_
                        refine x_dup dX11_termStep_213 rfl ?_
                        refine x_getI (v := (q366.2 0 22)) dX11_termStep_214 lm_0 fl_X11_284 rfl (by rw [hI369, z2_o (by decide)]) ?_
                        refine x_iconst (v := (1)) dX11_termStep_217 (by decide) ?_
                        refine x_iadd dX11_termStep_218 ?_
                        obtain ⟨I370, hI370, hf⟩ := f_lt hf
                        refine x_putI dX11_termStep_219 lm_0 fl_X11_284 rfl rfl rfl hI370 ?_
                        refine x_iload_n 1 dX11_termStep_222 rfl rfl ?_
                        refine x_bipush (v := (20)) dX11_termStep_223 (by decide) ?_
                        refine x_icmp_ne 279 dX11_termStep_225 (by decide) (fun hB => ?_) (fun hB => ?_)
                        · replace hf := f_el hB hf
                          refine x_aload_n 0 dX11_termStep_279 rfl rfl ?_
                          refine x_bipush (v := (59)) dX11_termStep_280 (by decide) ?_
                          obtain ⟨q380, hq381, hf⟩ := f_bd hf
                          refine x_callVi [.int (59 : Int32)] (c_X11_wantSign (I := I370) (L := L)  hq381) dX11_termStep_282 lk_X11_260 lm_0 rfl cd_X11_wantSign rfl rfl (Nat.le_of_ble_eq_true rfl) ⟨rfl, rfl, Nat.le_of_ble_eq_true rfl, Nat.le_of_ble_eq_true rfl⟩ ?_
                          cases hf
                          exact x_zret dX11_termStep_285 rfl rfl
                        · replace hf := f_if hB hf
                          refine x_aload_n 0 dX11_termStep_228 rfl rfl ?_
                          refine x_dup dX11_termStep_229 rfl ?_
                          refine x_getI (v := ((q366.2 0 22) + (1 : Int32))) dX11_termStep_230 lm_0 fl_X11_284 rfl (by rw [hI370, z2_s, z1_s]) ?_
                          refine x_iconst (v := (1)) dX11_termStep_233 (by decide) ?_
                          refine x_isub dX11_termStep_234 ?_
                          obtain ⟨I371, hI371, hf⟩ := f_lt hf
                          refine x_putI dX11_termStep_235 lm_0 fl_X11_284 rfl rfl rfl hI371 ?_
                          refine x_aload_n 0 dX11_termStep_238 rfl rfl ?_
                          refine x_getR dX11_termStep_239 lm_0 fl_X11_7 rfl ?_
                          refine x_iload_n 3 dX11_termStep_242 rfl rfl ?_
                          refine x_iconst (v := (4)) dX11_termStep_243 (by decide) ?_
                          refine x_iadd dX11_termStep_244 ?_
                          refine x_aload_n 0 dX11_termStep_245 rfl rfl ?_
                          refine x_getR dX11_termStep_246 lm_0 fl_X11_44 rfl ?_
                          refine x_aload_n 0 dX11_termStep_249 rfl rfl ?_
                          refine x_getI (v := (((q366.2 0 22) + (1 : Int32)) - (1 : Int32))) dX11_termStep_250 lm_0 fl_X11_284 rfl (by rw [hI371, z2_s, z1_s]) ?_
                          obtain ⟨h372, hf⟩ := f_gd hf
                          refine x_iald (j := ((((q366.2 0 22) + (1 : Int32)) - (1 : Int32))).toNatClampNeg) (v := (I369 8 ((((q366.2 0 22) + (1 : Int32)) - (1 : Int32))).toNatClampNeg)) dX11_termStep_253 lm_8 h372 rfl (by rw [hI371, z2_o (by decide), hI370, z2_o (by decide)]) ?_
                          obtain ⟨h373, hf⟩ := f_gd hf
                          obtain ⟨I374, hI374, hf⟩ := f_lt hf
                          refine x_iast (j0 := ((w4 + (4 : Int32))).toNatClampNeg) dX11_termStep_254 lm_1 h373 rfl hI374 ?_
                          refine x_aload_n 0 dX11_termStep_255 rfl rfl ?_
                          refine x_getR dX11_termStep_256 lm_0 fl_X11_7 rfl ?_
                          refine x_sipush (v := (1772)) dX11_termStep_259 (by decide) ?_
                          refine x_bipush (v := (6)) dX11_termStep_262 (by decide) ?_
                          refine x_aload_n 0 dX11_termStep_264 rfl rfl ?_
                          refine x_getR dX11_termStep_265 lm_0 fl_X11_44 rfl ?_
                          refine x_aload_n 0 dX11_termStep_268 rfl rfl ?_
                          refine x_getI (v := (((q366.2 0 22) + (1 : Int32)) - (1 : Int32))) dX11_termStep_269 lm_0 fl_X11_284 rfl (by rw [hI374, z2_o (by decide), hI371, z2_s, z1_s]) ?_
                          refine x_iald (j := ((((q366.2 0 22) + (1 : Int32)) - (1 : Int32))).toNatClampNeg) (v := (I369 8 ((((q366.2 0 22) + (1 : Int32)) - (1 : Int32))).toNatClampNeg)) dX11_termStep_272 lm_8 h372 rfl (by rw [hI374, z2_o (by decide), hI371, z2_o (by decide), hI370, z2_o (by decide)]) ?_
                          refine x_imul dX11_termStep_273 ?_
                          refine x_iadd dX11_termStep_274 ?_
                          refine x_iconst (v := (4)) dX11_termStep_275 (by decide) ?_
                          refine x_iadd dX11_termStep_276 ?_
                          refine x_iload_n 2 dX11_termStep_277 rfl rfl ?_
                          obtain ⟨h376, hf⟩ := f_gd hf
                          obtain ⟨I377, hI377, hf⟩ := f_lt hf
                          refine x_iast (j0 := ((((1772 : Int32) + ((6 : Int32) * (I369 8 ((((q366.2 0 22) + (1 : Int32)) - (1 : Int32))).toNatClampNeg))) + (4 : Int32))).toNatClampNeg) dX11_termStep_278 lm_1 h376 rfl hI377 ?_
                          refine x_aload_n 0 dX11_termStep_279 rfl rfl ?_
                          refine x_bipush (v := (59)) dX11_termStep_280 (by decide) ?_
                          obtain ⟨q378, hq379, hf⟩ := f_bd hf
                          refine x_callVi [.int (59 : Int32)] (c_X11_wantSign (I := I377) (L := L)  hq379) dX11_termStep_282 lk_X11_260 lm_0 rfl cd_X11_wantSign rfl rfl (Nat.le_of_ble_eq_true rfl) ⟨rfl, rfl, Nat.le_of_ble_eq_true rfl, Nat.le_of_ble_eq_true rfl⟩ ?_
                          cases hf
                          exact x_zret dX11_termStep_285 rfl rfl
                      · replace hf := f_el hB hf
                        refine x_iconst (v := (0)) dX11_termStep_195 (by decide) ?_
                        cases hf
                        exact x_zret (b := false) dX11_termStep_196 rfl rfl
                · replace hf := f_if hB hf
                  refine x_aload_n 4 dX11_termStep_110 rfl rfl ?_
                  refine x_bipush (v := (7)) dX11_termStep_111 (by decide) ?_
                  refine x_callVi [.int (7 : Int32)] (c_X11_fails (I := I) (L := L) (7 : Int32)) dX11_termStep_113 lk_X11_181 lm_0 rfl cd_X11_fails rfl rfl (Nat.le_of_ble_eq_true rfl) ⟨rfl, rfl, Nat.le_of_ble_eq_true rfl, Nat.le_of_ble_eq_true rfl⟩ ?_
                  cases hf
                  exact x_zret dX11_termStep_116 rfl rfl
              · replace hf := f_if hB hf
                refine x_aload_n 4 dX11_termStep_90 rfl rfl ?_
                refine x_bipush (v := (6)) dX11_termStep_91 (by decide) ?_
                refine x_callVi [.int (6 : Int32)] (c_X11_fails (I := I) (L := L) (6 : Int32)) dX11_termStep_93 lk_X11_181 lm_0 rfl cd_X11_fails rfl rfl (Nat.le_of_ble_eq_true rfl) ⟨rfl, rfl, Nat.le_of_ble_eq_true rfl, Nat.le_of_ble_eq_true rfl⟩ ?_
                cases hf
                exact x_zret dX11_termStep_96 rfl rfl
          · replace hf := f_if hB hf
            refine x_aload_n 4 dX11_termStep_62 rfl rfl ?_
            refine x_getI (v := (I 0 22)) dX11_termStep_63 lm_0 fl_X11_284 rfl rfl ?_
            refine x_if_ne 75 dX11_termStep_66 (by decide) (fun hB => ?_) (fun hB => ?_)
            · replace hf := f_el hB hf
              refine x_iload_n 3 dX11_termStep_75 rfl rfl ?_
              refine x_bipush (v := (20)) dX11_termStep_76 (by decide) ?_
              refine x_icmp_eq 97 dX11_termStep_78 (by decide) (fun hB => ?_) (fun hB => ?_)
              · replace hf := f_if hB hf
                refine x_iload 0 dX11_termStep_97 rfl ?_
                refine x_if_eq 117 dX11_termStep_99 (by decide) (fun h => absurd h (by decide)) (fun _ => ?_)
                refine x_aload_n 4 dX11_termStep_102 rfl rfl ?_
                refine x_getI (v := (I 0 22)) dX11_termStep_103 lm_0 fl_X11_284 rfl rfl ?_
                refine x_iconst (v := (3)) dX11_termStep_106 (by decide) ?_
                refine x_icmp_ne 117 dX11_termStep_107 (by decide) (fun hB => ?_) (fun hB => ?_)
                · replace hf := f_el hB hf
                  refine x_aload_n 4 dX11_termStep_117 rfl rfl ?_
                  refine x_dup dX11_termStep_118 rfl ?_
                  refine x_getI (v := (I 0 23)) dX11_termStep_119 lm_0 fl_X11_287 rfl rfl ?_
                  refine x_iload_n 3 dX11_termStep_122 rfl rfl ?_
                  refine x_bipush (v := (20)) dX11_termStep_123 (by decide) ?_
                  refine x_icmp_ne 132 dX11_termStep_125 (by decide) (fun hB => ?_) (fun hB => ?_)
                  · replace hf := f_el hB hf
                    refine x_iconst (v := (1)) dX11_termStep_132 (by decide) ?_
                    refine x_iadd dX11_termStep_133 ?_
                    obtain ⟨I232, hI232, hf⟩ := f_lt hf
                    refine x_putI dX11_termStep_134 lm_0 fl_X11_287 rfl rfl rfl hI232 ?_
                    refine x_aload_n 4 dX11_termStep_137 rfl rfl ?_
                    refine x_getR dX11_termStep_138 lm_0 fl_X11_7 rfl ?_
                    refine x_iload_n 1 dX11_termStep_141 rfl rfl ?_
                    refine x_iload_n 3 dX11_termStep_142 rfl rfl ?_
                    obtain ⟨h233, hf⟩ := f_gd hf
                    obtain ⟨I234, hI234, hf⟩ := f_lt hf
                    refine x_iast (j0 := (w4).toNatClampNeg) dX11_termStep_143 lm_1 h233 rfl hI234 ?_
                    refine x_iconst (v := (1)) dX11_termStep_144 (by decide) ?_
                    refine x_istore [(5, .int (1 : Int32)), (4, .int (1 : Int32)), (3, .int w4), (2, .int (I 1 1719)), (1, .int q1), (0, .ref 0)] dX11_termStep_145 (by decide) rfl ?_
                    refine x_lv [(0, .ref 0), (1, .int q1), (2, .int (I 1 1719)), (3, .int w4), (4, .int (1 : Int32)), (5, .int (1 : Int32))] [5, 4, 3, 2, 1, 0] rfl ?_
                    refine l_X11_termStep_147 q1 (I 1 1719) w4 (1 : Int32) (L) _ ?_ _ _ _ hf
                    · intro I_235 hf
                      refine x_aload_n 0 dX11_termStep_170 rfl rfl ?_
                      refine x_getR dX11_termStep_171 lm_0 fl_X11_7 rfl ?_
                      refine x_sipush (v := (1719)) dX11_termStep_174 (by decide) ?_
                      refine x_dup2 dX11_termStep_177 rfl rfl ?_
                      refine x_iald (j := 1719) (v := (I_235 1 1719)) dX11_termStep_178 lm_1 (by decide +kernel) (by decide +kernel) rfl ?_
                      refine x_iconst (v := (1)) dX11_termStep_179 (by decide) ?_
                      refine x_iadd dX11_termStep_180 ?_
                      obtain ⟨I238, hI238, hf⟩ := f_lt hf
                      refine x_iast (j0 := 1719) dX11_termStep_181 lm_1 (by decide +kernel) (by decide +kernel) hI238 ?_
                      refine x_aload_n 0 dX11_termStep_182 rfl rfl ?_
                      obtain ⟨q239, hq240, hf⟩ := f_bd hf
                      refine x_callVv [] (c_X11_ahead (I := I238) (L := L)  hq240) dX11_termStep_183 lk_X11_175 lm_0 rfl cd_X11_ahead rfl rfl (Nat.le_of_ble_eq_true rfl) ⟨rfl, rfl, Nat.le_of_ble_eq_true rfl, Nat.le_of_ble_eq_true rfl⟩ ?_
                      refine x_aload_n 0 dX11_termStep_186 rfl rfl ?_
                      refine x_iload_n 1 dX11_termStep_187 rfl rfl ?_
                      refine x_iload_n 3 dX11_termStep_188 rfl rfl ?_
                      obtain ⟨q241, hq242, hf⟩ := f_bd hf
                      refine x_callVi [.int q1, .int w4] (c_X11_termOrder (I := q239) (L := L)  hq242) dX11_termStep_189 lk_X11_290 lm_0 rfl cd_X11_termOrder rfl rfl (Nat.le_of_ble_eq_true rfl) ⟨rfl, rfl, Nat.le_of_ble_eq_true rfl, Nat.le_of_ble_eq_true rfl⟩ ?_
                      refine x_if_neB 197 dX11_termStep_192 (by decide) (fun hB => ?_) (fun hB => ?_)
                      · replace hf := f_if hB hf
                        refine x_iload 4 dX11_termStep_197 rfl ?_
                        refine x_if_eq 222 dX11_termStep_199 (by decide) (fun h => absurd h (by decide)) (fun _ => ?_)
                        refine x_aload_n 0 dX11_termStep_202 rfl rfl ?_
                        refine x_getR dX11_termStep_203 lm_0 fl_X11_44 rfl ?_
                        refine x_aload_n 0 dX11_termStep_206 rfl rfl ?_
                        refine x_getI (v := (q241.2 0 22)) dX11_termStep_207 lm_0 fl_X11_284 rfl rfl ?_
                        refine x_iload_n 2 dX11_termStep_210 rfl rfl ?_
                        obtain ⟨h243, hf⟩ := f_gd hf
                        obtain ⟨I244, hI244, hf⟩ := f_lt hf
                        refine x_iast (j0 := ((q241.2 0 22)).toNatClampNeg) dX11_termStep_211 lm_8 h243 rfl hI244 ?_
                        refine x_aload_n 0 dX11_termStep_212 rfl rfl ?_
                        refine x_dup dX11_termStep_213 rfl ?_
                        refine x_getI (v := (q241.2 0 22)) dX11_termStep_214 lm_0 fl_X11_284 rfl (by rw [hI244, z2_o (by decide)]) ?_
                        refine x_iconst (v := (1)) dX11_termStep_217 (by decide) ?_
                        refine x_iadd dX11_termStep_218 ?_
                        obtain ⟨I245, hI245, hf⟩ := f_lt hf
                        refine x_putI dX11_termStep_219 lm_0 fl_X11_284 rfl rfl rfl hI245 ?_
                        refine x_iload_n 1 dX11_termStep_222 rfl rfl ?_
                        refine x_bipush (v := (20)) dX11_termStep_223 (by decide) ?_
                        refine x_icmp_ne 279 dX11_termStep_225 (by decide) (fun hB => ?_) (fun hB => ?_)
                        · replace hf := f_el hB hf
                          refine x_aload_n 0 dX11_termStep_279 rfl rfl ?_
                          refine x_bipush (v := (59)) dX11_termStep_280 (by decide) ?_
                          obtain ⟨q255, hq256, hf⟩ := f_bd hf
                          refine x_callVi [.int (59 : Int32)] (c_X11_wantSign (I := I245) (L := L)  hq256) dX11_termStep_282 lk_X11_260 lm_0 rfl cd_X11_wantSign rfl rfl (Nat.le_of_ble_eq_true rfl) ⟨rfl, rfl, Nat.le_of_ble_eq_true rfl, Nat.le_of_ble_eq_true rfl⟩ ?_
                          cases hf
                          exact x_zret dX11_termStep_285 rfl rfl
                        · replace hf := f_if hB hf
                          refine x_aload_n 0 dX11_termStep_228 rfl rfl ?_
                          refine x_dup dX11_termStep_229 rfl ?_
                          refine x_getI (v := ((q241.2 0 22) + (1 : Int32))) dX11_termStep_230 lm_0 fl_X11_284 rfl (by rw [hI245, z2_s, z1_s]) ?_
                          refine x_iconst (v := (1)) dX11_termStep_233 (by decide) ?_
                          refine x_isub dX11_termStep_234 ?_
                          obtain ⟨I246, hI246, hf⟩ := f_lt hf
                          refine x_putI dX11_termStep_235 lm_0 fl_X11_284 rfl rfl rfl hI246 ?_
                          refine x_aload_n 0 dX11_termStep_238 rfl rfl ?_
                          refine x_getR dX11_termStep_239 lm_0 fl_X11_7 rfl ?_
                          refine x_iload_n 3 dX11_termStep_242 rfl rfl ?_
                          refine x_iconst (v := (4)) dX11_termStep_243 (by decide) ?_
                          refine x_iadd dX11_termStep_244 ?_
                          refine x_aload_n 0 dX11_termStep_245 rfl rfl ?_
                          refine x_getR dX11_termStep_246 lm_0 fl_X11_44 rfl ?_
                          refine x_aload_n 0 dX11_termStep_249 rfl rfl ?_
                          refine x_getI (v := (((q241.2 0 22) + (1 : Int32)) - (1 : Int32))) dX11_termStep_250 lm_0 fl_X11_284 rfl (by rw [hI246, z2_s, z1_s]) ?_
                          obtain ⟨h247, hf⟩ := f_gd hf
                          refine x_iald (j := ((((q241.2 0 22) + (1 : Int32)) - (1 : Int32))).toNatClampNeg) (v := (I244 8 ((((q241.2 0 22) + (1 : Int32)) - (1 : Int32))).toNatClampNeg)) dX11_termStep_253 lm_8 h247 rfl (by rw [hI246, z2_o (by decide), hI245, z2_o (by decide)]) ?_
                          obtain ⟨h248, hf⟩ := f_gd hf
                          obtain ⟨I249, hI249, hf⟩ := f_lt hf
                          refine x_iast (j0 := ((w4 + (4 : Int32))).toNatClampNeg) dX11_termStep_254 lm_1 h248 rfl hI249 ?_
                          refine x_aload_n 0 dX11_termStep_255 rfl rfl ?_
                          refine x_getR dX11_termStep_256 lm_0 fl_X11_7 rfl ?_
                          refine x_sipush (v := (1772)) dX11_termStep_259 (by decide) ?_
                          refine x_bipush (v := (6)) dX11_termStep_262 (by decide) ?_
                          refine x_aload_n 0 dX11_termStep_264 rfl rfl ?_
                          refine x_getR dX11_termStep_265 lm_0 fl_X11_44 rfl ?_
                          refine x_aload_n 0 dX11_termStep_268 rfl rfl ?_
                          refine x_getI (v := (((q241.2 0 22) + (1 : Int32)) - (1 : Int32))) dX11_termStep_269 lm_0 fl_X11_284 rfl (by rw [hI249, z2_o (by decide), hI246, z2_s, z1_s]) ?_
                          refine x_iald (j := ((((q241.2 0 22) + (1 : Int32)) - (1 : Int32))).toNatClampNeg) (v := (I244 8 ((((q241.2 0 22) + (1 : Int32)) - (1 : Int32))).toNatClampNeg)) dX11_termStep_272 lm_8 h247 rfl (by rw [hI249, z2_o (by decide), hI246, z2_o (by decide), hI245, z2_o (by decide)]) ?_
                          refine x_imul dX11_termStep_273 ?_
                          refine x_iadd dX11_termStep_274 ?_
                          refine x_iconst (v := (4)) dX11_termStep_275 (by decide) ?_
                          refine x_iadd dX11_termStep_276 ?_
                          refine x_iload_n 2 dX11_termStep_277 rfl rfl ?_
                          obtain ⟨h251, hf⟩ := f_gd hf
                          obtain ⟨I252, hI252, hf⟩ := f_lt hf
                          refine x_iast (j0 := ((((1772 : Int32) + ((6 : Int32) * (I244 8 ((((q241.2 0 22) + (1 : Int32)) - (1 : Int32))).toNatClampNeg))) + (4 : Int32))).toNatClampNeg) dX11_termStep_278 lm_1 h251 rfl hI252 ?_
                          refine x_aload_n 0 dX11_termStep_279 rfl rfl ?_
                          refine x_bipush (v := (59)) dX11_termStep_280 (by decide) ?_
                          obtain ⟨q253, hq254, hf⟩ := f_bd hf
                          refine x_callVi [.int (59 : Int32)] (c_X11_wantSign (I := I252) (L := L)  hq254) dX11_termStep_282 lk_X11_260 lm_0 rfl cd_X11_wantSign rfl rfl (Nat.le_of_ble_eq_true rfl) ⟨rfl, rfl, Nat.le_of_ble_eq_true rfl, Nat.le_of_ble_eq_true rfl⟩ ?_
                          cases hf
                          exact x_zret dX11_termStep_285 rfl rfl
                      · replace hf := f_el hB hf
                        refine x_iconst (v := (0)) dX11_termStep_195 (by decide) ?_
                        cases hf
                        exact x_zret (b := false) dX11_termStep_196 rfl rfl
                  · replace hf := f_if hB hf
                    refine x_iconst (v := (0)) dX11_termStep_128 (by decide) ?_
                    refine x_goto 133 dX11_termStep_129 (by decide) ?_
                    refine x_iadd dX11_termStep_133 ?_
                    obtain ⟨I207, hI207, hf⟩ := f_lt hf
                    refine x_putI dX11_termStep_134 lm_0 fl_X11_287 rfl rfl rfl hI207 ?_
                    refine x_aload_n 4 dX11_termStep_137 rfl rfl ?_
                    refine x_getR dX11_termStep_138 lm_0 fl_X11_7 rfl ?_
                    refine x_iload_n 1 dX11_termStep_141 rfl rfl ?_
                    refine x_iload_n 3 dX11_termStep_142 rfl rfl ?_
                    obtain ⟨h208, hf⟩ := f_gd hf
                    obtain ⟨I209, hI209, hf⟩ := f_lt hf
                    refine x_iast (j0 := (w4).toNatClampNeg) dX11_termStep_143 lm_1 h208 rfl hI209 ?_
                    refine x_iconst (v := (1)) dX11_termStep_144 (by decide) ?_
                    refine x_istore [(5, .int (1 : Int32)), (4, .int (1 : Int32)), (3, .int w4), (2, .int (I 1 1719)), (1, .int q1), (0, .ref 0)] dX11_termStep_145 (by decide) rfl ?_
                    refine x_lv [(0, .ref 0), (1, .int q1), (2, .int (I 1 1719)), (3, .int w4), (4, .int (1 : Int32)), (5, .int (1 : Int32))] [5, 4, 3, 2, 1, 0] rfl ?_
                    refine l_X11_termStep_147 q1 (I 1 1719) w4 (1 : Int32) (L) _ ?_ _ _ _ hf
                    · intro I_210 hf
                      refine x_aload_n 0 dX11_termStep_170 rfl rfl ?_
                      refine x_getR dX11_termStep_171 lm_0 fl_X11_7 rfl ?_
                      refine x_sipush (v := (1719)) dX11_termStep_174 (by decide) ?_
                      refine x_dup2 dX11_termStep_177 rfl rfl ?_
                      refine x_iald (j := 1719) (v := (I_210 1 1719)) dX11_termStep_178 lm_1 (by decide +kernel) (by decide +kernel) rfl ?_
                      refine x_iconst (v := (1)) dX11_termStep_179 (by decide) ?_
                      refine x_iadd dX11_termStep_180 ?_
                      obtain ⟨I213, hI213, hf⟩ := f_lt hf
                      refine x_iast (j0 := 1719) dX11_termStep_181 lm_1 (by decide +kernel) (by decide +kernel) hI213 ?_
                      refine x_aload_n 0 dX11_termStep_182 rfl rfl ?_
                      obtain ⟨q214, hq215, hf⟩ := f_bd hf
                      refine x_callVv [] (c_X11_ahead (I := I213) (L := L)  hq215) dX11_termStep_183 lk_X11_175 lm_0 rfl cd_X11_ahead rfl rfl (Nat.le_of_ble_eq_true rfl) ⟨rfl, rfl, Nat.le_of_ble_eq_true rfl, Nat.le_of_ble_eq_true rfl⟩ ?_
                      refine x_aload_n 0 dX11_termStep_186 rfl rfl ?_
                      refine x_iload_n 1 dX11_termStep_187 rfl rfl ?_
                      refine x_iload_n 3 dX11_termStep_188 rfl rfl ?_
                      obtain ⟨q216, hq217, hf⟩ := f_bd hf
                      refine x_callVi [.int q1, .int w4] (c_X11_termOrder (I := q214) (L := L)  hq217) dX11_termStep_189 lk_X11_290 lm_0 rfl cd_X11_termOrder rfl rfl (Nat.le_of_ble_eq_true rfl) ⟨rfl, rfl, Nat.le_of_ble_eq_true rfl, Nat.le_of_ble_eq_true rfl⟩ ?_
                      refine x_if_neB 197 dX11_termStep_192 (by decide) (fun hB => ?_) (fun hB => ?_)
                      · replace hf := f_if hB hf
                        refine x_iload 4 dX11_termStep_197 rfl ?_
                        refine x_if_eq 222 dX11_termStep_199 (by decide) (fun h => absurd h (by decide)) (fun _ => ?_)
                        refine x_aload_n 0 dX11_termStep_202 rfl rfl ?_
                        refine x_getR dX11_termStep_203 lm_0 fl_X11_44 rfl ?_
                        refine x_aload_n 0 dX11_termStep_206 rfl rfl ?_
                        refine x_getI (v := (q216.2 0 22)) dX11_termStep_207 lm_0 fl_X11_284 rfl rfl ?_
                        refine x_iload_n 2 dX11_termStep_210 rfl rfl ?_
                        obtain ⟨h218, hf⟩ := f_gd hf
                        obtain ⟨I219, hI219, hf⟩ := f_lt hf
                        refine x_iast (j0 := ((q216.2 0 22)).toNatClampNeg) dX11_termStep_211 lm_8 h218 rfl hI219 ?_
                        refine x_aload_n 0 dX11_termStep_212 rfl rfl ?_
                        refine x_dup dX11_termStep_213 rfl ?_
                        refine x_getI (v := (q216.2 0 22)) dX11_termStep_214 lm_0 fl_X11_284 rfl (by rw [hI219, z2_o (by decide)]) ?_
                        refine x_iconst (v := (1)) dX11_termStep_217 (by decide) ?_
                        refine x_iadd dX11_termStep_218 ?_
                        obtain ⟨I220, hI220, hf⟩ := f_lt hf
                        refine x_putI dX11_termStep_219 lm_0 fl_X11_284 rfl rfl rfl hI220 ?_
                        refine x_iload_n 1 dX11_termStep_222 rfl rfl ?_
                        refine x_bipush (v := (20)) dX11_termStep_223 (by decide) ?_
                        refine x_icmp_ne 279 dX11_termStep_225 (by decide) (fun hB => ?_) (fun hB => ?_)
                        · replace hf := f_el hB hf
                          refine x_aload_n 0 dX11_termStep_279 rfl rfl ?_
                          refine x_bipush (v := (59)) dX11_termStep_280 (by decide) ?_
                          obtain ⟨q230, hq231, hf⟩ := f_bd hf
                          refine x_callVi [.int (59 : Int32)] (c_X11_wantSign (I := I220) (L := L)  hq231) dX11_termStep_282 lk_X11_260 lm_0 rfl cd_X11_wantSign rfl rfl (Nat.le_of_ble_eq_true rfl) ⟨rfl, rfl, Nat.le_of_ble_eq_true rfl, Nat.le_of_ble_eq_true rfl⟩ ?_
                          cases hf
                          exact x_zret dX11_termStep_285 rfl rfl
                        · replace hf := f_if hB hf
                          refine x_aload_n 0 dX11_termStep_228 rfl rfl ?_
                          refine x_dup dX11_termStep_229 rfl ?_
                          refine x_getI (v := ((q216.2 0 22) + (1 : Int32))) dX11_termStep_230 lm_0 fl_X11_284 rfl (by rw [hI220, z2_s, z1_s]) ?_
                          refine x_iconst (v := (1)) dX11_termStep_233 (by decide) ?_
                          refine x_isub dX11_termStep_234 ?_
                          obtain ⟨I221, hI221, hf⟩ := f_lt hf
                          refine x_putI dX11_termStep_235 lm_0 fl_X11_284 rfl rfl rfl hI221 ?_
                          refine x_aload_n 0 dX11_termStep_238 rfl rfl ?_
                          refine x_getR dX11_termStep_239 lm_0 fl_X11_7 rfl ?_
                          refine x_iload_n 3 dX11_termStep_242 rfl rfl ?_
                          refine x_iconst (v := (4)) dX11_termStep_243 (by decide) ?_
                          refine x_iadd dX11_termStep_244 ?_
                          refine x_aload_n 0 dX11_termStep_245 rfl rfl ?_
                          refine x_getR dX11_termStep_246 lm_0 fl_X11_44 rfl ?_
                          refine x_aload_n 0 dX11_termStep_249 rfl rfl ?_
                          refine x_getI (v := (((q216.2 0 22) + (1 : Int32)) - (1 : Int32))) dX11_termStep_250 lm_0 fl_X11_284 rfl (by rw [hI221, z2_s, z1_s]) ?_
                          obtain ⟨h222, hf⟩ := f_gd hf
                          refine x_iald (j := ((((q216.2 0 22) + (1 : Int32)) - (1 : Int32))).toNatClampNeg) (v := (I219 8 ((((q216.2 0 22) + (1 : Int32)) - (1 : Int32))).toNatClampNeg)) dX11_termStep_253 lm_8 h222 rfl (by rw [hI221, z2_o (by decide), hI220, z2_o (by decide)]) ?_
                          obtain ⟨h223, hf⟩ := f_gd hf
                          obtain ⟨I224, hI224, hf⟩ := f_lt hf
                          refine x_iast (j0 := ((w4 + (4 : Int32))).toNatClampNeg) dX11_termStep_254 lm_1 h223 rfl hI224 ?_
                          refine x_aload_n 0 dX11_termStep_255 rfl rfl ?_
                          refine x_getR dX11_termStep_256 lm_0 fl_X11_7 rfl ?_
                          refine x_sipush (v := (1772)) dX11_termStep_259 (by decide) ?_
                          refine x_bipush (v := (6)) dX11_termStep_262 (by decide) ?_
                          refine x_aload_n 0 dX11_termStep_264 rfl rfl ?_
                          refine x_getR dX11_termStep_265 lm_0 fl_X11_44 rfl ?_
                          refine x_aload_n 0 dX11_termStep_268 rfl rfl ?_
                          refine x_getI (v := (((q216.2 0 22) + (1 : Int32)) - (1 : Int32))) dX11_termStep_269 lm_0 fl_X11_284 rfl (by rw [hI224, z2_o (by decide), hI221, z2_s, z1_s]) ?_
                          refine x_iald (j := ((((q216.2 0 22) + (1 : Int32)) - (1 : Int32))).toNatClampNeg) (v := (I219 8 ((((q216.2 0 22) + (1 : Int32)) - (1 : Int32))).toNatClampNeg)) dX11_termStep_272 lm_8 h222 rfl (by rw [hI224, z2_o (by decide), hI221, z2_o (by decide), hI220, z2_o (by decide)]) ?_
                          refine x_imul dX11_termStep_273 ?_
                          refine x_iadd dX11_termStep_274 ?_
                          refine x_iconst (v := (4)) dX11_termStep_275 (by decide) ?_
                          refine x_iadd dX11_termStep_276 ?_
                          refine x_iload_n 2 dX11_termStep_277 rfl rfl ?_
                          obtain ⟨h226, hf⟩ := f_gd hf
                          obtain ⟨I227, hI227, hf⟩ := f_lt hf
                          refine x_iast (j0 := ((((1772 : Int32) + ((6 : Int32) * (I219 8 ((((q216.2 0 22) + (1 : Int32)) - (1 : Int32))).toNatClampNeg))) + (4 : Int32))).toNatClampNeg) dX11_termStep_278 lm_1 h226 rfl hI227 ?_
                          refine x_aload_n 0 dX11_termStep_279 rfl rfl ?_
                          refine x_bipush (v := (59)) dX11_termStep_280 (by decide) ?_
                          obtain ⟨q228, hq229, hf⟩ := f_bd hf
                          refine x_callVi [.int (59 : Int32)] (c_X11_wantSign (I := I227) (L := L)  hq229) dX11_termStep_282 lk_X11_260 lm_0 rfl cd_X11_wantSign rfl rfl (Nat.le_of_ble_eq_true rfl) ⟨rfl, rfl, Nat.le_of_ble_eq_true rfl, Nat.le_of_ble_eq_true rfl⟩ ?_
                          cases hf
                          exact x_zret dX11_termStep_285 rfl rfl
                      · replace hf := f_el hB hf
                        refine x_iconst (v := (0)) dX11_termStep_195 (by decide) ?_
                        cases hf
                        exact x_zret (b := false) dX11_termStep_196 rfl rfl
                · replace hf := f_if hB hf
                  refine x_aload_n 4 dX11_termStep_110 rfl rfl ?_
                  refine x_bipush (v := (7)) dX11_termStep_111 (by decide) ?_
                  refine x_callVi [.int (7 : Int32)] (c_X11_fails (I := I) (L := L) (7 : Int32)) dX11_termStep_113 lk_X11_181 lm_0 rfl cd_X11_fails rfl rfl (Nat.le_of_ble_eq_true rfl) ⟨rfl, rfl, Nat.le_of_ble_eq_true rfl, Nat.le_of_ble_eq_true rfl⟩ ?_
                  cases hf
                  exact x_zret dX11_termStep_116 rfl rfl
              · replace hf := f_el hB hf
                refine x_aload_n 4 dX11_termStep_81 rfl rfl ?_
                refine x_getI (v := (I 0 23)) dX11_termStep_82 lm_0 fl_X11_287 rfl rfl ?_
                refine x_bipush (v := (30)) dX11_termStep_85 (by decide) ?_
                refine x_icmp_ne 97 dX11_termStep_87 (by decide) (fun hB => ?_) (fun hB => ?_)
                · replace hf := f_el hB hf
                  refine x_iload 0 dX11_termStep_97 rfl ?_
                  refine x_if_eq 117 dX11_termStep_99 (by decide) (fun h => absurd h (by decide)) (fun _ => ?_)
                  refine x_aload_n 4 dX11_termStep_102 rfl rfl ?_
                  refine x_getI (v := (I 0 22)) dX11_termStep_103 lm_0 fl_X11_284 rfl rfl ?_
                  refine x_iconst (v := (3)) dX11_termStep_106 (by decide) ?_
                  refine x_icmp_ne 117 dX11_termStep_107 (by decide) (fun hB => ?_) (fun hB => ?_)
                  · replace hf := f_el hB hf
                    refine x_aload_n 4 dX11_termStep_117 rfl rfl ?_
                    refine x_dup dX11_termStep_118 rfl ?_
                    refine x_getI (v := (I 0 23)) dX11_termStep_119 lm_0 fl_X11_287 rfl rfl ?_
                    refine x_iload_n 3 dX11_termStep_122 rfl rfl ?_
                    refine x_bipush (v := (20)) dX11_termStep_123 (by decide) ?_
                    refine x_icmp_ne 132 dX11_termStep_125 (by decide) (fun hB => ?_) (fun hB => ?_)
                    · replace hf := f_el hB hf
                      refine x_iconst (v := (1)) dX11_termStep_132 (by decide) ?_
                      refine x_iadd dX11_termStep_133 ?_
                      obtain ⟨I282, hI282, hf⟩ := f_lt hf
                      refine x_putI dX11_termStep_134 lm_0 fl_X11_287 rfl rfl rfl hI282 ?_
                      refine x_aload_n 4 dX11_termStep_137 rfl rfl ?_
                      refine x_getR dX11_termStep_138 lm_0 fl_X11_7 rfl ?_
                      refine x_iload_n 1 dX11_termStep_141 rfl rfl ?_
                      refine x_iload_n 3 dX11_termStep_142 rfl rfl ?_
                      obtain ⟨h283, hf⟩ := f_gd hf
                      obtain ⟨I284, hI284, hf⟩ := f_lt hf
                      refine x_iast (j0 := (w4).toNatClampNeg) dX11_termStep_143 lm_1 h283 rfl hI284 ?_
                      refine x_iconst (v := (1)) dX11_termStep_144 (by decide) ?_
                      refine x_istore [(5, .int (1 : Int32)), (4, .int (1 : Int32)), (3, .int w4), (2, .int (I 1 1719)), (1, .int q1), (0, .ref 0)] dX11_termStep_145 (by decide) rfl ?_
                      refine x_lv [(0, .ref 0), (1, .int q1), (2, .int (I 1 1719)), (3, .int w4), (4, .int (1 : Int32)), (5, .int (1 : Int32))] [5, 4, 3, 2, 1, 0] rfl ?_
                      refine l_X11_termStep_147 q1 (I 1 1719) w4 (1 : Int32) (L) _ ?_ _ _ _ hf
                      · intro I_285 hf
                        refine x_aload_n 0 dX11_termStep_170 rfl rfl ?_
                        refine x_getR dX11_termStep_171 lm_0 fl_X11_7 rfl ?_
                        refine x_sipush (v := (1719)) dX11_termStep_174 (by decide) ?_
                        refine x_dup2 dX11_termStep_177 rfl rfl ?_
                        refine x_iald (j := 1719) (v := (I_285 1 1719)) dX11_termStep_178 lm_1 (by decide +kernel) (by decide +kernel) rfl ?_
                        refine x_iconst (v := (1)) dX11_termStep_179 (by decide) ?_
                        refine x_iadd dX11_termStep_180 ?_
                        obtain ⟨I288, hI288, hf⟩ := f_lt hf
                        refine x_iast (j0 := 1719) dX11_termStep_181 lm_1 (by decide +kernel) (by decide +kernel) hI288 ?_
                        refine x_aload_n 0 dX11_termStep_182 rfl rfl ?_
                        obtain ⟨q289, hq290, hf⟩ := f_bd hf
                        refine x_callVv [] (c_X11_ahead (I := I288) (L := L)  hq290) dX11_termStep_183 lk_X11_175 lm_0 rfl cd_X11_ahead rfl rfl (Nat.le_of_ble_eq_true rfl) ⟨rfl, rfl, Nat.le_of_ble_eq_true rfl, Nat.le_of_ble_eq_true rfl⟩ ?_
                        refine x_aload_n 0 dX11_termStep_186 rfl rfl ?_
                        refine x_iload_n 1 dX11_termStep_187 rfl rfl ?_
                        refine x_iload_n 3 dX11_termStep_188 rfl rfl ?_
                        obtain ⟨q291, hq292, hf⟩ := f_bd hf
                        refine x_callVi [.int q1, .int w4] (c_X11_termOrder (I := q289) (L := L)  hq292) dX11_termStep_189 lk_X11_290 lm_0 rfl cd_X11_termOrder rfl rfl (Nat.le_of_ble_eq_true rfl) ⟨rfl, rfl, Nat.le_of_ble_eq_true rfl, Nat.le_of_ble_eq_true rfl⟩ ?_
                        refine x_if_neB 197 dX11_termStep_192 (by decide) (fun hB => ?_) (fun hB => ?_)
                        · replace hf := f_if hB hf
                          refine x_iload 4 dX11_termStep_197 rfl ?_
                          refine x_if_eq 222 dX11_termStep_199 (by decide) (fun h => absurd h (by decide)) (fun _ => ?_)
                          refine x_aload_n 0 dX11_termStep_202 rfl rfl ?_
                          refine x_getR dX11_termStep_203 lm_0 fl_X11_44 rfl ?_
                          refine x_aload_n 0 dX11_termStep_206 rfl rfl ?_
                          refine x_getI (v := (q291.2 0 22)) dX11_termStep_207 lm_0 fl_X11_284 rfl rfl ?_
                          refine x_iload_n 2 dX11_termStep_210 rfl rfl ?_
                          obtain ⟨h293, hf⟩ := f_gd hf
                          obtain ⟨I294, hI294, hf⟩ := f_lt hf
                          refine x_iast (j0 := ((q291.2 0 22)).toNatClampNeg) dX11_termStep_211 lm_8 h293 rfl hI294 ?_
                          refine x_aload_n 0 dX11_termStep_212 rfl rfl ?_
                          refine x_dup dX11_termStep_213 rfl ?_
                          refine x_getI (v := (q291.2 0 22)) dX11_termStep_214 lm_0 fl_X11_284 rfl (by rw [hI294, z2_o (by decide)]) ?_
                          refine x_iconst (v := (1)) dX11_termStep_217 (by decide) ?_
                          refine x_iadd dX11_termStep_218 ?_
                          obtain ⟨I295, hI295, hf⟩ := f_lt hf
                          refine x_putI dX11_termStep_219 lm_0 fl_X11_284 rfl rfl rfl hI295 ?_
                          refine x_iload_n 1 dX11_termStep_222 rfl rfl ?_
                          refine x_bipush (v := (20)) dX11_termStep_223 (by decide) ?_
                          refine x_icmp_ne 279 dX11_termStep_225 (by decide) (fun hB => ?_) (fun hB => ?_)
                          · replace hf := f_el hB hf
                            refine x_aload_n 0 dX11_termStep_279 rfl rfl ?_
                            refine x_bipush (v := (59)) dX11_termStep_280 (by decide) ?_
                            obtain ⟨q305, hq306, hf⟩ := f_bd hf
                            refine x_callVi [.int (59 : Int32)] (c_X11_wantSign (I := I295) (L := L)  hq306) dX11_termStep_282 lk_X11_260 lm_0 rfl cd_X11_wantSign rfl rfl (Nat.le_of_ble_eq_true rfl) ⟨rfl, rfl, Nat.le_of_ble_eq_true rfl, Nat.le_of_ble_eq_true rfl⟩ ?_
                            cases hf
                            exact x_zret dX11_termStep_285 rfl rfl
                          · replace hf := f_if hB hf
                            refine x_aload_n 0 dX11_termStep_228 rfl rfl ?_
                            refine x_dup dX11_termStep_229 rfl ?_
                            refine x_getI (v := ((q291.2 0 22) + (1 : Int32))) dX11_termStep_230 lm_0 fl_X11_284 rfl (by rw [hI295, z2_s, z1_s]) ?_
                            refine x_iconst (v := (1)) dX11_termStep_233 (by decide) ?_
                            refine x_isub dX11_termStep_234 ?_
                            obtain ⟨I296, hI296, hf⟩ := f_lt hf
                            refine x_putI dX11_termStep_235 lm_0 fl_X11_284 rfl rfl rfl hI296 ?_
                            refine x_aload_n 0 dX11_termStep_238 rfl rfl ?_
                            refine x_getR dX11_termStep_239 lm_0 fl_X11_7 rfl ?_
                            refine x_iload_n 3 dX11_termStep_242 rfl rfl ?_
                            refine x_iconst (v := (4)) dX11_termStep_243 (by decide) ?_
                            refine x_iadd dX11_termStep_244 ?_
                            refine x_aload_n 0 dX11_termStep_245 rfl rfl ?_
                            refine x_getR dX11_termStep_246 lm_0 fl_X11_44 rfl ?_
                            refine x_aload_n 0 dX11_termStep_249 rfl rfl ?_
                            refine x_getI (v := (((q291.2 0 22) + (1 : Int32)) - (1 : Int32))) dX11_termStep_250 lm_0 fl_X11_284 rfl (by rw [hI296, z2_s, z1_s]) ?_
                            obtain ⟨h297, hf⟩ := f_gd hf
                            refine x_iald (j := ((((q291.2 0 22) + (1 : Int32)) - (1 : Int32))).toNatClampNeg) (v := (I294 8 ((((q291.2 0 22) + (1 : Int32)) - (1 : Int32))).toNatClampNeg)) dX11_termStep_253 lm_8 h297 rfl (by rw [hI296, z2_o (by decide), hI295, z2_o (by decide)]) ?_
                            obtain ⟨h298, hf⟩ := f_gd hf
                            obtain ⟨I299, hI299, hf⟩ := f_lt hf
                            refine x_iast (j0 := ((w4 + (4 : Int32))).toNatClampNeg) dX11_termStep_254 lm_1 h298 rfl hI299 ?_
                            refine x_aload_n 0 dX11_termStep_255 rfl rfl ?_
                            refine x_getR dX11_termStep_256 lm_0 fl_X11_7 rfl ?_
                            refine x_sipush (v := (1772)) dX11_termStep_259 (by decide) ?_
                            refine x_bipush (v := (6)) dX11_termStep_262 (by decide) ?_
                            refine x_aload_n 0 dX11_termStep_264 rfl rfl ?_
                            refine x_getR dX11_termStep_265 lm_0 fl_X11_44 rfl ?_
                            refine x_aload_n 0 dX11_termStep_268 rfl rfl ?_
                            refine x_getI (v := (((q291.2 0 22) + (1 : Int32)) - (1 : Int32))) dX11_termStep_269 lm_0 fl_X11_284 rfl (by rw [hI299, z2_o (by decide), hI296, z2_s, z1_s]) ?_
                            refine x_iald (j := ((((q291.2 0 22) + (1 : Int32)) - (1 : Int32))).toNatClampNeg) (v := (I294 8 ((((q291.2 0 22) + (1 : Int32)) - (1 : Int32))).toNatClampNeg)) dX11_termStep_272 lm_8 h297 rfl (by rw [hI299, z2_o (by decide), hI296, z2_o (by decide), hI295, z2_o (by decide)]) ?_
                            refine x_imul dX11_termStep_273 ?_
                            refine x_iadd dX11_termStep_274 ?_
                            refine x_iconst (v := (4)) dX11_termStep_275 (by decide) ?_
                            refine x_iadd dX11_termStep_276 ?_
                            refine x_iload_n 2 dX11_termStep_277 rfl rfl ?_
                            obtain ⟨h301, hf⟩ := f_gd hf
                            obtain ⟨I302, hI302, hf⟩ := f_lt hf
                            refine x_iast (j0 := ((((1772 : Int32) + ((6 : Int32) * (I294 8 ((((q291.2 0 22) + (1 : Int32)) - (1 : Int32))).toNatClampNeg))) + (4 : Int32))).toNatClampNeg) dX11_termStep_278 lm_1 h301 rfl hI302 ?_
                            refine x_aload_n 0 dX11_termStep_279 rfl rfl ?_
                            refine x_bipush (v := (59)) dX11_termStep_280 (by decide) ?_
                            obtain ⟨q303, hq304, hf⟩ := f_bd hf
                            refine x_callVi [.int (59 : Int32)] (c_X11_wantSign (I := I302) (L := L)  hq304) dX11_termStep_282 lk_X11_260 lm_0 rfl cd_X11_wantSign rfl rfl (Nat.le_of_ble_eq_true rfl) ⟨rfl, rfl, Nat.le_of_ble_eq_true rfl, Nat.le_of_ble_eq_true rfl⟩ ?_
                            cases hf
                            exact x_zret dX11_termStep_285 rfl rfl
                        · replace hf := f_el hB hf
                          refine x_iconst (v := (0)) dX11_termStep_195 (by decide) ?_
                          cases hf
                          exact x_zret (b := false) dX11_termStep_196 rfl rfl
                    · replace hf := f_if hB hf
                      refine x_iconst (v := (0)) dX11_termStep_128 (by decide) ?_
                      refine x_goto 133 dX11_termStep_129 (by decide) ?_
                      refine x_iadd dX11_termStep_133 ?_
                      obtain ⟨I257, hI257, hf⟩ := f_lt hf
                      refine x_putI dX11_termStep_134 lm_0 fl_X11_287 rfl rfl rfl hI257 ?_
                      refine x_aload_n 4 dX11_termStep_137 rfl rfl ?_
                      refine x_getR dX11_termStep_138 lm_0 fl_X11_7 rfl ?_
                      refine x_iload_n 1 dX11_termStep_141 rfl rfl ?_
                      refine x_iload_n 3 dX11_termStep_142 rfl rfl ?_
                      obtain ⟨h258, hf⟩ := f_gd hf
                      obtain ⟨I259, hI259, hf⟩ := f_lt hf
                      refine x_iast (j0 := (w4).toNatClampNeg) dX11_termStep_143 lm_1 h258 rfl hI259 ?_
                      refine x_iconst (v := (1)) dX11_termStep_144 (by decide) ?_
                      refine x_istore [(5, .int (1 : Int32)), (4, .int (1 : Int32)), (3, .int w4), (2, .int (I 1 1719)), (1, .int q1), (0, .ref 0)] dX11_termStep_145 (by decide) rfl ?_
                      refine x_lv [(0, .ref 0), (1, .int q1), (2, .int (I 1 1719)), (3, .int w4), (4, .int (1 : Int32)), (5, .int (1 : Int32))] [5, 4, 3, 2, 1, 0] rfl ?_
                      refine l_X11_termStep_147 q1 (I 1 1719) w4 (1 : Int32) (L) _ ?_ _ _ _ hf
                      · intro I_260 hf
                        refine x_aload_n 0 dX11_termStep_170 rfl rfl ?_
                        refine x_getR dX11_termStep_171 lm_0 fl_X11_7 rfl ?_
                        refine x_sipush (v := (1719)) dX11_termStep_174 (by decide) ?_
                        refine x_dup2 dX11_termStep_177 rfl rfl ?_
                        refine x_iald (j := 1719) (v := (I_260 1 1719)) dX11_termStep_178 lm_1 (by decide +kernel) (by decide +kernel) rfl ?_
                        refine x_iconst (v := (1)) dX11_termStep_179 (by decide) ?_
                        refine x_iadd dX11_termStep_180 ?_
                        obtain ⟨I263, hI263, hf⟩ := f_lt hf
                        refine x_iast (j0 := 1719) dX11_termStep_181 lm_1 (by decide +kernel) (by decide +kernel) hI263 ?_
                        refine x_aload_n 0 dX11_termStep_182 rfl rfl ?_
                        obtain ⟨q264, hq265, hf⟩ := f_bd hf
                        refine x_callVv [] (c_X11_ahead (I := I263) (L := L)  hq265) dX11_termStep_183 lk_X11_175 lm_0 rfl cd_X11_ahead rfl rfl (Nat.le_of_ble_eq_true rfl) ⟨rfl, rfl, Nat.le_of_ble_eq_true rfl, Nat.le_of_ble_eq_true rfl⟩ ?_
                        refine x_aload_n 0 dX11_termStep_186 rfl rfl ?_
                        refine x_iload_n 1 dX11_termStep_187 rfl rfl ?_
                        refine x_iload_n 3 dX11_termStep_188 rfl rfl ?_
                        obtain ⟨q266, hq267, hf⟩ := f_bd hf
                        refine x_callVi [.int q1, .int w4] (c_X11_termOrder (I := q264) (L := L)  hq267) dX11_termStep_189 lk_X11_290 lm_0 rfl cd_X11_termOrder rfl rfl (Nat.le_of_ble_eq_true rfl) ⟨rfl, rfl, Nat.le_of_ble_eq_true rfl, Nat.le_of_ble_eq_true rfl⟩ ?_
                        refine x_if_neB 197 dX11_termStep_192 (by decide) (fun hB => ?_) (fun hB => ?_)
                        · replace hf := f_if hB hf
                          refine x_iload 4 dX11_termStep_197 rfl ?_
                          refine x_if_eq 222 dX11_termStep_199 (by decide) (fun h => absurd h (by decide)) (fun _ => ?_)
                          refine x_aload_n 0 dX11_termStep_202 rfl rfl ?_
                          refine x_getR dX11_termStep_203 lm_0 fl_X11_44 rfl ?_
                          refine x_aload_n 0 dX11_termStep_206 rfl rfl ?_
                          refine x_getI (v := (q266.2 0 22)) dX11_termStep_207 lm_0 fl_X11_284 rfl rfl ?_
                          refine x_iload_n 2 dX11_termStep_210 rfl rfl ?_
                          obtain ⟨h268, hf⟩ := f_gd hf
                          obtain ⟨I269, hI269, hf⟩ := f_lt hf
                          refine x_iast (j0 := ((q266.2 0 22)).toNatClampNeg) dX11_termStep_211 lm_8 h268 rfl hI269 ?_
                          refine x_aload_n 0 dX11_termStep_212 rfl rfl ?_
                          refine x_dup dX11_termStep_213 rfl ?_
                          refine x_getI (v := (q266.2 0 22)) dX11_termStep_214 lm_0 fl_X11_284 rfl (by rw [hI269, z2_o (by decide)]) ?_
                          refine x_iconst (v := (1)) dX11_termStep_217 (by decide) ?_
                          refine x_iadd dX11_termStep_218 ?_
                          obtain ⟨I270, hI270, hf⟩ := f_lt hf
                          refine x_putI dX11_termStep_219 lm_0 fl_X11_284 rfl rfl rfl hI270 ?_
                          refine x_iload_n 1 dX11_termStep_222 rfl rfl ?_
                          refine x_bipush (v := (20)) dX11_termStep_223 (by decide) ?_
                          refine x_icmp_ne 279 dX11_termStep_225 (by decide) (fun hB => ?_) (fun hB => ?_)
                          · replace hf := f_el hB hf
                            refine x_aload_n 0 dX11_termStep_279 rfl rfl ?_
                            refine x_bipush (v := (59)) dX11_termStep_280 (by decide) ?_
                            obtain ⟨q280, hq281, hf⟩ := f_bd hf
                            refine x_callVi [.int (59 : Int32)] (c_X11_wantSign (I := I270) (L := L)  hq281) dX11_termStep_282 lk_X11_260 lm_0 rfl cd_X11_wantSign rfl rfl (Nat.le_of_ble_eq_true rfl) ⟨rfl, rfl, Nat.le_of_ble_eq_true rfl, Nat.le_of_ble_eq_true rfl⟩ ?_
                            cases hf
                            exact x_zret dX11_termStep_285 rfl rfl
                          · replace hf := f_if hB hf
                            refine x_aload_n 0 dX11_termStep_228 rfl rfl ?_
                            refine x_dup dX11_termStep_229 rfl ?_
                            refine x_getI (v := ((q266.2 0 22) + (1 : Int32))) dX11_termStep_230 lm_0 fl_X11_284 rfl (by rw [hI270, z2_s, z1_s]) ?_
                            refine x_iconst (v := (1)) dX11_termStep_233 (by decide) ?_
                            refine x_isub dX11_termStep_234 ?_
                            obtain ⟨I271, hI271, hf⟩ := f_lt hf
                            refine x_putI dX11_termStep_235 lm_0 fl_X11_284 rfl rfl rfl hI271 ?_
                            refine x_aload_n 0 dX11_termStep_238 rfl rfl ?_
                            refine x_getR dX11_termStep_239 lm_0 fl_X11_7 rfl ?_
                            refine x_iload_n 3 dX11_termStep_242 rfl rfl ?_
                            refine x_iconst (v := (4)) dX11_termStep_243 (by decide) ?_
                            refine x_iadd dX11_termStep_244 ?_
                            refine x_aload_n 0 dX11_termStep_245 rfl rfl ?_
                            refine x_getR dX11_termStep_246 lm_0 fl_X11_44 rfl ?_
                            refine x_aload_n 0 dX11_termStep_249 rfl rfl ?_
                            refine x_getI (v := (((q266.2 0 22) + (1 : Int32)) - (1 : Int32))) dX11_termStep_250 lm_0 fl_X11_284 rfl (by rw [hI271, z2_s, z1_s]) ?_
                            obtain ⟨h272, hf⟩ := f_gd hf
                            refine x_iald (j := ((((q266.2 0 22) + (1 : Int32)) - (1 : Int32))).toNatClampNeg) (v := (I269 8 ((((q266.2 0 22) + (1 : Int32)) - (1 : Int32))).toNatClampNeg)) dX11_termStep_253 lm_8 h272 rfl (by rw [hI271, z2_o (by decide), hI270, z2_o (by decide)]) ?_
                            obtain ⟨h273, hf⟩ := f_gd hf
                            obtain ⟨I274, hI274, hf⟩ := f_lt hf
                            refine x_iast (j0 := ((w4 + (4 : Int32))).toNatClampNeg) dX11_termStep_254 lm_1 h273 rfl hI274 ?_
                            refine x_aload_n 0 dX11_termStep_255 rfl rfl ?_
                            refine x_getR dX11_termStep_256 lm_0 fl_X11_7 rfl ?_
                            refine x_sipush (v := (1772)) dX11_termStep_259 (by decide) ?_
                            refine x_bipush (v := (6)) dX11_termStep_262 (by decide) ?_
                            refine x_aload_n 0 dX11_termStep_264 rfl rfl ?_
                            refine x_getR dX11_termStep_265 lm_0 fl_X11_44 rfl ?_
                            refine x_aload_n 0 dX11_termStep_268 rfl rfl ?_
                            refine x_getI (v := (((q266.2 0 22) + (1 : Int32)) - (1 : Int32))) dX11_termStep_269 lm_0 fl_X11_284 rfl (by rw [hI274, z2_o (by decide), hI271, z2_s, z1_s]) ?_
                            refine x_iald (j := ((((q266.2 0 22) + (1 : Int32)) - (1 : Int32))).toNatClampNeg) (v := (I269 8 ((((q266.2 0 22) + (1 : Int32)) - (1 : Int32))).toNatClampNeg)) dX11_termStep_272 lm_8 h272 rfl (by rw [hI274, z2_o (by decide), hI271, z2_o (by decide), hI270, z2_o (by decide)]) ?_
                            refine x_imul dX11_termStep_273 ?_
                            refine x_iadd dX11_termStep_274 ?_
                            refine x_iconst (v := (4)) dX11_termStep_275 (by decide) ?_
                            refine x_iadd dX11_termStep_276 ?_
                            refine x_iload_n 2 dX11_termStep_277 rfl rfl ?_
                            obtain ⟨h276, hf⟩ := f_gd hf
                            obtain ⟨I277, hI277, hf⟩ := f_lt hf
                            refine x_iast (j0 := ((((1772 : Int32) + ((6 : Int32) * (I269 8 ((((q266.2 0 22) + (1 : Int32)) - (1 : Int32))).toNatClampNeg))) + (4 : Int32))).toNatClampNeg) dX11_termStep_278 lm_1 h276 rfl hI277 ?_
                            refine x_aload_n 0 dX11_termStep_279 rfl rfl ?_
                            refine x_bipush (v := (59)) dX11_termStep_280 (by decide) ?_
                            obtain ⟨q278, hq279, hf⟩ := f_bd hf
                            refine x_callVi [.int (59 : Int32)] (c_X11_wantSign (I := I277) (L := L)  hq279) dX11_termStep_282 lk_X11_260 lm_0 rfl cd_X11_wantSign rfl rfl (Nat.le_of_ble_eq_true rfl) ⟨rfl, rfl, Nat.le_of_ble_eq_true rfl, Nat.le_of_ble_eq_true rfl⟩ ?_
                            cases hf
                            exact x_zret dX11_termStep_285 rfl rfl
                        · replace hf := f_el hB hf
                          refine x_iconst (v := (0)) dX11_termStep_195 (by decide) ?_
                          cases hf
                          exact x_zret (b := false) dX11_termStep_196 rfl rfl
                  · replace hf := f_if hB hf
                    refine x_aload_n 4 dX11_termStep_110 rfl rfl ?_
                    refine x_bipush (v := (7)) dX11_termStep_111 (by decide) ?_
                    refine x_callVi [.int (7 : Int32)] (c_X11_fails (I := I) (L := L) (7 : Int32)) dX11_termStep_113 lk_X11_181 lm_0 rfl cd_X11_fails rfl rfl (Nat.le_of_ble_eq_true rfl) ⟨rfl, rfl, Nat.le_of_ble_eq_true rfl, Nat.le_of_ble_eq_true rfl⟩ ?_
                    cases hf
                    exact x_zret dX11_termStep_116 rfl rfl
                · replace hf := f_if hB hf
                  refine x_aload_n 4 dX11_termStep_90 rfl rfl ?_
                  refine x_bipush (v := (6)) dX11_termStep_91 (by decide) ?_
                  refine x_callVi [.int (6 : Int32)] (c_X11_fails (I := I) (L := L) (6 : Int32)) dX11_termStep_93 lk_X11_181 lm_0 rfl cd_X11_fails rfl rfl (Nat.le_of_ble_eq_true rfl) ⟨rfl, rfl, Nat.le_of_ble_eq_true rfl, Nat.le_of_ble_eq_true rfl⟩ ?_
                  cases hf
                  exact x_zret dX11_termStep_96 rfl rfl
            · replace hf := f_if hB hf
              refine x_aload_n 4 dX11_termStep_69 rfl rfl ?_
              refine x_iconst (v := (2)) dX11_termStep_70 (by decide) ?_
              refine x_callVi [.int (2 : Int32)] (c_X11_fails (I := I) (L := L) (2 : Int32)) dX11_termStep_71 lk_X11_181 lm_0 rfl cd_X11_fails rfl rfl (Nat.le_of_ble_eq_true rfl) ⟨rfl, rfl, Nat.le_of_ble_eq_true rfl, Nat.le_of_ble_eq_true rfl⟩ ?_
              cases hf
              exact x_zret dX11_termStep_74 rfl rfl
set_option maxRecDepth 100000 in
set_option maxHeartbeats 4000000 in
theorem l_X11_terms_38    (L : z_L) {r : Int32 × z_I} (k57 : z_I → Option (Int32 × z_I)) (hk57 : ∀ (I : z_I), k57 I = some r → z_X layM RX11 cX11_terms 4 (some .int) ({ frames := 11, cells := 0, slots := 0, locals := 251 } : Room) 57 [(0, .ref 0)] [] I L (some (.int r.1), r.2, L)) : ∀ (n : Nat) (v2 : Bool) (I : z_I), g_X11_terms_38 L k57 n v2 I = some r → z_X layM RX11 cX11_terms 4 (some .int) ({ frames := 11, cells := 0, slots := 0, locals := 251 } : Room) 38 [(0, .ref 0), (2, .int (zb v2))] [] I L (some (.int r.1), r.2, L) := by
  intro n
  induction n with
  | zero => intro v2 I hf; cases hf
  | succ n ih =>
    intro v2 I hf
    rw [g_X11_terms_38] at hf
    refine x_iload_n 1 dX11_terms_38 rfl rfl ?_
    refine x_if_eqB 57 dX11_terms_39 (by decide) (fun hB => ?_) (fun hB => ?_)
    · replace hf := f_el hB hf
      refine x_lv [(0, .ref 0)] [0] rfl ?_
      exact hk57 _ hf
    · replace hf := f_if hB hf
      refine x_aload_n 0 dX11_terms_42 rfl rfl ?_
      refine x_getI (v := (I 0 12)) dX11_terms_43 lm_0 fl_X11_144 rfl rfl ?_
      refine x_if_eq 57 dX11_terms_46 (by decide) (fun hB => ?_) (fun hB => ?_)
      · replace hf := f_if hB hf
        refine x_lv [(0, .ref 0)] [0] rfl ?_
        exact hk57 _ hf
      · replace hf := f_el hB hf
        refine x_aload_n 0 dX11_terms_49 rfl rfl ?_
        obtain ⟨q7, hq8, hf⟩ := f_bd hf
        refine x_callVi [] (c_X11_termStep (I := I) (L := L)  hq8) dX11_terms_50 lk_X11_293 lm_0 rfl cd_X11_termStep rfl rfl (Nat.le_of_ble_eq_true rfl) ⟨rfl, rfl, Nat.le_of_ble_eq_true rfl, Nat.le_of_ble_eq_true rfl⟩ ?_
        refine x_istore_n [(2, .int (zb q7.1)), (0, .ref 0)] dX11_terms_53 rfl (by decide) rfl ?_
        refine x_goto 38 dX11_terms_54 (by decide) ?_
        refine x_lv [(0, .ref 0), (2, .int (zb q7.1))] [1, 0] rfl ?_
        exact ih _ _ hf
set_option maxRecDepth 100000 in
set_option maxHeartbeats 4000000 in
theorem l_X11_terms_102    (L : z_L) {r : Int32 × z_I}  : ∀ (n : Nat) (v3 : Int32) (I : z_I), g_X11_terms_102 L  n v3 I = some r → z_X layM RX11 cX11_terms 4 (some .int) ({ frames := 11, cells := 0, slots := 0, locals := 251 } : Room) 102 [(0, .ref 0), (3, .int v3)] [] I L (some (.int r.1), r.2, L) := by
  intro n
  induction n with
  | zero => intro v3 I hf; cases hf
  | succ n ih =>
    intro v3 I hf
    rw [g_X11_terms_102] at hf
    refine x_iload_n 1 dX11_terms_102 rfl rfl ?_
    refine x_sipush (v := (420)) dX11_terms_103 (by decide) ?_
    refine x_icmp_ge 131 dX11_terms_106 (by decide) (fun hB => ?_) (fun hB => ?_)
    · replace hf := f_if hB hf
      refine x_aload_n 0 dX11_terms_131 rfl rfl ?_
      refine x_aload_n 0 dX11_terms_132 rfl rfl ?_
      refine x_getI (v := (I 0 23)) dX11_terms_133 lm_0 fl_X11_287 rfl rfl ?_
      refine x_callVi [.int (I 0 23)] (c_X11_taken (I := I) (L := L) (I 0 23)) dX11_terms_136 lk_X11_269 lm_0 rfl cd_X11_taken rfl rfl (Nat.le_of_ble_eq_true rfl) ⟨rfl, rfl, Nat.le_of_ble_eq_true rfl, Nat.le_of_ble_eq_true rfl⟩ ?_
      cases hf
      exact x_iret dX11_terms_139 rfl rfl
    · replace hf := f_el hB hf
      refine x_aload_n 0 dX11_terms_109 rfl rfl ?_
      refine x_getR dX11_terms_110 lm_0 fl_X11_7 rfl ?_
      refine x_iload_n 1 dX11_terms_113 rfl rfl ?_
      refine x_aload_n 0 dX11_terms_114 rfl rfl ?_
      refine x_getR dX11_terms_115 lm_0 fl_X11_7 rfl ?_
      refine x_sipush (v := (1712)) dX11_terms_118 (by decide) ?_
      refine x_iload_n 1 dX11_terms_121 rfl rfl ?_
      refine x_iadd dX11_terms_122 ?_
      obtain ⟨h13, hf⟩ := f_gd hf
      refine x_iald (j := (((1712 : Int32) + v3)).toNatClampNeg) (v := (I 1 (((1712 : Int32) + v3)).toNatClampNeg)) dX11_terms_123 lm_1 h13 rfl rfl ?_
      obtain ⟨h14, hf⟩ := f_gd hf
      obtain ⟨I15, hI15, hf⟩ := f_lt hf
      refine x_iast (j0 := (v3).toNatClampNeg) dX11_terms_124 lm_1 h14 rfl hI15 ?_
      refine x_iinc 1 [(3, .int (v3 + (1 : Int32))), (0, .ref 0)] dX11_terms_125 rfl rfl (by decide) rfl ?_
      refine x_goto 102 dX11_terms_128 (by decide) ?_
      refine x_lv [(0, .ref 0), (3, .int (v3 + (1 : Int32)))] [1, 0] rfl ?_
      exact ih _ _ hf
set_option maxRecDepth 100000 in
set_option maxHeartbeats 4000000 in
theorem c_X11_terms {I : z_I} {L : z_L} {p0 : Int32}  {r : Int32 × z_I} (hf : f_X11_terms I L p0 = some r) : z_C layM yX11_terms cX11_terms 4 (some .int) ({ frames := 11, cells := 0, slots := 0, locals := 251 } : Room) [.ref 0, .int p0] I L (some (.int r.1), r.2, L) := by
  refine z_C.of (by decide) (Nat.le_of_ble_eq_true rfl) ?_
  show z_X layM RX11 cX11_terms 4 (some .int) ({ frames := 11, cells := 0, slots := 0, locals := 251 } : Room) 0 [(0, .ref 0), (1, .int p0)] [] I L (some (.int r.1), r.2, L)
  unfold f_X11_terms at hf
  refine x_aload_n 0 dX11_terms_0 rfl rfl ?_
  refine x_iload_n 1 dX11_terms_1 rfl rfl ?_
  refine x_sipush (v := (300)) dX11_terms_2 (by decide) ?_
  obtain ⟨q1, hq2, hf⟩ := f_bd hf
  refine x_callVi [.int p0, .int (300 : Int32)] (c_X11_begins (I := I) (L := L)  hq2) dX11_terms_5 lk_X11_263 lm_0 rfl cd_X11_begins rfl rfl (Nat.le_of_ble_eq_true rfl) ⟨rfl, rfl, Nat.le_of_ble_eq_true rfl, Nat.le_of_ble_eq_true rfl⟩ ?_
  refine x_if_neB 17 dX11_terms_8 (by decide) (fun hB => ?_) (fun hB => ?_)
  · replace hf := f_if hB hf
    refine x_aload_n 0 dX11_terms_17 rfl rfl ?_
    refine x_getR dX11_terms_18 lm_0 fl_X11_7 rfl ?_
    refine x_sipush (v := (1719)) dX11_terms_21 (by decide) ?_
    refine x_iconst (v := (0)) dX11_terms_24 (by decide) ?_
    obtain ⟨I4, hI4, hf⟩ := f_lt hf
    refine x_iast (j0 := 1719) dX11_terms_25 lm_1 (by decide +kernel) (by decide +kernel) hI4 ?_
    refine x_aload_n 0 dX11_terms_26 rfl rfl ?_
    refine x_iconst (v := (0)) dX11_terms_27 (by decide) ?_
    obtain ⟨I5, hI5, hf⟩ := f_lt hf
    refine x_putI dX11_terms_28 lm_0 fl_X11_284 rfl rfl rfl hI5 ?_
    refine x_aload_n 0 dX11_terms_31 rfl rfl ?_
    refine x_iconst (v := (0)) dX11_terms_32 (by decide) ?_
    obtain ⟨I6, hI6, hf⟩ := f_lt hf
    refine x_putI dX11_terms_33 lm_0 fl_X11_287 rfl rfl rfl hI6 ?_
    refine x_iconst (v := (1)) dX11_terms_36 (by decide) ?_
    refine x_istore_n [(2, .int (1 : Int32)), (0, .ref 0), (1, .int p0)] dX11_terms_37 rfl (by decide) rfl ?_
    refine x_lv [(0, .ref 0), (2, .int (zb true))] [1, 0] rfl ?_
    refine l_X11_terms_38 (L) _ ?_ _ _ _ hf
    · intro I_9 hf
      refine x_aload_n 0 dX11_terms_57 rfl rfl ?_
      refine x_getI (v := (I_9 0 18)) dX11_terms_58 lm_0 fl_X11_169 rfl rfl ?_
      refine x_if_ne 77 dX11_terms_61 (by decide) (fun hB => ?_) (fun hB => ?_)
      · replace hf := f_el hB hf
        refine x_aload_n 0 dX11_terms_77 rfl rfl ?_
        refine x_getI (v := (I_9 0 18)) dX11_terms_78 lm_0 fl_X11_169 rfl rfl ?_
        refine x_if_ne 131 dX11_terms_81 (by decide) (fun hB => ?_) (fun hB => ?_)
        · replace hf := f_el hB hf
          refine x_aload_n 0 dX11_terms_131 rfl rfl ?_
          refine x_aload_n 0 dX11_terms_132 rfl rfl ?_
          refine x_getI (v := (I_9 0 23)) dX11_terms_133 lm_0 fl_X11_287 rfl rfl ?_
          refine x_callVi [.int (I_9 0 23)] (c_X11_taken (I := I_9) (L := L) (I_9 0 23)) dX11_terms_136 lk_X11_269 lm_0 rfl cd_X11_taken rfl rfl (Nat.le_of_ble_eq_true rfl) ⟨rfl, rfl, Nat.le_of_ble_eq_true rfl, Nat.le_of_ble_eq_true rfl⟩ ?_
          cases hf
          exact x_iret dX11_terms_139 rfl rfl
        · replace hf := f_if hB hf
          refine x_aload_n 0 dX11_terms_84 rfl rfl ?_
          refine x_getR dX11_terms_85 lm_0 fl_X11_7 rfl ?_
          refine x_bipush (v := (7)) dX11_terms_88 (by decide) ?_
          refine x_aload_n 0 dX11_terms_90 rfl rfl ?_
          refine x_getR dX11_terms_91 lm_0 fl_X11_7 rfl ?_
          refine x_sipush (v := (1719)) dX11_terms_94 (by decide) ?_
          refine x_iald (j := 1719) (v := (I_9 1 1719)) dX11_terms_97 lm_1 (by decide +kernel) (by decide +kernel) rfl ?_
          obtain ⟨I21, hI21, hf⟩ := f_lt hf
          refine x_iast (j0 := 7) dX11_terms_98 lm_1 (by decide +kernel) (by decide +kernel) hI21 ?_
          refine x_bipush (v := (60)) dX11_terms_99 (by decide) ?_
          refine x_istore_n [(3, .int (60 : Int32)), (0, .ref 0)] dX11_terms_101 rfl (by decide) rfl ?_
          refine x_lv [(0, .ref 0), (3, .int (60 : Int32))] [1, 0] rfl ?_
          refine l_X11_terms_102 (L)   _ _ _ hf
      · replace hf := f_if hB hf
        refine x_aload_n 0 dX11_terms_64 rfl rfl ?_
        refine x_getI (v := (I_9 0 22)) dX11_terms_65 lm_0 fl_X11_284 rfl rfl ?_
        refine x_if_le 77 dX11_terms_68 (by decide) (fun hB => ?_) (fun hB => ?_)
        · replace hf := f_if hB hf
          refine x_aload_n 0 dX11_terms_77 rfl rfl ?_
          refine x_getI (v := (I_9 0 18)) dX11_terms_78 lm_0 fl_X11_169 rfl rfl ?_
          refine x_if_ne 131 dX11_terms_81 (by decide) (fun hB => ?_) (fun hB => ?_)
          · replace hf := f_el hB hf
            refine x_aload_n 0 dX11_terms_131 rfl rfl ?_
            refine x_aload_n 0 dX11_terms_132 rfl rfl ?_
            refine x_getI (v := (I_9 0 23)) dX11_terms_133 lm_0 fl_X11_287 rfl rfl ?_
            refine x_callVi [.int (I_9 0 23)] (c_X11_taken (I := I_9) (L := L) (I_9 0 23)) dX11_terms_136 lk_X11_269 lm_0 rfl cd_X11_taken rfl rfl (Nat.le_of_ble_eq_true rfl) ⟨rfl, rfl, Nat.le_of_ble_eq_true rfl, Nat.le_of_ble_eq_true rfl⟩ ?_
            cases hf
            exact x_iret dX11_terms_139 rfl rfl
          · replace hf := f_if hB hf
            refine x_aload_n 0 dX11_terms_84 rfl rfl ?_
            refine x_getR dX11_terms_85 lm_0 fl_X11_7 rfl ?_
            refine x_bipush (v := (7)) dX11_terms_88 (by decide) ?_
            refine x_aload_n 0 dX11_terms_90 rfl rfl ?_
            refine x_getR dX11_terms_91 lm_0 fl_X11_7 rfl ?_
            refine x_sipush (v := (1719)) dX11_terms_94 (by decide) ?_
            refine x_iald (j := 1719) (v := (I_9 1 1719)) dX11_terms_97 lm_1 (by decide +kernel) (by decide +kernel) rfl ?_
            obtain ⟨I12, hI12, hf⟩ := f_lt hf
            refine x_iast (j0 := 7) dX11_terms_98 lm_1 (by decide +kernel) (by decide +kernel) hI12 ?_
            refine x_bipush (v := (60)) dX11_terms_99 (by decide) ?_
            refine x_istore_n [(3, .int (60 : Int32)), (0, .ref 0)] dX11_terms_101 rfl (by decide) rfl ?_
            refine x_lv [(0, .ref 0), (3, .int (60 : Int32))] [1, 0] rfl ?_
            refine l_X11_terms_102 (L)   _ _ _ hf
        · replace hf := f_el hB hf
          refine x_aload_n 0 dX11_terms_71 rfl rfl ?_
          refine x_iconst (v := (2)) dX11_terms_72 (by decide) ?_
          refine x_callVi [.int (2 : Int32)] (c_X11_fails (I := I_9) (L := L) (2 : Int32)) dX11_terms_73 lk_X11_181 lm_0 rfl cd_X11_fails rfl rfl (Nat.le_of_ble_eq_true rfl) ⟨rfl, rfl, Nat.le_of_ble_eq_true rfl, Nat.le_of_ble_eq_true rfl⟩ ?_
          refine x_pop dX11_terms_76 rfl ?_
          refine x_aload_n 0 dX11_terms_77 rfl rfl ?_
          refine x_getI (v := ((f_X11_fails I_9 (2 : Int32)).2 0 18)) dX11_terms_78 lm_0 fl_X11_169 rfl rfl ?_
          refine x_if_ne 131 dX11_terms_81 (by decide) (fun hB => ?_) (fun hB => ?_)
          · replace hf := f_el hB hf
            refine x_aload_n 0 dX11_terms_131 rfl rfl ?_
            refine x_aload_n 0 dX11_terms_132 rfl rfl ?_
            refine x_getI (v := ((f_X11_fails I_9 (2 : Int32)).2 0 23)) dX11_terms_133 lm_0 fl_X11_287 rfl rfl ?_
            refine x_callVi [.int ((f_X11_fails I_9 (2 : Int32)).2 0 23)] (c_X11_taken (I := (f_X11_fails I_9 (2 : Int32)).2) (L := L) ((f_X11_fails I_9 (2 : Int32)).2 0 23)) dX11_terms_136 lk_X11_269 lm_0 rfl cd_X11_taken rfl rfl (Nat.le_of_ble_eq_true rfl) ⟨rfl, rfl, Nat.le_of_ble_eq_true rfl, Nat.le_of_ble_eq_true rfl⟩ ?_
            cases hf
            exact x_iret dX11_terms_139 rfl rfl
          · replace hf := f_if hB hf
            refine x_aload_n 0 dX11_terms_84 rfl rfl ?_
            refine x_getR dX11_terms_85 lm_0 fl_X11_7 rfl ?_
            refine x_bipush (v := (7)) dX11_terms_88 (by decide) ?_
            refine x_aload_n 0 dX11_terms_90 rfl rfl ?_
            refine x_getR dX11_terms_91 lm_0 fl_X11_7 rfl ?_
            refine x_sipush (v := (1719)) dX11_terms_94 (by decide) ?_
            refine x_iald (j := 1719) (v := ((f_X11_fails I_9 (2 : Int32)).2 1 1719)) dX11_terms_97 lm_1 (by decide +kernel) (by decide +kernel) rfl ?_
            obtain ⟨I18, hI18, hf⟩ := f_lt hf
            refine x_iast (j0 := 7) dX11_terms_98 lm_1 (by decide +kernel) (by decide +kernel) hI18 ?_
            refine x_bipush (v := (60)) dX11_terms_99 (by decide) ?_
            refine x_istore_n [(3, .int (60 : Int32)), (0, .ref 0)] dX11_terms_101 rfl (by decide) rfl ?_
            refine x_lv [(0, .ref 0), (3, .int (60 : Int32))] [1, 0] rfl ?_
            refine l_X11_terms_102 (L)   _ _ _ hf
  · replace hf := f_el hB hf
    refine x_aload_n 0 dX11_terms_11 rfl rfl ?_
    refine x_iconst (v := (1)) dX11_terms_12 (by decide) ?_
    refine x_callVi [.int (1 : Int32)] (c_X11_refuse (I := q1.2) (L := L) (1 : Int32)) dX11_terms_13 lk_X11_99 lm_0 rfl cd_X11_refuse rfl rfl (Nat.le_of_ble_eq_true rfl) ⟨rfl, rfl, Nat.le_of_ble_eq_true rfl, Nat.le_of_ble_eq_true rfl⟩ ?_
    cases hf
    exact x_iret dX11_terms_16 rfl rfl
set_option maxRecDepth 100000 in
set_option maxHeartbeats 4000000 in
theorem c_X11_isBed {I : z_I} {L : z_L} (p0 : Int32)  : z_C layM yX11_isBed cX11_isBed 2 (some .boolean) ({ frames := 0, cells := 0, slots := 0, locals := 0 } : Room) [.ref 0, .int p0] I L (some (.int (zb (f_X11_isBed I p0))), I, L) := by
  obtain ⟨r, hf⟩ : ∃ r, f_X11_isBed I p0 = r := ⟨_, rfl⟩
  rw [hf]
  refine z_C.of (by decide) (Nat.le_of_ble_eq_true rfl) ?_
  show z_X layM RX11 cX11_isBed 2 (some .boolean) ({ frames := 0, cells := 0, slots := 0, locals := 0 } : Room) 0 [(0, .ref 0), (1, .int p0)] [] I L (some (.int (zb r)), I, L)
  unfold f_X11_isBed at hf
  refine x_iload_n 1 dX11_isBed_0 rfl rfl ?_
  refine x_if_lt 18 dX11_isBed_1 (by decide) (fun hB => ?_) (fun hB => ?_)
  · replace hf := t_if hB hf
    refine x_iconst (v := (0)) dX11_isBed_18 (by decide) ?_
    subst hf
    exact x_zret (b := false) dX11_isBed_19 rfl rfl
  · replace hf := t_el hB hf
    refine x_iload_n 1 dX11_isBed_4 rfl rfl ?_
    refine x_aload_n 0 dX11_isBed_5 rfl rfl ?_
    refine x_getR dX11_isBed_6 lm_0 fl_X11_7 rfl ?_
    refine x_iconst (v := (0)) dX11_isBed_9 (by decide) ?_
    refine x_iald (j := 0) (v := (I 1 0)) dX11_isBed_10 lm_1 (by decide +kernel) (by decide +kernel) rfl ?_
    refine x_icmp_ge 18 dX11_isBed_11 (by decide) (fun hB => ?_) (fun hB => ?_)
    · replace hf := t_if hB hf
      refine x_iconst (v := (0)) dX11_isBed_18 (by decide) ?_
      subst hf
      exact x_zret (b := false) dX11_isBed_19 rfl rfl
    · replace hf := t_el hB hf
      refine x_iconst (v := (1)) dX11_isBed_14 (by decide) ?_
      refine x_goto 19 dX11_isBed_15 (by decide) ?_
      subst hf
      exact x_zret (b := true) dX11_isBed_19 rfl rfl
set_option maxRecDepth 100000 in
set_option maxHeartbeats 4000000 in
theorem c_X11_isCase {I : z_I} {L : z_L} (p0 : Int32)  : z_C layM yX11_isCase cX11_isCase 2 (some .boolean) ({ frames := 0, cells := 0, slots := 0, locals := 0 } : Room) [.ref 0, .int p0] I L (some (.int (zb (f_X11_isCase I p0))), I, L) := by
  obtain ⟨r, hf⟩ : ∃ r, f_X11_isCase I p0 = r := ⟨_, rfl⟩
  rw [hf]
  refine z_C.of (by decide) (Nat.le_of_ble_eq_true rfl) ?_
  show z_X layM RX11 cX11_isCase 2 (some .boolean) ({ frames := 0, cells := 0, slots := 0, locals := 0 } : Room) 0 [(0, .ref 0), (1, .int p0)] [] I L (some (.int (zb r)), I, L)
  unfold f_X11_isCase at hf
  refine x_iload_n 1 dX11_isCase_0 rfl rfl ?_
  refine x_if_lt 18 dX11_isCase_1 (by decide) (fun hB => ?_) (fun hB => ?_)
  · replace hf := t_if hB hf
    refine x_iconst (v := (0)) dX11_isCase_18 (by decide) ?_
    subst hf
    exact x_zret (b := false) dX11_isCase_19 rfl rfl
  · replace hf := t_el hB hf
    refine x_iload_n 1 dX11_isCase_4 rfl rfl ?_
    refine x_aload_n 0 dX11_isCase_5 rfl rfl ?_
    refine x_getR dX11_isCase_6 lm_0 fl_X11_7 rfl ?_
    refine x_iconst (v := (1)) dX11_isCase_9 (by decide) ?_
    refine x_iald (j := 1) (v := (I 1 1)) dX11_isCase_10 lm_1 (by decide +kernel) (by decide +kernel) rfl ?_
    refine x_icmp_ge 18 dX11_isCase_11 (by decide) (fun hB => ?_) (fun hB => ?_)
    · replace hf := t_if hB hf
      refine x_iconst (v := (0)) dX11_isCase_18 (by decide) ?_
      subst hf
      exact x_zret (b := false) dX11_isCase_19 rfl rfl
    · replace hf := t_el hB hf
      refine x_iconst (v := (1)) dX11_isCase_14 (by decide) ?_
      refine x_goto 19 dX11_isCase_15 (by decide) ?_
      subst hf
      exact x_zret (b := true) dX11_isCase_19 rfl rfl
set_option maxRecDepth 100000 in
set_option maxHeartbeats 4000000 in
theorem c_X11_isClaim {I : z_I} {L : z_L} (p0 : Int32)  : z_C layM yX11_isClaim cX11_isClaim 2 (some .boolean) ({ frames := 0, cells := 0, slots := 0, locals := 0 } : Room) [.ref 0, .int p0] I L (some (.int (zb (f_X11_isClaim I p0))), I, L) := by
  obtain ⟨r, hf⟩ : ∃ r, f_X11_isClaim I p0 = r := ⟨_, rfl⟩
  rw [hf]
  refine z_C.of (by decide) (Nat.le_of_ble_eq_true rfl) ?_
  show z_X layM RX11 cX11_isClaim 2 (some .boolean) ({ frames := 0, cells := 0, slots := 0, locals := 0 } : Room) 0 [(0, .ref 0), (1, .int p0)] [] I L (some (.int (zb r)), I, L)
  unfold f_X11_isClaim at hf
  refine x_iload_n 1 dX11_isClaim_0 rfl rfl ?_
  refine x_if_lt 18 dX11_isClaim_1 (by decide) (fun hB => ?_) (fun hB => ?_)
  · replace hf := t_if hB hf
    refine x_iconst (v := (0)) dX11_isClaim_18 (by decide) ?_
    subst hf
    exact x_zret (b := false) dX11_isClaim_19 rfl rfl
  · replace hf := t_el hB hf
    refine x_iload_n 1 dX11_isClaim_4 rfl rfl ?_
    refine x_aload_n 0 dX11_isClaim_5 rfl rfl ?_
    refine x_getR dX11_isClaim_6 lm_0 fl_X11_7 rfl ?_
    refine x_iconst (v := (2)) dX11_isClaim_9 (by decide) ?_
    refine x_iald (j := 2) (v := (I 1 2)) dX11_isClaim_10 lm_1 (by decide +kernel) (by decide +kernel) rfl ?_
    refine x_icmp_ge 18 dX11_isClaim_11 (by decide) (fun hB => ?_) (fun hB => ?_)
    · replace hf := t_if hB hf
      refine x_iconst (v := (0)) dX11_isClaim_18 (by decide) ?_
      subst hf
      exact x_zret (b := false) dX11_isClaim_19 rfl rfl
    · replace hf := t_el hB hf
      refine x_iconst (v := (1)) dX11_isClaim_14 (by decide) ?_
      refine x_goto 19 dX11_isClaim_15 (by decide) ?_
      subst hf
      exact x_zret (b := true) dX11_isClaim_19 rfl rfl
set_option maxRecDepth 100000 in
set_option maxHeartbeats 4000000 in
theorem c_X11_isScholar {I : z_I} {L : z_L} (p0 : Int32)  : z_C layM yX11_isScholar cX11_isScholar 2 (some .boolean) ({ frames := 0, cells := 0, slots := 0, locals := 0 } : Room) [.ref 0, .int p0] I L (some (.int (zb (f_X11_isScholar I p0))), I, L) := by
  obtain ⟨r, hf⟩ : ∃ r, f_X11_isScholar I p0 = r := ⟨_, rfl⟩
  rw [hf]
  refine z_C.of (by decide) (Nat.le_of_ble_eq_true rfl) ?_
  show z_X layM RX11 cX11_isScholar 2 (some .boolean) ({ frames := 0, cells := 0, slots := 0, locals := 0 } : Room) 0 [(0, .ref 0), (1, .int p0)] [] I L (some (.int (zb r)), I, L)
  unfold f_X11_isScholar at hf
  refine x_iload_n 1 dX11_isScholar_0 rfl rfl ?_
  refine x_if_lt 18 dX11_isScholar_1 (by decide) (fun hB => ?_) (fun hB => ?_)
  · replace hf := t_if hB hf
    refine x_iconst (v := (0)) dX11_isScholar_18 (by decide) ?_
    subst hf
    exact x_zret (b := false) dX11_isScholar_19 rfl rfl
  · replace hf := t_el hB hf
    refine x_iload_n 1 dX11_isScholar_4 rfl rfl ?_
    refine x_aload_n 0 dX11_isScholar_5 rfl rfl ?_
    refine x_getR dX11_isScholar_6 lm_0 fl_X11_7 rfl ?_
    refine x_iconst (v := (3)) dX11_isScholar_9 (by decide) ?_
    refine x_iald (j := 3) (v := (I 1 3)) dX11_isScholar_10 lm_1 (by decide +kernel) (by decide +kernel) rfl ?_
    refine x_icmp_ge 18 dX11_isScholar_11 (by decide) (fun hB => ?_) (fun hB => ?_)
    · replace hf := t_if hB hf
      refine x_iconst (v := (0)) dX11_isScholar_18 (by decide) ?_
      subst hf
      exact x_zret (b := false) dX11_isScholar_19 rfl rfl
    · replace hf := t_el hB hf
      refine x_iconst (v := (1)) dX11_isScholar_14 (by decide) ?_
      refine x_goto 19 dX11_isScholar_15 (by decide) ?_
      subst hf
      exact x_zret (b := true) dX11_isScholar_19 rfl rfl
set_option maxRecDepth 100000 in
set_option maxHeartbeats 4000000 in
theorem c_X11_allCases {I : z_I} {L : z_L}   : z_C layM yX11_allCases cX11_allCases 1 (some .int) ({ frames := 0, cells := 0, slots := 0, locals := 0 } : Room) [.ref 0] I L (some (.int (f_X11_allCases I)), I, L) := by
  obtain ⟨r, hf⟩ : ∃ r, f_X11_allCases I = r := ⟨_, rfl⟩
  rw [hf]
  refine z_C.of (by decide) (Nat.le_of_ble_eq_true rfl) ?_
  show z_X layM RX11 cX11_allCases 1 (some .int) ({ frames := 0, cells := 0, slots := 0, locals := 0 } : Room) 0 [(0, .ref 0)] [] I L (some (.int r), I, L)
  unfold f_X11_allCases at hf
  refine x_iconst (v := (1)) dX11_allCases_0 (by decide) ?_
  refine x_aload_n 0 dX11_allCases_1 rfl rfl ?_
  refine x_getR dX11_allCases_2 lm_0 fl_X11_7 rfl ?_
  refine x_iconst (v := (1)) dX11_allCases_5 (by decide) ?_
  refine x_iald (j := 1) (v := (I 1 1)) dX11_allCases_6 lm_1 (by decide +kernel) (by decide +kernel) rfl ?_
  refine x_ishl dX11_allCases_7 ?_
  refine x_iconst (v := (1)) dX11_allCases_8 (by decide) ?_
  refine x_isub dX11_allCases_9 ?_
  subst hf
  exact x_iret dX11_allCases_10 rfl rfl
set_option maxRecDepth 100000 in
set_option maxHeartbeats 4000000 in
theorem c_X11_areCases {I : z_I} {L : z_L} (p0 : Int64)  : z_C layM yX11_areCases cX11_areCases 3 (some .boolean) ({ frames := 1, cells := 0, slots := 0, locals := 25 } : Room) [.ref 0, .long p0] I L (some (.int (zb (f_X11_areCases I p0))), I, L) := by
  obtain ⟨r, hf⟩ : ∃ r, f_X11_areCases I p0 = r := ⟨_, rfl⟩
  rw [hf]
  refine z_C.of (by decide) (Nat.le_of_ble_eq_true rfl) ?_
  show z_X layM RX11 cX11_areCases 3 (some .boolean) ({ frames := 1, cells := 0, slots := 0, locals := 25 } : Room) 0 [(0, .ref 0), (1, .long p0)] [] I L (some (.int (zb r)), I, L)
  unfold f_X11_areCases at hf
  refine x_lload_n 1 dX11_areCases_0 rfl rfl ?_
  refine x_lconst (v := (0)) dX11_areCases_1 (by decide) ?_
  refine x_aload_n 0 dX11_areCases_2 rfl rfl ?_
  refine x_callVi [] (c_X11_allCases (I := I) (L := L) ) dX11_areCases_3 lk_X11_296 lm_0 rfl cd_X11_allCases rfl rfl (Nat.le_of_ble_eq_true rfl) ⟨rfl, rfl, Nat.le_of_ble_eq_true rfl, Nat.le_of_ble_eq_true rfl⟩ ?_
  refine x_i2l dX11_areCases_6 ?_
  refine x_callSi [.long p0, .long (0 : Int64), .long ((f_X11_allCases I).toInt64)] (c_X11_isFrom (I := I) (L := L) p0 (0 : Int64) ((f_X11_allCases I).toInt64)) dX11_areCases_7 lk_X11_299 cd_X11_isFrom rfl rfl (Nat.le_of_ble_eq_true rfl) ⟨rfl, rfl, Nat.le_of_ble_eq_true rfl, Nat.le_of_ble_eq_true rfl⟩ ?_
  subst hf
  exact x_zret dX11_areCases_10 rfl rfl
set_option maxRecDepth 100000 in
set_option maxHeartbeats 4000000 in
theorem l_X11_bits_4    (I : z_I) (L : z_L) {r : Int32}  : ∀ (n : Nat) (v1 : Int32) (v2 : Int32), g_X11_bits_4   n v1 v2 = some r → z_X layM RX11 cX11_bits 3 (some .int) ({ frames := 0, cells := 0, slots := 0, locals := 0 } : Room) 4 [(1, .int v1), (2, .int v2)] [] I L (some (.int r), I, L) := by
  intro n
  induction n with
  | zero => intro v1 v2 hf; cases hf
  | succ n ih =>
    intro v1 v2 hf
    rw [g_X11_bits_4] at hf
    refine x_iload_n 1 dX11_bits_4 rfl rfl ?_
    refine x_if_eq 20 dX11_bits_5 (by decide) (fun hB => ?_) (fun hB => ?_)
    · replace hf := f_if hB hf
      refine x_iload_n 0 dX11_bits_20 rfl rfl ?_
      cases hf
      exact x_iret dX11_bits_21 rfl rfl
    · replace hf := f_el hB hf
      refine x_iinc 0 [(1, .int (v1 + (1 : Int32))), (2, .int v2)] dX11_bits_8 rfl rfl (by decide) rfl ?_
      refine x_iload_n 1 dX11_bits_11 rfl rfl ?_
      refine x_iload_n 1 dX11_bits_12 rfl rfl ?_
      refine x_iconst (v := (1)) dX11_bits_13 (by decide) ?_
      refine x_isub dX11_bits_14 ?_
      refine x_iand dX11_bits_15 ?_
      refine x_istore_n [(2, .int (v2 &&& (v2 - (1 : Int32)))), (1, .int (v1 + (1 : Int32)))] dX11_bits_16 rfl (by decide) rfl ?_
      refine x_goto 4 dX11_bits_17 (by decide) ?_
      refine x_lv [(1, .int (v1 + (1 : Int32))), (2, .int (v2 &&& (v2 - (1 : Int32))))] [1, 0] rfl ?_
      exact ih _ _ hf
set_option maxRecDepth 100000 in
set_option maxHeartbeats 4000000 in
theorem c_X11_bits {I : z_I} {L : z_L} {p0 : Int32}  {r : Int32} (hf : f_X11_bits p0 = some r) : z_C layM yX11_bits cX11_bits 3 (some .int) ({ frames := 0, cells := 0, slots := 0, locals := 0 } : Room) [.int p0] I L (some (.int r), I, L) := by
  refine z_C.of (by decide) (Nat.le_of_ble_eq_true rfl) ?_
  show z_X layM RX11 cX11_bits 3 (some .int) ({ frames := 0, cells := 0, slots := 0, locals := 0 } : Room) 0 [(0, .int p0)] [] I L (some (.int r), I, L)
  unfold f_X11_bits at hf
  refine x_iconst (v := (0)) dX11_bits_0 (by decide) ?_
  refine x_istore_n [(1, .int (0 : Int32)), (0, .int p0)] dX11_bits_1 rfl (by decide) rfl ?_
  refine x_iload_n 1 dX11_bits_2 rfl rfl ?_
  refine x_istore_n [(2, .int p0), (1, .int (0 : Int32)), (0, .int p0)] dX11_bits_3 rfl (by decide) rfl ?_
  refine x_lv [(1, .int (0 : Int32)), (2, .int p0)] [1, 0] rfl ?_
  refine l_X11_bits_4 (I) (L)   _ _ _ hf
set_option maxRecDepth 100000 in
set_option maxHeartbeats 4000000 in
theorem c_X11_truthOf {I : z_I} {L : z_L} {p0 : Int32}  {r : Int32} (hf : f_X11_truthOf I p0 = some r) : z_C layM yX11_truthOf cX11_truthOf 2 (some .int) ({ frames := 1, cells := 0, slots := 0, locals := 20 } : Room) [.ref 0, .int p0] I L (some (.int r), I, L) := by
  refine z_C.of (by decide) (Nat.le_of_ble_eq_true rfl) ?_
  show z_X layM RX11 cX11_truthOf 2 (some .int) ({ frames := 1, cells := 0, slots := 0, locals := 20 } : Room) 0 [(0, .ref 0), (1, .int p0)] [] I L (some (.int r), I, L)
  unfold f_X11_truthOf at hf
  refine x_aload_n 0 dX11_truthOf_0 rfl rfl ?_
  refine x_getR dX11_truthOf_1 lm_0 fl_X11_7 rfl ?_
  refine x_iload_n 1 dX11_truthOf_4 rfl rfl ?_
  refine x_callSi [.int p0] (c_X11_claimRow (I := I) (L := L) p0) dX11_truthOf_5 lk_X11_230 cd_X11_claimRow rfl rfl (Nat.le_of_ble_eq_true rfl) ⟨rfl, rfl, Nat.le_of_ble_eq_true rfl, Nat.le_of_ble_eq_true rfl⟩ ?_
  refine x_iconst (v := (2)) dX11_truthOf_8 (by decide) ?_
  refine x_iadd dX11_truthOf_9 ?_
  obtain ⟨h1, hf⟩ := f_gd hf
  refine x_iald (j := (((f_X11_claimRow p0) + (2 : Int32))).toNatClampNeg) (v := (I 1 (((f_X11_claimRow p0) + (2 : Int32))).toNatClampNeg)) dX11_truthOf_10 lm_1 h1 rfl rfl ?_
  cases hf
  exact x_iret dX11_truthOf_11 rfl rfl
set_option maxRecDepth 100000 in
set_option maxHeartbeats 4000000 in
theorem l_X11_weightOf_4   (v1 : Int32) (I : z_I) (L : z_L) {r : Int32}  : ∀ (n : Nat) (v2 : Int32) (v3 : Int32), g_X11_weightOf_4 v1 I  n v2 v3 = some r → z_X layM RX11 cX11_weightOf 4 (some .int) ({ frames := 1, cells := 0, slots := 0, locals := 22 } : Room) 4 [(0, .ref 0), (1, .int v1), (2, .int v2), (3, .int v3)] [] I L (some (.int r), I, L) := by
  intro n
  induction n with
  | zero => intro v2 v3 hf; cases hf
  | succ n ih =>
    intro v2 v3 hf
    rw [g_X11_weightOf_4] at hf
    refine x_iload_n 3 dX11_weightOf_4 rfl rfl ?_
    refine x_aload_n 0 dX11_weightOf_5 rfl rfl ?_
    refine x_getR dX11_weightOf_6 lm_0 fl_X11_7 rfl ?_
    refine x_iconst (v := (1)) dX11_weightOf_9 (by decide) ?_
    refine x_iald (j := 1) (v := (I 1 1)) dX11_weightOf_10 lm_1 (by decide +kernel) (by decide +kernel) rfl ?_
    refine x_icmp_ge 45 dX11_weightOf_11 (by decide) (fun hB => ?_) (fun hB => ?_)
    · replace hf := f_if hB hf
      refine x_iload_n 2 dX11_weightOf_45 rfl rfl ?_
      cases hf
      exact x_iret dX11_weightOf_46 rfl rfl
    · replace hf := f_el hB hf
      refine x_iload_n 2 dX11_weightOf_14 rfl rfl ?_
      refine x_aload_n 0 dX11_weightOf_15 rfl rfl ?_
      refine x_iload_n 1 dX11_weightOf_16 rfl rfl ?_
      refine x_iload_n 3 dX11_weightOf_17 rfl rfl ?_
      refine x_callVi [.int v1, .int v3] (c_X11_isIn (I := I) (L := L) v1 v3) dX11_weightOf_18 lk_X11_236 lm_0 rfl cd_X11_isIn rfl rfl (Nat.le_of_ble_eq_true rfl) ⟨rfl, rfl, Nat.le_of_ble_eq_true rfl, Nat.le_of_ble_eq_true rfl⟩ ?_
      refine x_if_eqB 36 dX11_weightOf_21 (by decide) (fun hB => ?_) (fun hB => ?_)
      · replace hf := f_el hB hf
        refine x_iconst (v := (0)) dX11_weightOf_36 (by decide) ?_
        refine x_iadd dX11_weightOf_37 ?_
        refine x_istore_n [(2, .int (v2 + (0 : Int32))), (0, .ref 0), (1, .int v1), (3, .int v3)] dX11_weightOf_38 rfl (by decide) rfl ?_
        refine x_iinc 3 [(3, .int (v3 + (1 : Int32))), (2, .int (v2 + (0 : Int32))), (0, .ref 0), (1, .int v1)] dX11_weightOf_39 rfl rfl (by decide) rfl ?_
        refine x_goto 4 dX11_weightOf_42 (by decide) ?_
        refine x_lv [(0, .ref 0), (1, .int v1), (2, .int (v2 + (0 : Int32))), (3, .int (v3 + (1 : Int32)))] [2, 3, 1, 0] rfl ?_
        exact ih _ _ hf
      · replace hf := f_if hB hf
        refine x_aload_n 0 dX11_weightOf_24 rfl rfl ?_
        refine x_getR dX11_weightOf_25 lm_0 fl_X11_7 rfl ?_
        refine x_bipush (v := (22)) dX11_weightOf_28 (by decide) ?_
        refine x_iload_n 3 dX11_weightOf_30 rfl rfl ?_
        refine x_iadd dX11_weightOf_31 ?_
        obtain ⟨h2, hf⟩ := f_gd hf
        refine x_iald (j := (((22 : Int32) + v3)).toNatClampNeg) (v := (I 1 (((22 : Int32) + v3)).toNatClampNeg)) dX11_weightOf_32 lm_1 h2 rfl rfl ?_
        refine x_goto 37 dX11_weightOf_33 (by decide) ?_
        refine x_iadd dX11_weightOf_37 ?_
        obtain ⟨w3, hw3, hf⟩ := f_lt hf
        refine x_topI hw3 ?_
        refine x_istore_n [(2, .int w3), (0, .ref 0), (1, .int v1), (3, .int v3)] dX11_weightOf_38 rfl (by decide) rfl ?_
        refine x_iinc 3 [(3, .int (v3 + (1 : Int32))), (2, .int w3), (0, .ref 0), (1, .int v1)] dX11_weightOf_39 rfl rfl (by decide) rfl ?_
        refine x_goto 4 dX11_weightOf_42 (by decide) ?_
        refine x_lv [(0, .ref 0), (1, .int v1), (2, .int w3), (3, .int (v3 + (1 : Int32)))] [2, 3, 1, 0] rfl ?_
        exact ih _ _ hf
set_option maxRecDepth 100000 in
set_option maxHeartbeats 4000000 in
theorem c_X11_weightOf {I : z_I} {L : z_L} {p0 : Int32}  {r : Int32} (hf : f_X11_weightOf I p0 = some r) : z_C layM yX11_weightOf cX11_weightOf 4 (some .int) ({ frames := 1, cells := 0, slots := 0, locals := 22 } : Room) [.ref 0, .int p0] I L (some (.int r), I, L) := by
  refine z_C.of (by decide) (Nat.le_of_ble_eq_true rfl) ?_
  show z_X layM RX11 cX11_weightOf 4 (some .int) ({ frames := 1, cells := 0, slots := 0, locals := 22 } : Room) 0 [(0, .ref 0), (1, .int p0)] [] I L (some (.int r), I, L)
  unfold f_X11_weightOf at hf
  refine x_iconst (v := (0)) dX11_weightOf_0 (by decide) ?_
  refine x_istore_n [(2, .int (0 : Int32)), (0, .ref 0), (1, .int p0)] dX11_weightOf_1 rfl (by decide) rfl ?_
  refine x_iconst (v := (0)) dX11_weightOf_2 (by decide) ?_
  refine x_istore_n [(3, .int (0 : Int32)), (2, .int (0 : Int32)), (0, .ref 0), (1, .int p0)] dX11_weightOf_3 rfl (by decide) rfl ?_
  refine x_lv [(0, .ref 0), (1, .int p0), (2, .int (0 : Int32)), (3, .int (0 : Int32))] [2, 3, 1, 0] rfl ?_
  refine l_X11_weightOf_4 p0 (I) (L)   _ _ _ hf
set_option maxRecDepth 100000 in
set_option maxHeartbeats 4000000 in
theorem l_X11_partBy_8   (v1 : Int32) (v2 : Int32) (I : z_I) (L : z_L) {r : Int32}  : ∀ (n : Nat) (v3 : Int32) (v4 : Int32), g_X11_partBy_8 v1 v2 I  n v3 v4 = some r → z_X layM RX11 cX11_partBy 5 (some .int) ({ frames := 2, cells := 0, slots := 0, locals := 41 } : Room) 8 [(0, .ref 0), (1, .int v1), (2, .int v2), (3, .int v3), (4, .int v4)] [] I L (some (.int r), I, L) := by
  intro n
  induction n with
  | zero => intro v3 v4 hf; cases hf
  | succ n ih =>
    intro v3 v4 hf
    rw [g_X11_partBy_8] at hf
    refine x_iload 4 dX11_partBy_8 rfl ?_
    refine x_aload_n 0 dX11_partBy_10 rfl rfl ?_
    refine x_getR dX11_partBy_11 lm_0 fl_X11_7 rfl ?_
    refine x_iconst (v := (2)) dX11_partBy_14 (by decide) ?_
    refine x_iald (j := 2) (v := (I 1 2)) dX11_partBy_15 lm_1 (by decide +kernel) (by decide +kernel) rfl ?_
    refine x_icmp_ge 69 dX11_partBy_16 (by decide) (fun hB => ?_) (fun hB => ?_)
    · replace hf := f_if hB hf
      refine x_iload_n 3 dX11_partBy_69 rfl rfl ?_
      cases hf
      exact x_iret dX11_partBy_70 rfl rfl
    · replace hf := f_el hB hf
      refine x_aload_n 0 dX11_partBy_19 rfl rfl ?_
      refine x_iload_n 2 dX11_partBy_20 rfl rfl ?_
      refine x_iload 4 dX11_partBy_21 rfl ?_
      refine x_callVi [.int v2, .int v4] (c_X11_isIn (I := I) (L := L) v2 v4) dX11_partBy_23 lk_X11_236 lm_0 rfl cd_X11_isIn rfl rfl (Nat.le_of_ble_eq_true rfl) ⟨rfl, rfl, Nat.le_of_ble_eq_true rfl, Nat.le_of_ble_eq_true rfl⟩ ?_
      refine x_if_eqB 63 dX11_partBy_26 (by decide) (fun hB => ?_) (fun hB => ?_)
      · replace hf := f_el hB hf
        refine x_iinc 4 [(4, .int (v4 + (1 : Int32))), (0, .ref 0), (1, .int v1), (2, .int v2), (3, .int v3)] dX11_partBy_63 rfl rfl (by decide) rfl ?_
        refine x_goto 8 dX11_partBy_66 (by decide) ?_
        refine x_lv [(0, .ref 0), (1, .int v1), (2, .int v2), (3, .int v3), (4, .int (v4 + (1 : Int32)))] [1, 2, 3, 4, 0] rfl ?_
        exact ih _ _ hf
      · replace hf := f_if hB hf
        refine x_iload_n 3 dX11_partBy_29 rfl rfl ?_
        refine x_aload_n 0 dX11_partBy_30 rfl rfl ?_
        refine x_aload_n 0 dX11_partBy_31 rfl rfl ?_
        refine x_iload 4 dX11_partBy_32 rfl ?_
        obtain ⟨q2, hq3, hf⟩ := f_bd hf
        refine x_callVi [.int v4] (c_X11_truthOf (I := I) (L := L)  hq3) dX11_partBy_34 lk_X11_303 lm_0 rfl cd_X11_truthOf rfl rfl (Nat.le_of_ble_eq_true rfl) ⟨rfl, rfl, Nat.le_of_ble_eq_true rfl, Nat.le_of_ble_eq_true rfl⟩ ?_
        refine x_iload_n 1 dX11_partBy_37 rfl rfl ?_
        refine x_callVi [.int q2, .int v1] (c_X11_isIn (I := I) (L := L) q2 v1) dX11_partBy_38 lk_X11_236 lm_0 rfl cd_X11_isIn rfl rfl (Nat.le_of_ble_eq_true rfl) ⟨rfl, rfl, Nat.le_of_ble_eq_true rfl, Nat.le_of_ble_eq_true rfl⟩ ?_
        refine x_if_eqB 53 dX11_partBy_41 (by decide) (fun hB => ?_) (fun hB => ?_)
        · replace hf := f_el hB hf
          refine x_aload_n 0 dX11_partBy_53 rfl rfl ?_
          refine x_iload 4 dX11_partBy_54 rfl ?_
          obtain ⟨q6, hq7, hf⟩ := f_bd hf
          refine x_callVi [.int v4] (c_X11_truthOf (I := I) (L := L)  hq7) dX11_partBy_56 lk_X11_303 lm_0 rfl cd_X11_truthOf rfl rfl (Nat.le_of_ble_eq_true rfl) ⟨rfl, rfl, Nat.le_of_ble_eq_true rfl, Nat.le_of_ble_eq_true rfl⟩ ?_
          refine x_iconst (v := (-1)) dX11_partBy_59 (by decide) ?_
          refine x_ixor dX11_partBy_60 ?_
          refine x_iand dX11_partBy_61 ?_
          refine x_istore_n [(3, .int (v3 &&& (q6 ^^^ (-1 : Int32)))), (0, .ref 0), (1, .int v1), (2, .int v2), (4, .int v4)] dX11_partBy_62 rfl (by decide) rfl ?_
          refine x_iinc 4 [(4, .int (v4 + (1 : Int32))), (3, .int (v3 &&& (q6 ^^^ (-1 : Int32)))), (0, .ref 0), (1, .int v1), (2, .int v2)] dX11_partBy_63 rfl rfl (by decide) rfl ?_
          refine x_goto 8 dX11_partBy_66 (by decide) ?_
          refine x_lv [(0, .ref 0), (1, .int v1), (2, .int v2), (3, .int (v3 &&& (q6 ^^^ (-1 : Int32)))), (4, .int (v4 + (1 : Int32)))] [2, 3, 4, 1, 0] rfl ?_
          exact ih _ _ hf
        · replace hf := f_if hB hf
          refine x_aload_n 0 dX11_partBy_44 rfl rfl ?_
          refine x_iload 4 dX11_partBy_45 rfl ?_
          obtain ⟨q4, hq5, hf⟩ := f_bd hf
          refine x_callVi [.int v4] (c_X11_truthOf (I := I) (L := L)  hq5) dX11_partBy_47 lk_X11_303 lm_0 rfl cd_X11_truthOf rfl rfl (Nat.le_of_ble_eq_true rfl) ⟨rfl, rfl, Nat.le_of_ble_eq_true rfl, Nat.le_of_ble_eq_true rfl⟩ ?_
          refine x_goto 61 dX11_partBy_50 (by decide) ?_
          refine x_iand dX11_partBy_61 ?_
          refine x_istore_n [(3, .int (v3 &&& q4)), (0, .ref 0), (1, .int v1), (2, .int v2), (4, .int v4)] dX11_partBy_62 rfl (by decide) rfl ?_
          refine x_iinc 4 [(4, .int (v4 + (1 : Int32))), (3, .int (v3 &&& q4)), (0, .ref 0), (1, .int v1), (2, .int v2)] dX11_partBy_63 rfl rfl (by decide) rfl ?_
          refine x_goto 8 dX11_partBy_66 (by decide) ?_
          refine x_lv [(0, .ref 0), (1, .int v1), (2, .int v2), (3, .int (v3 &&& q4)), (4, .int (v4 + (1 : Int32)))] [2, 3, 4, 1, 0] rfl ?_
          exact ih _ _ hf
set_option maxRecDepth 100000 in
set_option maxHeartbeats 4000000 in
theorem c_X11_partBy {I : z_I} {L : z_L} {p0 : Int32} {p1 : Int32}  {r : Int32} (hf : f_X11_partBy I p0 p1 = some r) : z_C layM yX11_partBy cX11_partBy 5 (some .int) ({ frames := 2, cells := 0, slots := 0, locals := 41 } : Room) [.ref 0, .int p0, .int p1] I L (some (.int r), I, L) := by
  refine z_C.of (by decide) (Nat.le_of_ble_eq_true rfl) ?_
  show z_X layM RX11 cX11_partBy 5 (some .int) ({ frames := 2, cells := 0, slots := 0, locals := 41 } : Room) 0 [(0, .ref 0), (1, .int p0), (2, .int p1)] [] I L (some (.int r), I, L)
  unfold f_X11_partBy at hf
  refine x_aload_n 0 dX11_partBy_0 rfl rfl ?_
  refine x_callVi [] (c_X11_allCases (I := I) (L := L) ) dX11_partBy_1 lk_X11_296 lm_0 rfl cd_X11_allCases rfl rfl (Nat.le_of_ble_eq_true rfl) ⟨rfl, rfl, Nat.le_of_ble_eq_true rfl, Nat.le_of_ble_eq_true rfl⟩ ?_
  refine x_istore_n [(3, .int (f_X11_allCases I)), (0, .ref 0), (1, .int p0), (2, .int p1)] dX11_partBy_4 rfl (by decide) rfl ?_
  refine x_iconst (v := (0)) dX11_partBy_5 (by decide) ?_
  refine x_istore [(4, .int (0 : Int32)), (3, .int (f_X11_allCases I)), (0, .ref 0), (1, .int p0), (2, .int p1)] dX11_partBy_6 (by decide) rfl ?_
  refine x_lv [(0, .ref 0), (1, .int p0), (2, .int p1), (3, .int (f_X11_allCases I)), (4, .int (0 : Int32))] [2, 3, 4, 1, 0] rfl ?_
  refine l_X11_partBy_8 p0 p1 (I) (L)   _ _ _ hf
set_option maxRecDepth 100000 in
set_option maxHeartbeats 4000000 in
theorem c_X11_isFirst {I : z_I} {L : z_L} {p0 : Int32} {p1 : Int32}  {r : Bool} (hf : f_X11_isFirst I p0 p1 = some r) : z_C layM yX11_isFirst cX11_isFirst 3 (some .boolean) ({ frames := 3, cells := 0, slots := 0, locals := 65 } : Room) [.ref 0, .int p0, .int p1] I L (some (.int (zb r)), I, L) := by
  refine z_C.of (by decide) (Nat.le_of_ble_eq_true rfl) ?_
  show z_X layM RX11 cX11_isFirst 3 (some .boolean) ({ frames := 3, cells := 0, slots := 0, locals := 65 } : Room) 0 [(0, .ref 0), (1, .int p0), (2, .int p1)] [] I L (some (.int (zb r)), I, L)
  unfold f_X11_isFirst at hf
  refine x_aload_n 0 dX11_isFirst_0 rfl rfl ?_
  refine x_iload_n 1 dX11_isFirst_1 rfl rfl ?_
  refine x_iload_n 2 dX11_isFirst_2 rfl rfl ?_
  obtain ⟨q1, hq2, hf⟩ := f_bd hf
  refine x_callVi [.int p0, .int p1] (c_X11_partBy (I := I) (L := L)  hq2) dX11_isFirst_3 lk_X11_306 lm_0 rfl cd_X11_partBy rfl rfl (Nat.le_of_ble_eq_true rfl) ⟨rfl, rfl, Nat.le_of_ble_eq_true rfl, Nat.le_of_ble_eq_true rfl⟩ ?_
  refine x_iconst (v := (1)) dX11_isFirst_6 (by decide) ?_
  refine x_iload_n 1 dX11_isFirst_7 rfl rfl ?_
  refine x_ishl dX11_isFirst_8 ?_
  refine x_iconst (v := (1)) dX11_isFirst_9 (by decide) ?_
  refine x_isub dX11_isFirst_10 ?_
  refine x_iand dX11_isFirst_11 ?_
  refine x_if_ne 19 dX11_isFirst_12 (by decide) (fun hB => ?_) (fun hB => ?_)
  · replace hf := f_el hB hf
    refine x_iconst (v := (0)) dX11_isFirst_19 (by decide) ?_
    cases hf
    exact x_zret (b := false) dX11_isFirst_20 rfl rfl
  · replace hf := f_if hB hf
    refine x_iconst (v := (1)) dX11_isFirst_15 (by decide) ?_
    refine x_goto 20 dX11_isFirst_16 (by decide) ?_
    cases hf
    exact x_zret (b := true) dX11_isFirst_20 rfl rfl
set_option maxRecDepth 100000 in
set_option maxHeartbeats 4000000 in
theorem l_X11_partsBy_4   (v1 : Int32) (I : z_I) (L : z_L) {r : Int32}  : ∀ (n : Nat) (v2 : Int32) (v3 : Int32), g_X11_partsBy_4 v1 I  n v2 v3 = some r → z_X layM RX11 cX11_partsBy 4 (some .int) ({ frames := 4, cells := 0, slots := 0, locals := 87 } : Room) 4 [(0, .ref 0), (1, .int v1), (2, .int v2), (3, .int v3)] [] I L (some (.int r), I, L) := by
  intro n
  induction n with
  | zero => intro v2 v3 hf; cases hf
  | succ n ih =>
    intro v2 v3 hf
    rw [g_X11_partsBy_4] at hf
    refine x_iload_n 3 dX11_partsBy_4 rfl rfl ?_
    refine x_aload_n 0 dX11_partsBy_5 rfl rfl ?_
    refine x_getR dX11_partsBy_6 lm_0 fl_X11_7 rfl ?_
    refine x_iconst (v := (1)) dX11_partsBy_9 (by decide) ?_
    refine x_iald (j := 1) (v := (I 1 1)) dX11_partsBy_10 lm_1 (by decide +kernel) (by decide +kernel) rfl ?_
    refine x_icmp_ge 37 dX11_partsBy_11 (by decide) (fun hB => ?_) (fun hB => ?_)
    · replace hf := f_if hB hf
      refine x_iload_n 2 dX11_partsBy_37 rfl rfl ?_
      cases hf
      exact x_iret dX11_partsBy_38 rfl rfl
    · replace hf := f_el hB hf
      refine x_iload_n 2 dX11_partsBy_14 rfl rfl ?_
      refine x_aload_n 0 dX11_partsBy_15 rfl rfl ?_
      refine x_iload_n 3 dX11_partsBy_16 rfl rfl ?_
      refine x_iload_n 1 dX11_partsBy_17 rfl rfl ?_
      obtain ⟨q2, hq3, hf⟩ := f_bd hf
      refine x_callVi [.int v3, .int v1] (c_X11_isFirst (I := I) (L := L)  hq3) dX11_partsBy_18 lk_X11_309 lm_0 rfl cd_X11_isFirst rfl rfl (Nat.le_of_ble_eq_true rfl) ⟨rfl, rfl, Nat.le_of_ble_eq_true rfl, Nat.le_of_ble_eq_true rfl⟩ ?_
      refine x_if_eqB 28 dX11_partsBy_21 (by decide) (fun hB => ?_) (fun hB => ?_)
      · replace hf := f_el hB hf
        refine x_iconst (v := (0)) dX11_partsBy_28 (by decide) ?_
        refine x_iadd dX11_partsBy_29 ?_
        refine x_istore_n [(2, .int (v2 + (0 : Int32))), (0, .ref 0), (1, .int v1), (3, .int v3)] dX11_partsBy_30 rfl (by decide) rfl ?_
        refine x_iinc 3 [(3, .int (v3 + (1 : Int32))), (2, .int (v2 + (0 : Int32))), (0, .ref 0), (1, .int v1)] dX11_partsBy_31 rfl rfl (by decide) rfl ?_
        refine x_goto 4 dX11_partsBy_34 (by decide) ?_
        refine x_lv [(0, .ref 0), (1, .int v1), (2, .int (v2 + (0 : Int32))), (3, .int (v3 + (1 : Int32)))] [2, 3, 1, 0] rfl ?_
        exact ih _ _ hf
      · replace hf := f_if hB hf
        refine x_iconst (v := (1)) dX11_partsBy_24 (by decide) ?_
        refine x_goto 29 dX11_partsBy_25 (by decide) ?_
        refine x_iadd dX11_partsBy_29 ?_
        refine x_istore_n [(2, .int (v2 + (1 : Int32))), (0, .ref 0), (1, .int v1), (3, .int v3)] dX11_partsBy_30 rfl (by decide) rfl ?_
        refine x_iinc 3 [(3, .int (v3 + (1 : Int32))), (2, .int (v2 + (1 : Int32))), (0, .ref 0), (1, .int v1)] dX11_partsBy_31 rfl rfl (by decide) rfl ?_
        refine x_goto 4 dX11_partsBy_34 (by decide) ?_
        refine x_lv [(0, .ref 0), (1, .int v1), (2, .int (v2 + (1 : Int32))), (3, .int (v3 + (1 : Int32)))] [2, 3, 1, 0] rfl ?_
        exact ih _ _ hf
set_option maxRecDepth 100000 in
set_option maxHeartbeats 4000000 in
theorem c_X11_partsBy {I : z_I} {L : z_L} {p0 : Int32}  {r : Int32} (hf : f_X11_partsBy I p0 = some r) : z_C layM yX11_partsBy cX11_partsBy 4 (some .int) ({ frames := 4, cells := 0, slots := 0, locals := 87 } : Room) [.ref 0, .int p0] I L (some (.int r), I, L) := by
  refine z_C.of (by decide) (Nat.le_of_ble_eq_true rfl) ?_
  show z_X layM RX11 cX11_partsBy 4 (some .int) ({ frames := 4, cells := 0, slots := 0, locals := 87 } : Room) 0 [(0, .ref 0), (1, .int p0)] [] I L (some (.int r), I, L)
  unfold f_X11_partsBy at hf
  refine x_iconst (v := (0)) dX11_partsBy_0 (by decide) ?_
  refine x_istore_n [(2, .int (0 : Int32)), (0, .ref 0), (1, .int p0)] dX11_partsBy_1 rfl (by decide) rfl ?_
  refine x_iconst (v := (0)) dX11_partsBy_2 (by decide) ?_
  refine x_istore_n [(3, .int (0 : Int32)), (2, .int (0 : Int32)), (0, .ref 0), (1, .int p0)] dX11_partsBy_3 rfl (by decide) rfl ?_
  refine x_lv [(0, .ref 0), (1, .int p0), (2, .int (0 : Int32)), (3, .int (0 : Int32))] [2, 3, 1, 0] rfl ?_
  refine l_X11_partsBy_4 p0 (I) (L)   _ _ _ hf
set_option maxRecDepth 100000 in
set_option maxHeartbeats 4000000 in
theorem l_X11_yieldBy_16   (v1 : Int32) (v2 : Int32) (I : z_I) (L : z_L) {r : Int32}  : ∀ (n : Nat) (v3 : Int32) (v4 : Int32), g_X11_yieldBy_16 v1 v2 I  n v3 v4 = some r → z_X layM RX11 cX11_yieldBy 6 (some .int) ({ frames := 4, cells := 0, slots := 0, locals := 87 } : Room) 16 [(0, .ref 0), (1, .int v1), (2, .int v2), (3, .int v3), (4, .int v4)] [] I L (some (.int r), I, L) := by
  intro n
  induction n with
  | zero => intro v3 v4 hf; cases hf
  | succ n ih =>
    intro v3 v4 hf
    rw [g_X11_yieldBy_16] at hf
    refine x_iload 4 dX11_yieldBy_16 rfl ?_
    refine x_aload_n 0 dX11_yieldBy_18 rfl rfl ?_
    refine x_getR dX11_yieldBy_19 lm_0 fl_X11_7 rfl ?_
    refine x_iconst (v := (1)) dX11_yieldBy_22 (by decide) ?_
    refine x_iald (j := 1) (v := (I 1 1)) dX11_yieldBy_23 lm_1 (by decide +kernel) (by decide +kernel) rfl ?_
    refine x_icmp_ge 88 dX11_yieldBy_24 (by decide) (fun hB => ?_) (fun hB => ?_)
    · replace hf := f_if hB hf
      refine x_iload_n 3 dX11_yieldBy_88 rfl rfl ?_
      cases hf
      exact x_iret dX11_yieldBy_89 rfl rfl
    · replace hf := f_el hB hf
      refine x_aload_n 0 dX11_yieldBy_27 rfl rfl ?_
      refine x_iload 4 dX11_yieldBy_28 rfl ?_
      refine x_iload_n 2 dX11_yieldBy_30 rfl rfl ?_
      obtain ⟨q2, hq3, hf⟩ := f_bd hf
      refine x_callVi [.int v4, .int v2] (c_X11_isFirst (I := I) (L := L)  hq3) dX11_yieldBy_31 lk_X11_309 lm_0 rfl cd_X11_isFirst rfl rfl (Nat.le_of_ble_eq_true rfl) ⟨rfl, rfl, Nat.le_of_ble_eq_true rfl, Nat.le_of_ble_eq_true rfl⟩ ?_
      refine x_if_eqB 47 dX11_yieldBy_34 (by decide) (fun hB => ?_) (fun hB => ?_)
      · replace hf := f_el hB hf
        refine x_iconst (v := (0)) dX11_yieldBy_47 (by decide) ?_
        refine x_istore [(5, .int (0 : Int32)), (0, .ref 0), (1, .int v1), (2, .int v2), (3, .int v3), (4, .int v4)] dX11_yieldBy_48 (by decide) rfl ?_
        refine x_iload_n 4 dX11_yieldBy_50 rfl rfl ?_
        refine x_iconst (v := (3)) dX11_yieldBy_51 (by decide) ?_
        refine x_iload 0 dX11_yieldBy_52 rfl ?_
        refine x_aload_n 1 dX11_yieldBy_54 rfl rfl ?_
        refine x_iload_n 2 dX11_yieldBy_55 rfl rfl ?_
        obtain ⟨q14, hq15, hf⟩ := f_bd hf
        refine x_callVi [.int v1] (c_X11_truthOf (I := I) (L := L)  hq15) dX11_yieldBy_56 lk_X11_303 lm_0 rfl cd_X11_truthOf rfl rfl (Nat.le_of_ble_eq_true rfl) ⟨rfl, rfl, Nat.le_of_ble_eq_true rfl, Nat.le_of_ble_eq_true rfl⟩ ?_
        refine x_iand dX11_yieldBy_59 ?_
        obtain ⟨q16, hq17, hf⟩ := f_bd hf
        refine x_callSi [.int ((0 : Int32) &&& q14)] (c_X11_bits (I := I) (L := L)  hq17) dX11_yieldBy_60 lk_X11_312 cd_X11_bits rfl rfl (Nat.le_of_ble_eq_true rfl) ⟨rfl, rfl, Nat.le_of_ble_eq_true rfl, Nat.le_of_ble_eq_true rfl⟩ ?_
        refine x_iload 0 dX11_yieldBy_63 rfl ?_
        refine x_aload_n 1 dX11_yieldBy_65 rfl rfl ?_
        refine x_iload_n 2 dX11_yieldBy_66 rfl rfl ?_
        obtain ⟨q18, hq19, hf⟩ := f_bd hf
        refine x_callVi [.int v1] (c_X11_truthOf (I := I) (L := L)  hq19) dX11_yieldBy_67 lk_X11_303 lm_0 rfl cd_X11_truthOf rfl rfl (Nat.le_of_ble_eq_true rfl) ⟨rfl, rfl, Nat.le_of_ble_eq_true rfl, Nat.le_of_ble_eq_true rfl⟩ ?_
        refine x_iconst (v := (-1)) dX11_yieldBy_70 (by decide) ?_
        refine x_ixor dX11_yieldBy_71 ?_
        refine x_iand dX11_yieldBy_72 ?_
        obtain ⟨q20, hq21, hf⟩ := f_bd hf
        refine x_callSi [.int ((0 : Int32) &&& (q18 ^^^ (-1 : Int32)))] (c_X11_bits (I := I) (L := L)  hq21) dX11_yieldBy_73 lk_X11_312 cd_X11_bits rfl rfl (Nat.le_of_ble_eq_true rfl) ⟨rfl, rfl, Nat.le_of_ble_eq_true rfl, Nat.le_of_ble_eq_true rfl⟩ ?_
        refine x_mmin dX11_yieldBy_76 lk_X11_154 ⟨Nat.le_of_ble_eq_true rfl, Nat.le_of_ble_eq_true rfl⟩ ?_
        refine x_imul dX11_yieldBy_79 ?_
        refine x_iadd dX11_yieldBy_80 ?_
        refine x_istore_n [(3, .int (v3 + ((3 : Int32) * (z_min q16 q20)))), (5, .int (0 : Int32)), (0, .ref 0), (1, .int v1), (2, .int v2), (4, .int v4)] dX11_yieldBy_81 rfl (by decide) rfl ?_
        refine x_iinc 5 [(4, .int (v4 + (1 : Int32))), (3, .int (v3 + ((3 : Int32) * (z_min q16 q20)))), (5, .int (0 : Int32)), (0, .ref 0), (1, .int v1), (2, .int v2)] dX11_yieldBy_82 rfl rfl (by decide) rfl ?_
        refine x_goto 16 dX11_yieldBy_85 (by decide) ?_
        refine x_lv [(0, .ref 0), (1, .int v1), (2, .int v2), (3, .int (v3 + ((3 : Int32) * (z_min q16 q20)))), (4, .int (v4 + (1 : Int32)))] [3, 4, 5, 1, 0] rfl ?_
        exact ih _ _ hf
      · replace hf := f_if hB hf
        refine x_aload_n 0 dX11_yieldBy_37 rfl rfl ?_
        refine x_iload 4 dX11_yieldBy_38 rfl ?_
        refine x_iload_n 2 dX11_yieldBy_40 rfl rfl ?_
        obtain ⟨q4, hq5, hf⟩ := f_bd hf
        refine x_callVi [.int v4, .int v2] (c_X11_partBy (I := I) (L := L)  hq5) dX11_yieldBy_41 lk_X11_306 lm_0 rfl cd_X11_partBy rfl rfl (Nat.le_of_ble_eq_true rfl) ⟨rfl, rfl, Nat.le_of_ble_eq_true rfl, Nat.le_of_ble_eq_true rfl⟩ ?_
        refine x_goto 48 dX11_yieldBy_44 (by decide) ?_
        refine x_istore [(5, .int q4), (0, .ref 0), (1, .int v1), (2, .int v2), (3, .int v3), (4, .int v4)] dX11_yieldBy_48 (by decide) rfl ?_
        refine x_iload_n 4 dX11_yieldBy_50 rfl rfl ?_
        refine x_iconst (v := (3)) dX11_yieldBy_51 (by decide) ?_
        refine x_iload 0 dX11_yieldBy_52 rfl ?_
        refine x_aload_n 1 dX11_yieldBy_54 rfl rfl ?_
        refine x_iload_n 2 dX11_yieldBy_55 rfl rfl ?_
        obtain ⟨q6, hq7, hf⟩ := f_bd hf
        refine x_callVi [.int v1] (c_X11_truthOf (I := I) (L := L)  hq7) dX11_yieldBy_56 lk_X11_303 lm_0 rfl cd_X11_truthOf rfl rfl (Nat.le_of_ble_eq_true rfl) ⟨rfl, rfl, Nat.le_of_ble_eq_true rfl, Nat.le_of_ble_eq_true rfl⟩ ?_
        refine x_iand dX11_yieldBy_59 ?_
        obtain ⟨q8, hq9, hf⟩ := f_bd hf
        refine x_callSi [.int (q4 &&& q6)] (c_X11_bits (I := I) (L := L)  hq9) dX11_yieldBy_60 lk_X11_312 cd_X11_bits rfl rfl (Nat.le_of_ble_eq_true rfl) ⟨rfl, rfl, Nat.le_of_ble_eq_true rfl, Nat.le_of_ble_eq_true rfl⟩ ?_
        refine x_iload 0 dX11_yieldBy_63 rfl ?_
        refine x_aload_n 1 dX11_yieldBy_65 rfl rfl ?_
        refine x_iload_n 2 dX11_yieldBy_66 rfl rfl ?_
        obtain ⟨q10, hq11, hf⟩ := f_bd hf
        refine x_callVi [.int v1] (c_X11_truthOf (I := I) (L := L)  hq11) dX11_yieldBy_67 lk_X11_303 lm_0 rfl cd_X11_truthOf rfl rfl (Nat.le_of_ble_eq_true rfl) ⟨rfl, rfl, Nat.le_of_ble_eq_true rfl, Nat.le_of_ble_eq_true rfl⟩ ?_
        refine x_iconst (v := (-1)) dX11_yieldBy_70 (by decide) ?_
        refine x_ixor dX11_yieldBy_71 ?_
        refine x_iand dX11_yieldBy_72 ?_
        obtain ⟨q12, hq13, hf⟩ := f_bd hf
        refine x_callSi [.int (q4 &&& (q10 ^^^ (-1 : Int32)))] (c_X11_bits (I := I) (L := L)  hq13) dX11_yieldBy_73 lk_X11_312 cd_X11_bits rfl rfl (Nat.le_of_ble_eq_true rfl) ⟨rfl, rfl, Nat.le_of_ble_eq_true rfl, Nat.le_of_ble_eq_true rfl⟩ ?_
        refine x_mmin dX11_yieldBy_76 lk_X11_154 ⟨Nat.le_of_ble_eq_true rfl, Nat.le_of_ble_eq_true rfl⟩ ?_
        refine x_imul dX11_yieldBy_79 ?_
        refine x_iadd dX11_yieldBy_80 ?_
        refine x_istore_n [(3, .int (v3 + ((3 : Int32) * (z_min q8 q12)))), (5, .int q4), (0, .ref 0), (1, .int v1), (2, .int v2), (4, .int v4)] dX11_yieldBy_81 rfl (by decide) rfl ?_
        refine x_iinc 5 [(4, .int (v4 + (1 : Int32))), (3, .int (v3 + ((3 : Int32) * (z_min q8 q12)))), (5, .int q4), (0, .ref 0), (1, .int v1), (2, .int v2)] dX11_yieldBy_82 rfl rfl (by decide) rfl ?_
        refine x_goto 16 dX11_yieldBy_85 (by decide) ?_
        refine x_lv [(0, .ref 0), (1, .int v1), (2, .int v2), (3, .int (v3 + ((3 : Int32) * (z_min q8 q12)))), (4, .int (v4 + (1 : Int32)))] [3, 4, 5, 1, 0] rfl ?_
        exact ih _ _ hf
set_option maxRecDepth 100000 in
set_option maxHeartbeats 4000000 in
theorem c_X11_yieldBy {I : z_I} {L : z_L} {p0 : Int32} {p1 : Int32}  {r : Int32} (hf : f_X11_yieldBy I p0 p1 = some r) : z_C layM yX11_yieldBy cX11_yieldBy 6 (some .int) ({ frames := 4, cells := 0, slots := 0, locals := 87 } : Room) [.ref 0, .int p0, .int p1] I L (some (.int r), I, L) := by
  refine z_C.of (by decide) (Nat.le_of_ble_eq_true rfl) ?_
  show z_X layM RX11 cX11_yieldBy 6 (some .int) ({ frames := 4, cells := 0, slots := 0, locals := 87 } : Room) 0 [(0, .ref 0), (1, .int p0), (2, .int p1)] [] I L (some (.int r), I, L)
  unfold f_X11_yieldBy at hf
  refine x_aload_n 0 dX11_yieldBy_0 rfl rfl ?_
  refine x_iload_n 2 dX11_yieldBy_1 rfl rfl ?_
  refine x_iload_n 1 dX11_yieldBy_2 rfl rfl ?_
  refine x_callVi [.int p1, .int p0] (c_X11_isIn (I := I) (L := L) p1 p0) dX11_yieldBy_3 lk_X11_236 lm_0 rfl cd_X11_isIn rfl rfl (Nat.le_of_ble_eq_true rfl) ⟨rfl, rfl, Nat.le_of_ble_eq_true rfl, Nat.le_of_ble_eq_true rfl⟩ ?_
  refine x_if_eqB 11 dX11_yieldBy_6 (by decide) (fun hB => ?_) (fun hB => ?_)
  · replace hf := f_el hB hf
    refine x_iconst (v := (0)) dX11_yieldBy_11 (by decide) ?_
    refine x_istore_n [(3, .int (0 : Int32)), (0, .ref 0), (1, .int p0), (2, .int p1)] dX11_yieldBy_12 rfl (by decide) rfl ?_
    refine x_iconst (v := (0)) dX11_yieldBy_13 (by decide) ?_
    refine x_istore [(4, .int (0 : Int32)), (3, .int (0 : Int32)), (0, .ref 0), (1, .int p0), (2, .int p1)] dX11_yieldBy_14 (by decide) rfl ?_
    refine x_lv [(0, .ref 0), (1, .int p0), (2, .int p1), (3, .int (0 : Int32)), (4, .int (0 : Int32))] [2, 3, 4, 1, 0] rfl ?_
    refine l_X11_yieldBy_16 p0 p1 (I) (L)   _ _ _ hf
  · replace hf := f_if hB hf
    refine x_iconst (v := (0)) dX11_yieldBy_9 (by decide) ?_
    cases hf
    exact x_iret dX11_yieldBy_10 rfl rfl
set_option maxRecDepth 100000 in
set_option maxHeartbeats 4000000 in
theorem l_X11_together_9    (I : z_I) (L : z_L) {r : Int32}  : ∀ (n : Nat) (v2 : Int32) (v3 : Int32), g_X11_together_9 I  n v2 v3 = some r → z_X layM RX11 cX11_together 4 (some .int) ({ frames := 1, cells := 0, slots := 0, locals := 20 } : Room) 9 [(0, .ref 0), (2, .int v2), (3, .int v3)] [] I L (some (.int r), I, L) := by
  intro n
  induction n with
  | zero => intro v2 v3 hf; cases hf
  | succ n ih =>
    intro v2 v3 hf
    rw [g_X11_together_9] at hf
    refine x_iload_n 2 dX11_together_9 rfl rfl ?_
    refine x_aload_n 0 dX11_together_10 rfl rfl ?_
    refine x_getR dX11_together_11 lm_0 fl_X11_7 rfl ?_
    refine x_iconst (v := (3)) dX11_together_14 (by decide) ?_
    refine x_iald (j := 3) (v := (I 1 3)) dX11_together_15 lm_1 (by decide +kernel) (by decide +kernel) rfl ?_
    refine x_icmp_ge 39 dX11_together_16 (by decide) (fun hB => ?_) (fun hB => ?_)
    · replace hf := f_if hB hf
      refine x_goto 74 dX11_together_39 (by decide) ?_
      refine x_iload_n 1 dX11_together_74 rfl rfl ?_
      cases hf
      exact x_iret dX11_together_75 rfl rfl
    · replace hf := f_el hB hf
      refine x_iload_n 1 dX11_together_19 rfl rfl ?_
      refine x_aload_n 0 dX11_together_20 rfl rfl ?_
      refine x_getR dX11_together_21 lm_0 fl_X11_7 rfl ?_
      refine x_iload_n 2 dX11_together_24 rfl rfl ?_
      refine x_callSi [.int v3] (c_X11_scholarRow (I := I) (L := L) v3) dX11_together_25 lk_X11_242 cd_X11_scholarRow rfl rfl (Nat.le_of_ble_eq_true rfl) ⟨rfl, rfl, Nat.le_of_ble_eq_true rfl, Nat.le_of_ble_eq_true rfl⟩ ?_
      refine x_iconst (v := (1)) dX11_together_28 (by decide) ?_
      refine x_iadd dX11_together_29 ?_
      obtain ⟨h2, hf⟩ := f_gd hf
      refine x_iald (j := (((f_X11_scholarRow v3) + (1 : Int32))).toNatClampNeg) (v := (I 1 (((f_X11_scholarRow v3) + (1 : Int32))).toNatClampNeg)) dX11_together_30 lm_1 h2 rfl rfl ?_
      refine x_iadd dX11_together_31 ?_
      obtain ⟨w3, hw3, hf⟩ := f_lt hf
      refine x_topI hw3 ?_
      refine x_istore_n [(2, .int w3), (0, .ref 0), (3, .int v3)] dX11_together_32 rfl (by decide) rfl ?_
      refine x_iinc 2 [(3, .int (v3 + (1 : Int32))), (2, .int w3), (0, .ref 0)] dX11_together_33 rfl rfl (by decide) rfl ?_
      refine x_goto 9 dX11_together_36 (by decide) ?_
      refine x_lv [(0, .ref 0), (2, .int w3), (3, .int (v3 + (1 : Int32)))] [2, 1, 0] rfl ?_
      exact ih _ _ hf
set_option maxRecDepth 100000 in
set_option maxHeartbeats 4000000 in
theorem l_X11_together_44   (v1 : Int32) (I : z_I) (L : z_L) {r : Int32}  : ∀ (n : Nat) (v2 : Int32) (v3 : Int32), g_X11_together_44 v1 I  n v2 v3 = some r → z_X layM RX11 cX11_together 4 (some .int) ({ frames := 1, cells := 0, slots := 0, locals := 20 } : Room) 44 [(0, .ref 0), (1, .int v1), (2, .int v2), (3, .int v3)] [] I L (some (.int r), I, L) := by
  intro n
  induction n with
  | zero => intro v2 v3 hf; cases hf
  | succ n ih =>
    intro v2 v3 hf
    rw [g_X11_together_44] at hf
    refine x_iload_n 3 dX11_together_44 rfl rfl ?_
    refine x_aload_n 0 dX11_together_45 rfl rfl ?_
    refine x_getR dX11_together_46 lm_0 fl_X11_7 rfl ?_
    refine x_iconst (v := (0)) dX11_together_49 (by decide) ?_
    refine x_iald (j := 0) (v := (I 1 0)) dX11_together_50 lm_1 (by decide +kernel) (by decide +kernel) rfl ?_
    refine x_icmp_ge 74 dX11_together_51 (by decide) (fun hB => ?_) (fun hB => ?_)
    · replace hf := f_if hB hf
      refine x_iload_n 2 dX11_together_74 rfl rfl ?_
      cases hf
      exact x_iret dX11_together_75 rfl rfl
    · replace hf := f_el hB hf
      refine x_iload_n 2 dX11_together_54 rfl rfl ?_
      refine x_aload_n 0 dX11_together_55 rfl rfl ?_
      refine x_getR dX11_together_56 lm_0 fl_X11_7 rfl ?_
      refine x_iload_n 3 dX11_together_59 rfl rfl ?_
      refine x_callSi [.int v3] (c_X11_bedRow (I := I) (L := L) v3) dX11_together_60 lk_X11_216 cd_X11_bedRow rfl rfl (Nat.le_of_ble_eq_true rfl) ⟨rfl, rfl, Nat.le_of_ble_eq_true rfl, Nat.le_of_ble_eq_true rfl⟩ ?_
      refine x_iload_n 1 dX11_together_63 rfl rfl ?_
      refine x_iadd dX11_together_64 ?_
      obtain ⟨h5, hf⟩ := f_gd hf
      refine x_iald (j := (((f_X11_bedRow v3) + v1)).toNatClampNeg) (v := (I 1 (((f_X11_bedRow v3) + v1)).toNatClampNeg)) dX11_together_65 lm_1 h5 rfl rfl ?_
      refine x_iadd dX11_together_66 ?_
      obtain ⟨w6, hw6, hf⟩ := f_lt hf
      refine x_topI hw6 ?_
      refine x_istore_n [(2, .int w6), (0, .ref 0), (1, .int v1), (3, .int v3)] dX11_together_67 rfl (by decide) rfl ?_
      refine x_iinc 3 [(3, .int (v3 + (1 : Int32))), (2, .int w6), (0, .ref 0), (1, .int v1)] dX11_together_68 rfl rfl (by decide) rfl ?_
      refine x_goto 44 dX11_together_71 (by decide) ?_
      refine x_lv [(0, .ref 0), (1, .int v1), (2, .int w6), (3, .int (v3 + (1 : Int32)))] [2, 3, 1, 0] rfl ?_
      exact ih _ _ hf
set_option maxRecDepth 100000 in
set_option maxHeartbeats 4000000 in
theorem c_X11_together {I : z_I} {L : z_L} {p0 : Int32}  {r : Int32} (hf : f_X11_together I p0 = some r) : z_C layM yX11_together cX11_together 4 (some .int) ({ frames := 1, cells := 0, slots := 0, locals := 20 } : Room) [.ref 0, .int p0] I L (some (.int r), I, L) := by
  refine z_C.of (by decide) (Nat.le_of_ble_eq_true rfl) ?_
  show z_X layM RX11 cX11_together 4 (some .int) ({ frames := 1, cells := 0, slots := 0, locals := 20 } : Room) 0 [(0, .ref 0), (1, .int p0)] [] I L (some (.int r), I, L)
  unfold f_X11_together at hf
  refine x_iconst (v := (0)) dX11_together_0 (by decide) ?_
  refine x_istore_n [(2, .int (0 : Int32)), (0, .ref 0), (1, .int p0)] dX11_together_1 rfl (by decide) rfl ?_
  refine x_iload_n 2 dX11_together_2 rfl rfl ?_
  refine x_iconst (v := (2)) dX11_together_3 (by decide) ?_
  refine x_icmp_ne 42 dX11_together_4 (by decide) (fun hB => ?_) (fun hB => ?_)
  · replace hf := f_el hB hf
    refine x_iconst (v := (0)) dX11_together_42 (by decide) ?_
    refine x_istore_n [(3, .int (0 : Int32)), (2, .int (0 : Int32)), (0, .ref 0), (1, .int p0)] dX11_together_43 rfl (by decide) rfl ?_
    refine x_lv [(0, .ref 0), (1, .int p0), (2, .int (0 : Int32)), (3, .int (0 : Int32))] [2, 3, 1, 0] rfl ?_
    refine l_X11_together_44 p0 (I) (L)   _ _ _ hf
  · replace hf := f_if hB hf
    refine x_iconst (v := (0)) dX11_together_7 (by decide) ?_
    refine x_istore_n [(3, .int (0 : Int32)), (2, .int (0 : Int32)), (0, .ref 0), (1, .int p0)] dX11_together_8 rfl (by decide) rfl ?_
    refine x_lv [(0, .ref 0), (2, .int (0 : Int32)), (3, .int (0 : Int32))] [2, 1, 0] rfl ?_
    refine l_X11_together_9 (I) (L)   _ _ _ hf
