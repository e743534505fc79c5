set_option maxRecDepth 100000 in
set_option maxHeartbeats 4000000 in
theorem c_X11_told {I : z_I} {L : z_L} {p0 : Int32}  {r : Int32 × z_I} (hf : f_X11_told I p0 = some r) : z_C layM yX11_told cX11_told 2 (some .int) ({ frames := 5, cells := 0, slots := 0, locals := 110 } : Room) [.ref 0, .int p0] I L (some (.int r.1), r.2, L) := by
  refine z_C.of (by decide) (Nat.le_of_ble_eq_true rfl) ?_
  show z_X layM RX11 cX11_told 2 (some .int) ({ frames := 5, cells := 0, slots := 0, locals := 110 } : Room) 0 [(0, .ref 0), (1, .int p0)] [] I L (some (.int r.1), r.2, L)
  unfold f_X11_told at hf
  refine x_iload_n 1 dX11_told_0 rfl rfl ?_
  refine x_if_lt 10 dX11_told_1 (by decide) (fun hB => ?_) (fun hB => ?_)
  · replace hf := f_if hB hf
    refine x_aload_n 0 dX11_told_10 rfl rfl ?_
    refine x_iconst (v := (1)) dX11_told_11 (by decide) ?_
    refine x_callVi [.int (1 : Int32)] (c_X11_refuse (I := I) (L := L) (1 : Int32)) dX11_told_12 lk_X11_99 lm_0 rfl cd_X11_refuse rfl rfl (Nat.le_of_ble_eq_true rfl) ⟨rfl, rfl, Nat.le_of_ble_eq_true rfl, Nat.le_of_ble_eq_true rfl⟩ ?_
    cases hf
    exact x_iret dX11_told_15 rfl rfl
  · replace hf := f_el hB hf
    refine x_iload_n 1 dX11_told_4 rfl rfl ?_
    refine x_bipush (v := (10)) dX11_told_5 (by decide) ?_
    refine x_icmp_le 16 dX11_told_7 (by decide) (fun hB => ?_) (fun hB => ?_)
    · replace hf := f_if hB hf
      refine x_iload_n 1 dX11_told_16 rfl rfl ?_
      refine x_bipush (v := (7)) dX11_told_17 (by decide) ?_
      refine x_icmp_ge 33 dX11_told_19 (by decide) (fun hB => ?_) (fun hB => ?_)
      · replace hf := f_if hB hf
        refine x_aload_n 0 dX11_told_33 rfl rfl ?_
        refine x_iload_n 1 dX11_told_34 rfl rfl ?_
        refine x_bipush (v := (10)) dX11_told_35 (by decide) ?_
        refine x_icmp_ne 54 dX11_told_37 (by decide) (fun hB => ?_) (fun hB => ?_)
        · replace hf := f_el hB hf
          refine x_aload_n 0 dX11_told_54 rfl rfl ?_
          refine x_iload_n 1 dX11_told_55 rfl rfl ?_
          refine x_bipush (v := (7)) dX11_told_56 (by decide) ?_
          refine x_isub dX11_told_58 ?_
          obtain ⟨q4, hq5, hf⟩ := f_bd hf
          refine x_callVi [.int (p0 - (7 : Int32))] (c_X11_together (I := I) (L := L)  hq5) dX11_told_59 lk_X11_318 lm_0 rfl cd_X11_together rfl rfl (Nat.le_of_ble_eq_true rfl) ⟨rfl, rfl, Nat.le_of_ble_eq_true rfl, Nat.le_of_ble_eq_true rfl⟩ ?_
          refine x_callVi [.int q4] (c_X11_gives (I := I) (L := L) q4) dX11_told_62 lk_X11_103 lm_0 rfl cd_X11_gives rfl rfl (Nat.le_of_ble_eq_true rfl) ⟨rfl, rfl, Nat.le_of_ble_eq_true rfl, Nat.le_of_ble_eq_true rfl⟩ ?_
          cases hf
          exact x_iret dX11_told_65 rfl rfl
        · replace hf := f_if hB hf
          refine x_aload_n 0 dX11_told_40 rfl rfl ?_
          refine x_aload_n 0 dX11_told_41 rfl rfl ?_
          refine x_getR dX11_told_42 lm_0 fl_X11_7 rfl ?_
          refine x_bipush (v := (6)) dX11_told_45 (by decide) ?_
          refine x_iald (j := 6) (v := (I 1 6)) dX11_told_47 lm_1 (by decide +kernel) (by decide +kernel) rfl ?_
          obtain ⟨q2, hq3, hf⟩ := f_bd hf
          refine x_callVi [.int (I 1 6)] (c_X11_partsBy (I := I) (L := L)  hq3) dX11_told_48 lk_X11_315 lm_0 rfl cd_X11_partsBy rfl rfl (Nat.le_of_ble_eq_true rfl) ⟨rfl, rfl, Nat.le_of_ble_eq_true rfl, Nat.le_of_ble_eq_true rfl⟩ ?_
          refine x_goto 62 dX11_told_51 (by decide) ?_
          refine x_callVi [.int q2] (c_X11_gives (I := I) (L := L) q2) dX11_told_62 lk_X11_103 lm_0 rfl cd_X11_gives rfl rfl (Nat.le_of_ble_eq_true rfl) ⟨rfl, rfl, Nat.le_of_ble_eq_true rfl, Nat.le_of_ble_eq_true rfl⟩ ?_
          cases hf
          exact x_iret dX11_told_65 rfl rfl
      · replace hf := f_el hB hf
        refine x_aload_n 0 dX11_told_22 rfl rfl ?_
        refine x_aload_n 0 dX11_told_23 rfl rfl ?_
        refine x_getR dX11_told_24 lm_0 fl_X11_7 rfl ?_
        refine x_iload_n 1 dX11_told_27 rfl rfl ?_
        obtain ⟨h6, hf⟩ := f_gd hf
        refine x_iald (j := (p0).toNatClampNeg) (v := (I 1 (p0).toNatClampNeg)) dX11_told_28 lm_1 h6 rfl rfl ?_
        refine x_callVi [.int (I 1 (p0).toNatClampNeg)] (c_X11_gives (I := I) (L := L) (I 1 (p0).toNatClampNeg)) dX11_told_29 lk_X11_103 lm_0 rfl cd_X11_gives rfl rfl (Nat.le_of_ble_eq_true rfl) ⟨rfl, rfl, Nat.le_of_ble_eq_true rfl, Nat.le_of_ble_eq_true rfl⟩ ?_
        cases hf
        exact x_iret dX11_told_32 rfl rfl
    · replace hf := f_el hB hf
      refine x_aload_n 0 dX11_told_10 rfl rfl ?_
      refine x_iconst (v := (1)) dX11_told_11 (by decide) ?_
      refine x_callVi [.int (1 : Int32)] (c_X11_refuse (I := I) (L := L) (1 : Int32)) dX11_told_12 lk_X11_99 lm_0 rfl cd_X11_refuse rfl rfl (Nat.le_of_ble_eq_true rfl) ⟨rfl, rfl, Nat.le_of_ble_eq_true rfl, Nat.le_of_ble_eq_true rfl⟩ ?_
      cases hf
      exact x_iret dX11_told_15 rfl rfl
set_option maxRecDepth 100000 in
set_option maxHeartbeats 4000000 in
theorem c_X11_bed {I : z_I} {L : z_L} {p0 : Int32} {p1 : Int32}  {r : Int32 × z_I} (hf : f_X11_bed I p0 p1 = some r) : z_C layM yX11_bed cX11_bed 3 (some .int) ({ frames := 1, cells := 0, slots := 0, locals := 21 } : Room) [.ref 0, .int p0, .int p1] I L (some (.int r.1), r.2, L) := by
  refine z_C.of (by decide) (Nat.le_of_ble_eq_true rfl) ?_
  show z_X layM RX11 cX11_bed 3 (some .int) ({ frames := 1, cells := 0, slots := 0, locals := 21 } : Room) 0 [(0, .ref 0), (1, .int p0), (2, .int p1)] [] I L (some (.int r.1), r.2, L)
  unfold f_X11_bed at hf
  refine x_aload_n 0 dX11_bed_0 rfl rfl ?_
  refine x_iload_n 1 dX11_bed_1 rfl rfl ?_
  refine x_callVi [.int p0] (c_X11_isBed (I := I) (L := L) p0) dX11_bed_2 lk_X11_321 lm_0 rfl cd_X11_isBed rfl rfl (Nat.le_of_ble_eq_true rfl) ⟨rfl, rfl, Nat.le_of_ble_eq_true rfl, Nat.le_of_ble_eq_true rfl⟩ ?_
  refine x_if_eqB 17 dX11_bed_5 (by decide) (fun hB => ?_) (fun hB => ?_)
  · replace hf := f_el hB hf
    refine x_aload_n 0 dX11_bed_17 rfl rfl ?_
    refine x_iconst (v := (1)) dX11_bed_18 (by decide) ?_
    refine x_callVi [.int (1 : Int32)] (c_X11_refuse (I := I) (L := L) (1 : Int32)) dX11_bed_19 lk_X11_99 lm_0 rfl cd_X11_refuse rfl rfl (Nat.le_of_ble_eq_true rfl) ⟨rfl, rfl, Nat.le_of_ble_eq_true rfl, Nat.le_of_ble_eq_true rfl⟩ ?_
    cases hf
    exact x_iret dX11_bed_22 rfl rfl
  · replace hf := f_if hB hf
    refine x_iload_n 2 dX11_bed_8 rfl rfl ?_
    refine x_if_lt 17 dX11_bed_9 (by decide) (fun hB => ?_) (fun hB => ?_)
    · replace hf := f_if hB hf
      refine x_aload_n 0 dX11_bed_17 rfl rfl ?_
      refine x_iconst (v := (1)) dX11_bed_18 (by decide) ?_
      refine x_callVi [.int (1 : Int32)] (c_X11_refuse (I := I) (L := L) (1 : Int32)) dX11_bed_19 lk_X11_99 lm_0 rfl cd_X11_refuse rfl rfl (Nat.le_of_ble_eq_true rfl) ⟨rfl, rfl, Nat.le_of_ble_eq_true rfl, Nat.le_of_ble_eq_true rfl⟩ ?_
      cases hf
      exact x_iret dX11_bed_22 rfl rfl
    · replace hf := f_el hB hf
      refine x_iload_n 2 dX11_bed_12 rfl rfl ?_
      refine x_iconst (v := (1)) dX11_bed_13 (by decide) ?_
      refine x_icmp_le 23 dX11_bed_14 (by decide) (fun hB => ?_) (fun hB => ?_)
      · replace hf := f_if hB hf
        refine x_aload_n 0 dX11_bed_23 rfl rfl ?_
        refine x_aload_n 0 dX11_bed_24 rfl rfl ?_
        refine x_getR dX11_bed_25 lm_0 fl_X11_7 rfl ?_
        refine x_iload_n 1 dX11_bed_28 rfl rfl ?_
        refine x_callSi [.int p0] (c_X11_bedRow (I := I) (L := L) p0) dX11_bed_29 lk_X11_216 cd_X11_bedRow rfl rfl (Nat.le_of_ble_eq_true rfl) ⟨rfl, rfl, Nat.le_of_ble_eq_true rfl, Nat.le_of_ble_eq_true rfl⟩ ?_
        refine x_iload_n 2 dX11_bed_32 rfl rfl ?_
        refine x_iadd dX11_bed_33 ?_
        obtain ⟨h1, hf⟩ := f_gd hf
        refine x_iald (j := (((f_X11_bedRow p0) + p1)).toNatClampNeg) (v := (I 1 (((f_X11_bedRow p0) + p1)).toNatClampNeg)) dX11_bed_34 lm_1 h1 rfl rfl ?_
        refine x_callVi [.int (I 1 (((f_X11_bedRow p0) + p1)).toNatClampNeg)] (c_X11_gives (I := I) (L := L) (I 1 (((f_X11_bedRow p0) + p1)).toNatClampNeg)) dX11_bed_35 lk_X11_103 lm_0 rfl cd_X11_gives rfl rfl (Nat.le_of_ble_eq_true rfl) ⟨rfl, rfl, Nat.le_of_ble_eq_true rfl, Nat.le_of_ble_eq_true rfl⟩ ?_
        cases hf
        exact x_iret dX11_bed_38 rfl rfl
      · replace hf := f_el hB hf
        refine x_aload_n 0 dX11_bed_17 rfl rfl ?_
        refine x_iconst (v := (1)) dX11_bed_18 (by decide) ?_
        refine x_callVi [.int (1 : Int32)] (c_X11_refuse (I := I) (L := L) (1 : Int32)) dX11_bed_19 lk_X11_99 lm_0 rfl cd_X11_refuse rfl rfl (Nat.le_of_ble_eq_true rfl) ⟨rfl, rfl, Nat.le_of_ble_eq_true rfl, Nat.le_of_ble_eq_true rfl⟩ ?_
        cases hf
        exact x_iret dX11_bed_22 rfl rfl
set_option maxRecDepth 100000 in
set_option maxHeartbeats 4000000 in
theorem c_X11_weight {I : z_I} {L : z_L} {p0 : Int32}  {r : Int32 × z_I} (hf : f_X11_weight I p0 = some r) : z_C layM yX11_weight cX11_weight 2 (some .int) ({ frames := 1, cells := 0, slots := 0, locals := 21 } : Room) [.ref 0, .int p0] I L (some (.int r.1), r.2, L) := by
  refine z_C.of (by decide) (Nat.le_of_ble_eq_true rfl) ?_
  show z_X layM RX11 cX11_weight 2 (some .int) ({ frames := 1, cells := 0, slots := 0, locals := 21 } : Room) 0 [(0, .ref 0), (1, .int p0)] [] I L (some (.int r.1), r.2, L)
  unfold f_X11_weight at hf
  refine x_aload_n 0 dX11_weight_0 rfl rfl ?_
  refine x_iload_n 1 dX11_weight_1 rfl rfl ?_
  refine x_callVi [.int p0] (c_X11_isCase (I := I) (L := L) p0) dX11_weight_2 lk_X11_324 lm_0 rfl cd_X11_isCase rfl rfl (Nat.le_of_ble_eq_true rfl) ⟨rfl, rfl, Nat.le_of_ble_eq_true rfl, Nat.le_of_ble_eq_true rfl⟩ ?_
  refine x_if_neB 14 dX11_weight_5 (by decide) (fun hB => ?_) (fun hB => ?_)
  · replace hf := f_if hB hf
    refine x_aload_n 0 dX11_weight_14 rfl rfl ?_
    refine x_aload_n 0 dX11_weight_15 rfl rfl ?_
    refine x_getR dX11_weight_16 lm_0 fl_X11_7 rfl ?_
    refine x_bipush (v := (22)) dX11_weight_19 (by decide) ?_
    refine x_iload_n 1 dX11_weight_21 rfl rfl ?_
    refine x_iadd dX11_weight_22 ?_
    obtain ⟨h1, hf⟩ := f_gd hf
    refine x_iald (j := (((22 : Int32) + p0)).toNatClampNeg) (v := (I 1 (((22 : Int32) + p0)).toNatClampNeg)) dX11_weight_23 lm_1 h1 rfl rfl ?_
    refine x_callVi [.int (I 1 (((22 : Int32) + p0)).toNatClampNeg)] (c_X11_gives (I := I) (L := L) (I 1 (((22 : Int32) + p0)).toNatClampNeg)) dX11_weight_24 lk_X11_103 lm_0 rfl cd_X11_gives rfl rfl (Nat.le_of_ble_eq_true rfl) ⟨rfl, rfl, Nat.le_of_ble_eq_true rfl, Nat.le_of_ble_eq_true rfl⟩ ?_
    cases hf
    exact x_iret dX11_weight_27 rfl rfl
  · replace hf := f_el hB hf
    refine x_aload_n 0 dX11_weight_8 rfl rfl ?_
    refine x_iconst (v := (1)) dX11_weight_9 (by decide) ?_
    refine x_callVi [.int (1 : Int32)] (c_X11_refuse (I := I) (L := L) (1 : Int32)) dX11_weight_10 lk_X11_99 lm_0 rfl cd_X11_refuse rfl rfl (Nat.le_of_ble_eq_true rfl) ⟨rfl, rfl, Nat.le_of_ble_eq_true rfl, Nat.le_of_ble_eq_true rfl⟩ ?_
    cases hf
    exact x_iret dX11_weight_13 rfl rfl
set_option maxRecDepth 100000 in
set_option maxHeartbeats 4000000 in
theorem c_X11_claim {I : z_I} {L : z_L} {p0 : Int32} {p1 : Int32}  {r : Int32 × z_I} (hf : f_X11_claim I p0 p1 = some r) : z_C layM yX11_claim cX11_claim 3 (some .int) ({ frames := 5, cells := 0, slots := 0, locals := 112 } : Room) [.ref 0, .int p0, .int p1] I L (some (.int r.1), r.2, L) := by
  refine z_C.of (by decide) (Nat.le_of_ble_eq_true rfl) ?_
  show z_X layM RX11 cX11_claim 3 (some .int) ({ frames := 5, cells := 0, slots := 0, locals := 112 } : Room) 0 [(0, .ref 0), (1, .int p0), (2, .int p1)] [] I L (some (.int r.1), r.2, L)
  unfold f_X11_claim at hf
  refine x_aload_n 0 dX11_claim_0 rfl rfl ?_
  refine x_iload_n 1 dX11_claim_1 rfl rfl ?_
  refine x_callVi [.int p0] (c_X11_isClaim (I := I) (L := L) p0) dX11_claim_2 lk_X11_327 lm_0 rfl cd_X11_isClaim rfl rfl (Nat.le_of_ble_eq_true rfl) ⟨rfl, rfl, Nat.le_of_ble_eq_true rfl, Nat.le_of_ble_eq_true rfl⟩ ?_
  refine x_if_eqB 17 dX11_claim_5 (by decide) (fun hB => ?_) (fun hB => ?_)
  · replace hf := f_el hB hf
    refine x_aload_n 0 dX11_claim_17 rfl rfl ?_
    refine x_iconst (v := (1)) dX11_claim_18 (by decide) ?_
    refine x_callVi [.int (1 : Int32)] (c_X11_refuse (I := I) (L := L) (1 : Int32)) dX11_claim_19 lk_X11_99 lm_0 rfl cd_X11_refuse rfl rfl (Nat.le_of_ble_eq_true rfl) ⟨rfl, rfl, Nat.le_of_ble_eq_true rfl, Nat.le_of_ble_eq_true rfl⟩ ?_
    cases hf
    exact x_iret dX11_claim_22 rfl rfl
  · replace hf := f_if hB hf
    refine x_iload_n 2 dX11_claim_8 rfl rfl ?_
    refine x_if_lt 17 dX11_claim_9 (by decide) (fun hB => ?_) (fun hB => ?_)
    · replace hf := f_if hB hf
      refine x_aload_n 0 dX11_claim_17 rfl rfl ?_
      refine x_iconst (v := (1)) dX11_claim_18 (by decide) ?_
      refine x_callVi [.int (1 : Int32)] (c_X11_refuse (I := I) (L := L) (1 : Int32)) dX11_claim_19 lk_X11_99 lm_0 rfl cd_X11_refuse rfl rfl (Nat.le_of_ble_eq_true rfl) ⟨rfl, rfl, Nat.le_of_ble_eq_true rfl, Nat.le_of_ble_eq_true rfl⟩ ?_
      cases hf
      exact x_iret dX11_claim_22 rfl rfl
    · replace hf := f_el hB hf
      refine x_iload_n 2 dX11_claim_12 rfl rfl ?_
      refine x_iconst (v := (3)) dX11_claim_13 (by decide) ?_
      refine x_icmp_le 23 dX11_claim_14 (by decide) (fun hB => ?_) (fun hB => ?_)
      · replace hf := f_if hB hf
        refine x_aload_n 0 dX11_claim_23 rfl rfl ?_
        refine x_iload_n 2 dX11_claim_24 rfl rfl ?_
        refine x_iconst (v := (3)) dX11_claim_25 (by decide) ?_
        refine x_icmp_ne 44 dX11_claim_26 (by decide) (fun hB => ?_) (fun hB => ?_)
        · replace hf := f_el hB hf
          refine x_aload_n 0 dX11_claim_44 rfl rfl ?_
          refine x_getR dX11_claim_45 lm_0 fl_X11_7 rfl ?_
          refine x_iload_n 1 dX11_claim_48 rfl rfl ?_
          refine x_callSi [.int p0] (c_X11_claimRow (I := I) (L := L) p0) dX11_claim_49 lk_X11_230 cd_X11_claimRow rfl rfl (Nat.le_of_ble_eq_true rfl) ⟨rfl, rfl, Nat.le_of_ble_eq_true rfl, Nat.le_of_ble_eq_true rfl⟩ ?_
          refine x_iload_n 2 dX11_claim_52 rfl rfl ?_
          refine x_iadd dX11_claim_53 ?_
          obtain ⟨h4, hf⟩ := f_gd hf
          refine x_iald (j := (((f_X11_claimRow p0) + p1)).toNatClampNeg) (v := (I 1 (((f_X11_claimRow p0) + p1)).toNatClampNeg)) dX11_claim_54 lm_1 h4 rfl rfl ?_
          refine x_callVi [.int (I 1 (((f_X11_claimRow p0) + p1)).toNatClampNeg)] (c_X11_gives (I := I) (L := L) (I 1 (((f_X11_claimRow p0) + p1)).toNatClampNeg)) dX11_claim_55 lk_X11_103 lm_0 rfl cd_X11_gives rfl rfl (Nat.le_of_ble_eq_true rfl) ⟨rfl, rfl, Nat.le_of_ble_eq_true rfl, Nat.le_of_ble_eq_true rfl⟩ ?_
          cases hf
          exact x_iret dX11_claim_58 rfl rfl
        · replace hf := f_if hB hf
          refine x_aload_n 0 dX11_claim_29 rfl rfl ?_
          refine x_iload_n 1 dX11_claim_30 rfl rfl ?_
          refine x_aload_n 0 dX11_claim_31 rfl rfl ?_
          refine x_getR dX11_claim_32 lm_0 fl_X11_7 rfl ?_
          refine x_bipush (v := (6)) dX11_claim_35 (by decide) ?_
          refine x_iald (j := 6) (v := (I 1 6)) dX11_claim_37 lm_1 (by decide +kernel) (by decide +kernel) rfl ?_
          obtain ⟨q2, hq3, hf⟩ := f_bd hf
          refine x_callVi [.int p0, .int (I 1 6)] (c_X11_yieldBy (I := I) (L := L)  hq3) dX11_claim_38 lk_X11_330 lm_0 rfl cd_X11_yieldBy rfl rfl (Nat.le_of_ble_eq_true rfl) ⟨rfl, rfl, Nat.le_of_ble_eq_true rfl, Nat.le_of_ble_eq_true rfl⟩ ?_
          refine x_goto 55 dX11_claim_41 (by decide) ?_
          refine x_callVi [.int q2] (c_X11_gives (I := I) (L := L) q2) dX11_claim_55 lk_X11_103 lm_0 rfl cd_X11_gives rfl rfl (Nat.le_of_ble_eq_true rfl) ⟨rfl, rfl, Nat.le_of_ble_eq_true rfl, Nat.le_of_ble_eq_true rfl⟩ ?_
          cases hf
          exact x_iret dX11_claim_58 rfl rfl
      · replace hf := f_el hB hf
        refine x_aload_n 0 dX11_claim_17 rfl rfl ?_
        refine x_iconst (v := (1)) dX11_claim_18 (by decide) ?_
        refine x_callVi [.int (1 : Int32)] (c_X11_refuse (I := I) (L := L) (1 : Int32)) dX11_claim_19 lk_X11_99 lm_0 rfl cd_X11_refuse rfl rfl (Nat.le_of_ble_eq_true rfl) ⟨rfl, rfl, Nat.le_of_ble_eq_true rfl, Nat.le_of_ble_eq_true rfl⟩ ?_
        cases hf
        exact x_iret dX11_claim_22 rfl rfl
set_option maxRecDepth 100000 in
set_option maxHeartbeats 4000000 in
theorem c_X11_scholar {I : z_I} {L : z_L} {p0 : Int32} {p1 : Int32}  {r : Int32 × z_I} (hf : f_X11_scholar I p0 p1 = some r) : z_C layM yX11_scholar cX11_scholar 3 (some .int) ({ frames := 1, cells := 0, slots := 0, locals := 21 } : Room) [.ref 0, .int p0, .int p1] I L (some (.int r.1), r.2, L) := by
  refine z_C.of (by decide) (Nat.le_of_ble_eq_true rfl) ?_
  show z_X layM RX11 cX11_scholar 3 (some .int) ({ frames := 1, cells := 0, slots := 0, locals := 21 } : Room) 0 [(0, .ref 0), (1, .int p0), (2, .int p1)] [] I L (some (.int r.1), r.2, L)
  unfold f_X11_scholar at hf
  refine x_aload_n 0 dX11_scholar_0 rfl rfl ?_
  refine x_iload_n 1 dX11_scholar_1 rfl rfl ?_
  refine x_callVi [.int p0] (c_X11_isScholar (I := I) (L := L) p0) dX11_scholar_2 lk_X11_333 lm_0 rfl cd_X11_isScholar rfl rfl (Nat.le_of_ble_eq_true rfl) ⟨rfl, rfl, Nat.le_of_ble_eq_true rfl, Nat.le_of_ble_eq_true rfl⟩ ?_
  refine x_if_eqB 17 dX11_scholar_5 (by decide) (fun hB => ?_) (fun hB => ?_)
  · replace hf := f_el hB hf
    refine x_aload_n 0 dX11_scholar_17 rfl rfl ?_
    refine x_iconst (v := (1)) dX11_scholar_18 (by decide) ?_
    refine x_callVi [.int (1 : Int32)] (c_X11_refuse (I := I) (L := L) (1 : Int32)) dX11_scholar_19 lk_X11_99 lm_0 rfl cd_X11_refuse rfl rfl (Nat.le_of_ble_eq_true rfl) ⟨rfl, rfl, Nat.le_of_ble_eq_true rfl, Nat.le_of_ble_eq_true rfl⟩ ?_
    cases hf
    exact x_iret dX11_scholar_22 rfl rfl
  · replace hf := f_if hB hf
    refine x_iload_n 2 dX11_scholar_8 rfl rfl ?_
    refine x_if_lt 17 dX11_scholar_9 (by decide) (fun hB => ?_) (fun hB => ?_)
    · replace hf := f_if hB hf
      refine x_aload_n 0 dX11_scholar_17 rfl rfl ?_
      refine x_iconst (v := (1)) dX11_scholar_18 (by decide) ?_
      refine x_callVi [.int (1 : Int32)] (c_X11_refuse (I := I) (L := L) (1 : Int32)) dX11_scholar_19 lk_X11_99 lm_0 rfl cd_X11_refuse rfl rfl (Nat.le_of_ble_eq_true rfl) ⟨rfl, rfl, Nat.le_of_ble_eq_true rfl, Nat.le_of_ble_eq_true rfl⟩ ?_
      cases hf
      exact x_iret dX11_scholar_22 rfl rfl
    · replace hf := f_el hB hf
      refine x_iload_n 2 dX11_scholar_12 rfl rfl ?_
      refine x_iconst (v := (1)) dX11_scholar_13 (by decide) ?_
      refine x_icmp_le 23 dX11_scholar_14 (by decide) (fun hB => ?_) (fun hB => ?_)
      · replace hf := f_if hB hf
        refine x_aload_n 0 dX11_scholar_23 rfl rfl ?_
        refine x_aload_n 0 dX11_scholar_24 rfl rfl ?_
        refine x_getR dX11_scholar_25 lm_0 fl_X11_7 rfl ?_
        refine x_iload_n 1 dX11_scholar_28 rfl rfl ?_
        refine x_callSi [.int p0] (c_X11_scholarRow (I := I) (L := L) p0) dX11_scholar_29 lk_X11_242 cd_X11_scholarRow rfl rfl (Nat.le_of_ble_eq_true rfl) ⟨rfl, rfl, Nat.le_of_ble_eq_true rfl, Nat.le_of_ble_eq_true rfl⟩ ?_
        refine x_iload_n 2 dX11_scholar_32 rfl rfl ?_
        refine x_iadd dX11_scholar_33 ?_
        obtain ⟨h1, hf⟩ := f_gd hf
        refine x_iald (j := (((f_X11_scholarRow p0) + p1)).toNatClampNeg) (v := (I 1 (((f_X11_scholarRow p0) + p1)).toNatClampNeg)) dX11_scholar_34 lm_1 h1 rfl rfl ?_
        refine x_callVi [.int (I 1 (((f_X11_scholarRow p0) + p1)).toNatClampNeg)] (c_X11_gives (I := I) (L := L) (I 1 (((f_X11_scholarRow p0) + p1)).toNatClampNeg)) dX11_scholar_35 lk_X11_103 lm_0 rfl cd_X11_gives rfl rfl (Nat.le_of_ble_eq_true rfl) ⟨rfl, rfl, Nat.le_of_ble_eq_true rfl, Nat.le_of_ble_eq_true rfl⟩ ?_
        cases hf
        exact x_iret dX11_scholar_38 rfl rfl
      · replace hf := f_el hB hf
        refine x_aload_n 0 dX11_scholar_17 rfl rfl ?_
        refine x_iconst (v := (1)) dX11_scholar_18 (by decide) ?_
        refine x_callVi [.int (1 : Int32)] (c_X11_refuse (I := I) (L := L) (1 : Int32)) dX11_scholar_19 lk_X11_99 lm_0 rfl cd_X11_refuse rfl rfl (Nat.le_of_ble_eq_true rfl) ⟨rfl, rfl, Nat.le_of_ble_eq_true rfl, Nat.le_of_ble_eq_true rfl⟩ ?_
        cases hf
        exact x_iret dX11_scholar_22 rfl rfl
set_option maxRecDepth 100000 in
set_option maxHeartbeats 4000000 in
theorem c_X11_makes {I : z_I} {L : z_L} {p0 : Int32}  {r : Int32 × z_I} (hf : f_X11_makes I p0 = some r) : z_C layM yX11_makes cX11_makes 4 (some .int) ({ frames := 5, cells := 0, slots := 0, locals := 112 } : Room) [.ref 0, .int p0] I L (some (.int r.1), r.2, L) := by
  refine z_C.of (by decide) (Nat.le_of_ble_eq_true rfl) ?_
  show z_X layM RX11 cX11_makes 4 (some .int) ({ frames := 5, cells := 0, slots := 0, locals := 112 } : Room) 0 [(0, .ref 0), (1, .int p0)] [] I L (some (.int r.1), r.2, L)
  unfold f_X11_makes at hf
  refine x_aload_n 0 dX11_makes_0 rfl rfl ?_
  refine x_aload_n 0 dX11_makes_1 rfl rfl ?_
  refine x_getR dX11_makes_2 lm_0 fl_X11_7 rfl ?_
  refine x_bipush (v := (6)) dX11_makes_5 (by decide) ?_
  refine x_iald (j := 6) (v := (I 1 6)) dX11_makes_7 lm_1 (by decide +kernel) (by decide +kernel) rfl ?_
  refine x_iload_n 1 dX11_makes_8 rfl rfl ?_
  refine x_callVi [.int (I 1 6), .int p0] (c_X11_isIn (I := I) (L := L) (I 1 6) p0) dX11_makes_9 lk_X11_236 lm_0 rfl cd_X11_isIn rfl rfl (Nat.le_of_ble_eq_true rfl) ⟨rfl, rfl, Nat.le_of_ble_eq_true rfl, Nat.le_of_ble_eq_true rfl⟩ ?_
  refine x_if_eqB 17 dX11_makes_12 (by decide) (fun hB => ?_) (fun hB => ?_)
  · replace hf := f_el hB hf
    refine x_aload_n 0 dX11_makes_17 rfl rfl ?_
    refine x_iload_n 1 dX11_makes_18 rfl rfl ?_
    refine x_aload_n 0 dX11_makes_19 rfl rfl ?_
    refine x_getR dX11_makes_20 lm_0 fl_X11_7 rfl ?_
    refine x_bipush (v := (6)) dX11_makes_23 (by decide) ?_
    refine x_iald (j := 6) (v := (I 1 6)) dX11_makes_25 lm_1 (by decide +kernel) (by decide +kernel) rfl ?_
    obtain ⟨q3, hq4, hf⟩ := f_bd hf
    refine x_callVi [.int p0, .int (I 1 6)] (c_X11_yieldBy (I := I) (L := L)  hq4) dX11_makes_26 lk_X11_330 lm_0 rfl cd_X11_yieldBy rfl rfl (Nat.le_of_ble_eq_true rfl) ⟨rfl, rfl, Nat.le_of_ble_eq_true rfl, Nat.le_of_ble_eq_true rfl⟩ ?_
    refine x_istore_n [(2, .int q3), (0, .ref 0), (1, .int p0)] dX11_makes_29 rfl (by decide) rfl ?_
    refine x_aload_n 1 dX11_makes_30 rfl rfl ?_
    refine x_getR dX11_makes_31 lm_0 fl_X11_7 rfl ?_
    refine x_iload_n 2 dX11_makes_34 rfl rfl ?_
    refine x_callSi [.int p0] (c_X11_claimRow (I := I) (L := L) p0) dX11_makes_35 lk_X11_230 cd_X11_claimRow rfl rfl (Nat.le_of_ble_eq_true rfl) ⟨rfl, rfl, Nat.le_of_ble_eq_true rfl, Nat.le_of_ble_eq_true rfl⟩ ?_
    obtain ⟨h5, hf⟩ := f_gd hf
    refine x_iald (j := ((f_X11_claimRow p0)).toNatClampNeg) (v := (I 1 ((f_X11_claimRow p0)).toNatClampNeg)) dX11_makes_38 lm_1 h5 rfl rfl ?_
    refine x_callSi [.int (I 1 ((f_X11_claimRow p0)).toNatClampNeg)] (c_X11_bedRow (I := I) (L := L) (I 1 ((f_X11_claimRow p0)).toNatClampNeg)) dX11_makes_39 lk_X11_216 cd_X11_bedRow rfl rfl (Nat.le_of_ble_eq_true rfl) ⟨rfl, rfl, Nat.le_of_ble_eq_true rfl, Nat.le_of_ble_eq_true rfl⟩ ?_
    obtain ⟨w6, hw6, hf⟩ := f_lt hf
    refine x_topI hw6 ?_
    refine x_istore_n [(3, .int w6), (2, .int q3), (0, .ref 0), (1, .int p0)] dX11_makes_42 rfl (by decide) rfl ?_
    refine x_aload_n 2 dX11_makes_43 rfl rfl ?_
    refine x_getR dX11_makes_44 lm_0 fl_X11_7 rfl ?_
    refine x_bipush (v := (6)) dX11_makes_47 (by decide) ?_
    refine x_dup2 dX11_makes_49 rfl rfl ?_
    refine x_iald (j := 6) (v := (I 1 6)) dX11_makes_50 lm_1 (by decide +kernel) (by decide +kernel) rfl ?_
    refine x_iconst (v := (1)) dX11_makes_51 (by decide) ?_
    refine x_iload_n 3 dX11_makes_52 rfl rfl ?_
    refine x_ishl dX11_makes_53 ?_
    refine x_ior dX11_makes_54 ?_
    obtain ⟨I9, hI9, hf⟩ := f_lt hf
    refine x_iast (j0 := 6) dX11_makes_55 lm_1 (by decide +kernel) (by decide +kernel) hI9 ?_
    refine x_aload_n 2 dX11_makes_56 rfl rfl ?_
    refine x_getR dX11_makes_57 lm_0 fl_X11_7 rfl ?_
    refine x_iload_n 0 dX11_makes_60 rfl rfl ?_
    refine x_sipush (v := (9999)) dX11_makes_61 (by decide) ?_
    refine x_aload_n 2 dX11_makes_64 rfl rfl ?_
    refine x_getR dX11_makes_65 lm_0 fl_X11_7 rfl ?_
    refine x_iload_n 0 dX11_makes_68 rfl rfl ?_
    obtain ⟨h10, hf⟩ := f_gd hf
    refine x_iald (j := (w6).toNatClampNeg) (v := (I9 1 (w6).toNatClampNeg)) dX11_makes_69 lm_1 h10 rfl rfl ?_
    refine x_iload_n 1 dX11_makes_70 rfl rfl ?_
    refine x_iadd dX11_makes_71 ?_
    refine x_mmin dX11_makes_72 lk_X11_154 ⟨Nat.le_of_ble_eq_true rfl, Nat.le_of_ble_eq_true rfl⟩ ?_
    obtain ⟨I12, hI12, hf⟩ := f_lt hf
    refine x_iast (j0 := (w6).toNatClampNeg) dX11_makes_75 lm_1 h10 rfl hI12 ?_
    refine x_iload_n 1 dX11_makes_76 rfl rfl ?_
    cases hf
    exact x_iret dX11_makes_77 rfl rfl
  · replace hf := f_if hB hf
    refine x_iconst (v := (-1)) dX11_makes_15 (by decide) ?_
    cases hf
    exact x_iret dX11_makes_16 rfl rfl
set_option maxRecDepth 100000 in
set_option maxHeartbeats 4000000 in
theorem c_X11_make {I : z_I} {L : z_L} {p0 : Int32}  {r : Int32 × z_I} (hf : f_X11_make I p0 = some r) : z_C layM yX11_make cX11_make 3 (some .int) ({ frames := 6, cells := 0, slots := 0, locals := 135 } : Room) [.ref 0, .int p0] I L (some (.int r.1), r.2, L) := by
  refine z_C.of (by decide) (Nat.le_of_ble_eq_true rfl) ?_
  show z_X layM RX11 cX11_make 3 (some .int) ({ frames := 6, cells := 0, slots := 0, locals := 135 } : Room) 0 [(0, .ref 0), (1, .int p0)] [] I L (some (.int r.1), r.2, L)
  unfold f_X11_make at hf
  refine x_aload_n 0 dX11_make_0 rfl rfl ?_
  refine x_iload_n 1 dX11_make_1 rfl rfl ?_
  refine x_callVi [.int p0] (c_X11_isClaim (I := I) (L := L) p0) dX11_make_2 lk_X11_327 lm_0 rfl cd_X11_isClaim rfl rfl (Nat.le_of_ble_eq_true rfl) ⟨rfl, rfl, Nat.le_of_ble_eq_true rfl, Nat.le_of_ble_eq_true rfl⟩ ?_
  refine x_if_neB 14 dX11_make_5 (by decide) (fun hB => ?_) (fun hB => ?_)
  · replace hf := f_if hB hf
    refine x_aload_n 0 dX11_make_14 rfl rfl ?_
    refine x_iload_n 1 dX11_make_15 rfl rfl ?_
    obtain ⟨q1, hq2, hf⟩ := f_bd hf
    refine x_callVi [.int p0] (c_X11_makes (I := I) (L := L)  hq2) dX11_make_16 lk_X11_336 lm_0 rfl cd_X11_makes rfl rfl (Nat.le_of_ble_eq_true rfl) ⟨rfl, rfl, Nat.le_of_ble_eq_true rfl, Nat.le_of_ble_eq_true rfl⟩ ?_
    refine x_istore_n [(2, .int q1.1), (0, .ref 0), (1, .int p0)] dX11_make_19 rfl (by decide) rfl ?_
    refine x_iload_n 0 dX11_make_20 rfl rfl ?_
    refine x_iconst (v := (-1)) dX11_make_21 (by decide) ?_
    refine x_icmp_ne 34 dX11_make_22 (by decide) (fun hB => ?_) (fun hB => ?_)
    · replace hf := f_el hB hf
      refine x_aload_n 1 dX11_make_34 rfl rfl ?_
      refine x_iload_n 0 dX11_make_35 rfl rfl ?_
      refine x_callVi [.int q1.1] (c_X11_gives (I := q1.2) (L := L) q1.1) dX11_make_36 lk_X11_103 lm_0 rfl cd_X11_gives rfl rfl (Nat.le_of_ble_eq_true rfl) ⟨rfl, rfl, Nat.le_of_ble_eq_true rfl, Nat.le_of_ble_eq_true rfl⟩ ?_
      cases hf
      exact x_iret dX11_make_39 rfl rfl
    · replace hf := f_if hB hf
      refine x_aload_n 1 dX11_make_25 rfl rfl ?_
      refine x_bipush (v := (7)) dX11_make_26 (by decide) ?_
      refine x_callVi [.int (7 : Int32)] (c_X11_refuse (I := q1.2) (L := L) (7 : Int32)) dX11_make_28 lk_X11_99 lm_0 rfl cd_X11_refuse rfl rfl (Nat.le_of_ble_eq_true rfl) ⟨rfl, rfl, Nat.le_of_ble_eq_true rfl, Nat.le_of_ble_eq_true rfl⟩ ?_
      refine x_goto 39 dX11_make_31 (by decide) ?_
      cases hf
      exact x_iret dX11_make_39 rfl rfl
  · replace hf := f_el hB hf
    refine x_aload_n 0 dX11_make_8 rfl rfl ?_
    refine x_iconst (v := (1)) dX11_make_9 (by decide) ?_
    refine x_callVi [.int (1 : Int32)] (c_X11_refuse (I := I) (L := L) (1 : Int32)) dX11_make_10 lk_X11_99 lm_0 rfl cd_X11_refuse rfl rfl (Nat.le_of_ble_eq_true rfl) ⟨rfl, rfl, Nat.le_of_ble_eq_true rfl, Nat.le_of_ble_eq_true rfl⟩ ?_
    cases hf
    exact x_iret dX11_make_13 rfl rfl
set_option maxRecDepth 100000 in
set_option maxHeartbeats 4000000 in
theorem c_X11_recant {I : z_I} {L : z_L} {p0 : Int32}  {r : Int32 × z_I} (hf : f_X11_recant I p0 = some r) : z_C layM yX11_recant cX11_recant 2 (some .int) ({ frames := 1, cells := 0, slots := 0, locals := 22 } : Room) [.ref 0, .int p0] I L (some (.int r.1), r.2, L) := by
  refine z_C.of (by decide) (Nat.le_of_ble_eq_true rfl) ?_
  show z_X layM RX11 cX11_recant 2 (some .int) ({ frames := 1, cells := 0, slots := 0, locals := 22 } : Room) 0 [(0, .ref 0), (1, .int p0)] [] I L (some (.int r.1), r.2, L)
  unfold f_X11_recant at hf
  refine x_aload_n 0 dX11_recant_0 rfl rfl ?_
  refine x_iload_n 1 dX11_recant_1 rfl rfl ?_
  refine x_callVi [.int p0] (c_X11_isClaim (I := I) (L := L) p0) dX11_recant_2 lk_X11_327 lm_0 rfl cd_X11_isClaim rfl rfl (Nat.le_of_ble_eq_true rfl) ⟨rfl, rfl, Nat.le_of_ble_eq_true rfl, Nat.le_of_ble_eq_true rfl⟩ ?_
  refine x_if_neB 14 dX11_recant_5 (by decide) (fun hB => ?_) (fun hB => ?_)
  · replace hf := f_if hB hf
    refine x_aload_n 0 dX11_recant_14 rfl rfl ?_
    refine x_aload_n 0 dX11_recant_15 rfl rfl ?_
    refine x_getR dX11_recant_16 lm_0 fl_X11_7 rfl ?_
    refine x_bipush (v := (6)) dX11_recant_19 (by decide) ?_
    refine x_iald (j := 6) (v := (I 1 6)) dX11_recant_21 lm_1 (by decide +kernel) (by decide +kernel) rfl ?_
    refine x_iload_n 1 dX11_recant_22 rfl rfl ?_
    refine x_callVi [.int (I 1 6), .int p0] (c_X11_isIn (I := I) (L := L) (I 1 6) p0) dX11_recant_23 lk_X11_236 lm_0 rfl cd_X11_isIn rfl rfl (Nat.le_of_ble_eq_true rfl) ⟨rfl, rfl, Nat.le_of_ble_eq_true rfl, Nat.le_of_ble_eq_true rfl⟩ ?_
    refine x_if_neB 36 dX11_recant_26 (by decide) (fun hB => ?_) (fun hB => ?_)
    · replace hf := f_if hB hf
      refine x_aload_n 0 dX11_recant_36 rfl rfl ?_
      refine x_getR dX11_recant_37 lm_0 fl_X11_7 rfl ?_
      refine x_bipush (v := (6)) dX11_recant_40 (by decide) ?_
      refine x_dup2 dX11_recant_42 rfl rfl ?_
      refine x_iald (j := 6) (v := (I 1 6)) dX11_recant_43 lm_1 (by decide +kernel) (by decide +kernel) rfl ?_
      refine x_iconst (v := (1)) dX11_recant_44 (by decide) ?_
      refine x_iload_n 1 dX11_recant_45 rfl rfl ?_
      refine x_ishl dX11_recant_46 ?_
      refine x_iconst (v := (-1)) dX11_recant_47 (by decide) ?_
      refine x_ixor dX11_recant_48 ?_
      refine x_iand dX11_recant_49 ?_
      obtain ⟨I4, hI4, hf⟩ := f_lt hf
      refine x_iast (j0 := 6) dX11_recant_50 lm_1 (by decide +kernel) (by decide +kernel) hI4 ?_
      refine x_aload_n 0 dX11_recant_51 rfl rfl ?_
      refine x_aload_n 0 dX11_recant_52 rfl rfl ?_
      refine x_getR dX11_recant_53 lm_0 fl_X11_7 rfl ?_
      refine x_bipush (v := (6)) dX11_recant_56 (by decide) ?_
      refine x_iald (j := 6) (v := ((I 1 6) &&& (((1 : Int32) <<< (p0 &&& 31)) ^^^ (-1 : Int32)))) dX11_recant_58 lm_1 (by decide +kernel) (by decide +kernel) (by rw [hI4, z2_s, z1_s]) ?_
      obtain ⟨q6, hq7, hf⟩ := f_bd hf
      refine x_callSi [.int ((I 1 6) &&& (((1 : Int32) <<< (p0 &&& 31)) ^^^ (-1 : Int32)))] (c_X11_bits (I := I4) (L := L)  hq7) dX11_recant_59 lk_X11_312 cd_X11_bits rfl rfl (Nat.le_of_ble_eq_true rfl) ⟨rfl, rfl, Nat.le_of_ble_eq_true rfl, Nat.le_of_ble_eq_true rfl⟩ ?_
      refine x_callVi [.int q6] (c_X11_gives (I := I4) (L := L) q6) dX11_recant_62 lk_X11_103 lm_0 rfl cd_X11_gives rfl rfl (Nat.le_of_ble_eq_true rfl) ⟨rfl, rfl, Nat.le_of_ble_eq_true rfl, Nat.le_of_ble_eq_true rfl⟩ ?_
      cases hf
      exact x_iret dX11_recant_65 rfl rfl
    · replace hf := f_el hB hf
      refine x_aload_n 0 dX11_recant_29 rfl rfl ?_
      refine x_bipush (v := (7)) dX11_recant_30 (by decide) ?_
      refine x_callVi [.int (7 : Int32)] (c_X11_refuse (I := I) (L := L) (7 : Int32)) dX11_recant_32 lk_X11_99 lm_0 rfl cd_X11_refuse rfl rfl (Nat.le_of_ble_eq_true rfl) ⟨rfl, rfl, Nat.le_of_ble_eq_true rfl, Nat.le_of_ble_eq_true rfl⟩ ?_
      cases hf
      exact x_iret dX11_recant_35 rfl rfl
  · replace hf := f_el hB hf
    refine x_aload_n 0 dX11_recant_8 rfl rfl ?_
    refine x_iconst (v := (1)) dX11_recant_9 (by decide) ?_
    refine x_callVi [.int (1 : Int32)] (c_X11_refuse (I := I) (L := L) (1 : Int32)) dX11_recant_10 lk_X11_99 lm_0 rfl cd_X11_refuse rfl rfl (Nat.le_of_ble_eq_true rfl) ⟨rfl, rfl, Nat.le_of_ble_eq_true rfl, Nat.le_of_ble_eq_true rfl⟩ ?_
    cases hf
    exact x_iret dX11_recant_13 rfl rfl
set_option maxRecDepth 100000 in
set_option maxHeartbeats 4000000 in
theorem c_X11_forgets {I : z_I} {L : z_L}   {r : Int32 × z_I} (hf : f_X11_forgets I = some r) : z_C layM yX11_forgets cX11_forgets 2 (some .int) ({ frames := 1, cells := 0, slots := 0, locals := 22 } : Room) [.ref 0] I L (some (.int r.1), r.2, L) := by
  refine z_C.of (by decide) (Nat.le_of_ble_eq_true rfl) ?_
  show z_X layM RX11 cX11_forgets 2 (some .int) ({ frames := 1, cells := 0, slots := 0, locals := 22 } : Room) 0 [(0, .ref 0)] [] I L (some (.int r.1), r.2, L)
  unfold f_X11_forgets at hf
  refine x_aload_n 0 dX11_forgets_0 rfl rfl ?_
  refine x_getR dX11_forgets_1 lm_0 fl_X11_7 rfl ?_
  refine x_bipush (v := (6)) dX11_forgets_4 (by decide) ?_
  refine x_iald (j := 6) (v := (I 1 6)) dX11_forgets_6 lm_1 (by decide +kernel) (by decide +kernel) rfl ?_
  obtain ⟨q2, hq3, hf⟩ := f_bd hf
  refine x_callSi [.int (I 1 6)] (c_X11_bits (I := I) (L := L)  hq3) dX11_forgets_7 lk_X11_312 cd_X11_bits rfl rfl (Nat.le_of_ble_eq_true rfl) ⟨rfl, rfl, Nat.le_of_ble_eq_true rfl, Nat.le_of_ble_eq_true rfl⟩ ?_
  refine x_istore_n [(1, .int q2), (0, .ref 0)] dX11_forgets_10 rfl (by decide) rfl ?_
  refine x_aload_n 1 dX11_forgets_11 rfl rfl ?_
  refine x_getR dX11_forgets_12 lm_0 fl_X11_7 rfl ?_
  refine x_bipush (v := (6)) dX11_forgets_15 (by decide) ?_
  refine x_iconst (v := (0)) dX11_forgets_17 (by decide) ?_
  obtain ⟨I5, hI5, hf⟩ := f_lt hf
  refine x_iast (j0 := 6) dX11_forgets_18 lm_1 (by decide +kernel) (by decide +kernel) hI5 ?_
  refine x_iload_n 0 dX11_forgets_19 rfl rfl ?_
  cases hf
  exact x_iret dX11_forgets_20 rfl rfl
set_option maxRecDepth 100000 in
set_option maxHeartbeats 4000000 in
theorem c_X11_forget {I : z_I} {L : z_L}   {r : Int32 × z_I} (hf : f_X11_forget I = some r) : z_C layM yX11_forget cX11_forget 2 (some .int) ({ frames := 2, cells := 0, slots := 0, locals := 43 } : Room) [.ref 0] I L (some (.int r.1), r.2, L) := by
  refine z_C.of (by decide) (Nat.le_of_ble_eq_true rfl) ?_
  show z_X layM RX11 cX11_forget 2 (some .int) ({ frames := 2, cells := 0, slots := 0, locals := 43 } : Room) 0 [(0, .ref 0)] [] I L (some (.int r.1), r.2, L)
  unfold f_X11_forget at hf
  refine x_aload_n 0 dX11_forget_0 rfl rfl ?_
  obtain ⟨q1, hq2, hf⟩ := f_bd hf
  refine x_callVi [] (c_X11_forgets (I := I) (L := L)  hq2) dX11_forget_1 lk_X11_339 lm_0 rfl cd_X11_forgets rfl rfl (Nat.le_of_ble_eq_true rfl) ⟨rfl, rfl, Nat.le_of_ble_eq_true rfl, Nat.le_of_ble_eq_true rfl⟩ ?_
  refine x_istore_n [(1, .int q1.1), (0, .ref 0)] dX11_forget_4 rfl (by decide) rfl ?_
  refine x_iload_n 0 dX11_forget_5 rfl rfl ?_
  refine x_if_ne 18 dX11_forget_6 (by decide) (fun hB => ?_) (fun hB => ?_)
  · replace hf := f_el hB hf
    refine x_aload_n 1 dX11_forget_18 rfl rfl ?_
    refine x_iload_n 0 dX11_forget_19 rfl rfl ?_
    refine x_callVi [.int q1.1] (c_X11_gives (I := q1.2) (L := L) q1.1) dX11_forget_20 lk_X11_103 lm_0 rfl cd_X11_gives rfl rfl (Nat.le_of_ble_eq_true rfl) ⟨rfl, rfl, Nat.le_of_ble_eq_true rfl, Nat.le_of_ble_eq_true rfl⟩ ?_
    cases hf
    exact x_iret dX11_forget_23 rfl rfl
  · replace hf := f_if hB hf
    refine x_aload_n 1 dX11_forget_9 rfl rfl ?_
    refine x_bipush (v := (7)) dX11_forget_10 (by decide) ?_
    refine x_callVi [.int (7 : Int32)] (c_X11_refuse (I := q1.2) (L := L) (7 : Int32)) dX11_forget_12 lk_X11_99 lm_0 rfl cd_X11_refuse rfl rfl (Nat.le_of_ble_eq_true rfl) ⟨rfl, rfl, Nat.le_of_ble_eq_true rfl, Nat.le_of_ble_eq_true rfl⟩ ?_
    refine x_goto 23 dX11_forget_15 (by decide) ?_
    cases hf
    exact x_iret dX11_forget_23 rfl rfl
set_option maxRecDepth 100000 in
set_option maxHeartbeats 4000000 in
theorem c_X11_walks {I : z_I} {L : z_L} {p0 : Int32} {p1 : Int32}  {r : Bool × z_I} (hf : f_X11_walks I p0 p1 = some r) : z_C layM yX11_walks cX11_walks 4 (some .boolean) ({ frames := 1, cells := 0, slots := 0, locals := 20 } : Room) [.ref 0, .int p0, .int p1] I L (some (.int (zb r.1)), r.2, L) := by
  refine z_C.of (by decide) (Nat.le_of_ble_eq_true rfl) ?_
  show z_X layM RX11 cX11_walks 4 (some .boolean) ({ frames := 1, cells := 0, slots := 0, locals := 20 } : Room) 0 [(0, .ref 0), (1, .int p0), (2, .int p1)] [] I L (some (.int (zb r.1)), r.2, L)
  unfold f_X11_walks at hf
  refine x_aload_n 0 dX11_walks_0 rfl rfl ?_
  refine x_getR dX11_walks_1 lm_0 fl_X11_7 rfl ?_
  refine x_iload_n 1 dX11_walks_4 rfl rfl ?_
  refine x_callSi [.int p0] (c_X11_scholarRow (I := I) (L := L) p0) dX11_walks_5 lk_X11_242 cd_X11_scholarRow rfl rfl (Nat.le_of_ble_eq_true rfl) ⟨rfl, rfl, Nat.le_of_ble_eq_true rfl, Nat.le_of_ble_eq_true rfl⟩ ?_
  obtain ⟨h1, hf⟩ := f_gd hf
  refine x_iald (j := ((f_X11_scholarRow p0)).toNatClampNeg) (v := (I 1 ((f_X11_scholarRow p0)).toNatClampNeg)) dX11_walks_8 lm_1 h1 rfl rfl ?_
  refine x_iload_n 2 dX11_walks_9 rfl rfl ?_
  refine x_icmp_eq 17 dX11_walks_10 (by decide) (fun hB => ?_) (fun hB => ?_)
  · replace hf := f_if hB hf
    refine x_iconst (v := (0)) dX11_walks_17 (by decide) ?_
    refine x_istore_n [(3, .int (0 : Int32)), (0, .ref 0), (1, .int p0), (2, .int p1)] dX11_walks_18 rfl (by decide) rfl ?_
    refine x_aload_n 1 dX11_walks_19 rfl rfl ?_
    refine x_getR dX11_walks_20 lm_0 fl_X11_7 rfl ?_
    refine x_iload_n 2 dX11_walks_23 rfl rfl ?_
    refine x_callSi [.int p0] (c_X11_scholarRow (I := I) (L := L) p0) dX11_walks_24 lk_X11_242 cd_X11_scholarRow rfl rfl (Nat.le_of_ble_eq_true rfl) ⟨rfl, rfl, Nat.le_of_ble_eq_true rfl, Nat.le_of_ble_eq_true rfl⟩ ?_
    refine x_iload_n 3 dX11_walks_27 rfl rfl ?_
    obtain ⟨I3, hI3, hf⟩ := f_lt hf
    refine x_iast (j0 := ((f_X11_scholarRow p0)).toNatClampNeg) dX11_walks_28 lm_1 h1 rfl hI3 ?_
    refine x_iload_n 0 dX11_walks_29 rfl rfl ?_
    cases hf
    exact x_zret (b := false) dX11_walks_30 rfl rfl
  · replace hf := f_el hB hf
    refine x_iconst (v := (1)) dX11_walks_13 (by decide) ?_
    refine x_goto 18 dX11_walks_14 (by decide) ?_
    refine x_istore_n [(3, .int (1 : Int32)), (0, .ref 0), (1, .int p0), (2, .int p1)] dX11_walks_18 rfl (by decide) rfl ?_
    refine x_aload_n 1 dX11_walks_19 rfl rfl ?_
    refine x_getR dX11_walks_20 lm_0 fl_X11_7 rfl ?_
    refine x_iload_n 2 dX11_walks_23 rfl rfl ?_
    refine x_callSi [.int p0] (c_X11_scholarRow (I := I) (L := L) p0) dX11_walks_24 lk_X11_242 cd_X11_scholarRow rfl rfl (Nat.le_of_ble_eq_true rfl) ⟨rfl, rfl, Nat.le_of_ble_eq_true rfl, Nat.le_of_ble_eq_true rfl⟩ ?_
    refine x_iload_n 3 dX11_walks_27 rfl rfl ?_
    obtain ⟨I5, hI5, hf⟩ := f_lt hf
    refine x_iast (j0 := ((f_X11_scholarRow p0)).toNatClampNeg) dX11_walks_28 lm_1 h1 rfl hI5 ?_
    refine x_iload_n 0 dX11_walks_29 rfl rfl ?_
    cases hf
    exact x_zret (b := true) dX11_walks_30 rfl rfl
set_option maxRecDepth 100000 in
set_option maxHeartbeats 4000000 in
theorem c_X11_walk {I : z_I} {L : z_L} {p0 : Int32} {p1 : Int32}  {r : Int32 × z_I} (hf : f_X11_walk I p0 p1 = some r) : z_C layM yX11_walk cX11_walk 4 (some .int) ({ frames := 2, cells := 0, slots := 0, locals := 43 } : Room) [.ref 0, .int p0, .int p1] I L (some (.int r.1), r.2, L) := by
  refine z_C.of (by decide) (Nat.le_of_ble_eq_true rfl) ?_
  show z_X layM RX11 cX11_walk 4 (some .int) ({ frames := 2, cells := 0, slots := 0, locals := 43 } : Room) 0 [(0, .ref 0), (1, .int p0), (2, .int p1)] [] I L (some (.int r.1), r.2, L)
  unfold f_X11_walk at hf
  refine x_aload_n 0 dX11_walk_0 rfl rfl ?_
  refine x_iload_n 1 dX11_walk_1 rfl rfl ?_
  refine x_callVi [.int p0] (c_X11_isScholar (I := I) (L := L) p0) dX11_walk_2 lk_X11_333 lm_0 rfl cd_X11_isScholar rfl rfl (Nat.le_of_ble_eq_true rfl) ⟨rfl, rfl, Nat.le_of_ble_eq_true rfl, Nat.le_of_ble_eq_true rfl⟩ ?_
  refine x_if_eqB 16 dX11_walk_5 (by decide) (fun hB => ?_) (fun hB => ?_)
  · replace hf := f_el hB hf
    refine x_aload_n 0 dX11_walk_16 rfl rfl ?_
    refine x_iconst (v := (1)) dX11_walk_17 (by decide) ?_
    refine x_callVi [.int (1 : Int32)] (c_X11_refuse (I := I) (L := L) (1 : Int32)) dX11_walk_18 lk_X11_99 lm_0 rfl cd_X11_refuse rfl rfl (Nat.le_of_ble_eq_true rfl) ⟨rfl, rfl, Nat.le_of_ble_eq_true rfl, Nat.le_of_ble_eq_true rfl⟩ ?_
    cases hf
    exact x_iret dX11_walk_21 rfl rfl
  · replace hf := f_if hB hf
    refine x_aload_n 0 dX11_walk_8 rfl rfl ?_
    refine x_iload_n 2 dX11_walk_9 rfl rfl ?_
    refine x_callVi [.int p1] (c_X11_isBed (I := I) (L := L) p1) dX11_walk_10 lk_X11_321 lm_0 rfl cd_X11_isBed rfl rfl (Nat.le_of_ble_eq_true rfl) ⟨rfl, rfl, Nat.le_of_ble_eq_true rfl, Nat.le_of_ble_eq_true rfl⟩ ?_
    refine x_if_neB 22 dX11_walk_13 (by decide) (fun hB => ?_) (fun hB => ?_)
    · replace hf := f_if hB hf
      refine x_iload_n 2 dX11_walk_22 rfl rfl ?_
      refine x_aload_n 0 dX11_walk_23 rfl rfl ?_
      refine x_getR dX11_walk_24 lm_0 fl_X11_7 rfl ?_
      refine x_iload_n 1 dX11_walk_27 rfl rfl ?_
      refine x_callSi [.int p0] (c_X11_scholarRow (I := I) (L := L) p0) dX11_walk_28 lk_X11_242 cd_X11_scholarRow rfl rfl (Nat.le_of_ble_eq_true rfl) ⟨rfl, rfl, Nat.le_of_ble_eq_true rfl, Nat.le_of_ble_eq_true rfl⟩ ?_
      obtain ⟨h1, hf⟩ := f_gd hf
      refine x_iald (j := ((f_X11_scholarRow p0)).toNatClampNeg) (v := (I 1 ((f_X11_scholarRow p0)).toNatClampNeg)) dX11_walk_31 lm_1 h1 rfl rfl ?_
      refine x_isub dX11_walk_32 ?_
      obtain ⟨w2, hw2, hf⟩ := f_lt hf
      refine x_topI hw2 ?_
      refine x_istore_n [(3, .int w2), (0, .ref 0), (1, .int p0), (2, .int p1)] dX11_walk_33 rfl (by decide) rfl ?_
      refine x_aload_n 1 dX11_walk_34 rfl rfl ?_
      refine x_iload_n 2 dX11_walk_35 rfl rfl ?_
      refine x_iload_n 3 dX11_walk_36 rfl rfl ?_
      obtain ⟨q3, hq4, hf⟩ := f_bd hf
      refine x_callVi [.int p0, .int p1] (c_X11_walks (I := I) (L := L)  hq4) dX11_walk_37 lk_X11_342 lm_0 rfl cd_X11_walks rfl rfl (Nat.le_of_ble_eq_true rfl) ⟨rfl, rfl, Nat.le_of_ble_eq_true rfl, Nat.le_of_ble_eq_true rfl⟩ ?_
      refine x_if_eqB 56 dX11_walk_40 (by decide) (fun hB => ?_) (fun hB => ?_)
      · replace hf := f_el hB hf
        refine x_aload_n 1 dX11_walk_56 rfl rfl ?_
        refine x_bipush (v := (7)) dX11_walk_57 (by decide) ?_
        refine x_callVi [.int (7 : Int32)] (c_X11_refuse (I := q3.2) (L := L) (7 : Int32)) dX11_walk_59 lk_X11_99 lm_0 rfl cd_X11_refuse rfl rfl (Nat.le_of_ble_eq_true rfl) ⟨rfl, rfl, Nat.le_of_ble_eq_true rfl, Nat.le_of_ble_eq_true rfl⟩ ?_
        cases hf
        exact x_iret dX11_walk_62 rfl rfl
      · replace hf := f_if hB hf
        refine x_aload_n 1 dX11_walk_43 rfl rfl ?_
        refine x_iload_n 0 dX11_walk_44 rfl rfl ?_
        refine x_iload_n 0 dX11_walk_45 rfl rfl ?_
        refine x_ineg dX11_walk_46 ?_
        refine x_mmax dX11_walk_47 lk_X11_345 ⟨Nat.le_of_ble_eq_true rfl, Nat.le_of_ble_eq_true rfl⟩ ?_
        refine x_callVi [.int (z_max w2 (-w2))] (c_X11_gives (I := q3.2) (L := L) (z_max w2 (-w2))) dX11_walk_50 lk_X11_103 lm_0 rfl cd_X11_gives rfl rfl (Nat.le_of_ble_eq_true rfl) ⟨rfl, rfl, Nat.le_of_ble_eq_true rfl, Nat.le_of_ble_eq_true rfl⟩ ?_
        refine x_goto 62 dX11_walk_53 (by decide) ?_
        cases hf
        exact x_iret dX11_walk_62 rfl rfl
    · replace hf := f_el hB hf
      refine x_aload_n 0 dX11_walk_16 rfl rfl ?_
      refine x_iconst (v := (1)) dX11_walk_17 (by decide) ?_
      refine x_callVi [.int (1 : Int32)] (c_X11_refuse (I := I) (L := L) (1 : Int32)) dX11_walk_18 lk_X11_99 lm_0 rfl cd_X11_refuse rfl rfl (Nat.le_of_ble_eq_true rfl) ⟨rfl, rfl, Nat.le_of_ble_eq_true rfl, Nat.le_of_ble_eq_true rfl⟩ ?_
      cases hf
      exact x_iret dX11_walk_21 rfl rfl
set_option maxRecDepth 100000 in
set_option maxHeartbeats 4000000 in
theorem c_X11_picks {I : z_I} {L : z_L} {p0 : Int32}  {r : Int32 × z_I} (hf : f_X11_picks I p0 = some r) : z_C layM yX11_picks cX11_picks 4 (some .int) ({ frames := 1, cells := 0, slots := 0, locals := 28 } : Room) [.ref 0, .int p0] I L (some (.int r.1), r.2, L) := by
  refine z_C.of (by decide) (Nat.le_of_ble_eq_true rfl) ?_
  show z_X layM RX11 cX11_picks 4 (some .int) ({ frames := 1, cells := 0, slots := 0, locals := 28 } : Room) 0 [(0, .ref 0), (1, .int p0)] [] I L (some (.int r.1), r.2, L)
  unfold f_X11_picks at hf
  refine x_aload_n 0 dX11_picks_0 rfl rfl ?_
  refine x_getR dX11_picks_1 lm_0 fl_X11_7 rfl ?_
  refine x_iload_n 1 dX11_picks_4 rfl rfl ?_
  refine x_callSi [.int p0] (c_X11_scholarRow (I := I) (L := L) p0) dX11_picks_5 lk_X11_242 cd_X11_scholarRow rfl rfl (Nat.le_of_ble_eq_true rfl) ⟨rfl, rfl, Nat.le_of_ble_eq_true rfl, Nat.le_of_ble_eq_true rfl⟩ ?_
  obtain ⟨h1, hf⟩ := f_gd hf
  refine x_iald (j := ((f_X11_scholarRow p0)).toNatClampNeg) (v := (I 1 ((f_X11_scholarRow p0)).toNatClampNeg)) dX11_picks_8 lm_1 h1 rfl rfl ?_
  refine x_callSi [.int (I 1 ((f_X11_scholarRow p0)).toNatClampNeg)] (c_X11_bedRow (I := I) (L := L) (I 1 ((f_X11_scholarRow p0)).toNatClampNeg)) dX11_picks_9 lk_X11_216 cd_X11_bedRow rfl rfl (Nat.le_of_ble_eq_true rfl) ⟨rfl, rfl, Nat.le_of_ble_eq_true rfl, Nat.le_of_ble_eq_true rfl⟩ ?_
  obtain ⟨w2, hw2, hf⟩ := f_lt hf
  refine x_topI hw2 ?_
  refine x_istore_n [(2, .int w2), (0, .ref 0), (1, .int p0)] dX11_picks_12 rfl (by decide) rfl ?_
  refine x_aload_n 1 dX11_picks_13 rfl rfl ?_
  refine x_getR dX11_picks_14 lm_0 fl_X11_7 rfl ?_
  refine x_iload_n 0 dX11_picks_17 rfl rfl ?_
  obtain ⟨h3, hf⟩ := f_gd hf
  refine x_iald (j := (w2).toNatClampNeg) (v := (I 1 (w2).toNatClampNeg)) dX11_picks_18 lm_1 h3 rfl rfl ?_
  refine x_istore_n [(3, .int (I 1 (w2).toNatClampNeg)), (2, .int w2), (0, .ref 0), (1, .int p0)] dX11_picks_19 rfl (by decide) rfl ?_
  refine x_aload_n 2 dX11_picks_20 rfl rfl ?_
  refine x_getR dX11_picks_21 lm_0 fl_X11_7 rfl ?_
  refine x_iload_n 1 dX11_picks_24 rfl rfl ?_
  refine x_iconst (v := (0)) dX11_picks_25 (by decide) ?_
  obtain ⟨I5, hI5, hf⟩ := f_lt hf
  refine x_iast (j0 := (w2).toNatClampNeg) dX11_picks_26 lm_1 h3 rfl hI5 ?_
  refine x_aload_n 2 dX11_picks_27 rfl rfl ?_
  refine x_getR dX11_picks_28 lm_0 fl_X11_7 rfl ?_
  refine x_iload_n 3 dX11_picks_31 rfl rfl ?_
  refine x_callSi [.int p0] (c_X11_scholarRow (I := I5) (L := L) p0) dX11_picks_32 lk_X11_242 cd_X11_scholarRow rfl rfl (Nat.le_of_ble_eq_true rfl) ⟨rfl, rfl, Nat.le_of_ble_eq_true rfl, Nat.le_of_ble_eq_true rfl⟩ ?_
  refine x_iconst (v := (1)) dX11_picks_35 (by decide) ?_
  refine x_iadd dX11_picks_36 ?_
  refine x_sipush (v := (9999)) dX11_picks_37 (by decide) ?_
  refine x_aload_n 2 dX11_picks_40 rfl rfl ?_
  refine x_getR dX11_picks_41 lm_0 fl_X11_7 rfl ?_
  refine x_iload_n 3 dX11_picks_44 rfl rfl ?_
  refine x_callSi [.int p0] (c_X11_scholarRow (I := I5) (L := L) p0) dX11_picks_45 lk_X11_242 cd_X11_scholarRow rfl rfl (Nat.le_of_ble_eq_true rfl) ⟨rfl, rfl, Nat.le_of_ble_eq_true rfl, Nat.le_of_ble_eq_true rfl⟩ ?_
  refine x_iconst (v := (1)) dX11_picks_48 (by decide) ?_
  refine x_iadd dX11_picks_49 ?_
  obtain ⟨h6, hf⟩ := f_gd hf
  refine x_iald (j := (((f_X11_scholarRow p0) + (1 : Int32))).toNatClampNeg) (v := (I5 1 (((f_X11_scholarRow p0) + (1 : Int32))).toNatClampNeg)) dX11_picks_50 lm_1 h6 rfl rfl ?_
  refine x_iload_n 0 dX11_picks_51 rfl rfl ?_
  refine x_iadd dX11_picks_52 ?_
  refine x_mmin dX11_picks_53 lk_X11_154 ⟨Nat.le_of_ble_eq_true rfl, Nat.le_of_ble_eq_true rfl⟩ ?_
  obtain ⟨I8, hI8, hf⟩ := f_lt hf
  refine x_iast (j0 := (((f_X11_scholarRow p0) + (1 : Int32))).toNatClampNeg) dX11_picks_56 lm_1 h6 rfl hI8 ?_
  refine x_iload_n 0 dX11_picks_57 rfl rfl ?_
  cases hf
  exact x_iret dX11_picks_58 rfl rfl
set_option maxRecDepth 100000 in
set_option maxHeartbeats 4000000 in
theorem c_X11_pick {I : z_I} {L : z_L} {p0 : Int32}  {r : Int32 × z_I} (hf : f_X11_pick I p0 = some r) : z_C layM yX11_pick cX11_pick 3 (some .int) ({ frames := 2, cells := 0, slots := 0, locals := 51 } : Room) [.ref 0, .int p0] I L (some (.int r.1), r.2, L) := by
  refine z_C.of (by decide) (Nat.le_of_ble_eq_true rfl) ?_
  show z_X layM RX11 cX11_pick 3 (some .int) ({ frames := 2, cells := 0, slots := 0, locals := 51 } : Room) 0 [(0, .ref 0), (1, .int p0)] [] I L (some (.int r.1), r.2, L)
  unfold f_X11_pick at hf
  refine x_aload_n 0 dX11_pick_0 rfl rfl ?_
  refine x_iload_n 1 dX11_pick_1 rfl rfl ?_
  refine x_callVi [.int p0] (c_X11_isScholar (I := I) (L := L) p0) dX11_pick_2 lk_X11_333 lm_0 rfl cd_X11_isScholar rfl rfl (Nat.le_of_ble_eq_true rfl) ⟨rfl, rfl, Nat.le_of_ble_eq_true rfl, Nat.le_of_ble_eq_true rfl⟩ ?_
  refine x_if_neB 14 dX11_pick_5 (by decide) (fun hB => ?_) (fun hB => ?_)
  · replace hf := f_if hB hf
    refine x_aload_n 0 dX11_pick_14 rfl rfl ?_
    refine x_iload_n 1 dX11_pick_15 rfl rfl ?_
    obtain ⟨q1, hq2, hf⟩ := f_bd hf
    refine x_callVi [.int p0] (c_X11_picks (I := I) (L := L)  hq2) dX11_pick_16 lk_X11_348 lm_0 rfl cd_X11_picks rfl rfl (Nat.le_of_ble_eq_true rfl) ⟨rfl, rfl, Nat.le_of_ble_eq_true rfl, Nat.le_of_ble_eq_true rfl⟩ ?_
    refine x_istore_n [(2, .int q1.1), (0, .ref 0), (1, .int p0)] dX11_pick_19 rfl (by decide) rfl ?_
    refine x_iload_n 0 dX11_pick_20 rfl rfl ?_
    refine x_if_ne 33 dX11_pick_21 (by decide) (fun hB => ?_) (fun hB => ?_)
    · replace hf := f_el hB hf
      refine x_aload_n 1 dX11_pick_33 rfl rfl ?_
      refine x_iload_n 0 dX11_pick_34 rfl rfl ?_
      refine x_callVi [.int q1.1] (c_X11_gives (I := q1.2) (L := L) q1.1) dX11_pick_35 lk_X11_103 lm_0 rfl cd_X11_gives rfl rfl (Nat.le_of_ble_eq_true rfl) ⟨rfl, rfl, Nat.le_of_ble_eq_true rfl, Nat.le_of_ble_eq_true rfl⟩ ?_
      cases hf
      exact x_iret dX11_pick_38 rfl rfl
    · replace hf := f_if hB hf
      refine x_aload_n 1 dX11_pick_24 rfl rfl ?_
      refine x_bipush (v := (7)) dX11_pick_25 (by decide) ?_
      refine x_callVi [.int (7 : Int32)] (c_X11_refuse (I := q1.2) (L := L) (7 : Int32)) dX11_pick_27 lk_X11_99 lm_0 rfl cd_X11_refuse rfl rfl (Nat.le_of_ble_eq_true rfl) ⟨rfl, rfl, Nat.le_of_ble_eq_true rfl, Nat.le_of_ble_eq_true rfl⟩ ?_
      refine x_goto 38 dX11_pick_30 (by decide) ?_
      cases hf
      exact x_iret dX11_pick_38 rfl rfl
  · replace hf := f_el hB hf
    refine x_aload_n 0 dX11_pick_8 rfl rfl ?_
    refine x_iconst (v := (1)) dX11_pick_9 (by decide) ?_
    refine x_callVi [.int (1 : Int32)] (c_X11_refuse (I := I) (L := L) (1 : Int32)) dX11_pick_10 lk_X11_99 lm_0 rfl cd_X11_refuse rfl rfl (Nat.le_of_ble_eq_true rfl) ⟨rfl, rfl, Nat.le_of_ble_eq_true rfl, Nat.le_of_ble_eq_true rfl⟩ ?_
    cases hf
    exact x_iret dX11_pick_13 rfl rfl
set_option maxRecDepth 100000 in
set_option maxHeartbeats 4000000 in
theorem l_X11_nightGoes_2    (L : z_L) {r : z_I} (k68 : z_I → Option (z_I)) (hk68 : ∀ (I : z_I), k68 I = some r → z_X layM RX11 cX11_nightGoes 3 (none) ({ frames := 1, cells := 0, slots := 0, locals := 28 } : Room) 68 [(0, .ref 0)] [] I L (none, r, L)) : ∀ (n : Nat) (v1 : Int32) (I : z_I), g_X11_nightGoes_2  k68 n v1 I = some r → z_X layM RX11 cX11_nightGoes 3 (none) ({ frames := 1, cells := 0, slots := 0, locals := 28 } : Room) 2 [(0, .ref 0), (1, .int v1)] [] I L (none, r, L) := by
  intro n
  induction n with
  | zero => intro v1 I hf; cases hf
  | succ n ih =>
    intro v1 I hf
    rw [g_X11_nightGoes_2] at hf
    refine x_iload_n 1 dX11_nightGoes_2 rfl rfl ?_
    refine x_aload_n 0 dX11_nightGoes_3 rfl rfl ?_
    refine x_getR dX11_nightGoes_4 lm_0 fl_X11_7 rfl ?_
    refine x_iconst (v := (0)) dX11_nightGoes_7 (by decide) ?_
    refine x_iald (j := 0) (v := (I 1 0)) dX11_nightGoes_8 lm_1 (by decide +kernel) (by decide +kernel) rfl ?_
    refine x_icmp_ge 68 dX11_nightGoes_9 (by decide) (fun hB => ?_) (fun hB => ?_)
    · replace hf := f_if hB hf
      refine x_lv [(0, .ref 0)] [0] rfl ?_
      exact hk68 _ hf
    · replace hf := f_el hB hf
      refine x_iload_n 1 dX11_nightGoes_12 rfl rfl ?_
      refine x_callSi [.int v1] (c_X11_bedRow (I := I) (L := L) v1) dX11_nightGoes_13 lk_X11_216 cd_X11_bedRow rfl rfl (Nat.le_of_ble_eq_true rfl) ⟨rfl, rfl, Nat.le_of_ble_eq_true rfl, Nat.le_of_ble_eq_true rfl⟩ ?_
      refine x_istore_n [(2, .int (f_X11_bedRow v1)), (0, .ref 0), (1, .int v1)] dX11_nightGoes_16 rfl (by decide) rfl ?_
      refine x_aload_n 1 dX11_nightGoes_17 rfl rfl ?_
      refine x_getR dX11_nightGoes_18 lm_0 fl_X11_7 rfl ?_
      refine x_iload_n 0 dX11_nightGoes_21 rfl rfl ?_
      obtain ⟨h2, hf⟩ := f_gd hf
      refine x_iald (j := ((f_X11_bedRow v1)).toNatClampNeg) (v := (I 1 ((f_X11_bedRow v1)).toNatClampNeg)) dX11_nightGoes_22 lm_1 h2 rfl rfl ?_
      refine x_if_ne 29 dX11_nightGoes_23 (by decide) (fun hB => ?_) (fun hB => ?_)
      · replace hf := f_el hB hf
        refine x_aload_n 1 dX11_nightGoes_29 rfl rfl ?_
        refine x_getR dX11_nightGoes_30 lm_0 fl_X11_7 rfl ?_
        refine x_iload_n 0 dX11_nightGoes_33 rfl rfl ?_
        refine x_dup2 dX11_nightGoes_34 rfl rfl ?_
        refine x_iald (j := ((f_X11_bedRow v1)).toNatClampNeg) (v := (I 1 ((f_X11_bedRow v1)).toNatClampNeg)) dX11_nightGoes_35 lm_1 h2 rfl rfl ?_
        refine x_iconst (v := (1)) dX11_nightGoes_36 (by decide) ?_
        refine x_isub dX11_nightGoes_37 ?_
        obtain ⟨I5, hI5, hf⟩ := f_lt hf
        refine x_iast (j0 := ((f_X11_bedRow v1)).toNatClampNeg) dX11_nightGoes_38 lm_1 h2 rfl hI5 ?_
        refine x_aload_n 1 dX11_nightGoes_39 rfl rfl ?_
        refine x_getR dX11_nightGoes_40 lm_0 fl_X11_7 rfl ?_
        refine x_iload_n 0 dX11_nightGoes_43 rfl rfl ?_
        refine x_iconst (v := (1)) dX11_nightGoes_44 (by decide) ?_
        refine x_iadd dX11_nightGoes_45 ?_
        refine x_bipush (v := (99)) dX11_nightGoes_46 (by decide) ?_
        refine x_aload_n 1 dX11_nightGoes_48 rfl rfl ?_
        refine x_getR dX11_nightGoes_49 lm_0 fl_X11_7 rfl ?_
        refine x_iload_n 0 dX11_nightGoes_52 rfl rfl ?_
        refine x_iconst (v := (1)) dX11_nightGoes_53 (by decide) ?_
        refine x_iadd dX11_nightGoes_54 ?_
        obtain ⟨h6, hf⟩ := f_gd hf
        refine x_iald (j := (((f_X11_bedRow v1) + (1 : Int32))).toNatClampNeg) (v := (I5 1 (((f_X11_bedRow v1) + (1 : Int32))).toNatClampNeg)) dX11_nightGoes_55 lm_1 h6 rfl rfl ?_
        refine x_iconst (v := (1)) dX11_nightGoes_56 (by decide) ?_
        refine x_iadd dX11_nightGoes_57 ?_
        refine x_mmin dX11_nightGoes_58 lk_X11_154 ⟨Nat.le_of_ble_eq_true rfl, Nat.le_of_ble_eq_true rfl⟩ ?_
        obtain ⟨I8, hI8, hf⟩ := f_lt hf
        refine x_iast (j0 := (((f_X11_bedRow v1) + (1 : Int32))).toNatClampNeg) dX11_nightGoes_61 lm_1 h6 rfl hI8 ?_
        refine x_iinc 2 [(1, .int (v1 + (1 : Int32))), (2, .int (f_X11_bedRow v1)), (0, .ref 0)] dX11_nightGoes_62 rfl rfl (by decide) rfl ?_
        refine x_goto 2 dX11_nightGoes_65 (by decide) ?_
        refine x_lv [(0, .ref 0), (1, .int (v1 + (1 : Int32)))] [2, 0] rfl ?_
        exact ih _ _ hf
      · replace hf := f_if hB hf
        refine x_goto 62 dX11_nightGoes_26 (by decide) ?_
        refine x_iinc 2 [(1, .int (v1 + (1 : Int32))), (2, .int (f_X11_bedRow v1)), (0, .ref 0)] dX11_nightGoes_62 rfl rfl (by decide) rfl ?_
        refine x_goto 2 dX11_nightGoes_65 (by decide) ?_
        refine x_lv [(0, .ref 0), (1, .int (v1 + (1 : Int32)))] [2, 0] rfl ?_
        exact ih _ _ hf
set_option maxRecDepth 100000 in
set_option maxHeartbeats 4000000 in
theorem c_X11_nightGoes {I : z_I} {L : z_L}   {r : z_I} (hf : f_X11_nightGoes I = some r) : z_C layM yX11_nightGoes cX11_nightGoes 3 (none) ({ frames := 1, cells := 0, slots := 0, locals := 28 } : Room) [.ref 0] I L (none, r, L) := by
  refine z_C.of (by decide) (Nat.le_of_ble_eq_true rfl) ?_
  show z_X layM RX11 cX11_nightGoes 3 (none) ({ frames := 1, cells := 0, slots := 0, locals := 28 } : Room) 0 [(0, .ref 0)] [] I L (none, r, L)
  unfold f_X11_nightGoes at hf
  refine x_iconst (v := (0)) dX11_nightGoes_0 (by decide) ?_
  refine x_istore_n [(1, .int (0 : Int32)), (0, .ref 0)] dX11_nightGoes_1 rfl (by decide) rfl ?_
  refine x_lv [(0, .ref 0), (1, .int (0 : Int32))] [1, 0] rfl ?_
  refine l_X11_nightGoes_2 (L) _ ?_ _ _ _ hf
  · intro I_9 hf
    refine x_aload_n 0 dX11_nightGoes_68 rfl rfl ?_
    refine x_getR dX11_nightGoes_69 lm_0 fl_X11_7 rfl ?_
    refine x_iconst (v := (5)) dX11_nightGoes_72 (by decide) ?_
    refine x_dup2 dX11_nightGoes_73 rfl rfl ?_
    refine x_iald (j := 5) (v := (I_9 1 5)) dX11_nightGoes_74 lm_1 (by decide +kernel) (by decide +kernel) rfl ?_
    refine x_iconst (v := (1)) dX11_nightGoes_75 (by decide) ?_
    refine x_iadd dX11_nightGoes_76 ?_
    obtain ⟨I12, hI12, hf⟩ := f_lt hf
    refine x_iast (j0 := 5) dX11_nightGoes_77 lm_1 (by decide +kernel) (by decide +kernel) hI12 ?_
    cases hf
    exact x_vret dX11_nightGoes_78 rfl rfl
set_option maxRecDepth 100000 in
set_option maxHeartbeats 4000000 in
theorem l_X11_nightsGo_2   (v1 : Int32) (L : z_L) {r : z_I}  : ∀ (n : Nat) (v2 : Int32) (I : z_I), g_X11_nightsGo_2 v1  n v2 I = some r → z_X layM RX11 cX11_nightsGo 3 (none) ({ frames := 2, cells := 0, slots := 0, locals := 50 } : Room) 2 [(0, .ref 0), (1, .int v1), (2, .int v2)] [] I L (none, r, L) := by
  intro n
  induction n with
  | zero => intro v2 I hf; cases hf
  | succ n ih =>
    intro v2 I hf
    rw [g_X11_nightsGo_2] at hf
    refine x_iload_n 2 dX11_nightsGo_2 rfl rfl ?_
    refine x_iload_n 1 dX11_nightsGo_3 rfl rfl ?_
    refine x_icmp_ge 17 dX11_nightsGo_4 (by decide) (fun hB => ?_) (fun hB => ?_)
    · replace hf := f_if hB hf
      cases hf
      exact x_vret dX11_nightsGo_17 rfl rfl
    · replace hf := f_el hB hf
      refine x_aload_n 0 dX11_nightsGo_7 rfl rfl ?_
      obtain ⟨q1, hq2, hf⟩ := f_bd hf
      refine x_callVv [] (c_X11_nightGoes (I := I) (L := L)  hq2) dX11_nightsGo_8 lk_X11_351 lm_0 rfl cd_X11_nightGoes rfl rfl (Nat.le_of_ble_eq_true rfl) ⟨rfl, rfl, Nat.le_of_ble_eq_true rfl, Nat.le_of_ble_eq_true rfl⟩ ?_
      refine x_iinc 2 [(2, .int (v2 + (1 : Int32))), (0, .ref 0), (1, .int v1)] dX11_nightsGo_11 rfl rfl (by decide) rfl ?_
      refine x_goto 2 dX11_nightsGo_14 (by decide) ?_
      refine x_lv [(0, .ref 0), (1, .int v1), (2, .int (v2 + (1 : Int32)))] [1, 2, 0] rfl ?_
      exact ih _ _ hf
set_option maxRecDepth 100000 in
set_option maxHeartbeats 4000000 in
theorem c_X11_nightsGo {I : z_I} {L : z_L} {p0 : Int32}  {r : z_I} (hf : f_X11_nightsGo I p0 = some r) : z_C layM yX11_nightsGo cX11_nightsGo 3 (none) ({ frames := 2, cells := 0, slots := 0, locals := 50 } : Room) [.ref 0, .int p0] I L (none, r, L) := by
  refine z_C.of (by decide) (Nat.le_of_ble_eq_true rfl) ?_
  show z_X layM RX11 cX11_nightsGo 3 (none) ({ frames := 2, cells := 0, slots := 0, locals := 50 } : Room) 0 [(0, .ref 0), (1, .int p0)] [] I L (none, r, L)
  unfold f_X11_nightsGo at hf
  refine x_iconst (v := (0)) dX11_nightsGo_0 (by decide) ?_
  refine x_istore_n [(2, .int (0 : Int32)), (0, .ref 0), (1, .int p0)] dX11_nightsGo_1 rfl (by decide) rfl ?_
  refine x_lv [(0, .ref 0), (1, .int p0), (2, .int (0 : Int32))] [1, 2, 0] rfl ?_
  refine l_X11_nightsGo_2 p0 (L)   _ _ _ hf
set_option maxRecDepth 100000 in
set_option maxHeartbeats 4000000 in
theorem c_X11_night {I : z_I} {L : z_L} {p0 : Int32}  {r : Int32 × z_I} (hf : f_X11_night I p0 = some r) : z_C layM yX11_night cX11_night 2 (some .int) ({ frames := 3, cells := 0, slots := 0, locals := 72 } : Room) [.ref 0, .int p0] I L (some (.int r.1), r.2, L) := by
  refine z_C.of (by decide) (Nat.le_of_ble_eq_true rfl) ?_
  show z_X layM RX11 cX11_night 2 (some .int) ({ frames := 3, cells := 0, slots := 0, locals := 72 } : Room) 0 [(0, .ref 0), (1, .int p0)] [] I L (some (.int r.1), r.2, L)
  unfold f_X11_night at hf
  refine x_iload_n 1 dX11_night_0 rfl rfl ?_
  refine x_i2l dX11_night_1 ?_
  refine x_lconst (v := (1)) dX11_night_2 (by decide) ?_
  refine x_ldc2 (v := (99)) dX11_night_3 kc_X11_354 ?_
  refine x_callSi [.long (p0.toInt64), .long (1 : Int64), .long (99 : Int64)] (c_X11_isFrom (I := I) (L := L) (p0.toInt64) (1 : Int64) (99 : Int64)) dX11_night_6 lk_X11_299 cd_X11_isFrom rfl rfl (Nat.le_of_ble_eq_true rfl) ⟨rfl, rfl, Nat.le_of_ble_eq_true rfl, Nat.le_of_ble_eq_true rfl⟩ ?_
  refine x_if_neB 18 dX11_night_9 (by decide) (fun hB => ?_) (fun hB => ?_)
  · replace hf := f_if hB hf
    refine x_aload_n 0 dX11_night_18 rfl rfl ?_
    refine x_getR dX11_night_19 lm_0 fl_X11_7 rfl ?_
    refine x_iconst (v := (5)) dX11_night_22 (by decide) ?_
    refine x_iald (j := 5) (v := (I 1 5)) dX11_night_23 lm_1 (by decide +kernel) (by decide +kernel) rfl ?_
    refine x_iload_n 1 dX11_night_24 rfl rfl ?_
    refine x_iadd dX11_night_25 ?_
    refine x_sipush (v := (9999)) dX11_night_26 (by decide) ?_
    refine x_icmp_le 38 dX11_night_29 (by decide) (fun hB => ?_) (fun hB => ?_)
    · replace hf := f_if hB hf
      refine x_aload_n 0 dX11_night_38 rfl rfl ?_
      refine x_iload_n 1 dX11_night_39 rfl rfl ?_
      obtain ⟨q2, hq3, hf⟩ := f_bd hf
      refine x_callVv [.int p0] (c_X11_nightsGo (I := I) (L := L)  hq3) dX11_night_40 lk_X11_356 lm_0 rfl cd_X11_nightsGo rfl rfl (Nat.le_of_ble_eq_true rfl) ⟨rfl, rfl, Nat.le_of_ble_eq_true rfl, Nat.le_of_ble_eq_true rfl⟩ ?_
      refine x_aload_n 0 dX11_night_43 rfl rfl ?_
      refine x_aload_n 0 dX11_night_44 rfl rfl ?_
      refine x_iconst (v := (0)) dX11_night_45 (by decide) ?_
      obtain ⟨q4, hq5, hf⟩ := f_bd hf
      refine x_callVi [.int (0 : Int32)] (c_X11_together (I := q2) (L := L)  hq5) dX11_night_46 lk_X11_318 lm_0 rfl cd_X11_together rfl rfl (Nat.le_of_ble_eq_true rfl) ⟨rfl, rfl, Nat.le_of_ble_eq_true rfl, Nat.le_of_ble_eq_true rfl⟩ ?_
      refine x_callVi [.int q4] (c_X11_gives (I := q2) (L := L) q4) dX11_night_49 lk_X11_103 lm_0 rfl cd_X11_gives rfl rfl (Nat.le_of_ble_eq_true rfl) ⟨rfl, rfl, Nat.le_of_ble_eq_true rfl, Nat.le_of_ble_eq_true rfl⟩ ?_
      cases hf
      exact x_iret dX11_night_52 rfl rfl
    · replace hf := f_el hB hf
      refine x_aload_n 0 dX11_night_32 rfl rfl ?_
      refine x_iconst (v := (4)) dX11_night_33 (by decide) ?_
      refine x_callVi [.int (4 : Int32)] (c_X11_refuse (I := I) (L := L) (4 : Int32)) dX11_night_34 lk_X11_99 lm_0 rfl cd_X11_refuse rfl rfl (Nat.le_of_ble_eq_true rfl) ⟨rfl, rfl, Nat.le_of_ble_eq_true rfl, Nat.le_of_ble_eq_true rfl⟩ ?_
      cases hf
      exact x_iret dX11_night_37 rfl rfl
  · replace hf := f_el hB hf
    refine x_aload_n 0 dX11_night_12 rfl rfl ?_
    refine x_iconst (v := (1)) dX11_night_13 (by decide) ?_
    refine x_callVi [.int (1 : Int32)] (c_X11_refuse (I := I) (L := L) (1 : Int32)) dX11_night_14 lk_X11_99 lm_0 rfl cd_X11_refuse rfl rfl (Nat.le_of_ble_eq_true rfl) ⟨rfl, rfl, Nat.le_of_ble_eq_true rfl, Nat.le_of_ble_eq_true rfl⟩ ?_
    cases hf
    exact x_iret dX11_night_17 rfl rfl
set_option maxRecDepth 100000 in
set_option maxHeartbeats 4000000 in
theorem c_X11_weed {I : z_I} {L : z_L} {p0 : Int32}  {r : Int32 × z_I} (hf : f_X11_weed I p0 = some r) : z_C layM yX11_weed cX11_weed 3 (some .int) ({ frames := 1, cells := 0, slots := 0, locals := 21 } : Room) [.ref 0, .int p0] I L (some (.int r.1), r.2, L) := by
  refine z_C.of (by decide) (Nat.le_of_ble_eq_true rfl) ?_
  show z_X layM RX11 cX11_weed 3 (some .int) ({ frames := 1, cells := 0, slots := 0, locals := 21 } : Room) 0 [(0, .ref 0), (1, .int p0)] [] I L (some (.int r.1), r.2, L)
  unfold f_X11_weed at hf
  refine x_aload_n 0 dX11_weed_0 rfl rfl ?_
  refine x_iload_n 1 dX11_weed_1 rfl rfl ?_
  refine x_callVi [.int p0] (c_X11_isBed (I := I) (L := L) p0) dX11_weed_2 lk_X11_321 lm_0 rfl cd_X11_isBed rfl rfl (Nat.le_of_ble_eq_true rfl) ⟨rfl, rfl, Nat.le_of_ble_eq_true rfl, Nat.le_of_ble_eq_true rfl⟩ ?_
  refine x_if_neB 14 dX11_weed_5 (by decide) (fun hB => ?_) (fun hB => ?_)
  · replace hf := f_if hB hf
    refine x_aload_n 0 dX11_weed_14 rfl rfl ?_
    refine x_getR dX11_weed_15 lm_0 fl_X11_7 rfl ?_
    refine x_iload_n 1 dX11_weed_18 rfl rfl ?_
    refine x_callSi [.int p0] (c_X11_bedRow (I := I) (L := L) p0) dX11_weed_19 lk_X11_216 cd_X11_bedRow rfl rfl (Nat.le_of_ble_eq_true rfl) ⟨rfl, rfl, Nat.le_of_ble_eq_true rfl, Nat.le_of_ble_eq_true rfl⟩ ?_
    refine x_iconst (v := (1)) dX11_weed_22 (by decide) ?_
    refine x_iadd dX11_weed_23 ?_
    obtain ⟨h1, hf⟩ := f_gd hf
    refine x_iald (j := (((f_X11_bedRow p0) + (1 : Int32))).toNatClampNeg) (v := (I 1 (((f_X11_bedRow p0) + (1 : Int32))).toNatClampNeg)) dX11_weed_24 lm_1 h1 rfl rfl ?_
    obtain ⟨w2, hw2, hf⟩ := f_lt hf
    refine x_topI hw2 ?_
    refine x_istore_n [(2, .int w2), (0, .ref 0), (1, .int p0)] dX11_weed_25 rfl (by decide) rfl ?_
    refine x_aload_n 1 dX11_weed_26 rfl rfl ?_
    refine x_getR dX11_weed_27 lm_0 fl_X11_7 rfl ?_
    refine x_iload_n 2 dX11_weed_30 rfl rfl ?_
    refine x_callSi [.int p0] (c_X11_bedRow (I := I) (L := L) p0) dX11_weed_31 lk_X11_216 cd_X11_bedRow rfl rfl (Nat.le_of_ble_eq_true rfl) ⟨rfl, rfl, Nat.le_of_ble_eq_true rfl, Nat.le_of_ble_eq_true rfl⟩ ?_
    refine x_iconst (v := (1)) dX11_weed_34 (by decide) ?_
    refine x_iadd dX11_weed_35 ?_
    refine x_iconst (v := (0)) dX11_weed_36 (by decide) ?_
    obtain ⟨I4, hI4, hf⟩ := f_lt hf
    refine x_iast (j0 := (((f_X11_bedRow p0) + (1 : Int32))).toNatClampNeg) dX11_weed_37 lm_1 h1 rfl hI4 ?_
    refine x_iload_n 0 dX11_weed_38 rfl rfl ?_
    refine x_if_ne 51 dX11_weed_39 (by decide) (fun hB => ?_) (fun hB => ?_)
    · replace hf := f_el hB hf
      refine x_aload_n 1 dX11_weed_51 rfl rfl ?_
      refine x_iload_n 0 dX11_weed_52 rfl rfl ?_
      refine x_callVi [.int w2] (c_X11_gives (I := I4) (L := L) w2) dX11_weed_53 lk_X11_103 lm_0 rfl cd_X11_gives rfl rfl (Nat.le_of_ble_eq_true rfl) ⟨rfl, rfl, Nat.le_of_ble_eq_true rfl, Nat.le_of_ble_eq_true rfl⟩ ?_
      cases hf
      exact x_iret dX11_weed_56 rfl rfl
    · replace hf := f_if hB hf
      refine x_aload_n 1 dX11_weed_42 rfl rfl ?_
      refine x_bipush (v := (7)) dX11_weed_43 (by decide) ?_
      refine x_callVi [.int (7 : Int32)] (c_X11_refuse (I := I4) (L := L) (7 : Int32)) dX11_weed_45 lk_X11_99 lm_0 rfl cd_X11_refuse rfl rfl (Nat.le_of_ble_eq_true rfl) ⟨rfl, rfl, Nat.le_of_ble_eq_true rfl, Nat.le_of_ble_eq_true rfl⟩ ?_
      refine x_goto 56 dX11_weed_48 (by decide) ?_
      cases hf
      exact x_iret dX11_weed_56 rfl rfl
  · replace hf := f_el hB hf
    refine x_aload_n 0 dX11_weed_8 rfl rfl ?_
    refine x_iconst (v := (1)) dX11_weed_9 (by decide) ?_
    refine x_callVi [.int (1 : Int32)] (c_X11_refuse (I := I) (L := L) (1 : Int32)) dX11_weed_10 lk_X11_99 lm_0 rfl cd_X11_refuse rfl rfl (Nat.le_of_ble_eq_true rfl) ⟨rfl, rfl, Nat.le_of_ble_eq_true rfl, Nat.le_of_ble_eq_true rfl⟩ ?_
    cases hf
    exact x_iret dX11_weed_13 rfl rfl
set_option maxRecDepth 100000 in
set_option maxHeartbeats 4000000 in
theorem c_X11_teach {I : z_I} {L : z_L} {p0 : Int32} {p1 : Int32} {p2 : Bool}  {r : Bool × z_I} (hf : f_X11_teach I p0 p1 p2 = some r) : z_C layM yX11_teach cX11_teach 4 (some .boolean) ({ frames := 2, cells := 0, slots := 0, locals := 41 } : Room) [.ref 0, .int p0, .int p1, .int (zb p2)] I L (some (.int (zb r.1)), r.2, L) := by
  refine z_C.of (by decide) (Nat.le_of_ble_eq_true rfl) ?_
  show z_X layM RX11 cX11_teach 4 (some .boolean) ({ frames := 2, cells := 0, slots := 0, locals := 41 } : Room) 0 [(0, .ref 0), (1, .int p0), (2, .int p1), (3, .int (zb p2))] [] I L (some (.int (zb r.1)), r.2, L)
  unfold f_X11_teach at hf
  refine x_aload_n 0 dX11_teach_0 rfl rfl ?_
  refine x_iload_n 1 dX11_teach_1 rfl rfl ?_
  refine x_callVi [.int p0] (c_X11_isClaim (I := I) (L := L) p0) dX11_teach_2 lk_X11_327 lm_0 rfl cd_X11_isClaim rfl rfl (Nat.le_of_ble_eq_true rfl) ⟨rfl, rfl, Nat.le_of_ble_eq_true rfl, Nat.le_of_ble_eq_true rfl⟩ ?_
  refine x_if_eqB 16 dX11_teach_5 (by decide) (fun hB => ?_) (fun hB => ?_)
  · replace hf := f_el hB hf
    refine x_aload_n 0 dX11_teach_16 rfl rfl ?_
    refine x_iconst (v := (1)) dX11_teach_17 (by decide) ?_
    refine x_callVi [.int (1 : Int32)] (c_X11_is (I := I) (L := L) (1 : Int32)) dX11_teach_18 lk_X11_106 lm_0 rfl cd_X11_is rfl rfl (Nat.le_of_ble_eq_true rfl) ⟨rfl, rfl, Nat.le_of_ble_eq_true rfl, Nat.le_of_ble_eq_true rfl⟩ ?_
    cases hf
    exact x_zret dX11_teach_21 rfl rfl
  · replace hf := f_if hB hf
    refine x_aload_n 0 dX11_teach_8 rfl rfl ?_
    refine x_iload_n 2 dX11_teach_9 rfl rfl ?_
    refine x_callVi [.int p1] (c_X11_isCase (I := I) (L := L) p1) dX11_teach_10 lk_X11_324 lm_0 rfl cd_X11_isCase rfl rfl (Nat.le_of_ble_eq_true rfl) ⟨rfl, rfl, Nat.le_of_ble_eq_true rfl, Nat.le_of_ble_eq_true rfl⟩ ?_
    refine x_if_neB 22 dX11_teach_13 (by decide) (fun hB => ?_) (fun hB => ?_)
    · replace hf := f_if hB hf
      refine x_aload_n 0 dX11_teach_22 rfl rfl ?_
      refine x_aload_n 0 dX11_teach_23 rfl rfl ?_
      refine x_iload_n 1 dX11_teach_24 rfl rfl ?_
      obtain ⟨q1, hq2, hf⟩ := f_bd hf
      refine x_callVi [.int p0] (c_X11_truthOf (I := I) (L := L)  hq2) dX11_teach_25 lk_X11_303 lm_0 rfl cd_X11_truthOf rfl rfl (Nat.le_of_ble_eq_true rfl) ⟨rfl, rfl, Nat.le_of_ble_eq_true rfl, Nat.le_of_ble_eq_true rfl⟩ ?_
      refine x_iload_n 2 dX11_teach_28 rfl rfl ?_
      refine x_callVi [.int q1, .int p1] (c_X11_isIn (I := I) (L := L) q1 p1) dX11_teach_29 lk_X11_236 lm_0 rfl cd_X11_isIn rfl rfl (Nat.le_of_ble_eq_true rfl) ⟨rfl, rfl, Nat.le_of_ble_eq_true rfl, Nat.le_of_ble_eq_true rfl⟩ ?_
      refine x_iload_n 3 dX11_teach_32 rfl rfl ?_
      refine x_icmp_ne 43 dX11_teach_33 (by decide) (fun hB => ?_) (fun hB => ?_)
      · replace hf := f_el hB hf
        refine x_aload_n 0 dX11_teach_43 rfl rfl ?_
        refine x_getR dX11_teach_44 lm_0 fl_X11_7 rfl ?_
        refine x_iload_n 1 dX11_teach_47 rfl rfl ?_
        refine x_callSi [.int p0] (c_X11_claimRow (I := I) (L := L) p0) dX11_teach_48 lk_X11_230 cd_X11_claimRow rfl rfl (Nat.le_of_ble_eq_true rfl) ⟨rfl, rfl, Nat.le_of_ble_eq_true rfl, Nat.le_of_ble_eq_true rfl⟩ ?_
        refine x_iconst (v := (2)) dX11_teach_51 (by decide) ?_
        refine x_iadd dX11_teach_52 ?_
        refine x_dup2 dX11_teach_53 rfl rfl ?_
        obtain ⟨h3, hf⟩ := f_gd hf
        refine x_iald (j := (((f_X11_claimRow p0) + (2 : Int32))).toNatClampNeg) (v := (I 1 (((f_X11_claimRow p0) + (2 : Int32))).toNatClampNeg)) dX11_teach_54 lm_1 h3 rfl rfl ?_
        refine x_iconst (v := (1)) dX11_teach_55 (by decide) ?_
        refine x_iload_n 2 dX11_teach_56 rfl rfl ?_
        refine x_ishl dX11_teach_57 ?_
        refine x_ixor dX11_teach_58 ?_
        obtain ⟨I5, hI5, hf⟩ := f_lt hf
        refine x_iast (j0 := (((f_X11_claimRow p0) + (2 : Int32))).toNatClampNeg) dX11_teach_59 lm_1 h3 rfl hI5 ?_
        refine x_aload_n 0 dX11_teach_60 rfl rfl ?_
        refine x_iconst (v := (0)) dX11_teach_61 (by decide) ?_
        refine x_callVi [.int (0 : Int32)] (c_X11_is (I := I5) (L := L) (0 : Int32)) dX11_teach_62 lk_X11_106 lm_0 rfl cd_X11_is rfl rfl (Nat.le_of_ble_eq_true rfl) ⟨rfl, rfl, Nat.le_of_ble_eq_true rfl, Nat.le_of_ble_eq_true rfl⟩ ?_
        cases hf
        exact x_zret dX11_teach_65 rfl rfl
      · replace hf := f_if hB hf
        refine x_aload_n 0 dX11_teach_36 rfl rfl ?_
        refine x_bipush (v := (7)) dX11_teach_37 (by decide) ?_
        refine x_callVi [.int (7 : Int32)] (c_X11_is (I := I) (L := L) (7 : Int32)) dX11_teach_39 lk_X11_106 lm_0 rfl cd_X11_is rfl rfl (Nat.le_of_ble_eq_true rfl) ⟨rfl, rfl, Nat.le_of_ble_eq_true rfl, Nat.le_of_ble_eq_true rfl⟩ ?_
        cases hf
        exact x_zret dX11_teach_42 rfl rfl
    · replace hf := f_el hB hf
      refine x_aload_n 0 dX11_teach_16 rfl rfl ?_
      refine x_iconst (v := (1)) dX11_teach_17 (by decide) ?_
      refine x_callVi [.int (1 : Int32)] (c_X11_is (I := I) (L := L) (1 : Int32)) dX11_teach_18 lk_X11_106 lm_0 rfl cd_X11_is rfl rfl (Nat.le_of_ble_eq_true rfl) ⟨rfl, rfl, Nat.le_of_ble_eq_true rfl, Nat.le_of_ble_eq_true rfl⟩ ?_
      cases hf
      exact x_zret dX11_teach_21 rfl rfl
set_option maxRecDepth 100000 in
set_option maxHeartbeats 4000000 in
theorem c_X11_weigh {I : z_I} {L : z_L} {p0 : Int32} {p1 : Int32}  {r : Int32 × z_I} (hf : f_X11_weigh I p0 p1 = some r) : z_C layM yX11_weigh cX11_weigh 4 (some .int) ({ frames := 1, cells := 0, slots := 0, locals := 25 } : Room) [.ref 0, .int p0, .int p1] I L (some (.int r.1), r.2, L) := by
  refine z_C.of (by decide) (Nat.le_of_ble_eq_true rfl) ?_
  show z_X layM RX11 cX11_weigh 4 (some .int) ({ frames := 1, cells := 0, slots := 0, locals := 25 } : Room) 0 [(0, .ref 0), (1, .int p0), (2, .int p1)] [] I L (some (.int r.1), r.2, L)
  unfold f_X11_weigh at hf
  refine x_aload_n 0 dX11_weigh_0 rfl rfl ?_
  refine x_iload_n 1 dX11_weigh_1 rfl rfl ?_
  refine x_callVi [.int p0] (c_X11_isCase (I := I) (L := L) p0) dX11_weigh_2 lk_X11_324 lm_0 rfl cd_X11_isCase rfl rfl (Nat.le_of_ble_eq_true rfl) ⟨rfl, rfl, Nat.le_of_ble_eq_true rfl, Nat.le_of_ble_eq_true rfl⟩ ?_
  refine x_if_eqB 20 dX11_weigh_5 (by decide) (fun hB => ?_) (fun hB => ?_)
  · replace hf := f_el hB hf
    refine x_aload_n 0 dX11_weigh_20 rfl rfl ?_
    refine x_iconst (v := (1)) dX11_weigh_21 (by decide) ?_
    refine x_callVi [.int (1 : Int32)] (c_X11_refuse (I := I) (L := L) (1 : Int32)) dX11_weigh_22 lk_X11_99 lm_0 rfl cd_X11_refuse rfl rfl (Nat.le_of_ble_eq_true rfl) ⟨rfl, rfl, Nat.le_of_ble_eq_true rfl, Nat.le_of_ble_eq_true rfl⟩ ?_
    cases hf
    exact x_iret dX11_weigh_25 rfl rfl
  · replace hf := f_if hB hf
    refine x_iload_n 2 dX11_weigh_8 rfl rfl ?_
    refine x_i2l dX11_weigh_9 ?_
    refine x_lconst (v := (1)) dX11_weigh_10 (by decide) ?_
    refine x_ldc2 (v := (20)) dX11_weigh_11 kc_X11_359 ?_
    refine x_callSi [.long (p1.toInt64), .long (1 : Int64), .long (20 : Int64)] (c_X11_isFrom (I := I) (L := L) (p1.toInt64) (1 : Int64) (20 : Int64)) dX11_weigh_14 lk_X11_299 cd_X11_isFrom rfl rfl (Nat.le_of_ble_eq_true rfl) ⟨rfl, rfl, Nat.le_of_ble_eq_true rfl, Nat.le_of_ble_eq_true rfl⟩ ?_
    refine x_if_neB 26 dX11_weigh_17 (by decide) (fun hB => ?_) (fun hB => ?_)
    · replace hf := f_if hB hf
      refine x_aload_n 0 dX11_weigh_26 rfl rfl ?_
      refine x_getR dX11_weigh_27 lm_0 fl_X11_7 rfl ?_
      refine x_bipush (v := (22)) dX11_weigh_30 (by decide) ?_
      refine x_iload_n 1 dX11_weigh_32 rfl rfl ?_
      refine x_iadd dX11_weigh_33 ?_
      obtain ⟨h1, hf⟩ := f_gd hf
      refine x_iald (j := (((22 : Int32) + p0)).toNatClampNeg) (v := (I 1 (((22 : Int32) + p0)).toNatClampNeg)) dX11_weigh_34 lm_1 h1 rfl rfl ?_
      refine x_istore_n [(3, .int (I 1 (((22 : Int32) + p0)).toNatClampNeg)), (0, .ref 0), (1, .int p0), (2, .int p1)] dX11_weigh_35 rfl (by decide) rfl ?_
      refine x_aload_n 1 dX11_weigh_36 rfl rfl ?_
      refine x_getR dX11_weigh_37 lm_0 fl_X11_7 rfl ?_
      refine x_bipush (v := (22)) dX11_weigh_40 (by decide) ?_
      refine x_iload_n 2 dX11_weigh_42 rfl rfl ?_
      refine x_iadd dX11_weigh_43 ?_
      refine x_iload_n 3 dX11_weigh_44 rfl rfl ?_
      obtain ⟨I3, hI3, hf⟩ := f_lt hf
      refine x_iast (j0 := (((22 : Int32) + p0)).toNatClampNeg) dX11_weigh_45 lm_1 h1 rfl hI3 ?_
      refine x_aload_n 1 dX11_weigh_46 rfl rfl ?_
      refine x_iload_n 0 dX11_weigh_47 rfl rfl ?_
      refine x_callVi [.int (I 1 (((22 : Int32) + p0)).toNatClampNeg)] (c_X11_gives (I := I3) (L := L) (I 1 (((22 : Int32) + p0)).toNatClampNeg)) dX11_weigh_48 lk_X11_103 lm_0 rfl cd_X11_gives rfl rfl (Nat.le_of_ble_eq_true rfl) ⟨rfl, rfl, Nat.le_of_ble_eq_true rfl, Nat.le_of_ble_eq_true rfl⟩ ?_
      cases hf
      exact x_iret dX11_weigh_51 rfl rfl
    · replace hf := f_el hB hf
      refine x_aload_n 0 dX11_weigh_20 rfl rfl ?_
      refine x_iconst (v := (1)) dX11_weigh_21 (by decide) ?_
      refine x_callVi [.int (1 : Int32)] (c_X11_refuse (I := I) (L := L) (1 : Int32)) dX11_weigh_22 lk_X11_99 lm_0 rfl cd_X11_refuse rfl rfl (Nat.le_of_ble_eq_true rfl) ⟨rfl, rfl, Nat.le_of_ble_eq_true rfl, Nat.le_of_ble_eq_true rfl⟩ ?_
      cases hf
      exact x_iret dX11_weigh_25 rfl rfl
set_option maxRecDepth 100000 in
set_option maxHeartbeats 4000000 in
theorem c_X11_think {I : z_I} {L : z_L} {p0 : Int32} {p1 : Int32} {p2 : Int32}  {r : Int32 × z_I × z_L} (hf : f_X11_think I L p0 p1 p2 = some r) : z_C layM yX11_think cX11_think 5 (some .int) ({ frames := 2, cells := 0, slots := 0, locals := 47 } : Room) [.ref 0, .int p0, .int p1, .int p2] I L (some (.int r.1), r.2.1, r.2.2) := by
  refine z_C.of (by decide) (Nat.le_of_ble_eq_true rfl) ?_
  show z_X layM RX11 cX11_think 5 (some .int) ({ frames := 2, cells := 0, slots := 0, locals := 47 } : Room) 0 [(0, .ref 0), (1, .int p0), (2, .int p1), (3, .int p2)] [] I L (some (.int r.1), r.2.1, r.2.2)
  unfold f_X11_think at hf
  refine x_aload_n 0 dX11_think_0 rfl rfl ?_
  refine x_iload_n 1 dX11_think_1 rfl rfl ?_
  refine x_i2l dX11_think_2 ?_
  refine x_callVi [.long (p0.toInt64)] (c_X11_areCases (I := I) (L := L) (p0.toInt64)) dX11_think_3 lk_X11_361 lm_0 rfl cd_X11_areCases rfl rfl (Nat.le_of_ble_eq_true rfl) ⟨rfl, rfl, Nat.le_of_ble_eq_true rfl, Nat.le_of_ble_eq_true rfl⟩ ?_
  refine x_if_eqB 29 dX11_think_6 (by decide) (fun hB => ?_) (fun hB => ?_)
  · replace hf := f_el hB hf
    refine x_aload_n 0 dX11_think_29 rfl rfl ?_
    refine x_iconst (v := (1)) dX11_think_30 (by decide) ?_
    refine x_callVi [.int (1 : Int32)] (c_X11_refuse (I := I) (L := L) (1 : Int32)) dX11_think_31 lk_X11_99 lm_0 rfl cd_X11_refuse rfl rfl (Nat.le_of_ble_eq_true rfl) ⟨rfl, rfl, Nat.le_of_ble_eq_true rfl, Nat.le_of_ble_eq_true rfl⟩ ?_
    cases hf
    exact x_iret dX11_think_34 rfl rfl
  · replace hf := f_if hB hf
    refine x_aload_n 0 dX11_think_9 rfl rfl ?_
    refine x_iload_n 2 dX11_think_10 rfl rfl ?_
    refine x_callVi [.int p1] (c_X11_isBed (I := I) (L := L) p1) dX11_think_11 lk_X11_321 lm_0 rfl cd_X11_isBed rfl rfl (Nat.le_of_ble_eq_true rfl) ⟨rfl, rfl, Nat.le_of_ble_eq_true rfl, Nat.le_of_ble_eq_true rfl⟩ ?_
    refine x_if_eqB 29 dX11_think_14 (by decide) (fun hB => ?_) (fun hB => ?_)
    · replace hf := f_el hB hf
      refine x_aload_n 0 dX11_think_29 rfl rfl ?_
      refine x_iconst (v := (1)) dX11_think_30 (by decide) ?_
      refine x_callVi [.int (1 : Int32)] (c_X11_refuse (I := I) (L := L) (1 : Int32)) dX11_think_31 lk_X11_99 lm_0 rfl cd_X11_refuse rfl rfl (Nat.le_of_ble_eq_true rfl) ⟨rfl, rfl, Nat.le_of_ble_eq_true rfl, Nat.le_of_ble_eq_true rfl⟩ ?_
      cases hf
      exact x_iret dX11_think_34 rfl rfl
    · replace hf := f_if hB hf
      refine x_iload_n 3 dX11_think_17 rfl rfl ?_
      refine x_i2l dX11_think_18 ?_
      refine x_lconst (v := (1)) dX11_think_19 (by decide) ?_
      refine x_ldc2 (v := (9)) dX11_think_20 kc_X11_365 ?_
      refine x_callSi [.long (p2.toInt64), .long (1 : Int64), .long (9 : Int64)] (c_X11_isFrom (I := I) (L := L) (p2.toInt64) (1 : Int64) (9 : Int64)) dX11_think_23 lk_X11_299 cd_X11_isFrom rfl rfl (Nat.le_of_ble_eq_true rfl) ⟨rfl, rfl, Nat.le_of_ble_eq_true rfl, Nat.le_of_ble_eq_true rfl⟩ ?_
      refine x_if_neB 35 dX11_think_26 (by decide) (fun hB => ?_) (fun hB => ?_)
      · replace hf := f_if hB hf
        refine x_aload_n 0 dX11_think_35 rfl rfl ?_
        refine x_getR dX11_think_36 lm_0 fl_X11_7 rfl ?_
        refine x_iconst (v := (2)) dX11_think_39 (by decide) ?_
        refine x_iald (j := 2) (v := (I 1 2)) dX11_think_40 lm_1 (by decide +kernel) (by decide +kernel) rfl ?_
        refine x_istore [(4, .int (I 1 2)), (0, .ref 0), (1, .int p0), (2, .int p1), (3, .int p2)] dX11_think_41 (by decide) rfl ?_
        refine x_iload 0 dX11_think_43 rfl ?_
        refine x_bipush (v := (7)) dX11_think_45 (by decide) ?_
        refine x_icmp_ne 56 dX11_think_47 (by decide) (fun hB => ?_) (fun hB => ?_)
        · replace hf := f_el hB hf
          refine x_aload_n 1 dX11_think_56 rfl rfl ?_
          refine x_getR dX11_think_57 lm_0 fl_X11_7 rfl ?_
          refine x_iconst (v := (2)) dX11_think_60 (by decide) ?_
          refine x_dup2 dX11_think_61 rfl rfl ?_
          refine x_iald (j := 2) (v := (I 1 2)) dX11_think_62 lm_1 (by decide +kernel) (by decide +kernel) rfl ?_
          refine x_iconst (v := (1)) dX11_think_63 (by decide) ?_
          refine x_iadd dX11_think_64 ?_
          obtain ⟨I4, hI4, hf⟩ := f_lt hf
          refine x_iast (j0 := 2) dX11_think_65 lm_1 (by decide +kernel) (by decide +kernel) hI4 ?_
          refine x_aload_n 1 dX11_think_66 rfl rfl ?_
          refine x_getR dX11_think_67 lm_0 fl_X11_7 rfl ?_
          refine x_iload 0 dX11_think_70 rfl ?_
          refine x_callSi [.int (I 1 2)] (c_X11_claimRow (I := I4) (L := L) (I 1 2)) dX11_think_72 lk_X11_230 cd_X11_claimRow rfl rfl (Nat.le_of_ble_eq_true rfl) ⟨rfl, rfl, Nat.le_of_ble_eq_true rfl, Nat.le_of_ble_eq_true rfl⟩ ?_
          refine x_iload_n 3 dX11_think_75 rfl rfl ?_
          obtain ⟨h5, hf⟩ := f_gd hf
          obtain ⟨I6, hI6, hf⟩ := f_lt hf
          refine x_iast (j0 := ((f_X11_claimRow (I 1 2))).toNatClampNeg) dX11_think_76 lm_1 h5 rfl hI6 ?_
          refine x_aload_n 1 dX11_think_77 rfl rfl ?_
          refine x_getR dX11_think_78 lm_0 fl_X11_7 rfl ?_
          refine x_iload 0 dX11_think_81 rfl ?_
          refine x_callSi [.int (I 1 2)] (c_X11_claimRow (I := I6) (L := L) (I 1 2)) dX11_think_83 lk_X11_230 cd_X11_claimRow rfl rfl (Nat.le_of_ble_eq_true rfl) ⟨rfl, rfl, Nat.le_of_ble_eq_true rfl, Nat.le_of_ble_eq_true rfl⟩ ?_
          refine x_iconst (v := (1)) dX11_think_86 (by decide) ?_
          refine x_iadd dX11_think_87 ?_
          refine x_iload_n 4 dX11_think_88 rfl rfl ?_
          obtain ⟨h7, hf⟩ := f_gd hf
          obtain ⟨I8, hI8, hf⟩ := f_lt hf
          refine x_iast (j0 := (((f_X11_claimRow (I 1 2)) + (1 : Int32))).toNatClampNeg) dX11_think_89 lm_1 h7 rfl hI8 ?_
          refine x_aload_n 1 dX11_think_90 rfl rfl ?_
          refine x_getR dX11_think_91 lm_0 fl_X11_7 rfl ?_
          refine x_iload 0 dX11_think_94 rfl ?_
          refine x_callSi [.int (I 1 2)] (c_X11_claimRow (I := I8) (L := L) (I 1 2)) dX11_think_96 lk_X11_230 cd_X11_claimRow rfl rfl (Nat.le_of_ble_eq_true rfl) ⟨rfl, rfl, Nat.le_of_ble_eq_true rfl, Nat.le_of_ble_eq_true rfl⟩ ?_
          refine x_iconst (v := (2)) dX11_think_99 (by decide) ?_
          refine x_iadd dX11_think_100 ?_
          refine x_iload_n 2 dX11_think_101 rfl rfl ?_
          obtain ⟨h9, hf⟩ := f_gd hf
          obtain ⟨I10, hI10, hf⟩ := f_lt hf
          refine x_iast (j0 := (((f_X11_claimRow (I 1 2)) + (2 : Int32))).toNatClampNeg) dX11_think_102 lm_1 h9 rfl hI10 ?_
          refine x_aload_n 1 dX11_think_103 rfl rfl ?_
          refine x_getR dX11_think_104 lm_0 fl_X11_13 rfl ?_
          refine x_bipush (v := (8)) dX11_think_107 (by decide) ?_
          refine x_iload 0 dX11_think_109 rfl ?_
          refine x_iadd dX11_think_111 ?_
          refine x_lconst (v := (0)) dX11_think_112 (by decide) ?_
          obtain ⟨h11, hf⟩ := f_gd hf
          obtain ⟨L12, hL12, hf⟩ := f_lt hf
          refine x_last (j0 := (((8 : Int32) + (I 1 2))).toNatClampNeg) dX11_think_113 lm_2 h11 rfl hL12 ?_
          refine x_aload_n 1 dX11_think_114 rfl rfl ?_
          refine x_iload 0 dX11_think_115 rfl ?_
          refine x_callVi [.int (I 1 2)] (c_X11_gives (I := I10) (L := L12) (I 1 2)) dX11_think_117 lk_X11_103 lm_0 rfl cd_X11_gives rfl rfl (Nat.le_of_ble_eq_true rfl) ⟨rfl, rfl, Nat.le_of_ble_eq_true rfl, Nat.le_of_ble_eq_true rfl⟩ ?_
          cases hf
          exact x_iret dX11_think_120 rfl rfl
        · replace hf := f_if hB hf
          refine x_aload_n 1 dX11_think_50 rfl rfl ?_
          refine x_iconst (v := (4)) dX11_think_51 (by decide) ?_
          refine x_callVi [.int (4 : Int32)] (c_X11_refuse (I := I) (L := L) (4 : Int32)) dX11_think_52 lk_X11_99 lm_0 rfl cd_X11_refuse rfl rfl (Nat.le_of_ble_eq_true rfl) ⟨rfl, rfl, Nat.le_of_ble_eq_true rfl, Nat.le_of_ble_eq_true rfl⟩ ?_
          cases hf
          exact x_iret dX11_think_55 rfl rfl
      · replace hf := f_el hB hf
        refine x_aload_n 0 dX11_think_29 rfl rfl ?_
        refine x_iconst (v := (1)) dX11_think_30 (by decide) ?_
        refine x_callVi [.int (1 : Int32)] (c_X11_refuse (I := I) (L := L) (1 : Int32)) dX11_think_31 lk_X11_99 lm_0 rfl cd_X11_refuse rfl rfl (Nat.le_of_ble_eq_true rfl) ⟨rfl, rfl, Nat.le_of_ble_eq_true rfl, Nat.le_of_ble_eq_true rfl⟩ ?_
        cases hf
        exact x_iret dX11_think_34 rfl rfl
set_option maxRecDepth 100000 in
set_option maxHeartbeats 4000000 in
theorem c_X11_rule {I : z_I} {L : z_L} (p0 : Int32)  : z_C layM yX11_rule cX11_rule 2 (some .boolean) ({ frames := 1, cells := 0, slots := 0, locals := 25 } : Room) [.ref 0, .int p0] I L (some (.int (zb (f_X11_rule I p0).1)), (f_X11_rule I p0).2, L) := by
  obtain ⟨r, hf⟩ : ∃ r, f_X11_rule I p0 = r := ⟨_, rfl⟩
  rw [hf]
  refine z_C.of (by decide) (Nat.le_of_ble_eq_true rfl) ?_
  show z_X layM RX11 cX11_rule 2 (some .boolean) ({ frames := 1, cells := 0, slots := 0, locals := 25 } : Room) 0 [(0, .ref 0), (1, .int p0)] [] I L (some (.int (zb r.1)), r.2, L)
  unfold f_X11_rule at hf
  refine x_iload_n 1 dX11_rule_0 rfl rfl ?_
  refine x_i2l dX11_rule_1 ?_
  refine x_lconst (v := (0)) dX11_rule_2 (by decide) ?_
  refine x_ldc2 (v := (16)) dX11_rule_3 kc_X11_367 ?_
  refine x_callSi [.long (p0.toInt64), .long (0 : Int64), .long (16 : Int64)] (c_X11_isFrom (I := I) (L := L) (p0.toInt64) (0 : Int64) (16 : Int64)) dX11_rule_6 lk_X11_299 cd_X11_isFrom rfl rfl (Nat.le_of_ble_eq_true rfl) ⟨rfl, rfl, Nat.le_of_ble_eq_true rfl, Nat.le_of_ble_eq_true rfl⟩ ?_
  refine x_if_neB 18 dX11_rule_9 (by decide) (fun hB => ?_) (fun hB => ?_)
  · replace hf := t_if hB hf
    refine x_aload_n 0 dX11_rule_18 rfl rfl ?_
    refine x_getR dX11_rule_19 lm_0 fl_X11_7 rfl ?_
    refine x_iconst (v := (4)) dX11_rule_22 (by decide) ?_
    refine x_iload_n 1 dX11_rule_23 rfl rfl ?_
    obtain ⟨I2, hI2, hf⟩ := f_lt hf
    refine x_iast (j0 := 4) dX11_rule_24 lm_1 (by decide +kernel) (by decide +kernel) hI2 ?_
    refine x_aload_n 0 dX11_rule_25 rfl rfl ?_
    refine x_iconst (v := (0)) dX11_rule_26 (by decide) ?_
    refine x_callVi [.int (0 : Int32)] (c_X11_is (I := I2) (L := L) (0 : Int32)) dX11_rule_27 lk_X11_106 lm_0 rfl cd_X11_is rfl rfl (Nat.le_of_ble_eq_true rfl) ⟨rfl, rfl, Nat.le_of_ble_eq_true rfl, Nat.le_of_ble_eq_true rfl⟩ ?_
    subst hf
    exact x_zret dX11_rule_30 rfl rfl
  · replace hf := t_el hB hf
    refine x_aload_n 0 dX11_rule_12 rfl rfl ?_
    refine x_iconst (v := (1)) dX11_rule_13 (by decide) ?_
    refine x_callVi [.int (1 : Int32)] (c_X11_is (I := I) (L := L) (1 : Int32)) dX11_rule_14 lk_X11_106 lm_0 rfl cd_X11_is rfl rfl (Nat.le_of_ble_eq_true rfl) ⟨rfl, rfl, Nat.le_of_ble_eq_true rfl, Nat.le_of_ble_eq_true rfl⟩ ?_
    subst hf
    exact x_zret dX11_rule_17 rfl rfl
set_option maxRecDepth 100000 in
set_option maxHeartbeats 4000000 in
theorem c_X11_partOf {I : z_I} {L : z_L} {p0 : Int32}  {r : Int32 × z_I} (hf : f_X11_partOf I p0 = some r) : z_C layM yX11_partOf cX11_partOf 2 (some .int) ({ frames := 3, cells := 0, slots := 0, locals := 65 } : Room) [.ref 0, .int p0] I L (some (.int r.1), r.2, L) := by
  refine z_C.of (by decide) (Nat.le_of_ble_eq_true rfl) ?_
  show z_X layM RX11 cX11_partOf 2 (some .int) ({ frames := 3, cells := 0, slots := 0, locals := 65 } : Room) 0 [(0, .ref 0), (1, .int p0)] [] I L (some (.int r.1), r.2, L)
  unfold f_X11_partOf at hf
  refine x_aload_n 0 dX11_partOf_0 rfl rfl ?_
  refine x_iload_n 1 dX11_partOf_1 rfl rfl ?_
  refine x_callVi [.int p0] (c_X11_isCase (I := I) (L := L) p0) dX11_partOf_2 lk_X11_324 lm_0 rfl cd_X11_isCase rfl rfl (Nat.le_of_ble_eq_true rfl) ⟨rfl, rfl, Nat.le_of_ble_eq_true rfl, Nat.le_of_ble_eq_true rfl⟩ ?_
  refine x_if_neB 14 dX11_partOf_5 (by decide) (fun hB => ?_) (fun hB => ?_)
  · replace hf := f_if hB hf
    refine x_aload_n 0 dX11_partOf_14 rfl rfl ?_
    refine x_aload_n 0 dX11_partOf_15 rfl rfl ?_
    refine x_iload_n 1 dX11_partOf_16 rfl rfl ?_
    refine x_aload_n 0 dX11_partOf_17 rfl rfl ?_
    refine x_getR dX11_partOf_18 lm_0 fl_X11_7 rfl ?_
    refine x_bipush (v := (6)) dX11_partOf_21 (by decide) ?_
    refine x_iald (j := 6) (v := (I 1 6)) dX11_partOf_23 lm_1 (by decide +kernel) (by decide +kernel) rfl ?_
    obtain ⟨q2, hq3, hf⟩ := f_bd hf
    refine x_callVi [.int p0, .int (I 1 6)] (c_X11_partBy (I := I) (L := L)  hq3) dX11_partOf_24 lk_X11_306 lm_0 rfl cd_X11_partBy rfl rfl (Nat.le_of_ble_eq_true rfl) ⟨rfl, rfl, Nat.le_of_ble_eq_true rfl, Nat.le_of_ble_eq_true rfl⟩ ?_
    refine x_callVi [.int q2] (c_X11_gives (I := I) (L := L) q2) dX11_partOf_27 lk_X11_103 lm_0 rfl cd_X11_gives rfl rfl (Nat.le_of_ble_eq_true rfl) ⟨rfl, rfl, Nat.le_of_ble_eq_true rfl, Nat.le_of_ble_eq_true rfl⟩ ?_
    cases hf
    exact x_iret dX11_partOf_30 rfl rfl
  · replace hf := f_el hB hf
    refine x_aload_n 0 dX11_partOf_8 rfl rfl ?_
    refine x_iconst (v := (1)) dX11_partOf_9 (by decide) ?_
    refine x_callVi [.int (1 : Int32)] (c_X11_refuse (I := I) (L := L) (1 : Int32)) dX11_partOf_10 lk_X11_99 lm_0 rfl cd_X11_refuse rfl rfl (Nat.le_of_ble_eq_true rfl) ⟨rfl, rfl, Nat.le_of_ble_eq_true rfl, Nat.le_of_ble_eq_true rfl⟩ ?_
    cases hf
    exact x_iret dX11_partOf_13 rfl rfl
set_option maxRecDepth 100000 in
set_option maxHeartbeats 4000000 in
theorem l_X11_couples_4    (I : z_I) (L : z_L) {r : Int32 × z_I}  : ∀ (n : Nat) (v1 : Int32) (v2 : Int32), g_X11_couples_4 I  n v1 v2 = some r → z_X layM RX11 cX11_couples 3 (some .int) ({ frames := 3, cells := 0, slots := 0, locals := 65 } : Room) 4 [(0, .ref 0), (1, .int v1), (2, .int v2)] [] I L (some (.int r.1), r.2, L) := by
  intro n
  induction n with
  | zero => intro v1 v2 hf; cases hf
  | succ n ih =>
    intro v1 v2 hf
    rw [g_X11_couples_4] at hf
    refine x_iload_n 2 dX11_couples_4 rfl rfl ?_
    refine x_aload_n 0 dX11_couples_5 rfl rfl ?_
    refine x_getR dX11_couples_6 lm_0 fl_X11_7 rfl ?_
    refine x_iconst (v := (1)) dX11_couples_9 (by decide) ?_
    refine x_iald (j := 1) (v := (I 1 1)) dX11_couples_10 lm_1 (by decide +kernel) (by decide +kernel) rfl ?_
    refine x_icmp_ge 40 dX11_couples_11 (by decide) (fun hB => ?_) (fun hB => ?_)
    · replace hf := f_if hB hf
      refine x_aload_n 0 dX11_couples_40 rfl rfl ?_
      refine x_iload_n 1 dX11_couples_41 rfl rfl ?_
      refine x_iconst (v := (2)) dX11_couples_42 (by decide) ?_
      refine x_idiv dX11_couples_43 (by decide) ?_
      refine x_callVi [.int (v1 / (2 : Int32))] (c_X11_gives (I := I) (L := L) (v1 / (2 : Int32))) dX11_couples_44 lk_X11_103 lm_0 rfl cd_X11_gives rfl rfl (Nat.le_of_ble_eq_true rfl) ⟨rfl, rfl, Nat.le_of_ble_eq_true rfl, Nat.le_of_ble_eq_true rfl⟩ ?_
      cases hf
      exact x_iret dX11_couples_47 rfl rfl
    · replace hf := f_el hB hf
      refine x_iload_n 1 dX11_couples_14 rfl rfl ?_
      refine x_aload_n 0 dX11_couples_15 rfl rfl ?_
      refine x_iload_n 2 dX11_couples_16 rfl rfl ?_
      refine x_aload_n 0 dX11_couples_17 rfl rfl ?_
      refine x_getR dX11_couples_18 lm_0 fl_X11_7 rfl ?_
      refine x_bipush (v := (6)) dX11_couples_21 (by decide) ?_
      refine x_iald (j := 6) (v := (I 1 6)) dX11_couples_23 lm_1 (by decide +kernel) (by decide +kernel) rfl ?_
      obtain ⟨q3, hq4, hf⟩ := f_bd hf
      refine x_callVi [.int v2, .int (I 1 6)] (c_X11_partBy (I := I) (L := L)  hq4) dX11_couples_24 lk_X11_306 lm_0 rfl cd_X11_partBy rfl rfl (Nat.le_of_ble_eq_true rfl) ⟨rfl, rfl, Nat.le_of_ble_eq_true rfl, Nat.le_of_ble_eq_true rfl⟩ ?_
      obtain ⟨q5, hq6, hf⟩ := f_bd hf
      refine x_callSi [.int q3] (c_X11_bits (I := I) (L := L)  hq6) dX11_couples_27 lk_X11_312 cd_X11_bits rfl rfl (Nat.le_of_ble_eq_true rfl) ⟨rfl, rfl, Nat.le_of_ble_eq_true rfl, Nat.le_of_ble_eq_true rfl⟩ ?_
      refine x_iconst (v := (1)) dX11_couples_30 (by decide) ?_
      refine x_isub dX11_couples_31 ?_
      refine x_iadd dX11_couples_32 ?_
      refine x_istore_n [(1, .int (v1 + (q5 - (1 : Int32)))), (0, .ref 0), (2, .int v2)] dX11_couples_33 rfl (by decide) rfl ?_
      refine x_iinc 2 [(2, .int (v2 + (1 : Int32))), (1, .int (v1 + (q5 - (1 : Int32)))), (0, .ref 0)] dX11_couples_34 rfl rfl (by decide) rfl ?_
      refine x_goto 4 dX11_couples_37 (by decide) ?_
      refine x_lv [(0, .ref 0), (1, .int (v1 + (q5 - (1 : Int32)))), (2, .int (v2 + (1 : Int32)))] [2, 1, 0] rfl ?_
      exact ih _ _ hf
set_option maxRecDepth 100000 in
set_option maxHeartbeats 4000000 in
theorem c_X11_couples {I : z_I} {L : z_L}   {r : Int32 × z_I} (hf : f_X11_couples I = some r) : z_C layM yX11_couples cX11_couples 3 (some .int) ({ frames := 3, cells := 0, slots := 0, locals := 65 } : Room) [.ref 0] I L (some (.int r.1), r.2, L) := by
  refine z_C.of (by decide) (Nat.le_of_ble_eq_true rfl) ?_
  show z_X layM RX11 cX11_couples 3 (some .int) ({ frames := 3, cells := 0, slots := 0, locals := 65 } : Room) 0 [(0, .ref 0)] [] I L (some (.int r.1), r.2, L)
  unfold f_X11_couples at hf
  refine x_iconst (v := (0)) dX11_couples_0 (by decide) ?_
  refine x_istore_n [(1, .int (0 : Int32)), (0, .ref 0)] dX11_couples_1 rfl (by decide) rfl ?_
  refine x_iconst (v := (0)) dX11_couples_2 (by decide) ?_
  refine x_istore_n [(2, .int (0 : Int32)), (1, .int (0 : Int32)), (0, .ref 0)] dX11_couples_3 rfl (by decide) rfl ?_
  refine x_lv [(0, .ref 0), (1, .int (0 : Int32)), (2, .int (0 : Int32))] [2, 1, 0] rfl ?_
  refine l_X11_couples_4 (I) (L)   _ _ _ hf
set_option maxRecDepth 100000 in
set_option maxHeartbeats 4000000 in
theorem l_X11_partingOf_5   (v1 : Int32) (v2 : Int32) (I : z_I) (L : z_L) {r : Int32}  : ∀ (n : Nat) (v3 : Int32) (v4 : Int32), g_X11_partingOf_5 v1 v2 I  n v3 v4 = some r → z_X layM RX11 cX11_partingOf 5 (some .int) ({ frames := 2, cells := 0, slots := 0, locals := 41 } : Room) 5 [(0, .ref 0), (1, .int v1), (2, .int v2), (3, .int v3), (4, .int v4)] [] I L (some (.int r), I, L) := by
  intro n
  induction n with
  | zero => intro v3 v4 hf; cases hf
  | succ n ih =>
    intro v3 v4 hf
    rw [g_X11_partingOf_5] at hf
    refine x_iload 4 dX11_partingOf_5 rfl ?_
    refine x_aload_n 0 dX11_partingOf_7 rfl rfl ?_
    refine x_getR dX11_partingOf_8 lm_0 fl_X11_7 rfl ?_
    refine x_iconst (v := (2)) dX11_partingOf_11 (by decide) ?_
    refine x_iald (j := 2) (v := (I 1 2)) dX11_partingOf_12 lm_1 (by decide +kernel) (by decide +kernel) rfl ?_
    refine x_icmp_ge 58 dX11_partingOf_13 (by decide) (fun hB => ?_) (fun hB => ?_)
    · replace hf := f_if hB hf
      refine x_iload_n 3 dX11_partingOf_58 rfl rfl ?_
      cases hf
      exact x_iret dX11_partingOf_59 rfl rfl
    · replace hf := f_el hB hf
      refine x_iload_n 3 dX11_partingOf_16 rfl rfl ?_
      refine x_aload_n 0 dX11_partingOf_17 rfl rfl ?_
      refine x_aload_n 0 dX11_partingOf_18 rfl rfl ?_
      refine x_iload 4 dX11_partingOf_19 rfl ?_
      obtain ⟨q2, hq3, hf⟩ := f_bd hf
      refine x_callVi [.int v4] (c_X11_truthOf (I := I) (L := L)  hq3) dX11_partingOf_21 lk_X11_303 lm_0 rfl cd_X11_truthOf rfl rfl (Nat.le_of_ble_eq_true rfl) ⟨rfl, rfl, Nat.le_of_ble_eq_true rfl, Nat.le_of_ble_eq_true rfl⟩ ?_
      refine x_iload_n 1 dX11_partingOf_24 rfl rfl ?_
      refine x_callVi [.int q2, .int v1] (c_X11_isIn (I := I) (L := L) q2 v1) dX11_partingOf_25 lk_X11_236 lm_0 rfl cd_X11_isIn rfl rfl (Nat.le_of_ble_eq_true rfl) ⟨rfl, rfl, Nat.le_of_ble_eq_true rfl, Nat.le_of_ble_eq_true rfl⟩ ?_
      refine x_aload_n 0 dX11_partingOf_28 rfl rfl ?_
      refine x_aload_n 0 dX11_partingOf_29 rfl rfl ?_
      refine x_iload 4 dX11_partingOf_30 rfl ?_
      obtain ⟨q4, hq5, hf⟩ := f_bd hf
      refine x_callVi [.int v4] (c_X11_truthOf (I := I) (L := L)  hq5) dX11_partingOf_32 lk_X11_303 lm_0 rfl cd_X11_truthOf rfl rfl (Nat.le_of_ble_eq_true rfl) ⟨rfl, rfl, Nat.le_of_ble_eq_true rfl, Nat.le_of_ble_eq_true rfl⟩ ?_
      refine x_iload_n 2 dX11_partingOf_35 rfl rfl ?_
      refine x_callVi [.int q4, .int v2] (c_X11_isIn (I := I) (L := L) q4 v2) dX11_partingOf_36 lk_X11_236 lm_0 rfl cd_X11_isIn rfl rfl (Nat.le_of_ble_eq_true rfl) ⟨rfl, rfl, Nat.le_of_ble_eq_true rfl, Nat.le_of_ble_eq_true rfl⟩ ?_
      refine x_icmp_eq 49 dX11_partingOf_39 (by decide) (fun hB => ?_) (fun hB => ?_)
      · replace hf := f_if hB hf
        refine x_iconst (v := (0)) dX11_partingOf_49 (by decide) ?_
        refine x_ior dX11_partingOf_50 ?_
        refine x_istore_n [(3, .int (v3 ||| (0 : Int32))), (0, .ref 0), (1, .int v1), (2, .int v2), (4, .int v4)] dX11_partingOf_51 rfl (by decide) rfl ?_
        refine x_iinc 4 [(4, .int (v4 + (1 : Int32))), (3, .int (v3 ||| (0 : Int32))), (0, .ref 0), (1, .int v1), (2, .int v2)] dX11_partingOf_52 rfl rfl (by decide) rfl ?_
        refine x_goto 5 dX11_partingOf_55 (by decide) ?_
        refine x_lv [(0, .ref 0), (1, .int v1), (2, .int v2), (3, .int (v3 ||| (0 : Int32))), (4, .int (v4 + (1 : Int32)))] [2, 3, 4, 1, 0] rfl ?_
        exact ih _ _ hf
      · replace hf := f_el hB hf
        refine x_iconst (v := (1)) dX11_partingOf_42 (by decide) ?_
        refine x_iload 4 dX11_partingOf_43 rfl ?_
        refine x_ishl dX11_partingOf_45 ?_
        refine x_goto 50 dX11_partingOf_46 (by decide) ?_
        refine x_ior dX11_partingOf_50 ?_
        refine x_istore_n [(3, .int (v3 ||| ((1 : Int32) <<< (v4 &&& 31)))), (0, .ref 0), (1, .int v1), (2, .int v2), (4, .int v4)] dX11_partingOf_51 rfl (by decide) rfl ?_
        refine x_iinc 4 [(4, .int (v4 + (1 : Int32))), (3, .int (v3 ||| ((1 : Int32) <<< (v4 &&& 31)))), (0, .ref 0), (1, .int v1), (2, .int v2)] dX11_partingOf_52 rfl rfl (by decide) rfl ?_
        refine x_goto 5 dX11_partingOf_55 (by decide) ?_
        refine x_lv [(0, .ref 0), (1, .int v1), (2, .int v2), (3, .int (v3 ||| ((1 : Int32) <<< (v4 &&& 31)))), (4, .int (v4 + (1 : Int32)))] [2, 3, 4, 1, 0] rfl ?_
        exact ih _ _ hf
set_option maxRecDepth 100000 in
set_option maxHeartbeats 4000000 in
theorem c_X11_partingOf {I : z_I} {L : z_L} {p0 : Int32} {p1 : Int32}  {r : Int32} (hf : f_X11_partingOf I p0 p1 = some r) : z_C layM yX11_partingOf cX11_partingOf 5 (some .int) ({ frames := 2, cells := 0, slots := 0, locals := 41 } : Room) [.ref 0, .int p0, .int p1] I L (some (.int r), I, L) := by
  refine z_C.of (by decide) (Nat.le_of_ble_eq_true rfl) ?_
  show z_X layM RX11 cX11_partingOf 5 (some .int) ({ frames := 2, cells := 0, slots := 0, locals := 41 } : Room) 0 [(0, .ref 0), (1, .int p0), (2, .int p1)] [] I L (some (.int r), I, L)
  unfold f_X11_partingOf at hf
  refine x_iconst (v := (0)) dX11_partingOf_0 (by decide) ?_
  refine x_istore_n [(3, .int (0 : Int32)), (0, .ref 0), (1, .int p0), (2, .int p1)] dX11_partingOf_1 rfl (by decide) rfl ?_
  refine x_iconst (v := (0)) dX11_partingOf_2 (by decide) ?_
  refine x_istore [(4, .int (0 : Int32)), (3, .int (0 : Int32)), (0, .ref 0), (1, .int p0), (2, .int p1)] dX11_partingOf_3 (by decide) rfl ?_
  refine x_lv [(0, .ref 0), (1, .int p0), (2, .int p1), (3, .int (0 : Int32)), (4, .int (0 : Int32))] [2, 3, 4, 1, 0] rfl ?_
  refine l_X11_partingOf_5 p0 p1 (I) (L)   _ _ _ hf
set_option maxRecDepth 100000 in
set_option maxHeartbeats 4000000 in
theorem c_X11_parting {I : z_I} {L : z_L} {p0 : Int32} {p1 : Int32}  {r : Int32 × z_I} (hf : f_X11_parting I p0 p1 = some r) : z_C layM yX11_parting cX11_parting 3 (some .int) ({ frames := 3, cells := 0, slots := 0, locals := 65 } : Room) [.ref 0, .int p0, .int p1] I L (some (.int r.1), r.2, L) := by
  refine z_C.of (by decide) (Nat.le_of_ble_eq_true rfl) ?_
  show z_X layM RX11 cX11_parting 3 (some .int) ({ frames := 3, cells := 0, slots := 0, locals := 65 } : Room) 0 [(0, .ref 0), (1, .int p0), (2, .int p1)] [] I L (some (.int r.1), r.2, L)
  unfold f_X11_parting at hf
  refine x_aload_n 0 dX11_parting_0 rfl rfl ?_
  refine x_iload_n 1 dX11_parting_1 rfl rfl ?_
  refine x_callVi [.int p0] (c_X11_isCase (I := I) (L := L) p0) dX11_parting_2 lk_X11_324 lm_0 rfl cd_X11_isCase rfl rfl (Nat.le_of_ble_eq_true rfl) ⟨rfl, rfl, Nat.le_of_ble_eq_true rfl, Nat.le_of_ble_eq_true rfl⟩ ?_
  refine x_if_eqB 21 dX11_parting_5 (by decide) (fun hB => ?_) (fun hB => ?_)
  · replace hf := f_el hB hf
    refine x_aload_n 0 dX11_parting_21 rfl rfl ?_
    refine x_iconst (v := (1)) dX11_parting_22 (by decide) ?_
    refine x_callVi [.int (1 : Int32)] (c_X11_refuse (I := I) (L := L) (1 : Int32)) dX11_parting_23 lk_X11_99 lm_0 rfl cd_X11_refuse rfl rfl (Nat.le_of_ble_eq_true rfl) ⟨rfl, rfl, Nat.le_of_ble_eq_true rfl, Nat.le_of_ble_eq_true rfl⟩ ?_
    cases hf
    exact x_iret dX11_parting_26 rfl rfl
  · replace hf := f_if hB hf
    refine x_aload_n 0 dX11_parting_8 rfl rfl ?_
    refine x_iload_n 2 dX11_parting_9 rfl rfl ?_
    refine x_callVi [.int p1] (c_X11_isCase (I := I) (L := L) p1) dX11_parting_10 lk_X11_324 lm_0 rfl cd_X11_isCase rfl rfl (Nat.le_of_ble_eq_true rfl) ⟨rfl, rfl, Nat.le_of_ble_eq_true rfl, Nat.le_of_ble_eq_true rfl⟩ ?_
    refine x_if_eqB 21 dX11_parting_13 (by decide) (fun hB => ?_) (fun hB => ?_)
    · replace hf := f_el hB hf
      refine x_aload_n 0 dX11_parting_21 rfl rfl ?_
      refine x_iconst (v := (1)) dX11_parting_22 (by decide) ?_
      refine x_callVi [.int (1 : Int32)] (c_X11_refuse (I := I) (L := L) (1 : Int32)) dX11_parting_23 lk_X11_99 lm_0 rfl cd_X11_refuse rfl rfl (Nat.le_of_ble_eq_true rfl) ⟨rfl, rfl, Nat.le_of_ble_eq_true rfl, Nat.le_of_ble_eq_true rfl⟩ ?_
      cases hf
      exact x_iret dX11_parting_26 rfl rfl
    · replace hf := f_if hB hf
      refine x_iload_n 1 dX11_parting_16 rfl rfl ?_
      refine x_iload_n 2 dX11_parting_17 rfl rfl ?_
      refine x_icmp_ne 27 dX11_parting_18 (by decide) (fun hB => ?_) (fun hB => ?_)
      · replace hf := f_el hB hf
        refine x_aload_n 0 dX11_parting_27 rfl rfl ?_
        refine x_aload_n 0 dX11_parting_28 rfl rfl ?_
        refine x_iload_n 1 dX11_parting_29 rfl rfl ?_
        refine x_iload_n 2 dX11_parting_30 rfl rfl ?_
        obtain ⟨q1, hq2, hf⟩ := f_bd hf
        refine x_callVi [.int p0, .int p1] (c_X11_partingOf (I := I) (L := L)  hq2) dX11_parting_31 lk_X11_369 lm_0 rfl cd_X11_partingOf rfl rfl (Nat.le_of_ble_eq_true rfl) ⟨rfl, rfl, Nat.le_of_ble_eq_true rfl, Nat.le_of_ble_eq_true rfl⟩ ?_
        refine x_callVi [.int q1] (c_X11_gives (I := I) (L := L) q1) dX11_parting_34 lk_X11_103 lm_0 rfl cd_X11_gives rfl rfl (Nat.le_of_ble_eq_true rfl) ⟨rfl, rfl, Nat.le_of_ble_eq_true rfl, Nat.le_of_ble_eq_true rfl⟩ ?_
        cases hf
        exact x_iret dX11_parting_37 rfl rfl
      · replace hf := f_if hB hf
        refine x_aload_n 0 dX11_parting_21 rfl rfl ?_
        refine x_iconst (v := (1)) dX11_parting_22 (by decide) ?_
        refine x_callVi [.int (1 : Int32)] (c_X11_refuse (I := I) (L := L) (1 : Int32)) dX11_parting_23 lk_X11_99 lm_0 rfl cd_X11_refuse rfl rfl (Nat.le_of_ble_eq_true rfl) ⟨rfl, rfl, Nat.le_of_ble_eq_true rfl, Nat.le_of_ble_eq_true rfl⟩ ?_
        cases hf
        exact x_iret dX11_parting_26 rfl rfl
set_option maxRecDepth 100000 in
set_option maxHeartbeats 4000000 in
theorem l_X11_barren_4    (I : z_I) (L : z_L) {r : Int32 × z_I}  : ∀ (n : Nat) (v1 : Int32) (v2 : Int32), g_X11_barren_4 I  n v1 v2 = some r → z_X layM RX11 cX11_barren 3 (some .int) ({ frames := 5, cells := 0, slots := 0, locals := 112 } : Room) 4 [(0, .ref 0), (1, .int v1), (2, .int v2)] [] I L (some (.int r.1), r.2, L) := by
  intro n
  induction n with
  | zero => intro v1 v2 hf; cases hf
  | succ n ih =>
    intro v1 v2 hf
    rw [g_X11_barren_4] at hf
    refine x_iload_n 2 dX11_barren_4 rfl rfl ?_
    refine x_aload_n 0 dX11_barren_5 rfl rfl ?_
    refine x_getR dX11_barren_6 lm_0 fl_X11_7 rfl ?_
    refine x_iconst (v := (2)) dX11_barren_9 (by decide) ?_
    refine x_iald (j := 2) (v := (I 1 2)) dX11_barren_10 lm_1 (by decide +kernel) (by decide +kernel) rfl ?_
    refine x_icmp_ge 60 dX11_barren_11 (by decide) (fun hB => ?_) (fun hB => ?_)
    · replace hf := f_if hB hf
      refine x_aload_n 0 dX11_barren_60 rfl rfl ?_
      refine x_iload_n 1 dX11_barren_61 rfl rfl ?_
      refine x_callVi [.int v1] (c_X11_gives (I := I) (L := L) v1) dX11_barren_62 lk_X11_103 lm_0 rfl cd_X11_gives rfl rfl (Nat.le_of_ble_eq_true rfl) ⟨rfl, rfl, Nat.le_of_ble_eq_true rfl, Nat.le_of_ble_eq_true rfl⟩ ?_
      cases hf
      exact x_iret dX11_barren_65 rfl rfl
    · replace hf := f_el hB hf
      refine x_iload_n 1 dX11_barren_14 rfl rfl ?_
      refine x_aload_n 0 dX11_barren_15 rfl rfl ?_
      refine x_aload_n 0 dX11_barren_16 rfl rfl ?_
      refine x_getR dX11_barren_17 lm_0 fl_X11_7 rfl ?_
      refine x_bipush (v := (6)) dX11_barren_20 (by decide) ?_
      refine x_iald (j := 6) (v := (I 1 6)) dX11_barren_22 lm_1 (by decide +kernel) (by decide +kernel) rfl ?_
      refine x_iload_n 2 dX11_barren_23 rfl rfl ?_
      refine x_callVi [.int (I 1 6), .int v2] (c_X11_isIn (I := I) (L := L) (I 1 6) v2) dX11_barren_24 lk_X11_236 lm_0 rfl cd_X11_isIn rfl rfl (Nat.le_of_ble_eq_true rfl) ⟨rfl, rfl, Nat.le_of_ble_eq_true rfl, Nat.le_of_ble_eq_true rfl⟩ ?_
      refine x_if_neB 51 dX11_barren_27 (by decide) (fun hB => ?_) (fun hB => ?_)
      · replace hf := f_if hB hf
        refine x_iconst (v := (0)) dX11_barren_51 (by decide) ?_
        refine x_ior dX11_barren_52 ?_
        refine x_istore_n [(1, .int (v1 ||| (0 : Int32))), (0, .ref 0), (2, .int v2)] dX11_barren_53 rfl (by decide) rfl ?_
        refine x_iinc 2 [(2, .int (v2 + (1 : Int32))), (1, .int (v1 ||| (0 : Int32))), (0, .ref 0)] dX11_barren_54 rfl rfl (by decide) rfl ?_
        refine x_goto 4 dX11_barren_57 (by decide) ?_
        refine x_lv [(0, .ref 0), (1, .int (v1 ||| (0 : Int32))), (2, .int (v2 + (1 : Int32)))] [2, 1, 0] rfl ?_
        exact ih _ _ hf
      · replace hf := f_el hB hf
        refine x_aload_n 0 dX11_barren_30 rfl rfl ?_
        refine x_iload_n 2 dX11_barren_31 rfl rfl ?_
        refine x_aload_n 0 dX11_barren_32 rfl rfl ?_
        refine x_getR dX11_barren_33 lm_0 fl_X11_7 rfl ?_
        refine x_bipush (v := (6)) dX11_barren_36 (by decide) ?_
        refine x_iald (j := 6) (v := (I 1 6)) dX11_barren_38 lm_1 (by decide +kernel) (by decide +kernel) rfl ?_
        obtain ⟨q4, hq5, hf⟩ := f_bd hf
        refine x_callVi [.int v2, .int (I 1 6)] (c_X11_yieldBy (I := I) (L := L)  hq5) dX11_barren_39 lk_X11_330 lm_0 rfl cd_X11_yieldBy rfl rfl (Nat.le_of_ble_eq_true rfl) ⟨rfl, rfl, Nat.le_of_ble_eq_true rfl, Nat.le_of_ble_eq_true rfl⟩ ?_
        refine x_if_ne 51 dX11_barren_42 (by decide) (fun hB => ?_) (fun hB => ?_)
        · replace hf := f_el hB hf
          refine x_iconst (v := (0)) dX11_barren_51 (by decide) ?_
          refine x_ior dX11_barren_52 ?_
          refine x_istore_n [(1, .int (v1 ||| (0 : Int32))), (0, .ref 0), (2, .int v2)] dX11_barren_53 rfl (by decide) rfl ?_
          refine x_iinc 2 [(2, .int (v2 + (1 : Int32))), (1, .int (v1 ||| (0 : Int32))), (0, .ref 0)] dX11_barren_54 rfl rfl (by decide) rfl ?_
          refine x_goto 4 dX11_barren_57 (by decide) ?_
          refine x_lv [(0, .ref 0), (1, .int (v1 ||| (0 : Int32))), (2, .int (v2 + (1 : Int32)))] [2, 1, 0] rfl ?_
          exact ih _ _ hf
        · replace hf := f_if hB hf
          refine x_iconst (v := (1)) dX11_barren_45 (by decide) ?_
          refine x_iload_n 2 dX11_barren_46 rfl rfl ?_
          refine x_ishl dX11_barren_47 ?_
          refine x_goto 52 dX11_barren_48 (by decide) ?_
          refine x_ior dX11_barren_52 ?_
          refine x_istore_n [(1, .int (v1 ||| ((1 : Int32) <<< (v2 &&& 31)))), (0, .ref 0), (2, .int v2)] dX11_barren_53 rfl (by decide) rfl ?_
          refine x_iinc 2 [(2, .int (v2 + (1 : Int32))), (1, .int (v1 ||| ((1 : Int32) <<< (v2 &&& 31)))), (0, .ref 0)] dX11_barren_54 rfl rfl (by decide) rfl ?_
          refine x_goto 4 dX11_barren_57 (by decide) ?_
          refine x_lv [(0, .ref 0), (1, .int (v1 ||| ((1 : Int32) <<< (v2 &&& 31)))), (2, .int (v2 + (1 : Int32)))] [2, 1, 0] rfl ?_
          exact ih _ _ hf
set_option maxRecDepth 100000 in
set_option maxHeartbeats 4000000 in
theorem c_X11_barren {I : z_I} {L : z_L}   {r : Int32 × z_I} (hf : f_X11_barren I = some r) : z_C layM yX11_barren cX11_barren 3 (some .int) ({ frames := 5, cells := 0, slots := 0, locals := 112 } : Room) [.ref 0] I L (some (.int r.1), r.2, L) := by
  refine z_C.of (by decide) (Nat.le_of_ble_eq_true rfl) ?_
  show z_X layM RX11 cX11_barren 3 (some .int) ({ frames := 5, cells := 0, slots := 0, locals := 112 } : Room) 0 [(0, .ref 0)] [] I L (some (.int r.1), r.2, L)
  unfold f_X11_barren at hf
  refine x_iconst (v := (0)) dX11_barren_0 (by decide) ?_
  refine x_istore_n [(1, .int (0 : Int32)), (0, .ref 0)] dX11_barren_1 rfl (by decide) rfl ?_
  refine x_iconst (v := (0)) dX11_barren_2 (by decide) ?_
  refine x_istore_n [(2, .int (0 : Int32)), (1, .int (0 : Int32)), (0, .ref 0)] dX11_barren_3 rfl (by decide) rfl ?_
  refine x_lv [(0, .ref 0), (1, .int (0 : Int32)), (2, .int (0 : Int32))] [2, 1, 0] rfl ?_
  refine l_X11_barren_4 (I) (L)   _ _ _ hf
set_option maxRecDepth 100000 in
set_option maxHeartbeats 4000000 in
theorem l_X11_laysMost_142   (v1 : Int32) (v2 : Int32) (v3 : Int32) (v4 : Int32) (L : z_L) {r : z_I} (k168 : z_I → Option (z_I)) (hk168 : ∀ (I : z_I), k168 I = some r → z_X layM RX11 cX11_laysMost 6 (none) ({ frames := 5, cells := 0, slots := 0, locals := 112 } : Room) 168 [(0, .ref 0), (1, .int v1), (2, .int v2), (3, .int v3), (4, .int v4)] [] I L (none, r, L)) : ∀ (n : Nat) (v5 : Int32) (I : z_I), g_X11_laysMost_142 v1 v2 v3 v4 k168 n v5 I = some r → z_X layM RX11 cX11_laysMost 6 (none) ({ frames := 5, cells := 0, slots := 0, locals := 112 } : Room) 142 [(0, .ref 0), (1, .int v1), (2, .int v2), (3, .int v3), (4, .int v4), (5, .int v5)] [] I L (none, r, L) := by
  intro n
  induction n with
  | zero => intro v5 I hf; cases hf
  | succ n ih =>
    intro v5 I hf
    rw [g_X11_laysMost_142] at hf
    refine x_iload 5 dX11_laysMost_142 rfl ?_
    refine x_iload_n 2 dX11_laysMost_144 rfl rfl ?_
    refine x_icmp_gt 168 dX11_laysMost_145 (by decide) (fun hB => ?_) (fun hB => ?_)
    · replace hf := f_if hB hf
      refine x_lv [(0, .ref 0), (1, .int v1), (2, .int v2), (3, .int v3), (4, .int v4)] [0, 1, 2, 3, 4] rfl ?_
      exact hk168 _ hf
    · replace hf := f_el hB hf
      refine x_aload_n 0 dX11_laysMost_148 rfl rfl ?_
      refine x_getR dX11_laysMost_149 lm_0 fl_X11_56 rfl ?_
      refine x_iload 5 dX11_laysMost_152 rfl ?_
      refine x_aload_n 0 dX11_laysMost_154 rfl rfl ?_
      refine x_getR dX11_laysMost_155 lm_0 fl_X11_47 rfl ?_
      refine x_iload 5 dX11_laysMost_158 rfl ?_
      obtain ⟨h29, hf⟩ := f_gd hf
      refine x_iald (j := (v5).toNatClampNeg) (v := (I 9 (v5).toNatClampNeg)) dX11_laysMost_160 lm_9 h29 rfl rfl ?_
      obtain ⟨h30, hf⟩ := f_gd hf
      obtain ⟨I31, hI31, hf⟩ := f_lt hf
      refine x_iast (j0 := (v5).toNatClampNeg) dX11_laysMost_161 lm_12 h30 rfl hI31 ?_
      refine x_iinc 5 [(5, .int (v5 + (1 : Int32))), (0, .ref 0), (1, .int v1), (2, .int v2), (3, .int v3), (4, .int v4)] dX11_laysMost_162 rfl rfl (by decide) rfl ?_
      refine x_goto 142 dX11_laysMost_165 (by decide) ?_
      refine x_lv [(0, .ref 0), (1, .int v1), (2, .int v2), (3, .int v3), (4, .int v4), (5, .int (v5 + (1 : Int32)))] [1, 2, 3, 4, 5, 0] rfl ?_
      exact ih _ _ hf
set_option maxRecDepth 100000 in
set_option maxHeartbeats 4000000 in
theorem l_X11_laysMost_39   (v1 : Int32) (L : z_L) {r : z_I}  : ∀ (n : Nat) (v2 : Int32) (I : z_I), g_X11_laysMost_39 v1  n v2 I = some r → z_X layM RX11 cX11_laysMost 6 (none) ({ frames := 5, cells := 0, slots := 0, locals := 112 } : Room) 39 [(0, .ref 0), (1, .int v1), (2, .int v2)] [] I L (none, r, L) := by
  intro n
  induction n with
  | zero => intro v2 I hf; cases hf
  | succ n ih =>
    intro v2 I hf
    rw [g_X11_laysMost_39] at hf
    refine x_iload_n 2 dX11_laysMost_39 rfl rfl ?_
    refine x_if_lt 217 dX11_laysMost_40 (by decide) (fun hB => ?_) (fun hB => ?_)
    · replace hf := f_if hB hf
      cases hf
      exact x_vret dX11_laysMost_217 rfl rfl
    · replace hf := f_el hB hf
      refine x_iload_n 1 dX11_laysMost_43 rfl rfl ?_
      refine x_if_le 217 dX11_laysMost_44 (by decide) (fun hB => ?_) (fun hB => ?_)
      · replace hf := f_if hB hf
        cases hf
        exact x_vret dX11_laysMost_217 rfl rfl
      · replace hf := f_el hB hf
        refine x_aload_n 0 dX11_laysMost_47 rfl rfl ?_
        refine x_getR dX11_laysMost_48 lm_0 fl_X11_47 rfl ?_
        refine x_iload_n 2 dX11_laysMost_51 rfl rfl ?_
        refine x_dup2 dX11_laysMost_52 rfl rfl ?_
        obtain ⟨h10, hf⟩ := f_gd hf
        refine x_iald (j := (v2).toNatClampNeg) (v := (I 9 (v2).toNatClampNeg)) dX11_laysMost_53 lm_9 h10 rfl rfl ?_
        refine x_iconst (v := (1)) dX11_laysMost_54 (by decide) ?_
        refine x_iadd dX11_laysMost_55 ?_
        obtain ⟨I12, hI12, hf⟩ := f_lt hf
        refine x_iast (j0 := (v2).toNatClampNeg) dX11_laysMost_56 lm_9 h10 rfl hI12 ?_
        refine x_aload_n 0 dX11_laysMost_57 rfl rfl ?_
        refine x_getR dX11_laysMost_58 lm_0 fl_X11_47 rfl ?_
        refine x_iload_n 2 dX11_laysMost_61 rfl rfl ?_
        refine x_iald (j := (v2).toNatClampNeg) (v := (I12 9 (v2).toNatClampNeg)) dX11_laysMost_62 lm_9 h10 rfl rfl ?_
        refine x_istore_n [(3, .int (I12 9 (v2).toNatClampNeg)), (0, .ref 0), (1, .int v1), (2, .int v2)] dX11_laysMost_63 rfl (by decide) rfl ?_
        refine x_iload_n 0 dX11_laysMost_64 rfl rfl ?_
        refine x_aload_n 1 dX11_laysMost_65 rfl rfl ?_
        refine x_getR dX11_laysMost_66 lm_0 fl_X11_7 rfl ?_
        refine x_iconst (v := (2)) dX11_laysMost_69 (by decide) ?_
        refine x_iald (j := 2) (v := (I 1 2)) dX11_laysMost_70 lm_1 (by decide +kernel) (by decide +kernel) (by rw [hI12, z2_o (by decide)]) ?_
        refine x_icmp_ne 80 dX11_laysMost_71 (by decide) (fun hB => ?_) (fun hB => ?_)
        · replace hf := f_el hB hf
          refine x_aload_n 1 dX11_laysMost_80 rfl rfl ?_
          refine x_aload_n 1 dX11_laysMost_81 rfl rfl ?_
          refine x_getR dX11_laysMost_82 lm_0 fl_X11_53 rfl ?_
          refine x_iload_n 3 dX11_laysMost_85 rfl rfl ?_
          refine x_iald (j := (v2).toNatClampNeg) (v := (I 11 (v2).toNatClampNeg)) dX11_laysMost_86 lm_11 h10 rfl (by rw [hI12, z2_o (by decide)]) ?_
          refine x_iload_n 0 dX11_laysMost_87 rfl rfl ?_
          refine x_callVi [.int (I 11 (v2).toNatClampNeg), .int (I12 9 (v2).toNatClampNeg)] (c_X11_isIn (I := I12) (L := L) (I 11 (v2).toNatClampNeg) (I12 9 (v2).toNatClampNeg)) dX11_laysMost_88 lk_X11_236 lm_0 rfl cd_X11_isIn rfl rfl (Nat.le_of_ble_eq_true rfl) ⟨rfl, rfl, Nat.le_of_ble_eq_true rfl, Nat.le_of_ble_eq_true rfl⟩ ?_
          refine x_if_eqB 97 dX11_laysMost_91 (by decide) (fun hB => ?_) (fun hB => ?_)
          · replace hf := f_el hB hf
            refine x_aload_n 1 dX11_laysMost_97 rfl rfl ?_
            refine x_getR dX11_laysMost_98 lm_0 fl_X11_50 rfl ?_
            refine x_iload_n 3 dX11_laysMost_101 rfl rfl ?_
            refine x_iald (j := (v2).toNatClampNeg) (v := (I 10 (v2).toNatClampNeg)) dX11_laysMost_102 lm_10 h10 rfl (by rw [hI12, z2_o (by decide)]) ?_
            refine x_aload_n 1 dX11_laysMost_103 rfl rfl ?_
            refine x_iload_n 0 dX11_laysMost_104 rfl rfl ?_
            refine x_aload_n 1 dX11_laysMost_105 rfl rfl ?_
            refine x_getR dX11_laysMost_106 lm_0 fl_X11_53 rfl ?_
            refine x_iload_n 3 dX11_laysMost_109 rfl rfl ?_
            refine x_iald (j := (v2).toNatClampNeg) (v := (I 11 (v2).toNatClampNeg)) dX11_laysMost_110 lm_11 h10 rfl (by rw [hI12, z2_o (by decide)]) ?_
            obtain ⟨q18, hq19, hf⟩ := f_bd hf
            refine x_callVi [.int (I12 9 (v2).toNatClampNeg), .int (I 11 (v2).toNatClampNeg)] (c_X11_yieldBy (I := I12) (L := L)  hq19) dX11_laysMost_111 lk_X11_330 lm_0 rfl cd_X11_yieldBy rfl rfl (Nat.le_of_ble_eq_true rfl) ⟨rfl, rfl, Nat.le_of_ble_eq_true rfl, Nat.le_of_ble_eq_true rfl⟩ ?_
            refine x_iadd dX11_laysMost_114 ?_
            refine x_istore [(4, .int ((I 10 (v2).toNatClampNeg) + q18)), (3, .int (I12 9 (v2).toNatClampNeg)), (0, .ref 0), (1, .int v1), (2, .int v2)] dX11_laysMost_115 (by decide) rfl ?_
            refine x_iload 0 dX11_laysMost_117 rfl ?_
            refine x_aload_n 2 dX11_laysMost_119 rfl rfl ?_
            refine x_getI (v := (I 0 28)) dX11_laysMost_120 lm_0 fl_X11_372 rfl (by rw [hI12, z2_o (by decide)]) ?_
            refine x_icmp_le 168 dX11_laysMost_123 (by decide) (fun hB => ?_) (fun hB => ?_)
            · replace hf := f_if hB hf
              refine x_iload_n 4 dX11_laysMost_168 rfl rfl ?_
              refine x_iconst (v := (1)) dX11_laysMost_169 (by decide) ?_
              refine x_iadd dX11_laysMost_170 ?_
              refine x_iload_n 3 dX11_laysMost_171 rfl rfl ?_
              refine x_icmp_ne 178 dX11_laysMost_172 (by decide) (fun hB => ?_) (fun hB => ?_)
              · replace hf := f_el hB hf
                refine x_iinc 4 [(2, .int (v2 + (1 : Int32))), (4, .int ((I 10 (v2).toNatClampNeg) + q18)), (3, .int (I12 9 (v2).toNatClampNeg)), (0, .ref 0), (1, .int v1)] dX11_laysMost_178 rfl rfl (by decide) rfl ?_
                refine x_aload_n 3 dX11_laysMost_181 rfl rfl ?_
                refine x_getR dX11_laysMost_182 lm_0 fl_X11_47 rfl ?_
                refine x_iload_n 0 dX11_laysMost_185 rfl rfl ?_
                refine x_iconst (v := (-1)) dX11_laysMost_186 (by decide) ?_
                obtain ⟨h20, hf⟩ := f_gd hf
                obtain ⟨I21, hI21, hf⟩ := f_lt hf
                refine x_iast (j0 := ((v2 + (1 : Int32))).toNatClampNeg) dX11_laysMost_187 lm_9 h20 rfl hI21 ?_
                refine x_aload_n 3 dX11_laysMost_188 rfl rfl ?_
                refine x_getR dX11_laysMost_189 lm_0 fl_X11_50 rfl ?_
                refine x_iload_n 0 dX11_laysMost_192 rfl rfl ?_
                refine x_iload 1 dX11_laysMost_193 rfl ?_
                obtain ⟨I23, hI23, hf⟩ := f_lt hf
                refine x_iast (j0 := ((v2 + (1 : Int32))).toNatClampNeg) dX11_laysMost_195 lm_10 h20 rfl hI23 ?_
                refine x_aload_n 3 dX11_laysMost_196 rfl rfl ?_
                refine x_getR dX11_laysMost_197 lm_0 fl_X11_53 rfl ?_
                refine x_iload_n 0 dX11_laysMost_200 rfl rfl ?_
                refine x_aload_n 3 dX11_laysMost_201 rfl rfl ?_
                refine x_getR dX11_laysMost_202 lm_0 fl_X11_53 rfl ?_
                refine x_iload_n 0 dX11_laysMost_205 rfl rfl ?_
                refine x_iconst (v := (1)) dX11_laysMost_206 (by decide) ?_
                refine x_isub dX11_laysMost_207 ?_
                obtain ⟨h24, hf⟩ := f_gd hf
                refine x_iald (j := (((v2 + (1 : Int32)) - (1 : Int32))).toNatClampNeg) (v := (I 11 (((v2 + (1 : Int32)) - (1 : Int32))).toNatClampNeg)) dX11_laysMost_208 lm_11 h24 rfl (by rw [hI23, z2_o (by decide), hI21, z2_o (by decide), hI12, z2_o (by decide)]) ?_
                refine x_iconst (v := (1)) dX11_laysMost_209 (by decide) ?_
                refine x_iload_n 2 dX11_laysMost_210 rfl rfl ?_
                refine x_ishl dX11_laysMost_211 ?_
                refine x_ior dX11_laysMost_212 ?_
                obtain ⟨I26, hI26, hf⟩ := f_lt hf
                refine x_iast (j0 := ((v2 + (1 : Int32))).toNatClampNeg) dX11_laysMost_213 lm_11 h20 rfl hI26 ?_
                refine x_goto 39 dX11_laysMost_214 (by decide) ?_
                refine x_lv [(0, .ref 0), (1, .int v1), (2, .int (v2 + (1 : Int32)))] [3, 4, 0] rfl ?_
                exact ih _ _ hf
              · replace hf := f_if hB hf
                refine x_goto 39 dX11_laysMost_175 (by decide) ?_
                refine x_lv [(0, .ref 0), (1, .int v1), (2, .int v2)] [2, 3, 4] rfl ?_
                exact ih _ _ hf
            · replace hf := f_el hB hf
              refine x_aload_n 2 dX11_laysMost_126 rfl rfl ?_
              refine x_iload 0 dX11_laysMost_127 rfl ?_
              obtain ⟨I27, hI27, hf⟩ := f_lt hf
              refine x_putI dX11_laysMost_129 lm_0 fl_X11_372 rfl rfl rfl hI27 ?_
              refine x_aload_n 2 dX11_laysMost_132 rfl rfl ?_
              refine x_iload_n 4 dX11_laysMost_133 rfl rfl ?_
              refine x_iconst (v := (1)) dX11_laysMost_134 (by decide) ?_
              refine x_iadd dX11_laysMost_135 ?_
              obtain ⟨I28, hI28, hf⟩ := f_lt hf
              refine x_putI dX11_laysMost_136 lm_0 fl_X11_375 rfl rfl rfl hI28 ?_
              refine x_iconst (v := (0)) dX11_laysMost_139 (by decide) ?_
              refine x_istore [(5, .int (0 : Int32)), (4, .int ((I 10 (v2).toNatClampNeg) + q18)), (3, .int (I12 9 (v2).toNatClampNeg)), (0, .ref 0), (1, .int v1), (2, .int v2)] dX11_laysMost_140 (by decide) rfl ?_
              refine x_lv [(0, .ref 0), (1, .int v1), (2, .int v2), (3, .int (I12 9 (v2).toNatClampNeg)), (4, .int ((I 10 (v2).toNatClampNeg) + q18)), (5, .int (0 : Int32))] [3, 4, 5, 2, 1, 0] rfl ?_
              refine l_X11_laysMost_142 v1 v2 (I12 9 (v2).toNatClampNeg) ((I 10 (v2).toNatClampNeg) + q18) (L) _ ?_ _ _ _ hf
              · intro I_32 hf
                refine x_iload_n 2 dX11_laysMost_168 rfl rfl ?_
                refine x_iconst (v := (1)) dX11_laysMost_169 (by decide) ?_
                refine x_iadd dX11_laysMost_170 ?_
                refine x_iload_n 1 dX11_laysMost_171 rfl rfl ?_
                refine x_icmp_ne 178 dX11_laysMost_172 (by decide) (fun hB => ?_) (fun hB => ?_)
                · replace hf := f_el hB hf
                  refine x_iinc 2 [(2, .int (v2 + (1 : Int32))), (0, .ref 0), (1, .int v1), (3, .int (I12 9 (v2).toNatClampNeg)), (4, .int ((I 10 (v2).toNatClampNeg) + q18))] dX11_laysMost_178 rfl rfl (by decide) rfl ?_
                  refine x_aload_n 1 dX11_laysMost_181 rfl rfl ?_
                  refine x_getR dX11_laysMost_182 lm_0 fl_X11_47 rfl ?_
                  refine x_iload_n 0 dX11_laysMost_185 rfl rfl ?_
                  refine x_iconst (v := (-1)) dX11_laysMost_186 (by decide) ?_
                  obtain ⟨h33, hf⟩ := f_gd hf
                  obtain ⟨I34, hI34, hf⟩ := f_lt hf
                  refine x_iast (j0 := ((v2 + (1 : Int32))).toNatClampNeg) dX11_laysMost_187 lm_9 h33 rfl hI34 ?_
                  refine x_aload_n 1 dX11_laysMost_188 rfl rfl ?_
                  refine x_getR dX11_laysMost_189 lm_0 fl_X11_50 rfl ?_
                  refine x_iload_n 0 dX11_laysMost_192 rfl rfl ?_
                  refine x_iload 4 dX11_laysMost_193 rfl ?_
                  obtain ⟨I36, hI36, hf⟩ := f_lt hf
                  refine x_iast (j0 := ((v2 + (1 : Int32))).toNatClampNeg) dX11_laysMost_195 lm_10 h33 rfl hI36 ?_
                  refine x_aload_n 1 dX11_laysMost_196 rfl rfl ?_
                  refine x_getR dX11_laysMost_197 lm_0 fl_X11_53 rfl ?_
                  refine x_iload_n 0 dX11_laysMost_200 rfl rfl ?_
                  refine x_aload_n 1 dX11_laysMost_201 rfl rfl ?_
                  refine x_getR dX11_laysMost_202 lm_0 fl_X11_53 rfl ?_
                  refine x_iload_n 0 dX11_laysMost_205 rfl rfl ?_
                  refine x_iconst (v := (1)) dX11_laysMost_206 (by decide) ?_
                  refine x_isub dX11_laysMost_207 ?_
                  obtain ⟨h37, hf⟩ := f_gd hf
                  refine x_iald (j := (((v2 + (1 : Int32)) - (1 : Int32))).toNatClampNeg) (v := (I_32 11 (((v2 + (1 : Int32)) - (1 : Int32))).toNatClampNeg)) dX11_laysMost_208 lm_11 h37 rfl (by rw [hI36, z2_o (by decide), hI34, z2_o (by decide)]) ?_
                  refine x_iconst (v := (1)) dX11_laysMost_209 (by decide) ?_
                  refine x_iload_n 3 dX11_laysMost_210 rfl rfl ?_
                  refine x_ishl dX11_laysMost_211 ?_
                  refine x_ior dX11_laysMost_212 ?_
                  obtain ⟨I39, hI39, hf⟩ := f_lt hf
                  refine x_iast (j0 := ((v2 + (1 : Int32))).toNatClampNeg) dX11_laysMost_213 lm_11 h33 rfl hI39 ?_
                  refine x_goto 39 dX11_laysMost_214 (by decide) ?_
                  refine x_lv [(0, .ref 0), (1, .int v1), (2, .int (v2 + (1 : Int32)))] [1, 2, 0] rfl ?_
                  exact ih _ _ hf
                · replace hf := f_if hB hf
                  refine x_goto 39 dX11_laysMost_175 (by decide) ?_
                  refine x_lv [(0, .ref 0), (1, .int v1), (2, .int v2)] [0, 1, 2] rfl ?_
                  exact ih _ _ hf
          · replace hf := f_if hB hf
            refine x_goto 39 dX11_laysMost_94 (by decide) ?_
            refine x_lv [(0, .ref 0), (1, .int v1), (2, .int v2)] [1, 2, 3] rfl ?_
            exact ih _ _ hf
        · replace hf := f_if hB hf
          refine x_iinc 3 [(2, .int (v2 + (-1 : Int32))), (3, .int (I12 9 (v2).toNatClampNeg)), (0, .ref 0), (1, .int v1)] dX11_laysMost_74 rfl rfl (by decide) rfl ?_
          refine x_goto 39 dX11_laysMost_77 (by decide) ?_
          refine x_lv [(0, .ref 0), (1, .int v1), (2, .int (v2 + (-1 : Int32)))] [2, 3, 0] rfl ?_
          exact ih _ _ hf
set_option maxRecDepth 100000 in
set_option maxHeartbeats 4000000 in
theorem c_X11_laysMost {I : z_I} {L : z_L} {p0 : Int32}  {r : z_I} (hf : f_X11_laysMost I p0 = some r) : z_C layM yX11_laysMost cX11_laysMost 6 (none) ({ frames := 5, cells := 0, slots := 0, locals := 112 } : Room) [.ref 0, .int p0] I L (none, r, L) := by
  refine z_C.of (by decide) (Nat.le_of_ble_eq_true rfl) ?_
  show z_X layM RX11 cX11_laysMost 6 (none) ({ frames := 5, cells := 0, slots := 0, locals := 112 } : Room) 0 [(0, .ref 0), (1, .int p0)] [] I L (none, r, L)
  unfold f_X11_laysMost at hf
  refine x_iconst (v := (0)) dX11_laysMost_0 (by decide) ?_
  refine x_istore_n [(2, .int (0 : Int32)), (0, .ref 0), (1, .int p0)] dX11_laysMost_1 rfl (by decide) rfl ?_
  refine x_aload_n 1 dX11_laysMost_2 rfl rfl ?_
  refine x_iconst (v := (0)) dX11_laysMost_3 (by decide) ?_
  obtain ⟨I1, hI1, hf⟩ := f_lt hf
  refine x_putI dX11_laysMost_4 lm_0 fl_X11_372 rfl rfl rfl hI1 ?_
  refine x_aload_n 1 dX11_laysMost_7 rfl rfl ?_
  refine x_iconst (v := (0)) dX11_laysMost_8 (by decide) ?_
  obtain ⟨I2, hI2, hf⟩ := f_lt hf
  refine x_putI dX11_laysMost_9 lm_0 fl_X11_375 rfl rfl rfl hI2 ?_
  refine x_aload_n 1 dX11_laysMost_12 rfl rfl ?_
  refine x_getR dX11_laysMost_13 lm_0 fl_X11_47 rfl ?_
  refine x_iconst (v := (0)) dX11_laysMost_16 (by decide) ?_
  refine x_iconst (v := (-1)) dX11_laysMost_17 (by decide) ?_
  obtain ⟨I4, hI4, hf⟩ := f_lt hf
  refine x_iast (j0 := 0) dX11_laysMost_18 lm_9 (by decide +kernel) (by decide +kernel) hI4 ?_
  refine x_aload_n 1 dX11_laysMost_19 rfl rfl ?_
  refine x_getR dX11_laysMost_20 lm_0 fl_X11_50 rfl ?_
  refine x_iconst (v := (0)) dX11_laysMost_23 (by decide) ?_
  refine x_iconst (v := (0)) dX11_laysMost_24 (by decide) ?_
  obtain ⟨I6, hI6, hf⟩ := f_lt hf
  refine x_iast (j0 := 0) dX11_laysMost_25 lm_10 (by decide +kernel) (by decide +kernel) hI6 ?_
  refine x_aload_n 1 dX11_laysMost_26 rfl rfl ?_
  refine x_getR dX11_laysMost_27 lm_0 fl_X11_53 rfl ?_
  refine x_iconst (v := (0)) dX11_laysMost_30 (by decide) ?_
  refine x_aload_n 1 dX11_laysMost_31 rfl rfl ?_
  refine x_getR dX11_laysMost_32 lm_0 fl_X11_7 rfl ?_
  refine x_bipush (v := (6)) dX11_laysMost_35 (by decide) ?_
  refine x_iald (j := 6) (v := (I 1 6)) dX11_laysMost_37 lm_1 (by decide +kernel) (by decide +kernel) (by rw [hI6, z2_o (by decide), hI4, z2_o (by decide), hI2, z2_o (by decide), hI1, z2_o (by decide)]) ?_
  obtain ⟨I9, hI9, hf⟩ := f_lt hf
  refine x_iast (j0 := 0) dX11_laysMost_38 lm_11 (by decide +kernel) (by decide +kernel) hI9 ?_
  refine x_lv [(0, .ref 0), (1, .int p0), (2, .int (0 : Int32))] [1, 2, 0] rfl ?_
  refine l_X11_laysMost_39 p0 (L)   _ _ _ hf
set_option maxRecDepth 100000 in
set_option maxHeartbeats 4000000 in
theorem c_X11_most {I : z_I} {L : z_L} {p0 : Int32}  {r : Int32 × z_I} (hf : f_X11_most I p0 = some r) : z_C layM yX11_most cX11_most 2 (some .int) ({ frames := 6, cells := 0, slots := 0, locals := 137 } : Room) [.ref 0, .int p0] I L (some (.int r.1), r.2, L) := by
  refine z_C.of (by decide) (Nat.le_of_ble_eq_true rfl) ?_
  show z_X layM RX11 cX11_most 2 (some .int) ({ frames := 6, cells := 0, slots := 0, locals := 137 } : Room) 0 [(0, .ref 0), (1, .int p0)] [] I L (some (.int r.1), r.2, L)
  unfold f_X11_most at hf
  refine x_iload_n 1 dX11_most_0 rfl rfl ?_
  refine x_i2l dX11_most_1 ?_
  refine x_lconst (v := (0)) dX11_most_2 (by decide) ?_
  refine x_ldc2 (v := (3)) dX11_most_3 kc_X11_378 ?_
  refine x_callSi [.long (p0.toInt64), .long (0 : Int64), .long (3 : Int64)] (c_X11_isFrom (I := I) (L := L) (p0.toInt64) (0 : Int64) (3 : Int64)) dX11_most_6 lk_X11_299 cd_X11_isFrom rfl rfl (Nat.le_of_ble_eq_true rfl) ⟨rfl, rfl, Nat.le_of_ble_eq_true rfl, Nat.le_of_ble_eq_true rfl⟩ ?_
  refine x_if_neB 18 dX11_most_9 (by decide) (fun hB => ?_) (fun hB => ?_)
  · replace hf := f_if hB hf
    refine x_aload_n 0 dX11_most_18 rfl rfl ?_
    refine x_iload_n 1 dX11_most_19 rfl rfl ?_
    obtain ⟨q1, hq2, hf⟩ := f_bd hf
    refine x_callVv [.int p0] (c_X11_laysMost (I := I) (L := L)  hq2) dX11_most_20 lk_X11_380 lm_0 rfl cd_X11_laysMost rfl rfl (Nat.le_of_ble_eq_true rfl) ⟨rfl, rfl, Nat.le_of_ble_eq_true rfl, Nat.le_of_ble_eq_true rfl⟩ ?_
    refine x_aload_n 0 dX11_most_23 rfl rfl ?_
    refine x_aload_n 0 dX11_most_24 rfl rfl ?_
    refine x_getI (v := (q1 0 28)) dX11_most_25 lm_0 fl_X11_372 rfl rfl ?_
    refine x_callVi [.int (q1 0 28)] (c_X11_gives (I := q1) (L := L) (q1 0 28)) dX11_most_28 lk_X11_103 lm_0 rfl cd_X11_gives rfl rfl (Nat.le_of_ble_eq_true rfl) ⟨rfl, rfl, Nat.le_of_ble_eq_true rfl, Nat.le_of_ble_eq_true rfl⟩ ?_
    cases hf
    exact x_iret dX11_most_31 rfl rfl
  · replace hf := f_el hB hf
    refine x_aload_n 0 dX11_most_12 rfl rfl ?_
    refine x_iconst (v := (1)) dX11_most_13 (by decide) ?_
    refine x_callVi [.int (1 : Int32)] (c_X11_refuse (I := I) (L := L) (1 : Int32)) dX11_most_14 lk_X11_99 lm_0 rfl cd_X11_refuse rfl rfl (Nat.le_of_ble_eq_true rfl) ⟨rfl, rfl, Nat.le_of_ble_eq_true rfl, Nat.le_of_ble_eq_true rfl⟩ ?_
    cases hf
    exact x_iret dX11_most_17 rfl rfl
set_option maxRecDepth 100000 in
set_option maxHeartbeats 4000000 in
theorem c_X11_first {I : z_I} {L : z_L} {p0 : Int32} {p1 : Int32}  {r : Int32 × z_I} (hf : f_X11_first I p0 p1 = some r) : z_C layM yX11_first cX11_first 3 (some .int) ({ frames := 6, cells := 0, slots := 0, locals := 137 } : Room) [.ref 0, .int p0, .int p1] I L (some (.int r.1), r.2, L) := by
  refine z_C.of (by decide) (Nat.le_of_ble_eq_true rfl) ?_
  show z_X layM RX11 cX11_first 3 (some .int) ({ frames := 6, cells := 0, slots := 0, locals := 137 } : Room) 0 [(0, .ref 0), (1, .int p0), (2, .int p1)] [] I L (some (.int r.1), r.2, L)
  unfold f_X11_first at hf
  refine x_iload_n 1 dX11_first_0 rfl rfl ?_
  refine x_i2l dX11_first_1 ?_
  refine x_lconst (v := (0)) dX11_first_2 (by decide) ?_
  refine x_ldc2 (v := (3)) dX11_first_3 kc_X11_378 ?_
  refine x_callSi [.long (p0.toInt64), .long (0 : Int64), .long (3 : Int64)] (c_X11_isFrom (I := I) (L := L) (p0.toInt64) (0 : Int64) (3 : Int64)) dX11_first_6 lk_X11_299 cd_X11_isFrom rfl rfl (Nat.le_of_ble_eq_true rfl) ⟨rfl, rfl, Nat.le_of_ble_eq_true rfl, Nat.le_of_ble_eq_true rfl⟩ ?_
  refine x_if_eqB 16 dX11_first_9 (by decide) (fun hB => ?_) (fun hB => ?_)
  · replace hf := f_el hB hf
    refine x_aload_n 0 dX11_first_16 rfl rfl ?_
    refine x_iconst (v := (1)) dX11_first_17 (by decide) ?_
    refine x_callVi [.int (1 : Int32)] (c_X11_refuse (I := I) (L := L) (1 : Int32)) dX11_first_18 lk_X11_99 lm_0 rfl cd_X11_refuse rfl rfl (Nat.le_of_ble_eq_true rfl) ⟨rfl, rfl, Nat.le_of_ble_eq_true rfl, Nat.le_of_ble_eq_true rfl⟩ ?_
    cases hf
    exact x_iret dX11_first_21 rfl rfl
  · replace hf := f_if hB hf
    refine x_iload_n 2 dX11_first_12 rfl rfl ?_
    refine x_if_ge 22 dX11_first_13 (by decide) (fun hB => ?_) (fun hB => ?_)
    · replace hf := f_if hB hf
      refine x_aload_n 0 dX11_first_22 rfl rfl ?_
      refine x_iload_n 1 dX11_first_23 rfl rfl ?_
      obtain ⟨q1, hq2, hf⟩ := f_bd hf
      refine x_callVv [.int p0] (c_X11_laysMost (I := I) (L := L)  hq2) dX11_first_24 lk_X11_380 lm_0 rfl cd_X11_laysMost rfl rfl (Nat.le_of_ble_eq_true rfl) ⟨rfl, rfl, Nat.le_of_ble_eq_true rfl, Nat.le_of_ble_eq_true rfl⟩ ?_
      refine x_iload_n 2 dX11_first_27 rfl rfl ?_
      refine x_aload_n 0 dX11_first_28 rfl rfl ?_
      refine x_getI (v := (q1 0 29)) dX11_first_29 lm_0 fl_X11_375 rfl rfl ?_
      refine x_icmp_lt 44 dX11_first_32 (by decide) (fun hB => ?_) (fun hB => ?_)
      · replace hf := f_if hB hf
        refine x_aload_n 0 dX11_first_44 rfl rfl ?_
        refine x_aload_n 0 dX11_first_45 rfl rfl ?_
        refine x_getR dX11_first_46 lm_0 fl_X11_56 rfl ?_
        refine x_iload_n 2 dX11_first_49 rfl rfl ?_
        obtain ⟨h3, hf⟩ := f_gd hf
        refine x_iald (j := (p1).toNatClampNeg) (v := (q1 12 (p1).toNatClampNeg)) dX11_first_50 lm_12 h3 rfl rfl ?_
        refine x_callVi [.int (q1 12 (p1).toNatClampNeg)] (c_X11_gives (I := q1) (L := L) (q1 12 (p1).toNatClampNeg)) dX11_first_51 lk_X11_103 lm_0 rfl cd_X11_gives rfl rfl (Nat.le_of_ble_eq_true rfl) ⟨rfl, rfl, Nat.le_of_ble_eq_true rfl, Nat.le_of_ble_eq_true rfl⟩ ?_
        cases hf
        exact x_iret dX11_first_54 rfl rfl
      · replace hf := f_el hB hf
        refine x_aload_n 0 dX11_first_35 rfl rfl ?_
        refine x_bipush (v := (6)) dX11_first_36 (by decide) ?_
        refine x_callVi [.int (6 : Int32)] (c_X11_refuse (I := q1) (L := L) (6 : Int32)) dX11_first_38 lk_X11_99 lm_0 rfl cd_X11_refuse rfl rfl (Nat.le_of_ble_eq_true rfl) ⟨rfl, rfl, Nat.le_of_ble_eq_true rfl, Nat.le_of_ble_eq_true rfl⟩ ?_
        refine x_goto 54 dX11_first_41 (by decide) ?_
        cases hf
        exact x_iret dX11_first_54 rfl rfl
    · replace hf := f_el hB hf
      refine x_aload_n 0 dX11_first_16 rfl rfl ?_
      refine x_iconst (v := (1)) dX11_first_17 (by decide) ?_
      refine x_callVi [.int (1 : Int32)] (c_X11_refuse (I := I) (L := L) (1 : Int32)) dX11_first_18 lk_X11_99 lm_0 rfl cd_X11_refuse rfl rfl (Nat.le_of_ble_eq_true rfl) ⟨rfl, rfl, Nat.le_of_ble_eq_true rfl, Nat.le_of_ble_eq_true rfl⟩ ?_
      cases hf
      exact x_iret dX11_first_21 rfl rfl
set_option maxRecDepth 100000 in
set_option maxHeartbeats 4000000 in
theorem l_X11_partsAll_17   (v1 : Int32) (v2 : Int32) (v3 : Int32) (I : z_I) (L : z_L) {r : Bool} (k67 : Option (Bool)) (hk67 : k67 = some r → z_X layM RX11 cX11_partsAll 5 (some .boolean) ({ frames := 3, cells := 0, slots := 0, locals := 65 } : Room) 67 [(0, .ref 0), (1, .int v1), (2, .int v2), (3, .int v3)] [] I L (some (.int (zb r)), I, L)) : ∀ (n : Nat) (v4 : Int32), g_X11_partsAll_17 v1 v2 v3 I k67 n v4 = some r → z_X layM RX11 cX11_partsAll 5 (some .boolean) ({ frames := 3, cells := 0, slots := 0, locals := 65 } : Room) 17 [(0, .ref 0), (1, .int v1), (2, .int v2), (3, .int v3), (4, .int v4)] [] I L (some (.int (zb r)), I, L) := by
  intro n
  induction n with
  | zero => intro v4 hf; cases hf
  | succ n ih =>
    intro v4 hf
    rw [g_X11_partsAll_17] at hf
    refine x_iload 4 dX11_partsAll_17 rfl ?_
    refine x_aload_n 0 dX11_partsAll_19 rfl rfl ?_
    refine x_getR dX11_partsAll_20 lm_0 fl_X11_7 rfl ?_
    refine x_iconst (v := (1)) dX11_partsAll_23 (by decide) ?_
    refine x_iald (j := 1) (v := (I 1 1)) dX11_partsAll_24 lm_1 (by decide +kernel) (by decide +kernel) rfl ?_
    refine x_icmp_ge 67 dX11_partsAll_25 (by decide) (fun hB => ?_) (fun hB => ?_)
    · replace hf := f_if hB hf
      refine x_lv [(0, .ref 0), (1, .int v1), (2, .int v2), (3, .int v3)] [0, 1, 2, 3] rfl ?_
      exact hk67  hf
    · replace hf := f_el hB hf
      refine x_aload_n 0 dX11_partsAll_28 rfl rfl ?_
      refine x_iload_n 2 dX11_partsAll_29 rfl rfl ?_
      refine x_iload_n 3 dX11_partsAll_30 rfl rfl ?_
      refine x_callVi [.int v2, .int v3] (c_X11_isIn (I := I) (L := L) v2 v3) dX11_partsAll_31 lk_X11_236 lm_0 rfl cd_X11_isIn rfl rfl (Nat.le_of_ble_eq_true rfl) ⟨rfl, rfl, Nat.le_of_ble_eq_true rfl, Nat.le_of_ble_eq_true rfl⟩ ?_
      refine x_if_eqB 61 dX11_partsAll_34 (by decide) (fun hB => ?_) (fun hB => ?_)
      · replace hf := f_el hB hf
        refine x_iinc 4 [(4, .int (v4 + (1 : Int32))), (0, .ref 0), (1, .int v1), (2, .int v2), (3, .int v3)] dX11_partsAll_61 rfl rfl (by decide) rfl ?_
        refine x_goto 17 dX11_partsAll_64 (by decide) ?_
        refine x_lv [(0, .ref 0), (1, .int v1), (2, .int v2), (3, .int v3), (4, .int (v4 + (1 : Int32)))] [1, 2, 3, 4, 0] rfl ?_
        exact ih _ hf
      · replace hf := f_if hB hf
        refine x_aload_n 0 dX11_partsAll_37 rfl rfl ?_
        refine x_iload_n 2 dX11_partsAll_38 rfl rfl ?_
        refine x_iload 4 dX11_partsAll_39 rfl ?_
        refine x_callVi [.int v2, .int v4] (c_X11_isIn (I := I) (L := L) v2 v4) dX11_partsAll_41 lk_X11_236 lm_0 rfl cd_X11_isIn rfl rfl (Nat.le_of_ble_eq_true rfl) ⟨rfl, rfl, Nat.le_of_ble_eq_true rfl, Nat.le_of_ble_eq_true rfl⟩ ?_
        refine x_if_eqB 61 dX11_partsAll_44 (by decide) (fun hB => ?_) (fun hB => ?_)
        · replace hf := f_el hB hf
          refine x_iinc 4 [(4, .int (v4 + (1 : Int32))), (0, .ref 0), (1, .int v1), (2, .int v2), (3, .int v3)] dX11_partsAll_61 rfl rfl (by decide) rfl ?_
          refine x_goto 17 dX11_partsAll_64 (by decide) ?_
          refine x_lv [(0, .ref 0), (1, .int v1), (2, .int v2), (3, .int v3), (4, .int (v4 + (1 : Int32)))] [1, 2, 3, 4, 0] rfl ?_
          exact ih _ hf
        · replace hf := f_if hB hf
          refine x_aload_n 0 dX11_partsAll_47 rfl rfl ?_
          refine x_iload_n 3 dX11_partsAll_48 rfl rfl ?_
          refine x_iload 4 dX11_partsAll_49 rfl ?_
          obtain ⟨q3, hq4, hf⟩ := f_bd hf
          refine x_callVi [.int v3, .int v4] (c_X11_partingOf (I := I) (L := L)  hq4) dX11_partsAll_51 lk_X11_369 lm_0 rfl cd_X11_partingOf rfl rfl (Nat.le_of_ble_eq_true rfl) ⟨rfl, rfl, Nat.le_of_ble_eq_true rfl, Nat.le_of_ble_eq_true rfl⟩ ?_
          refine x_iload_n 1 dX11_partsAll_54 rfl rfl ?_
          refine x_iand dX11_partsAll_55 ?_
          refine x_if_ne 61 dX11_partsAll_56 (by decide) (fun hB => ?_) (fun hB => ?_)
          · replace hf := f_el hB hf
            refine x_iinc 4 [(4, .int (v4 + (1 : Int32))), (0, .ref 0), (1, .int v1), (2, .int v2), (3, .int v3)] dX11_partsAll_61 rfl rfl (by decide) rfl ?_
            refine x_goto 17 dX11_partsAll_64 (by decide) ?_
            refine x_lv [(0, .ref 0), (1, .int v1), (2, .int v2), (3, .int v3), (4, .int (v4 + (1 : Int32)))] [1, 2, 3, 4, 0] rfl ?_
            exact ih _ hf
          · replace hf := f_if hB hf
            refine x_iconst (v := (0)) dX11_partsAll_59 (by decide) ?_
            cases hf
            exact x_zret (b := false) dX11_partsAll_60 rfl rfl
set_option maxRecDepth 100000 in
set_option maxHeartbeats 4000000 in
theorem l_X11_partsAll_2   (v1 : Int32) (v2 : Int32) (I : z_I) (L : z_L) {r : Bool}  : ∀ (n : Nat) (v3 : Int32), g_X11_partsAll_2 v1 v2 I  n v3 = some r → z_X layM RX11 cX11_partsAll 5 (some .boolean) ({ frames := 3, cells := 0, slots := 0, locals := 65 } : Room) 2 [(0, .ref 0), (1, .int v1), (2, .int v2), (3, .int v3)] [] I L (some (.int (zb r)), I, L) := by
  intro n
  induction n with
  | zero => intro v3 hf; cases hf
  | succ n ih =>
    intro v3 hf
    rw [g_X11_partsAll_2] at hf
    refine x_iload_n 3 dX11_partsAll_2 rfl rfl ?_
    refine x_aload_n 0 dX11_partsAll_3 rfl rfl ?_
    refine x_getR dX11_partsAll_4 lm_0 fl_X11_7 rfl ?_
    refine x_iconst (v := (1)) dX11_partsAll_7 (by decide) ?_
    refine x_iald (j := 1) (v := (I 1 1)) dX11_partsAll_8 lm_1 (by decide +kernel) (by decide +kernel) rfl ?_
    refine x_icmp_ge 73 dX11_partsAll_9 (by decide) (fun hB => ?_) (fun hB => ?_)
    · replace hf := f_if hB hf
      refine x_iconst (v := (1)) dX11_partsAll_73 (by decide) ?_
      cases hf
      exact x_zret (b := true) dX11_partsAll_74 rfl rfl
    · replace hf := f_el hB hf
      refine x_iload_n 3 dX11_partsAll_12 rfl rfl ?_
      refine x_iconst (v := (1)) dX11_partsAll_13 (by decide) ?_
      refine x_iadd dX11_partsAll_14 ?_
      refine x_istore [(4, .int (v3 + (1 : Int32))), (0, .ref 0), (1, .int v1), (2, .int v2), (3, .int v3)] dX11_partsAll_15 (by decide) rfl ?_
      refine x_lv [(0, .ref 0), (1, .int v1), (2, .int v2), (3, .int v3), (4, .int (v3 + (1 : Int32)))] [1, 2, 3, 4, 0] rfl ?_
      refine l_X11_partsAll_17 v1 v2 v3 (I) (L) _ ?_ _ _ hf
      · intro  hf
        refine x_iinc 3 [(3, .int (v3 + (1 : Int32))), (0, .ref 0), (1, .int v1), (2, .int v2)] dX11_partsAll_67 rfl rfl (by decide) rfl ?_
        refine x_goto 2 dX11_partsAll_70 (by decide) ?_
        refine x_lv [(0, .ref 0), (1, .int v1), (2, .int v2), (3, .int (v3 + (1 : Int32)))] [1, 2, 3, 0] rfl ?_
        exact ih _ hf
set_option maxRecDepth 100000 in
set_option maxHeartbeats 4000000 in
theorem c_X11_partsAll {I : z_I} {L : z_L} {p0 : Int32} {p1 : Int32}  {r : Bool} (hf : f_X11_partsAll I p0 p1 = some r) : z_C layM yX11_partsAll cX11_partsAll 5 (some .boolean) ({ frames := 3, cells := 0, slots := 0, locals := 65 } : Room) [.ref 0, .int p0, .int p1] I L (some (.int (zb r)), I, L) := by
  refine z_C.of (by decide) (Nat.le_of_ble_eq_true rfl) ?_
  show z_X layM RX11 cX11_partsAll 5 (some .boolean) ({ frames := 3, cells := 0, slots := 0, locals := 65 } : Room) 0 [(0, .ref 0), (1, .int p0), (2, .int p1)] [] I L (some (.int (zb r)), I, L)
  unfold f_X11_partsAll at hf
  refine x_iconst (v := (0)) dX11_partsAll_0 (by decide) ?_
  refine x_istore_n [(3, .int (0 : Int32)), (0, .ref 0), (1, .int p0), (2, .int p1)] dX11_partsAll_1 rfl (by decide) rfl ?_
  refine x_lv [(0, .ref 0), (1, .int p0), (2, .int p1), (3, .int (0 : Int32))] [1, 2, 3, 0] rfl ?_
  refine l_X11_partsAll_2 p0 p1 (I) (L)   _ _ hf
set_option maxRecDepth 100000 in
set_option maxHeartbeats 4000000 in
theorem l_X11_fewestOf_4   (v1 : Int32) (I : z_I) (L : z_L) {r : Int32}  : ∀ (n : Nat) (v2 : Int32) (v3 : Int32), g_X11_fewestOf_4 v1 I  n v2 v3 = some r → z_X layM RX11 cX11_fewestOf 4 (some .int) ({ frames := 4, cells := 0, slots := 0, locals := 89 } : Room) 4 [(0, .ref 0), (1, .int v1), (2, .int v2), (3, .int v3)] [] I L (some (.int r), I, L) := by
  intro n
  induction n with
  | zero => intro v2 v3 hf; cases hf
  | succ n ih =>
    intro v2 v3 hf
    rw [g_X11_fewestOf_4] at hf
    refine x_iload_n 3 dX11_fewestOf_4 rfl rfl ?_
    refine x_iconst (v := (1)) dX11_fewestOf_5 (by decide) ?_
    refine x_aload_n 0 dX11_fewestOf_6 rfl rfl ?_
    refine x_getR dX11_fewestOf_7 lm_0 fl_X11_7 rfl ?_
    refine x_iconst (v := (2)) dX11_fewestOf_10 (by decide) ?_
    refine x_iald (j := 2) (v := (I 1 2)) dX11_fewestOf_11 lm_1 (by decide +kernel) (by decide +kernel) rfl ?_
    refine x_ishl dX11_fewestOf_12 ?_
    refine x_icmp_ge 49 dX11_fewestOf_13 (by decide) (fun hB => ?_) (fun hB => ?_)
    · replace hf := f_if hB hf
      refine x_iload_n 2 dX11_fewestOf_49 rfl rfl ?_
      cases hf
      exact x_iret dX11_fewestOf_50 rfl rfl
    · replace hf := f_el hB hf
      refine x_iload_n 2 dX11_fewestOf_16 rfl rfl ?_
      refine x_iconst (v := (-1)) dX11_fewestOf_17 (by decide) ?_
      refine x_icmp_eq 32 dX11_fewestOf_18 (by decide) (fun hB => ?_) (fun hB => ?_)
      · replace hf := f_if hB hf
        refine x_aload_n 0 dX11_fewestOf_32 rfl rfl ?_
        refine x_iload_n 3 dX11_fewestOf_33 rfl rfl ?_
        refine x_iload_n 1 dX11_fewestOf_34 rfl rfl ?_
        obtain ⟨q2, hq3, hf⟩ := f_bd hf
        refine x_callVi [.int v3, .int v1] (c_X11_partsAll (I := I) (L := L)  hq3) dX11_fewestOf_35 lk_X11_383 lm_0 rfl cd_X11_partsAll rfl rfl (Nat.le_of_ble_eq_true rfl) ⟨rfl, rfl, Nat.le_of_ble_eq_true rfl, Nat.le_of_ble_eq_true rfl⟩ ?_
        refine x_if_eqB 43 dX11_fewestOf_38 (by decide) (fun hB => ?_) (fun hB => ?_)
        · replace hf := f_el hB hf
          refine x_iinc 3 [(3, .int (v3 + (1 : Int32))), (0, .ref 0), (1, .int v1), (2, .int v2)] dX11_fewestOf_43 rfl rfl (by decide) rfl ?_
          refine x_goto 4 dX11_fewestOf_46 (by decide) ?_
          refine x_lv [(0, .ref 0), (1, .int v1), (2, .int v2), (3, .int (v3 + (1 : Int32)))] [1, 2, 3, 0] rfl ?_
          exact ih _ _ hf
        · replace hf := f_if hB hf
          refine x_iload_n 3 dX11_fewestOf_41 rfl rfl ?_
          refine x_istore_n [(2, .int v3), (0, .ref 0), (1, .int v1), (3, .int v3)] dX11_fewestOf_42 rfl (by decide) rfl ?_
          refine x_iinc 3 [(3, .int (v3 + (1 : Int32))), (2, .int v3), (0, .ref 0), (1, .int v1)] dX11_fewestOf_43 rfl rfl (by decide) rfl ?_
          refine x_goto 4 dX11_fewestOf_46 (by decide) ?_
          refine x_lv [(0, .ref 0), (1, .int v1), (2, .int v3), (3, .int (v3 + (1 : Int32)))] [2, 3, 1, 0] rfl ?_
          exact ih _ _ hf
      · replace hf := f_el hB hf
        refine x_iload_n 3 dX11_fewestOf_21 rfl rfl ?_
        obtain ⟨q4, hq5, hf⟩ := f_bd hf
        refine x_callSi [.int v3] (c_X11_bits (I := I) (L := L)  hq5) dX11_fewestOf_22 lk_X11_312 cd_X11_bits rfl rfl (Nat.le_of_ble_eq_true rfl) ⟨rfl, rfl, Nat.le_of_ble_eq_true rfl, Nat.le_of_ble_eq_true rfl⟩ ?_
        refine x_iload_n 2 dX11_fewestOf_25 rfl rfl ?_
        obtain ⟨q6, hq7, hf⟩ := f_bd hf
        refine x_callSi [.int v2] (c_X11_bits (I := I) (L := L)  hq7) dX11_fewestOf_26 lk_X11_312 cd_X11_bits rfl rfl (Nat.le_of_ble_eq_true rfl) ⟨rfl, rfl, Nat.le_of_ble_eq_true rfl, Nat.le_of_ble_eq_true rfl⟩ ?_
        refine x_icmp_ge 43 dX11_fewestOf_29 (by decide) (fun hB => ?_) (fun hB => ?_)
        · replace hf := f_if hB hf
          refine x_iinc 3 [(3, .int (v3 + (1 : Int32))), (0, .ref 0), (1, .int v1), (2, .int v2)] dX11_fewestOf_43 rfl rfl (by decide) rfl ?_
          refine x_goto 4 dX11_fewestOf_46 (by decide) ?_
          refine x_lv [(0, .ref 0), (1, .int v1), (2, .int v2), (3, .int (v3 + (1 : Int32)))] [1, 2, 3, 0] rfl ?_
          exact ih _ _ hf
        · replace hf := f_el hB hf
          refine x_aload_n 0 dX11_fewestOf_32 rfl rfl ?_
          refine x_iload_n 3 dX11_fewestOf_33 rfl rfl ?_
          refine x_iload_n 1 dX11_fewestOf_34 rfl rfl ?_
          obtain ⟨q8, hq9, hf⟩ := f_bd hf
          refine x_callVi [.int v3, .int v1] (c_X11_partsAll (I := I) (L := L)  hq9) dX11_fewestOf_35 lk_X11_383 lm_0 rfl cd_X11_partsAll rfl rfl (Nat.le_of_ble_eq_true rfl) ⟨rfl, rfl, Nat.le_of_ble_eq_true rfl, Nat.le_of_ble_eq_true rfl⟩ ?_
          refine x_if_eqB 43 dX11_fewestOf_38 (by decide) (fun hB => ?_) (fun hB => ?_)
          · replace hf := f_el hB hf
            refine x_iinc 3 [(3, .int (v3 + (1 : Int32))), (0, .ref 0), (1, .int v1), (2, .int v2)] dX11_fewestOf_43 rfl rfl (by decide) rfl ?_
            refine x_goto 4 dX11_fewestOf_46 (by decide) ?_
            refine x_lv [(0, .ref 0), (1, .int v1), (2, .int v2), (3, .int (v3 + (1 : Int32)))] [1, 2, 3, 0] rfl ?_
            exact ih _ _ hf
          · replace hf := f_if hB hf
            refine x_iload_n 3 dX11_fewestOf_41 rfl rfl ?_
            refine x_istore_n [(2, .int v3), (0, .ref 0), (1, .int v1), (3, .int v3)] dX11_fewestOf_42 rfl (by decide) rfl ?_
            refine x_iinc 3 [(3, .int (v3 + (1 : Int32))), (2, .int v3), (0, .ref 0), (1, .int v1)] dX11_fewestOf_43 rfl rfl (by decide) rfl ?_
            refine x_goto 4 dX11_fewestOf_46 (by decide) ?_
            refine x_lv [(0, .ref 0), (1, .int v1), (2, .int v3), (3, .int (v3 + (1 : Int32)))] [2, 3, 1, 0] rfl ?_
            exact ih _ _ hf
set_option maxRecDepth 100000 in
set_option maxHeartbeats 4000000 in
theorem c_X11_fewestOf {I : z_I} {L : z_L} {p0 : Int32}  {r : Int32} (hf : f_X11_fewestOf I p0 = some r) : z_C layM yX11_fewestOf cX11_fewestOf 4 (some .int) ({ frames := 4, cells := 0, slots := 0, locals := 89 } : Room) [.ref 0, .int p0] I L (some (.int r), I, L) := by
  refine z_C.of (by decide) (Nat.le_of_ble_eq_true rfl) ?_
  show z_X layM RX11 cX11_fewestOf 4 (some .int) ({ frames := 4, cells := 0, slots := 0, locals := 89 } : Room) 0 [(0, .ref 0), (1, .int p0)] [] I L (some (.int r), I, L)
  unfold f_X11_fewestOf at hf
  refine x_iconst (v := (-1)) dX11_fewestOf_0 (by decide) ?_
  refine x_istore_n [(2, .int (-1 : Int32)), (0, .ref 0), (1, .int p0)] dX11_fewestOf_1 rfl (by decide) rfl ?_
  refine x_iconst (v := (0)) dX11_fewestOf_2 (by decide) ?_
  refine x_istore_n [(3, .int (0 : Int32)), (2, .int (-1 : Int32)), (0, .ref 0), (1, .int p0)] dX11_fewestOf_3 rfl (by decide) rfl ?_
  refine x_lv [(0, .ref 0), (1, .int p0), (2, .int (-1 : Int32)), (3, .int (0 : Int32))] [2, 3, 1, 0] rfl ?_
  refine l_X11_fewestOf_4 p0 (I) (L)   _ _ _ hf
set_option maxRecDepth 100000 in
set_option maxHeartbeats 4000000 in
theorem c_X11_fewest {I : z_I} {L : z_L} {p0 : Int32}  {r : Int32 × z_I} (hf : f_X11_fewest I p0 = some r) : z_C layM yX11_fewest cX11_fewest 3 (some .int) ({ frames := 5, cells := 0, slots := 0, locals := 112 } : Room) [.ref 0, .int p0] I L (some (.int r.1), r.2, L) := by
  refine z_C.of (by decide) (Nat.le_of_ble_eq_true rfl) ?_
  show z_X layM RX11 cX11_fewest 3 (some .int) ({ frames := 5, cells := 0, slots := 0, locals := 112 } : Room) 0 [(0, .ref 0), (1, .int p0)] [] I L (some (.int r.1), r.2, L)
  unfold f_X11_fewest at hf
  refine x_aload_n 0 dX11_fewest_0 rfl rfl ?_
  refine x_iload_n 1 dX11_fewest_1 rfl rfl ?_
  refine x_i2l dX11_fewest_2 ?_
  refine x_callVi [.long (p0.toInt64)] (c_X11_areCases (I := I) (L := L) (p0.toInt64)) dX11_fewest_3 lk_X11_361 lm_0 rfl cd_X11_areCases rfl rfl (Nat.le_of_ble_eq_true rfl) ⟨rfl, rfl, Nat.le_of_ble_eq_true rfl, Nat.le_of_ble_eq_true rfl⟩ ?_
  refine x_if_neB 15 dX11_fewest_6 (by decide) (fun hB => ?_) (fun hB => ?_)
  · replace hf := f_if hB hf
    refine x_aload_n 0 dX11_fewest_15 rfl rfl ?_
    refine x_iload_n 1 dX11_fewest_16 rfl rfl ?_
    obtain ⟨q1, hq2, hf⟩ := f_bd hf
    refine x_callVi [.int p0] (c_X11_fewestOf (I := I) (L := L)  hq2) dX11_fewest_17 lk_X11_386 lm_0 rfl cd_X11_fewestOf rfl rfl (Nat.le_of_ble_eq_true rfl) ⟨rfl, rfl, Nat.le_of_ble_eq_true rfl, Nat.le_of_ble_eq_true rfl⟩ ?_
    refine x_istore_n [(2, .int q1), (0, .ref 0), (1, .int p0)] dX11_fewest_20 rfl (by decide) rfl ?_
    refine x_iload_n 0 dX11_fewest_21 rfl rfl ?_
    refine x_iconst (v := (-1)) dX11_fewest_22 (by decide) ?_
    refine x_icmp_ne 35 dX11_fewest_23 (by decide) (fun hB => ?_) (fun hB => ?_)
    · replace hf := f_el hB hf
      refine x_aload_n 1 dX11_fewest_35 rfl rfl ?_
      refine x_iload_n 0 dX11_fewest_36 rfl rfl ?_
      obtain ⟨q3, hq4, hf⟩ := f_bd hf
      refine x_callSi [.int q1] (c_X11_bits (I := I) (L := L)  hq4) dX11_fewest_37 lk_X11_312 cd_X11_bits rfl rfl (Nat.le_of_ble_eq_true rfl) ⟨rfl, rfl, Nat.le_of_ble_eq_true rfl, Nat.le_of_ble_eq_true rfl⟩ ?_
      refine x_callVi [.int q3] (c_X11_gives (I := I) (L := L) q3) dX11_fewest_40 lk_X11_103 lm_0 rfl cd_X11_gives rfl rfl (Nat.le_of_ble_eq_true rfl) ⟨rfl, rfl, Nat.le_of_ble_eq_true rfl, Nat.le_of_ble_eq_true rfl⟩ ?_
      cases hf
      exact x_iret dX11_fewest_43 rfl rfl
    · replace hf := f_if hB hf
      refine x_aload_n 1 dX11_fewest_26 rfl rfl ?_
      refine x_bipush (v := (6)) dX11_fewest_27 (by decide) ?_
      refine x_callVi [.int (6 : Int32)] (c_X11_refuse (I := I) (L := L) (6 : Int32)) dX11_fewest_29 lk_X11_99 lm_0 rfl cd_X11_refuse rfl rfl (Nat.le_of_ble_eq_true rfl) ⟨rfl, rfl, Nat.le_of_ble_eq_true rfl, Nat.le_of_ble_eq_true rfl⟩ ?_
      refine x_goto 43 dX11_fewest_32 (by decide) ?_
      cases hf
      exact x_iret dX11_fewest_43 rfl rfl
  · replace hf := f_el hB hf
    refine x_aload_n 0 dX11_fewest_9 rfl rfl ?_
    refine x_iconst (v := (1)) dX11_fewest_10 (by decide) ?_
    refine x_callVi [.int (1 : Int32)] (c_X11_refuse (I := I) (L := L) (1 : Int32)) dX11_fewest_11 lk_X11_99 lm_0 rfl cd_X11_refuse rfl rfl (Nat.le_of_ble_eq_true rfl) ⟨rfl, rfl, Nat.le_of_ble_eq_true rfl, Nat.le_of_ble_eq_true rfl⟩ ?_
    cases hf
    exact x_iret dX11_fewest_14 rfl rfl
set_option maxRecDepth 100000 in
set_option maxHeartbeats 4000000 in
theorem c_X11_fewestSet {I : z_I} {L : z_L} {p0 : Int32}  {r : Int32 × z_I} (hf : f_X11_fewestSet I p0 = some r) : z_C layM yX11_fewestSet cX11_fewestSet 2 (some .int) ({ frames := 5, cells := 0, slots := 0, locals := 112 } : Room) [.ref 0, .int p0] I L (some (.int r.1), r.2, L) := by
  refine z_C.of (by decide) (Nat.le_of_ble_eq_true rfl) ?_
  show z_X layM RX11 cX11_fewestSet 2 (some .int) ({ frames := 5, cells := 0, slots := 0, locals := 112 } : Room) 0 [(0, .ref 0), (1, .int p0)] [] I L (some (.int r.1), r.2, L)
  unfold f_X11_fewestSet at hf
  refine x_aload_n 0 dX11_fewestSet_0 rfl rfl ?_
  refine x_iload_n 1 dX11_fewestSet_1 rfl rfl ?_
  refine x_i2l dX11_fewestSet_2 ?_
  refine x_callVi [.long (p0.toInt64)] (c_X11_areCases (I := I) (L := L) (p0.toInt64)) dX11_fewestSet_3 lk_X11_361 lm_0 rfl cd_X11_areCases rfl rfl (Nat.le_of_ble_eq_true rfl) ⟨rfl, rfl, Nat.le_of_ble_eq_true rfl, Nat.le_of_ble_eq_true rfl⟩ ?_
  refine x_if_neB 15 dX11_fewestSet_6 (by decide) (fun hB => ?_) (fun hB => ?_)
  · replace hf := f_if hB hf
    refine x_aload_n 0 dX11_fewestSet_15 rfl rfl ?_
    refine x_aload_n 0 dX11_fewestSet_16 rfl rfl ?_
    refine x_iload_n 1 dX11_fewestSet_17 rfl rfl ?_
    obtain ⟨q1, hq2, hf⟩ := f_bd hf
    refine x_callVi [.int p0] (c_X11_fewestOf (I := I) (L := L)  hq2) dX11_fewestSet_18 lk_X11_386 lm_0 rfl cd_X11_fewestOf rfl rfl (Nat.le_of_ble_eq_true rfl) ⟨rfl, rfl, Nat.le_of_ble_eq_true rfl, Nat.le_of_ble_eq_true rfl⟩ ?_
    refine x_callVi [.int q1] (c_X11_orNone (I := I) (L := L) q1) dX11_fewestSet_21 lk_X11_389 lm_0 rfl cd_X11_orNone rfl rfl (Nat.le_of_ble_eq_true rfl) ⟨rfl, rfl, Nat.le_of_ble_eq_true rfl, Nat.le_of_ble_eq_true rfl⟩ ?_
    cases hf
    exact x_iret dX11_fewestSet_24 rfl rfl
  · replace hf := f_el hB hf
    refine x_aload_n 0 dX11_fewestSet_9 rfl rfl ?_
    refine x_iconst (v := (1)) dX11_fewestSet_10 (by decide) ?_
    refine x_callVi [.int (1 : Int32)] (c_X11_refuse (I := I) (L := L) (1 : Int32)) dX11_fewestSet_11 lk_X11_99 lm_0 rfl cd_X11_refuse rfl rfl (Nat.le_of_ble_eq_true rfl) ⟨rfl, rfl, Nat.le_of_ble_eq_true rfl, Nat.le_of_ble_eq_true rfl⟩ ?_
    cases hf
    exact x_iret dX11_fewestSet_14 rfl rfl
set_option maxRecDepth 100000 in
set_option maxHeartbeats 4000000 in
theorem l_X11_laysTree_30   (v1 : Int32) (v2 : Bool) (L : z_L) {r : z_I}  : ∀ (n : Nat) (v3 : Int32) (I : z_I), g_X11_laysTree_30 v1 v2  n v3 I = some r → z_X layM RX11 cX11_laysTree 7 (none) ({ frames := 2, cells := 0, slots := 0, locals := 45 } : Room) 30 [(0, .ref 0), (1, .int v1), (2, .int (zb v2)), (3, .int v3)] [] I L (none, r, L) := by
  intro n
  induction n with
  | zero => intro v3 I hf; cases hf
  | succ n ih =>
    intro v3 I hf
    rw [g_X11_laysTree_30] at hf
    refine x_iload_n 3 dX11_laysTree_30 rfl rfl ?_
    refine x_aload_n 0 dX11_laysTree_31 rfl rfl ?_
    refine x_getR dX11_laysTree_32 lm_0 fl_X11_7 rfl ?_
    refine x_iconst (v := (2)) dX11_laysTree_35 (by decide) ?_
    refine x_iald (j := 2) (v := (I 1 2)) dX11_laysTree_36 lm_1 (by decide +kernel) (by decide +kernel) rfl ?_
    refine x_icmp_ge 195 dX11_laysTree_37 (by decide) (fun hB => ?_) (fun hB => ?_)
    · replace hf := f_if hB hf
      cases hf
      exact x_vret dX11_laysTree_195 rfl rfl
    · replace hf := f_el hB hf
      refine x_iload_n 1 dX11_laysTree_40 rfl rfl ?_
      refine x_aload_n 0 dX11_laysTree_41 rfl rfl ?_
      refine x_iload_n 3 dX11_laysTree_42 rfl rfl ?_
      obtain ⟨q8, hq9, hf⟩ := f_bd hf
      refine x_callVi [.int v3] (c_X11_truthOf (I := I) (L := L)  hq9) dX11_laysTree_43 lk_X11_303 lm_0 rfl cd_X11_truthOf rfl rfl (Nat.le_of_ble_eq_true rfl) ⟨rfl, rfl, Nat.le_of_ble_eq_true rfl, Nat.le_of_ble_eq_true rfl⟩ ?_
      refine x_iand dX11_laysTree_46 ?_
      refine x_istore [(4, .int (v1 &&& q8)), (0, .ref 0), (1, .int v1), (2, .int (zb v2)), (3, .int v3)] dX11_laysTree_47 (by decide) rfl ?_
      refine x_iload_n 2 dX11_laysTree_49 rfl rfl ?_
      refine x_aload_n 1 dX11_laysTree_50 rfl rfl ?_
      refine x_iload_n 4 dX11_laysTree_51 rfl rfl ?_
      obtain ⟨q10, hq11, hf⟩ := f_bd hf
      refine x_callVi [.int v3] (c_X11_truthOf (I := I) (L := L)  hq11) dX11_laysTree_52 lk_X11_303 lm_0 rfl cd_X11_truthOf rfl rfl (Nat.le_of_ble_eq_true rfl) ⟨rfl, rfl, Nat.le_of_ble_eq_true rfl, Nat.le_of_ble_eq_true rfl⟩ ?_
      refine x_iconst (v := (-1)) dX11_laysTree_55 (by decide) ?_
      refine x_ixor dX11_laysTree_56 ?_
      refine x_iand dX11_laysTree_57 ?_
      refine x_istore [(5, .int (v1 &&& (q10 ^^^ (-1 : Int32)))), (4, .int (v1 &&& q8)), (0, .ref 0), (1, .int v1), (2, .int (zb v2)), (3, .int v3)] dX11_laysTree_58 (by decide) rfl ?_
      refine x_iload 1 dX11_laysTree_60 rfl ?_
      refine x_if_eq 189 dX11_laysTree_62 (by decide) (fun hB => ?_) (fun hB => ?_)
      · replace hf := f_if hB hf
        refine x_iinc 5 [(3, .int (v3 + (1 : Int32))), (5, .int (v1 &&& (q10 ^^^ (-1 : Int32)))), (4, .int (v1 &&& q8)), (0, .ref 0), (1, .int v1), (2, .int (zb v2))] dX11_laysTree_189 rfl rfl (by decide) rfl ?_
        refine x_goto 30 dX11_laysTree_192 (by decide) ?_
        refine x_lv [(0, .ref 0), (1, .int v1), (2, .int (zb v2)), (3, .int (v3 + (1 : Int32)))] [3, 4, 5, 0] rfl ?_
        exact ih _ _ hf
      · replace hf := f_el hB hf
        refine x_iload 0 dX11_laysTree_65 rfl ?_
        refine x_if_eq 189 dX11_laysTree_67 (by decide) (fun hB => ?_) (fun hB => ?_)
        · replace hf := f_if hB hf
          refine x_iinc 5 [(3, .int (v3 + (1 : Int32))), (5, .int (v1 &&& (q10 ^^^ (-1 : Int32)))), (4, .int (v1 &&& q8)), (0, .ref 0), (1, .int v1), (2, .int (zb v2))] dX11_laysTree_189 rfl rfl (by decide) rfl ?_
          refine x_goto 30 dX11_laysTree_192 (by decide) ?_
          refine x_lv [(0, .ref 0), (1, .int v1), (2, .int (zb v2)), (3, .int (v3 + (1 : Int32)))] [3, 4, 5, 0] rfl ?_
          exact ih _ _ hf
        · replace hf := f_el hB hf
          refine x_aload_n 2 dX11_laysTree_70 rfl rfl ?_
          refine x_getR dX11_laysTree_71 lm_0 fl_X11_59 rfl ?_
          refine x_iload 1 dX11_laysTree_74 rfl ?_
          obtain ⟨h12, hf⟩ := f_gd hf
          refine x_iald (j := ((v1 &&& q8)).toNatClampNeg) (v := (I 13 ((v1 &&& q8)).toNatClampNeg)) dX11_laysTree_76 lm_13 h12 rfl rfl ?_
          refine x_ldcw (v := (1000000)) dX11_laysTree_77 kc_X11_392 ?_
          refine x_icmp_ge 189 dX11_laysTree_80 (by decide) (fun hB => ?_) (fun hB => ?_)
          · replace hf := f_if hB hf
            refine x_iinc 5 [(3, .int (v3 + (1 : Int32))), (5, .int (v1 &&& (q10 ^^^ (-1 : Int32)))), (4, .int (v1 &&& q8)), (0, .ref 0), (1, .int v1), (2, .int (zb v2))] dX11_laysTree_189 rfl rfl (by decide) rfl ?_
            refine x_goto 30 dX11_laysTree_192 (by decide) ?_
            refine x_lv [(0, .ref 0), (1, .int v1), (2, .int (zb v2)), (3, .int (v3 + (1 : Int32)))] [3, 4, 5, 0] rfl ?_
            exact ih _ _ hf
          · replace hf := f_el hB hf
            refine x_aload_n 2 dX11_laysTree_83 rfl rfl ?_
            refine x_getR dX11_laysTree_84 lm_0 fl_X11_59 rfl ?_
            refine x_iload 0 dX11_laysTree_87 rfl ?_
            obtain ⟨h13, hf⟩ := f_gd hf
            refine x_iald (j := ((v1 &&& (q10 ^^^ (-1 : Int32)))).toNatClampNeg) (v := (I 13 ((v1 &&& (q10 ^^^ (-1 : Int32)))).toNatClampNeg)) dX11_laysTree_89 lm_13 h13 rfl rfl ?_
            refine x_ldcw (v := (1000000)) dX11_laysTree_90 kc_X11_392 ?_
            refine x_icmp_lt 99 dX11_laysTree_93 (by decide) (fun hB => ?_) (fun hB => ?_)
            · replace hf := f_if hB hf
              refine x_iload_n 4 dX11_laysTree_99 rfl rfl ?_
              refine x_if_eqB 125 dX11_laysTree_100 (by decide) (fun hB => ?_) (fun hB => ?_)
              · replace hf := f_el hB hf
                refine x_aload_n 2 dX11_laysTree_125 rfl rfl ?_
                refine x_getR dX11_laysTree_126 lm_0 fl_X11_7 rfl ?_
                refine x_iload_n 5 dX11_laysTree_129 rfl rfl ?_
                refine x_callSi [.int v3] (c_X11_claimRow (I := I) (L := L) v3) dX11_laysTree_130 lk_X11_230 cd_X11_claimRow rfl rfl (Nat.le_of_ble_eq_true rfl) ⟨rfl, rfl, Nat.le_of_ble_eq_true rfl, Nat.le_of_ble_eq_true rfl⟩ ?_
                refine x_iconst (v := (1)) dX11_laysTree_133 (by decide) ?_
                refine x_iadd dX11_laysTree_134 ?_
                obtain ⟨h22, hf⟩ := f_gd hf
                refine x_iald (j := (((f_X11_claimRow v3) + (1 : Int32))).toNatClampNeg) (v := (I 1 (((f_X11_claimRow v3) + (1 : Int32))).toNatClampNeg)) dX11_laysTree_135 lm_1 h22 rfl rfl ?_
                refine x_aload_n 2 dX11_laysTree_136 rfl rfl ?_
                refine x_iload_n 3 dX11_laysTree_137 rfl rfl ?_
                obtain ⟨q23, hq24, hf⟩ := f_bd hf
                refine x_callVi [.int v1] (c_X11_weightOf (I := I) (L := L)  hq24) dX11_laysTree_138 lk_X11_393 lm_0 rfl cd_X11_weightOf rfl rfl (Nat.le_of_ble_eq_true rfl) ⟨rfl, rfl, Nat.le_of_ble_eq_true rfl, Nat.le_of_ble_eq_true rfl⟩ ?_
                refine x_imul dX11_laysTree_141 ?_
                refine x_aload_n 2 dX11_laysTree_142 rfl rfl ?_
                refine x_getR dX11_laysTree_143 lm_0 fl_X11_59 rfl ?_
                refine x_iload 1 dX11_laysTree_146 rfl ?_
                refine x_iald (j := ((v1 &&& q8)).toNatClampNeg) (v := (I 13 ((v1 &&& q8)).toNatClampNeg)) dX11_laysTree_148 lm_13 h12 rfl rfl ?_
                refine x_iadd dX11_laysTree_149 ?_
                refine x_aload_n 2 dX11_laysTree_150 rfl rfl ?_
                refine x_getR dX11_laysTree_151 lm_0 fl_X11_59 rfl ?_
                refine x_iload 0 dX11_laysTree_154 rfl ?_
                refine x_iald (j := ((v1 &&& (q10 ^^^ (-1 : Int32)))).toNatClampNeg) (v := (I 13 ((v1 &&& (q10 ^^^ (-1 : Int32)))).toNatClampNeg)) dX11_laysTree_156 lm_13 h13 rfl rfl ?_
                refine x_iadd dX11_laysTree_157 ?_
                obtain ⟨w27, hw27, hf⟩ := f_lt hf
                refine x_topI hw27 ?_
                refine x_istore [(6, .int w27), (5, .int (v1 &&& (q10 ^^^ (-1 : Int32)))), (4, .int (v1 &&& q8)), (0, .ref 0), (1, .int v1), (2, .int (zb v2)), (3, .int v3)] dX11_laysTree_158 (by decide) rfl ?_
                refine x_iload 0 dX11_laysTree_160 rfl ?_
                refine x_aload_n 3 dX11_laysTree_162 rfl rfl ?_
                refine x_getR dX11_laysTree_163 lm_0 fl_X11_59 rfl ?_
                refine x_iload_n 4 dX11_laysTree_166 rfl rfl ?_
                obtain ⟨h28, hf⟩ := f_gd hf
                refine x_iald (j := (v1).toNatClampNeg) (v := (I 13 (v1).toNatClampNeg)) dX11_laysTree_167 lm_13 h28 rfl rfl ?_
                refine x_icmp_lt 174 dX11_laysTree_168 (by decide) (fun hB => ?_) (fun hB => ?_)
                · replace hf := f_if hB hf
                  refine x_aload_n 3 dX11_laysTree_174 rfl rfl ?_
                  refine x_getR dX11_laysTree_175 lm_0 fl_X11_59 rfl ?_
                  refine x_iload_n 4 dX11_laysTree_178 rfl rfl ?_
                  refine x_iload 0 dX11_laysTree_179 rfl ?_
                  obtain ⟨I30, hI30, hf⟩ := f_lt hf
                  refine x_iast (j0 := (v1).toNatClampNeg) dX11_laysTree_181 lm_13 h28 rfl hI30 ?_
                  refine x_aload_n 3 dX11_laysTree_182 rfl rfl ?_
                  refine x_getR dX11_laysTree_183 lm_0 fl_X11_62 rfl ?_
                  refine x_iload_n 4 dX11_laysTree_186 rfl rfl ?_
                  refine x_iload_n 6 dX11_laysTree_187 rfl rfl ?_
                  obtain ⟨I32, hI32, hf⟩ := f_lt hf
                  refine x_iast (j0 := (v1).toNatClampNeg) dX11_laysTree_188 lm_14 h28 rfl hI32 ?_
                  refine x_iinc 6 [(3, .int (v3 + (1 : Int32))), (6, .int w27), (5, .int (v1 &&& (q10 ^^^ (-1 : Int32)))), (4, .int (v1 &&& q8)), (0, .ref 0), (1, .int v1), (2, .int (zb v2))] dX11_laysTree_189 rfl rfl (by decide) rfl ?_
                  refine x_goto 30 dX11_laysTree_192 (by decide) ?_
                  refine x_lv [(0, .ref 0), (1, .int v1), (2, .int (zb v2)), (3, .int (v3 + (1 : Int32)))] [4, 5, 6, 0] rfl ?_
                  exact ih _ _ hf
                · replace hf := f_el hB hf
                  refine x_goto 189 dX11_laysTree_171 (by decide) ?_
                  refine x_iinc 6 [(3, .int (v3 + (1 : Int32))), (6, .int w27), (5, .int (v1 &&& (q10 ^^^ (-1 : Int32)))), (4, .int (v1 &&& q8)), (0, .ref 0), (1, .int v1), (2, .int (zb v2))] dX11_laysTree_189 rfl rfl (by decide) rfl ?_
                  refine x_goto 30 dX11_laysTree_192 (by decide) ?_
                  refine x_lv [(0, .ref 0), (1, .int v1), (2, .int (zb v2)), (3, .int (v3 + (1 : Int32)))] [4, 5, 6, 0] rfl ?_
                  exact ih _ _ hf
              · replace hf := f_if hB hf
                refine x_iconst (v := (1)) dX11_laysTree_103 (by decide) ?_
                refine x_aload_n 2 dX11_laysTree_104 rfl rfl ?_
                refine x_getR dX11_laysTree_105 lm_0 fl_X11_59 rfl ?_
                refine x_iload 1 dX11_laysTree_108 rfl ?_
                refine x_iald (j := ((v1 &&& q8)).toNatClampNeg) (v := (I 13 ((v1 &&& q8)).toNatClampNeg)) dX11_laysTree_110 lm_13 h12 rfl rfl ?_
                refine x_aload_n 2 dX11_laysTree_111 rfl rfl ?_
                refine x_getR dX11_laysTree_112 lm_0 fl_X11_59 rfl ?_
                refine x_iload 0 dX11_laysTree_115 rfl ?_
                refine x_iald (j := ((v1 &&& (q10 ^^^ (-1 : Int32)))).toNatClampNeg) (v := (I 13 ((v1 &&& (q10 ^^^ (-1 : Int32)))).toNatClampNeg)) dX11_laysTree_117 lm_13 h13 rfl rfl ?_
                refine x_mmax dX11_laysTree_118 lk_X11_345 ⟨Nat.le_of_ble_eq_true rfl, Nat.le_of_ble_eq_true rfl⟩ ?_
                refine x_iadd dX11_laysTree_121 ?_
                refine x_goto 158 dX11_laysTree_122 (by decide) ?_
                obtain ⟨w16, hw16, hf⟩ := f_lt hf
                refine x_topI hw16 ?_
                refine x_istore [(6, .int w16), (5, .int (v1 &&& (q10 ^^^ (-1 : Int32)))), (4, .int (v1 &&& q8)), (0, .ref 0), (1, .int v1), (2, .int (zb v2)), (3, .int v3)] dX11_laysTree_158 (by decide) rfl ?_
                refine x_iload 0 dX11_laysTree_160 rfl ?_
                refine x_aload_n 3 dX11_laysTree_162 rfl rfl ?_
                refine x_getR dX11_laysTree_163 lm_0 fl_X11_59 rfl ?_
                refine x_iload_n 4 dX11_laysTree_166 rfl rfl ?_
                obtain ⟨h17, hf⟩ := f_gd hf
                refine x_iald (j := (v1).toNatClampNeg) (v := (I 13 (v1).toNatClampNeg)) dX11_laysTree_167 lm_13 h17 rfl rfl ?_
                refine x_icmp_lt 174 dX11_laysTree_168 (by decide) (fun hB => ?_) (fun hB => ?_)
                · replace hf := f_if hB hf
                  refine x_aload_n 3 dX11_laysTree_174 rfl rfl ?_
                  refine x_getR dX11_laysTree_175 lm_0 fl_X11_59 rfl ?_
                  refine x_iload_n 4 dX11_laysTree_178 rfl rfl ?_
                  refine x_iload 0 dX11_laysTree_179 rfl ?_
                  obtain ⟨I19, hI19, hf⟩ := f_lt hf
                  refine x_iast (j0 := (v1).toNatClampNeg) dX11_laysTree_181 lm_13 h17 rfl hI19 ?_
                  refine x_aload_n 3 dX11_laysTree_182 rfl rfl ?_
                  refine x_getR dX11_laysTree_183 lm_0 fl_X11_62 rfl ?_
                  refine x_iload_n 4 dX11_laysTree_186 rfl rfl ?_
                  refine x_iload_n 6 dX11_laysTree_187 rfl rfl ?_
                  obtain ⟨I21, hI21, hf⟩ := f_lt hf
                  refine x_iast (j0 := (v1).toNatClampNeg) dX11_laysTree_188 lm_14 h17 rfl hI21 ?_
                  refine x_iinc 6 [(3, .int (v3 + (1 : Int32))), (6, .int w16), (5, .int (v1 &&& (q10 ^^^ (-1 : Int32)))), (4, .int (v1 &&& q8)), (0, .ref 0), (1, .int v1), (2, .int (zb v2))] dX11_laysTree_189 rfl rfl (by decide) rfl ?_
                  refine x_goto 30 dX11_laysTree_192 (by decide) ?_
                  refine x_lv [(0, .ref 0), (1, .int v1), (2, .int (zb v2)), (3, .int (v3 + (1 : Int32)))] [4, 5, 6, 0] rfl ?_
                  exact ih _ _ hf
                · replace hf := f_el hB hf
                  refine x_goto 189 dX11_laysTree_171 (by decide) ?_
                  refine x_iinc 6 [(3, .int (v3 + (1 : Int32))), (6, .int w16), (5, .int (v1 &&& (q10 ^^^ (-1 : Int32)))), (4, .int (v1 &&& q8)), (0, .ref 0), (1, .int v1), (2, .int (zb v2))] dX11_laysTree_189 rfl rfl (by decide) rfl ?_
                  refine x_goto 30 dX11_laysTree_192 (by decide) ?_
                  refine x_lv [(0, .ref 0), (1, .int v1), (2, .int (zb v2)), (3, .int (v3 + (1 : Int32)))] [4, 5, 6, 0] rfl ?_
                  exact ih _ _ hf
            · replace hf := f_el hB hf
              refine x_goto 189 dX11_laysTree_96 (by decide) ?_
              refine x_iinc 5 [(3, .int (v3 + (1 : Int32))), (5, .int (v1 &&& (q10 ^^^ (-1 : Int32)))), (4, .int (v1 &&& q8)), (0, .ref 0), (1, .int v1), (2, .int (zb v2))] dX11_laysTree_189 rfl rfl (by decide) rfl ?_
              refine x_goto 30 dX11_laysTree_192 (by decide) ?_
              refine x_lv [(0, .ref 0), (1, .int v1), (2, .int (zb v2)), (3, .int (v3 + (1 : Int32)))] [3, 4, 5, 0] rfl ?_
              exact ih _ _ hf
set_option maxRecDepth 100000 in
set_option maxHeartbeats 4000000 in
theorem c_X11_laysTree {I : z_I} {L : z_L} {p0 : Int32} {p1 : Bool}  {r : z_I} (hf : f_X11_laysTree I p0 p1 = some r) : z_C layM yX11_laysTree cX11_laysTree 7 (none) ({ frames := 2, cells := 0, slots := 0, locals := 45 } : Room) [.ref 0, .int p0, .int (zb p1)] I L (none, r, L) := by
  refine z_C.of (by decide) (Nat.le_of_ble_eq_true rfl) ?_
  show z_X layM RX11 cX11_laysTree 7 (none) ({ frames := 2, cells := 0, slots := 0, locals := 45 } : Room) 0 [(0, .ref 0), (1, .int p0), (2, .int (zb p1))] [] I L (none, r, L)
  unfold f_X11_laysTree at hf
  refine x_aload_n 0 dX11_laysTree_0 rfl rfl ?_
  refine x_getR dX11_laysTree_1 lm_0 fl_X11_59 rfl ?_
  refine x_iload_n 1 dX11_laysTree_4 rfl rfl ?_
  refine x_iload_n 1 dX11_laysTree_5 rfl rfl ?_
  obtain ⟨q1, hq2, hf⟩ := f_bd hf
  refine x_callSi [.int p0] (c_X11_bits (I := I) (L := L)  hq2) dX11_laysTree_6 lk_X11_312 cd_X11_bits rfl rfl (Nat.le_of_ble_eq_true rfl) ⟨rfl, rfl, Nat.le_of_ble_eq_true rfl, Nat.le_of_ble_eq_true rfl⟩ ?_
  refine x_iconst (v := (1)) dX11_laysTree_9 (by decide) ?_
  refine x_icmp_ne 17 dX11_laysTree_10 (by decide) (fun hB => ?_) (fun hB => ?_)
  · replace hf := f_el hB hf
    refine x_ldcw (v := (1000000)) dX11_laysTree_17 kc_X11_392 ?_
    obtain ⟨h33, hf⟩ := f_gd hf
    obtain ⟨I34, hI34, hf⟩ := f_lt hf
    refine x_iast (j0 := (p0).toNatClampNeg) dX11_laysTree_20 lm_13 h33 rfl hI34 ?_
    refine x_aload_n 0 dX11_laysTree_21 rfl rfl ?_
    refine x_getR dX11_laysTree_22 lm_0 fl_X11_62 rfl ?_
    refine x_iload_n 1 dX11_laysTree_25 rfl rfl ?_
    refine x_iconst (v := (-1)) dX11_laysTree_26 (by decide) ?_
    obtain ⟨I36, hI36, hf⟩ := f_lt hf
    refine x_iast (j0 := (p0).toNatClampNeg) dX11_laysTree_27 lm_14 h33 rfl hI36 ?_
    refine x_iconst (v := (0)) dX11_laysTree_28 (by decide) ?_
    refine x_istore_n [(3, .int (0 : Int32)), (0, .ref 0), (1, .int p0), (2, .int (zb p1))] dX11_laysTree_29 rfl (by decide) rfl ?_
    refine x_lv [(0, .ref 0), (1, .int p0), (2, .int (zb p1)), (3, .int (0 : Int32))] [1, 2, 3, 0] rfl ?_
    refine l_X11_laysTree_30 p0 p1 (L)   _ _ _ hf
  · replace hf := f_if hB hf
    refine x_iconst (v := (0)) dX11_laysTree_13 (by decide) ?_
    refine x_goto 20 dX11_laysTree_14 (by decide) ?_
    obtain ⟨h3, hf⟩ := f_gd hf
    obtain ⟨I4, hI4, hf⟩ := f_lt hf
    refine x_iast (j0 := (p0).toNatClampNeg) dX11_laysTree_20 lm_13 h3 rfl hI4 ?_
    refine x_aload_n 0 dX11_laysTree_21 rfl rfl ?_
    refine x_getR dX11_laysTree_22 lm_0 fl_X11_62 rfl ?_
    refine x_iload_n 1 dX11_laysTree_25 rfl rfl ?_
    refine x_iconst (v := (-1)) dX11_laysTree_26 (by decide) ?_
    obtain ⟨I6, hI6, hf⟩ := f_lt hf
    refine x_iast (j0 := (p0).toNatClampNeg) dX11_laysTree_27 lm_14 h3 rfl hI6 ?_
    refine x_iconst (v := (0)) dX11_laysTree_28 (by decide) ?_
    refine x_istore_n [(3, .int (0 : Int32)), (0, .ref 0), (1, .int p0), (2, .int (zb p1))] dX11_laysTree_29 rfl (by decide) rfl ?_
    refine x_lv [(0, .ref 0), (1, .int p0), (2, .int (zb p1)), (3, .int (0 : Int32))] [1, 2, 3, 0] rfl ?_
    refine l_X11_laysTree_30 p0 p1 (L)   _ _ _ hf
set_option maxRecDepth 100000 in
set_option maxHeartbeats 4000000 in
theorem l_X11_laysTrees_2   (v1 : Bool) (L : z_L) {r : z_I}  : ∀ (n : Nat) (v2 : Int32) (I : z_I), g_X11_laysTrees_2 v1  n v2 I = some r → z_X layM RX11 cX11_laysTrees 3 (none) ({ frames := 3, cells := 0, slots := 0, locals := 71 } : Room) 2 [(0, .ref 0), (1, .int (zb v1)), (2, .int v2)] [] I L (none, r, L) := by
  intro n
  induction n with
  | zero => intro v2 I hf; cases hf
  | succ n ih =>
    intro v2 I hf
    rw [g_X11_laysTrees_2] at hf
    refine x_iload_n 2 dX11_laysTrees_2 rfl rfl ?_
    refine x_aload_n 0 dX11_laysTrees_3 rfl rfl ?_
    refine x_callVi [] (c_X11_allCases (I := I) (L := L) ) dX11_laysTrees_4 lk_X11_296 lm_0 rfl cd_X11_allCases rfl rfl (Nat.le_of_ble_eq_true rfl) ⟨rfl, rfl, Nat.le_of_ble_eq_true rfl, Nat.le_of_ble_eq_true rfl⟩ ?_
    refine x_icmp_gt 22 dX11_laysTrees_7 (by decide) (fun hB => ?_) (fun hB => ?_)
    · replace hf := f_if hB hf
      cases hf
      exact x_vret dX11_laysTrees_22 rfl rfl
    · replace hf := f_el hB hf
      refine x_aload_n 0 dX11_laysTrees_10 rfl rfl ?_
      refine x_iload_n 2 dX11_laysTrees_11 rfl rfl ?_
      refine x_iload_n 1 dX11_laysTrees_12 rfl rfl ?_
      obtain ⟨q1, hq2, hf⟩ := f_bd hf
      refine x_callVv [.int v2, .int (zb v1)] (c_X11_laysTree (I := I) (L := L)  hq2) dX11_laysTrees_13 lk_X11_396 lm_0 rfl cd_X11_laysTree rfl rfl (Nat.le_of_ble_eq_true rfl) ⟨rfl, rfl, Nat.le_of_ble_eq_true rfl, Nat.le_of_ble_eq_true rfl⟩ ?_
      refine x_iinc 2 [(2, .int (v2 + (1 : Int32))), (0, .ref 0), (1, .int (zb v1))] dX11_laysTrees_16 rfl rfl (by decide) rfl ?_
      refine x_goto 2 dX11_laysTrees_19 (by decide) ?_
      refine x_lv [(0, .ref 0), (1, .int (zb v1)), (2, .int (v2 + (1 : Int32)))] [1, 2, 0] rfl ?_
      exact ih _ _ hf
set_option maxRecDepth 100000 in
set_option maxHeartbeats 4000000 in
theorem c_X11_laysTrees {I : z_I} {L : z_L} {p0 : Bool}  {r : z_I} (hf : f_X11_laysTrees I p0 = some r) : z_C layM yX11_laysTrees cX11_laysTrees 3 (none) ({ frames := 3, cells := 0, slots := 0, locals := 71 } : Room) [.ref 0, .int (zb p0)] I L (none, r, L) := by
  refine z_C.of (by decide) (Nat.le_of_ble_eq_true rfl) ?_
  show z_X layM RX11 cX11_laysTrees 3 (none) ({ frames := 3, cells := 0, slots := 0, locals := 71 } : Room) 0 [(0, .ref 0), (1, .int (zb p0))] [] I L (none, r, L)
  unfold f_X11_laysTrees at hf
  refine x_iconst (v := (1)) dX11_laysTrees_0 (by decide) ?_
  refine x_istore_n [(2, .int (1 : Int32)), (0, .ref 0), (1, .int (zb p0))] dX11_laysTrees_1 rfl (by decide) rfl ?_
  refine x_lv [(0, .ref 0), (1, .int (zb p0)), (2, .int (1 : Int32))] [1, 2, 0] rfl ?_
  refine l_X11_laysTrees_2 p0 (L)   _ _ _ hf
set_option maxRecDepth 100000 in
set_option maxHeartbeats 4000000 in
theorem c_X11_leastTree {I : z_I} {L : z_L} {p0 : Int32} {p1 : Bool}  {r : Int32 × z_I} (hf : f_X11_leastTree I p0 p1 = some r) : z_C layM yX11_leastTree cX11_leastTree 3 (some .int) ({ frames := 4, cells := 0, slots := 0, locals := 93 } : Room) [.ref 0, .int p0, .int (zb p1)] I L (some (.int r.1), r.2, L) := by
  refine z_C.of (by decide) (Nat.le_of_ble_eq_true rfl) ?_
  show z_X layM RX11 cX11_leastTree 3 (some .int) ({ frames := 4, cells := 0, slots := 0, locals := 93 } : Room) 0 [(0, .ref 0), (1, .int p0), (2, .int (zb p1))] [] I L (some (.int r.1), r.2, L)
  unfold f_X11_leastTree at hf
  refine x_aload_n 0 dX11_leastTree_0 rfl rfl ?_
  refine x_iload_n 1 dX11_leastTree_1 rfl rfl ?_
  refine x_i2l dX11_leastTree_2 ?_
  refine x_callVi [.long (p0.toInt64)] (c_X11_areCases (I := I) (L := L) (p0.toInt64)) dX11_leastTree_3 lk_X11_361 lm_0 rfl cd_X11_areCases rfl rfl (Nat.le_of_ble_eq_true rfl) ⟨rfl, rfl, Nat.le_of_ble_eq_true rfl, Nat.le_of_ble_eq_true rfl⟩ ?_
  refine x_if_eqB 13 dX11_leastTree_6 (by decide) (fun hB => ?_) (fun hB => ?_)
  · replace hf := f_el hB hf
    refine x_aload_n 0 dX11_leastTree_13 rfl rfl ?_
    refine x_iconst (v := (1)) dX11_leastTree_14 (by decide) ?_
    refine x_callVi [.int (1 : Int32)] (c_X11_refuse (I := I) (L := L) (1 : Int32)) dX11_leastTree_15 lk_X11_99 lm_0 rfl cd_X11_refuse rfl rfl (Nat.le_of_ble_eq_true rfl) ⟨rfl, rfl, Nat.le_of_ble_eq_true rfl, Nat.le_of_ble_eq_true rfl⟩ ?_
    cases hf
    exact x_iret dX11_leastTree_18 rfl rfl
  · replace hf := f_if hB hf
    refine x_iload_n 1 dX11_leastTree_9 rfl rfl ?_
    refine x_if_ne 19 dX11_leastTree_10 (by decide) (fun hB => ?_) (fun hB => ?_)
    · replace hf := f_el hB hf
      refine x_aload_n 0 dX11_leastTree_19 rfl rfl ?_
      refine x_iload_n 2 dX11_leastTree_20 rfl rfl ?_
      obtain ⟨q1, hq2, hf⟩ := f_bd hf
      refine x_callVv [.int (zb p1)] (c_X11_laysTrees (I := I) (L := L)  hq2) dX11_leastTree_21 lk_X11_400 lm_0 rfl cd_X11_laysTrees rfl rfl (Nat.le_of_ble_eq_true rfl) ⟨rfl, rfl, Nat.le_of_ble_eq_true rfl, Nat.le_of_ble_eq_true rfl⟩ ?_
      refine x_aload_n 0 dX11_leastTree_24 rfl rfl ?_
      refine x_getR dX11_leastTree_25 lm_0 fl_X11_59 rfl ?_
      refine x_iload_n 1 dX11_leastTree_28 rfl rfl ?_
      obtain ⟨h3, hf⟩ := f_gd hf
      refine x_iald (j := (p0).toNatClampNeg) (v := (q1 13 (p0).toNatClampNeg)) dX11_leastTree_29 lm_13 h3 rfl rfl ?_
      refine x_ldcw (v := (1000000)) dX11_leastTree_30 kc_X11_392 ?_
      refine x_icmp_lt 45 dX11_leastTree_33 (by decide) (fun hB => ?_) (fun hB => ?_)
      · replace hf := f_if hB hf
        refine x_aload_n 0 dX11_leastTree_45 rfl rfl ?_
        refine x_aload_n 0 dX11_leastTree_46 rfl rfl ?_
        refine x_getR dX11_leastTree_47 lm_0 fl_X11_59 rfl ?_
        refine x_iload_n 1 dX11_leastTree_50 rfl rfl ?_
        refine x_iald (j := (p0).toNatClampNeg) (v := (q1 13 (p0).toNatClampNeg)) dX11_leastTree_51 lm_13 h3 rfl rfl ?_
        refine x_callVi [.int (q1 13 (p0).toNatClampNeg)] (c_X11_gives (I := q1) (L := L) (q1 13 (p0).toNatClampNeg)) dX11_leastTree_52 lk_X11_103 lm_0 rfl cd_X11_gives rfl rfl (Nat.le_of_ble_eq_true rfl) ⟨rfl, rfl, Nat.le_of_ble_eq_true rfl, Nat.le_of_ble_eq_true rfl⟩ ?_
        cases hf
        exact x_iret dX11_leastTree_55 rfl rfl
      · replace hf := f_el hB hf
        refine x_aload_n 0 dX11_leastTree_36 rfl rfl ?_
        refine x_bipush (v := (6)) dX11_leastTree_37 (by decide) ?_
        refine x_callVi [.int (6 : Int32)] (c_X11_refuse (I := q1) (L := L) (6 : Int32)) dX11_leastTree_39 lk_X11_99 lm_0 rfl cd_X11_refuse rfl rfl (Nat.le_of_ble_eq_true rfl) ⟨rfl, rfl, Nat.le_of_ble_eq_true rfl, Nat.le_of_ble_eq_true rfl⟩ ?_
        refine x_goto 55 dX11_leastTree_42 (by decide) ?_
        cases hf
        exact x_iret dX11_leastTree_55 rfl rfl
    · replace hf := f_if hB hf
      refine x_aload_n 0 dX11_leastTree_13 rfl rfl ?_
      refine x_iconst (v := (1)) dX11_leastTree_14 (by decide) ?_
      refine x_callVi [.int (1 : Int32)] (c_X11_refuse (I := I) (L := L) (1 : Int32)) dX11_leastTree_15 lk_X11_99 lm_0 rfl cd_X11_refuse rfl rfl (Nat.le_of_ble_eq_true rfl) ⟨rfl, rfl, Nat.le_of_ble_eq_true rfl, Nat.le_of_ble_eq_true rfl⟩ ?_
      cases hf
      exact x_iret dX11_leastTree_18 rfl rfl
