set_option maxRecDepth 100000 in
set_option maxHeartbeats 4000000 in
theorem c_X11_askedFirst {I : z_I} {L : z_L} {p0 : Int32} {p1 : Bool}  {r : Int32 × z_I} (hf : f_X11_askedFirst I p0 p1 = some r) : z_C layM yX11_askedFirst cX11_askedFirst 3 (some .int) ({ frames := 4, cells := 0, slots := 0, locals := 93 } : Room) [.ref 0, .int p0, .int (zb p1)] I L (some (.int r.1), r.2, L) := by
  refine z_C.of (by decide) (Nat.le_of_ble_eq_true rfl) ?_
  show z_X layM RX11 cX11_askedFirst 3 (some .int) ({ frames := 4, cells := 0, slots := 0, locals := 93 } : Room) 0 [(0, .ref 0), (1, .int p0), (2, .int (zb p1))] [] I L (some (.int r.1), r.2, L)
  unfold f_X11_askedFirst at hf
  refine x_aload_n 0 dX11_askedFirst_0 rfl rfl ?_
  refine x_iload_n 1 dX11_askedFirst_1 rfl rfl ?_
  refine x_i2l dX11_askedFirst_2 ?_
  refine x_callVi [.long (p0.toInt64)] (c_X11_areCases (I := I) (L := L) (p0.toInt64)) dX11_askedFirst_3 lk_X11_361 lm_0 rfl cd_X11_areCases rfl rfl (Nat.le_of_ble_eq_true rfl) ⟨rfl, rfl, Nat.le_of_ble_eq_true rfl, Nat.le_of_ble_eq_true rfl⟩ ?_
  refine x_if_eqB 13 dX11_askedFirst_6 (by decide) (fun hB => ?_) (fun hB => ?_)
  · replace hf := f_el hB hf
    refine x_aload_n 0 dX11_askedFirst_13 rfl rfl ?_
    refine x_iconst (v := (1)) dX11_askedFirst_14 (by decide) ?_
    refine x_callVi [.int (1 : Int32)] (c_X11_refuse (I := I) (L := L) (1 : Int32)) dX11_askedFirst_15 lk_X11_99 lm_0 rfl cd_X11_refuse rfl rfl (Nat.le_of_ble_eq_true rfl) ⟨rfl, rfl, Nat.le_of_ble_eq_true rfl, Nat.le_of_ble_eq_true rfl⟩ ?_
    cases hf
    exact x_iret dX11_askedFirst_18 rfl rfl
  · replace hf := f_if hB hf
    refine x_iload_n 1 dX11_askedFirst_9 rfl rfl ?_
    refine x_if_ne 19 dX11_askedFirst_10 (by decide) (fun hB => ?_) (fun hB => ?_)
    · replace hf := f_el hB hf
      refine x_aload_n 0 dX11_askedFirst_19 rfl rfl ?_
      refine x_iload_n 2 dX11_askedFirst_20 rfl rfl ?_
      obtain ⟨q1, hq2, hf⟩ := f_bd hf
      refine x_callVv [.int (zb p1)] (c_X11_laysTrees (I := I) (L := L)  hq2) dX11_askedFirst_21 lk_X11_400 lm_0 rfl cd_X11_laysTrees rfl rfl (Nat.le_of_ble_eq_true rfl) ⟨rfl, rfl, Nat.le_of_ble_eq_true rfl, Nat.le_of_ble_eq_true rfl⟩ ?_
      refine x_aload_n 0 dX11_askedFirst_24 rfl rfl ?_
      refine x_aload_n 0 dX11_askedFirst_25 rfl rfl ?_
      refine x_getR dX11_askedFirst_26 lm_0 fl_X11_62 rfl ?_
      refine x_iload_n 1 dX11_askedFirst_29 rfl rfl ?_
      obtain ⟨h3, hf⟩ := f_gd hf
      refine x_iald (j := (p0).toNatClampNeg) (v := (q1 14 (p0).toNatClampNeg)) dX11_askedFirst_30 lm_14 h3 rfl rfl ?_
      refine x_callVi [.int (q1 14 (p0).toNatClampNeg)] (c_X11_orNone (I := q1) (L := L) (q1 14 (p0).toNatClampNeg)) dX11_askedFirst_31 lk_X11_389 lm_0 rfl cd_X11_orNone rfl rfl (Nat.le_of_ble_eq_true rfl) ⟨rfl, rfl, Nat.le_of_ble_eq_true rfl, Nat.le_of_ble_eq_true rfl⟩ ?_
      cases hf
      exact x_iret dX11_askedFirst_34 rfl rfl
    · replace hf := f_if hB hf
      refine x_aload_n 0 dX11_askedFirst_13 rfl rfl ?_
      refine x_iconst (v := (1)) dX11_askedFirst_14 (by decide) ?_
      refine x_callVi [.int (1 : Int32)] (c_X11_refuse (I := I) (L := L) (1 : Int32)) dX11_askedFirst_15 lk_X11_99 lm_0 rfl cd_X11_refuse rfl rfl (Nat.le_of_ble_eq_true rfl) ⟨rfl, rfl, Nat.le_of_ble_eq_true rfl, Nat.le_of_ble_eq_true rfl⟩ ?_
      cases hf
      exact x_iret dX11_askedFirst_18 rfl rfl
set_option maxRecDepth 100000 in
set_option maxHeartbeats 4000000 in
theorem c_X11_deep {I : z_I} {L : z_L} {p0 : Int32}  {r : Int32 × z_I} (hf : f_X11_deep I p0 = some r) : z_C layM yX11_deep cX11_deep 2 (some .int) ({ frames := 5, cells := 0, slots := 0, locals := 115 } : Room) [.ref 0, .int p0] I L (some (.int r.1), r.2, L) := by
  refine z_C.of (by decide) (Nat.le_of_ble_eq_true rfl) ?_
  show z_X layM RX11 cX11_deep 2 (some .int) ({ frames := 5, cells := 0, slots := 0, locals := 115 } : Room) 0 [(0, .ref 0), (1, .int p0)] [] I L (some (.int r.1), r.2, L)
  unfold f_X11_deep at hf
  refine x_aload_n 0 dX11_deep_0 rfl rfl ?_
  refine x_iload_n 1 dX11_deep_1 rfl rfl ?_
  refine x_iconst (v := (1)) dX11_deep_2 (by decide) ?_
  obtain ⟨q1, hq2, hf⟩ := f_bd hf
  refine x_callVi [.int p0, .int (zb true)] (c_X11_leastTree (I := I) (L := L)  hq2) dX11_deep_3 lk_X11_404 lm_0 rfl cd_X11_leastTree rfl rfl (Nat.le_of_ble_eq_true rfl) ⟨rfl, rfl, Nat.le_of_ble_eq_true rfl, Nat.le_of_ble_eq_true rfl⟩ ?_
  cases hf
  exact x_iret dX11_deep_6 rfl rfl
set_option maxRecDepth 100000 in
set_option maxHeartbeats 4000000 in
theorem c_X11_askDeep {I : z_I} {L : z_L} {p0 : Int32}  {r : Int32 × z_I} (hf : f_X11_askDeep I p0 = some r) : z_C layM yX11_askDeep cX11_askDeep 2 (some .int) ({ frames := 5, cells := 0, slots := 0, locals := 115 } : Room) [.ref 0, .int p0] I L (some (.int r.1), r.2, L) := by
  refine z_C.of (by decide) (Nat.le_of_ble_eq_true rfl) ?_
  show z_X layM RX11 cX11_askDeep 2 (some .int) ({ frames := 5, cells := 0, slots := 0, locals := 115 } : Room) 0 [(0, .ref 0), (1, .int p0)] [] I L (some (.int r.1), r.2, L)
  unfold f_X11_askDeep at hf
  refine x_aload_n 0 dX11_askDeep_0 rfl rfl ?_
  refine x_iload_n 1 dX11_askDeep_1 rfl rfl ?_
  refine x_iconst (v := (1)) dX11_askDeep_2 (by decide) ?_
  obtain ⟨q1, hq2, hf⟩ := f_bd hf
  refine x_callVi [.int p0, .int (zb true)] (c_X11_askedFirst (I := I) (L := L)  hq2) dX11_askDeep_3 lk_X11_408 lm_0 rfl cd_X11_askedFirst rfl rfl (Nat.le_of_ble_eq_true rfl) ⟨rfl, rfl, Nat.le_of_ble_eq_true rfl, Nat.le_of_ble_eq_true rfl⟩ ?_
  cases hf
  exact x_iret dX11_askDeep_6 rfl rfl
set_option maxRecDepth 100000 in
set_option maxHeartbeats 4000000 in
theorem c_X11_dear {I : z_I} {L : z_L} {p0 : Int32}  {r : Int32 × z_I} (hf : f_X11_dear I p0 = some r) : z_C layM yX11_dear cX11_dear 2 (some .int) ({ frames := 5, cells := 0, slots := 0, locals := 115 } : Room) [.ref 0, .int p0] I L (some (.int r.1), r.2, L) := by
  refine z_C.of (by decide) (Nat.le_of_ble_eq_true rfl) ?_
  show z_X layM RX11 cX11_dear 2 (some .int) ({ frames := 5, cells := 0, slots := 0, locals := 115 } : Room) 0 [(0, .ref 0), (1, .int p0)] [] I L (some (.int r.1), r.2, L)
  unfold f_X11_dear at hf
  refine x_aload_n 0 dX11_dear_0 rfl rfl ?_
  refine x_iload_n 1 dX11_dear_1 rfl rfl ?_
  refine x_iconst (v := (0)) dX11_dear_2 (by decide) ?_
  obtain ⟨q1, hq2, hf⟩ := f_bd hf
  refine x_callVi [.int p0, .int (zb false)] (c_X11_leastTree (I := I) (L := L)  hq2) dX11_dear_3 lk_X11_404 lm_0 rfl cd_X11_leastTree rfl rfl (Nat.le_of_ble_eq_true rfl) ⟨rfl, rfl, Nat.le_of_ble_eq_true rfl, Nat.le_of_ble_eq_true rfl⟩ ?_
  cases hf
  exact x_iret dX11_dear_6 rfl rfl
set_option maxRecDepth 100000 in
set_option maxHeartbeats 4000000 in
theorem c_X11_askDear {I : z_I} {L : z_L} {p0 : Int32}  {r : Int32 × z_I} (hf : f_X11_askDear I p0 = some r) : z_C layM yX11_askDear cX11_askDear 2 (some .int) ({ frames := 5, cells := 0, slots := 0, locals := 115 } : Room) [.ref 0, .int p0] I L (some (.int r.1), r.2, L) := by
  refine z_C.of (by decide) (Nat.le_of_ble_eq_true rfl) ?_
  show z_X layM RX11 cX11_askDear 2 (some .int) ({ frames := 5, cells := 0, slots := 0, locals := 115 } : Room) 0 [(0, .ref 0), (1, .int p0)] [] I L (some (.int r.1), r.2, L)
  unfold f_X11_askDear at hf
  refine x_aload_n 0 dX11_askDear_0 rfl rfl ?_
  refine x_iload_n 1 dX11_askDear_1 rfl rfl ?_
  refine x_iconst (v := (0)) dX11_askDear_2 (by decide) ?_
  obtain ⟨q1, hq2, hf⟩ := f_bd hf
  refine x_callVi [.int p0, .int (zb false)] (c_X11_askedFirst (I := I) (L := L)  hq2) dX11_askDear_3 lk_X11_408 lm_0 rfl cd_X11_askedFirst rfl rfl (Nat.le_of_ble_eq_true rfl) ⟨rfl, rfl, Nat.le_of_ble_eq_true rfl, Nat.le_of_ble_eq_true rfl⟩ ?_
  cases hf
  exact x_iret dX11_askDear_6 rfl rfl
set_option maxRecDepth 100000 in
set_option maxHeartbeats 4000000 in
theorem l_X11_wrongTold_49   (v1 : Int32) (v2 : Int32) (I : z_I) (L : z_L) {r : Int32}  : ∀ (n : Nat) (v3 : Int32), g_X11_wrongTold_49 v1 v2 I L  n v3 = some r → z_X layM RX11 cX11_wrongTold 5 (some .int) ({ frames := 1, cells := 0, slots := 0, locals := 25 } : Room) 49 [(0, .ref 0), (1, .int v1), (2, .int v2), (3, .int v3)] [] I L (some (.int r), I, L) := by
  intro n
  induction n with
  | zero => intro v3 hf; cases hf
  | succ n ih =>
    intro v3 hf
    rw [g_X11_wrongTold_49] at hf
    refine x_iload_n 3 dX11_wrongTold_49 rfl rfl ?_
    refine x_iload_n 2 dX11_wrongTold_50 rfl rfl ?_
    refine x_icmp_ge 112 dX11_wrongTold_51 (by decide) (fun hB => ?_) (fun hB => ?_)
    · replace hf := f_if hB hf
      refine x_iconst (v := (0)) dX11_wrongTold_112 (by decide) ?_
      cases hf
      exact x_iret dX11_wrongTold_113 rfl rfl
    · replace hf := f_el hB hf
      refine x_bipush (v := (60)) dX11_wrongTold_54 (by decide) ?_
      refine x_iload_n 1 dX11_wrongTold_56 rfl rfl ?_
      refine x_imul dX11_wrongTold_57 ?_
      refine x_iconst (v := (2)) dX11_wrongTold_58 (by decide) ?_
      refine x_iload_n 3 dX11_wrongTold_59 rfl rfl ?_
      refine x_imul dX11_wrongTold_60 ?_
      refine x_iadd dX11_wrongTold_61 ?_
      refine x_istore [(4, .int (((60 : Int32) * v1) + ((2 : Int32) * v3))), (0, .ref 0), (1, .int v1), (2, .int v2), (3, .int v3)] dX11_wrongTold_62 (by decide) rfl ?_
      refine x_aload_n 1 dX11_wrongTold_64 rfl rfl ?_
      refine x_getR dX11_wrongTold_65 lm_0 fl_X11_27 rfl ?_
      refine x_iload 0 dX11_wrongTold_68 rfl ?_
      obtain ⟨h3, hf⟩ := f_gd hf
      refine x_lald (j := ((((60 : Int32) * v1) + ((2 : Int32) * v3))).toNatClampNeg) (v := (L 5 ((((60 : Int32) * v1) + ((2 : Int32) * v3))).toNatClampNeg)) dX11_wrongTold_70 lm_5 h3 rfl rfl ?_
      refine x_lconst (v := (0)) dX11_wrongTold_71 (by decide) ?_
      refine x_aload_n 1 dX11_wrongTold_72 rfl rfl ?_
      refine x_getR dX11_wrongTold_73 lm_0 fl_X11_7 rfl ?_
      refine x_iconst (v := (2)) dX11_wrongTold_76 (by decide) ?_
      refine x_iald (j := 2) (v := (I 1 2)) dX11_wrongTold_77 lm_1 (by decide +kernel) (by decide +kernel) rfl ?_
      refine x_i2l dX11_wrongTold_78 ?_
      refine x_lconst (v := (1)) dX11_wrongTold_79 (by decide) ?_
      refine x_lsub dX11_wrongTold_80 ?_
      refine x_callSi [.long (L 5 ((((60 : Int32) * v1) + ((2 : Int32) * v3))).toNatClampNeg), .long (0 : Int64), .long (((I 1 2).toInt64) - (1 : Int64))] (c_X11_isFrom (I := I) (L := L) (L 5 ((((60 : Int32) * v1) + ((2 : Int32) * v3))).toNatClampNeg) (0 : Int64) (((I 1 2).toInt64) - (1 : Int64))) dX11_wrongTold_81 lk_X11_299 cd_X11_isFrom rfl rfl (Nat.le_of_ble_eq_true rfl) ⟨rfl, rfl, Nat.le_of_ble_eq_true rfl, Nat.le_of_ble_eq_true rfl⟩ ?_
      refine x_if_eqB 104 dX11_wrongTold_84 (by decide) (fun hB => ?_) (fun hB => ?_)
      · replace hf := f_el hB hf
        refine x_iconst (v := (5)) dX11_wrongTold_104 (by decide) ?_
        cases hf
        exact x_iret dX11_wrongTold_105 rfl rfl
      · replace hf := f_if hB hf
        refine x_aload_n 1 dX11_wrongTold_87 rfl rfl ?_
        refine x_getR dX11_wrongTold_88 lm_0 fl_X11_27 rfl ?_
        refine x_iload 0 dX11_wrongTold_91 rfl ?_
        refine x_iconst (v := (1)) dX11_wrongTold_93 (by decide) ?_
        refine x_iadd dX11_wrongTold_94 ?_
        obtain ⟨h5, hf⟩ := f_gd hf
        refine x_lald (j := (((((60 : Int32) * v1) + ((2 : Int32) * v3)) + (1 : Int32))).toNatClampNeg) (v := (L 5 (((((60 : Int32) * v1) + ((2 : Int32) * v3)) + (1 : Int32))).toNatClampNeg)) dX11_wrongTold_95 lm_5 h5 rfl rfl ?_
        refine x_lconst (v := (0)) dX11_wrongTold_96 (by decide) ?_
        refine x_lconst (v := (1)) dX11_wrongTold_97 (by decide) ?_
        refine x_callSi [.long (L 5 (((((60 : Int32) * v1) + ((2 : Int32) * v3)) + (1 : Int32))).toNatClampNeg), .long (0 : Int64), .long (1 : Int64)] (c_X11_isFrom (I := I) (L := L) (L 5 (((((60 : Int32) * v1) + ((2 : Int32) * v3)) + (1 : Int32))).toNatClampNeg) (0 : Int64) (1 : Int64)) dX11_wrongTold_98 lk_X11_299 cd_X11_isFrom rfl rfl (Nat.le_of_ble_eq_true rfl) ⟨rfl, rfl, Nat.le_of_ble_eq_true rfl, Nat.le_of_ble_eq_true rfl⟩ ?_
        refine x_if_neB 106 dX11_wrongTold_101 (by decide) (fun hB => ?_) (fun hB => ?_)
        · replace hf := f_if hB hf
          refine x_iinc 4 [(3, .int (v3 + (1 : Int32))), (4, .int (((60 : Int32) * v1) + ((2 : Int32) * v3))), (0, .ref 0), (1, .int v1), (2, .int v2)] dX11_wrongTold_106 rfl rfl (by decide) rfl ?_
          refine x_goto 49 dX11_wrongTold_109 (by decide) ?_
          refine x_lv [(0, .ref 0), (1, .int v1), (2, .int v2), (3, .int (v3 + (1 : Int32)))] [2, 3, 4, 0] rfl ?_
          exact ih _ hf
        · replace hf := f_el hB hf
          refine x_iconst (v := (5)) dX11_wrongTold_104 (by decide) ?_
          cases hf
          exact x_iret dX11_wrongTold_105 rfl rfl
set_option maxRecDepth 100000 in
set_option maxHeartbeats 4000000 in
theorem c_X11_wrongTold {I : z_I} {L : z_L} {p0 : Int32} {p1 : Int32}  {r : Int32} (hf : f_X11_wrongTold I L p0 p1 = some r) : z_C layM yX11_wrongTold cX11_wrongTold 5 (some .int) ({ frames := 1, cells := 0, slots := 0, locals := 25 } : Room) [.ref 0, .int p0, .int p1] I L (some (.int r), I, L) := by
  refine z_C.of (by decide) (Nat.le_of_ble_eq_true rfl) ?_
  show z_X layM RX11 cX11_wrongTold 5 (some .int) ({ frames := 1, cells := 0, slots := 0, locals := 25 } : Room) 0 [(0, .ref 0), (1, .int p0), (2, .int p1)] [] I L (some (.int r), I, L)
  unfold f_X11_wrongTold at hf
  refine x_iload_n 1 dX11_wrongTold_0 rfl rfl ?_
  refine x_callSi [.int p0] (c_X11_isTray (I := I) (L := L) p0) dX11_wrongTold_1 lk_X11_110 cd_X11_isTray rfl rfl (Nat.le_of_ble_eq_true rfl) ⟨rfl, rfl, Nat.le_of_ble_eq_true rfl, Nat.le_of_ble_eq_true rfl⟩ ?_
  refine x_if_eqB 19 dX11_wrongTold_4 (by decide) (fun hB => ?_) (fun hB => ?_)
  · replace hf := f_el hB hf
    refine x_iconst (v := (1)) dX11_wrongTold_19 (by decide) ?_
    cases hf
    exact x_iret dX11_wrongTold_20 rfl rfl
  · replace hf := f_if hB hf
    refine x_iload_n 2 dX11_wrongTold_7 rfl rfl ?_
    refine x_i2l dX11_wrongTold_8 ?_
    refine x_lconst (v := (0)) dX11_wrongTold_9 (by decide) ?_
    refine x_ldc2 (v := (20)) dX11_wrongTold_10 kc_X11_359 ?_
    refine x_callSi [.long (p1.toInt64), .long (0 : Int64), .long (20 : Int64)] (c_X11_isFrom (I := I) (L := L) (p1.toInt64) (0 : Int64) (20 : Int64)) dX11_wrongTold_13 lk_X11_299 cd_X11_isFrom rfl rfl (Nat.le_of_ble_eq_true rfl) ⟨rfl, rfl, Nat.le_of_ble_eq_true rfl, Nat.le_of_ble_eq_true rfl⟩ ?_
    refine x_if_neB 21 dX11_wrongTold_16 (by decide) (fun hB => ?_) (fun hB => ?_)
    · replace hf := f_if hB hf
      refine x_aload_n 0 dX11_wrongTold_21 rfl rfl ?_
      refine x_getR dX11_wrongTold_22 lm_0 fl_X11_24 rfl ?_
      refine x_iload_n 1 dX11_wrongTold_25 rfl rfl ?_
      obtain ⟨h1, hf⟩ := f_gd hf
      refine x_iald (j := (p0).toNatClampNeg) (v := (I 4 (p0).toNatClampNeg)) dX11_wrongTold_26 lm_4 h1 rfl rfl ?_
      refine x_iconst (v := (-1)) dX11_wrongTold_27 (by decide) ?_
      refine x_icmp_ne 33 dX11_wrongTold_28 (by decide) (fun hB => ?_) (fun hB => ?_)
      · replace hf := f_el hB hf
        refine x_aload_n 0 dX11_wrongTold_33 rfl rfl ?_
        refine x_getR dX11_wrongTold_34 lm_0 fl_X11_24 rfl ?_
        refine x_iload_n 1 dX11_wrongTold_37 rfl rfl ?_
        refine x_iald (j := (p0).toNatClampNeg) (v := (I 4 (p0).toNatClampNeg)) dX11_wrongTold_38 lm_4 h1 rfl rfl ?_
        refine x_iconst (v := (2)) dX11_wrongTold_39 (by decide) ?_
        refine x_iload_n 2 dX11_wrongTold_40 rfl rfl ?_
        refine x_imul dX11_wrongTold_41 ?_
        refine x_icmp_ge 47 dX11_wrongTold_42 (by decide) (fun hB => ?_) (fun hB => ?_)
        · replace hf := f_if hB hf
          refine x_iconst (v := (0)) dX11_wrongTold_47 (by decide) ?_
          refine x_istore_n [(3, .int (0 : Int32)), (0, .ref 0), (1, .int p0), (2, .int p1)] dX11_wrongTold_48 rfl (by decide) rfl ?_
          refine x_lv [(0, .ref 0), (1, .int p0), (2, .int p1), (3, .int (0 : Int32))] [1, 2, 3, 0] rfl ?_
          refine l_X11_wrongTold_49 p0 p1 (I) (L)   _ _ hf
        · replace hf := f_el hB hf
          refine x_iconst (v := (3)) dX11_wrongTold_45 (by decide) ?_
          cases hf
          exact x_iret dX11_wrongTold_46 rfl rfl
      · replace hf := f_if hB hf
        refine x_iconst (v := (2)) dX11_wrongTold_31 (by decide) ?_
        cases hf
        exact x_iret dX11_wrongTold_32 rfl rfl
    · replace hf := f_el hB hf
      refine x_iconst (v := (1)) dX11_wrongTold_19 (by decide) ?_
      cases hf
      exact x_iret dX11_wrongTold_20 rfl rfl
set_option maxRecDepth 100000 in
set_option maxHeartbeats 4000000 in
theorem l_X11_fitting_8   (v1 : Int32) (v2 : Int32) (I : z_I) (L : z_L) {r : Int32}  : ∀ (n : Nat) (v3 : Int32) (v4 : Int32), g_X11_fitting_8 v1 v2 I L  n v3 v4 = some r → z_X layM RX11 cX11_fitting 7 (some .int) ({ frames := 2, cells := 0, slots := 0, locals := 41 } : Room) 8 [(0, .ref 0), (1, .int v1), (2, .int v2), (3, .int v3), (4, .int v4)] [] I L (some (.int r), I, L) := by
  intro n
  induction n with
  | zero => intro v3 v4 hf; cases hf
  | succ n ih =>
    intro v3 v4 hf
    rw [g_X11_fitting_8] at hf
    refine x_iload 4 dX11_fitting_8 rfl ?_
    refine x_iload_n 2 dX11_fitting_10 rfl rfl ?_
    refine x_icmp_ge 71 dX11_fitting_11 (by decide) (fun hB => ?_) (fun hB => ?_)
    · replace hf := f_if hB hf
      refine x_iload_n 3 dX11_fitting_71 rfl rfl ?_
      cases hf
      exact x_iret dX11_fitting_72 rfl rfl
    · replace hf := f_el hB hf
      refine x_bipush (v := (60)) dX11_fitting_14 (by decide) ?_
      refine x_iload_n 1 dX11_fitting_16 rfl rfl ?_
      refine x_imul dX11_fitting_17 ?_
      refine x_iconst (v := (2)) dX11_fitting_18 (by decide) ?_
      refine x_iload 4 dX11_fitting_19 rfl ?_
      refine x_imul dX11_fitting_21 ?_
      refine x_iadd dX11_fitting_22 ?_
      refine x_istore [(5, .int (((60 : Int32) * v1) + ((2 : Int32) * v4))), (0, .ref 0), (1, .int v1), (2, .int v2), (3, .int v3), (4, .int v4)] dX11_fitting_23 (by decide) rfl ?_
      refine x_aload_n 1 dX11_fitting_25 rfl rfl ?_
      refine x_aload_n 1 dX11_fitting_26 rfl rfl ?_
      refine x_getR dX11_fitting_27 lm_0 fl_X11_27 rfl ?_
      refine x_iload 0 dX11_fitting_30 rfl ?_
      obtain ⟨h1, hf⟩ := f_gd hf
      refine x_lald (j := ((((60 : Int32) * v1) + ((2 : Int32) * v4))).toNatClampNeg) (v := (L 5 ((((60 : Int32) * v1) + ((2 : Int32) * v4))).toNatClampNeg)) dX11_fitting_32 lm_5 h1 rfl rfl ?_
      refine x_l2i dX11_fitting_33 ?_
      obtain ⟨q2, hq3, hf⟩ := f_bd hf
      refine x_callVi [.int ((L 5 ((((60 : Int32) * v1) + ((2 : Int32) * v4))).toNatClampNeg).toInt32)] (c_X11_truthOf (I := I) (L := L)  hq3) dX11_fitting_34 lk_X11_303 lm_0 rfl cd_X11_truthOf rfl rfl (Nat.le_of_ble_eq_true rfl) ⟨rfl, rfl, Nat.le_of_ble_eq_true rfl, Nat.le_of_ble_eq_true rfl⟩ ?_
      refine x_istore [(6, .int q2), (5, .int (((60 : Int32) * v1) + ((2 : Int32) * v4))), (0, .ref 0), (1, .int v1), (2, .int v2), (3, .int v3), (4, .int v4)] dX11_fitting_37 (by decide) rfl ?_
      refine x_iload_n 5 dX11_fitting_39 rfl rfl ?_
      refine x_aload_n 2 dX11_fitting_40 rfl rfl ?_
      refine x_getR dX11_fitting_41 lm_0 fl_X11_27 rfl ?_
      refine x_iload 1 dX11_fitting_44 rfl ?_
      refine x_iconst (v := (1)) dX11_fitting_46 (by decide) ?_
      refine x_iadd dX11_fitting_47 ?_
      obtain ⟨h4, hf⟩ := f_gd hf
      refine x_lald (j := (((((60 : Int32) * v1) + ((2 : Int32) * v4)) + (1 : Int32))).toNatClampNeg) (v := (L 5 (((((60 : Int32) * v1) + ((2 : Int32) * v4)) + (1 : Int32))).toNatClampNeg)) dX11_fitting_48 lm_5 h4 rfl rfl ?_
      refine x_lconst (v := (1)) dX11_fitting_49 (by decide) ?_
      refine x_lcmp_ne 59 dX11_fitting_50 dX11_fitting_51 (by decide) (fun hB => ?_) (fun hB => ?_)
      · replace hf := f_el hB hf
        refine x_iload 0 dX11_fitting_59 rfl ?_
        refine x_iconst (v := (-1)) dX11_fitting_61 (by decide) ?_
        refine x_ixor dX11_fitting_62 ?_
        refine x_iand dX11_fitting_63 ?_
        refine x_istore_n [(3, .int (v3 &&& (q2 ^^^ (-1 : Int32)))), (6, .int q2), (5, .int (((60 : Int32) * v1) + ((2 : Int32) * v4))), (0, .ref 0), (1, .int v1), (2, .int v2), (4, .int v4)] dX11_fitting_64 rfl (by decide) rfl ?_
        refine x_iinc 6 [(4, .int (v4 + (1 : Int32))), (3, .int (v3 &&& (q2 ^^^ (-1 : Int32)))), (6, .int q2), (5, .int (((60 : Int32) * v1) + ((2 : Int32) * v4))), (0, .ref 0), (1, .int v1), (2, .int v2)] dX11_fitting_65 rfl rfl (by decide) rfl ?_
        refine x_goto 8 dX11_fitting_68 (by decide) ?_
        refine x_lv [(0, .ref 0), (1, .int v1), (2, .int v2), (3, .int (v3 &&& (q2 ^^^ (-1 : Int32)))), (4, .int (v4 + (1 : Int32)))] [4, 5, 6, 1, 0] rfl ?_
        exact ih _ _ hf
      · replace hf := f_if hB hf
        refine x_iload 0 dX11_fitting_54 rfl ?_
        refine x_goto 63 dX11_fitting_56 (by decide) ?_
        refine x_iand dX11_fitting_63 ?_
        refine x_istore_n [(3, .int (v3 &&& q2)), (6, .int q2), (5, .int (((60 : Int32) * v1) + ((2 : Int32) * v4))), (0, .ref 0), (1, .int v1), (2, .int v2), (4, .int v4)] dX11_fitting_64 rfl (by decide) rfl ?_
        refine x_iinc 6 [(4, .int (v4 + (1 : Int32))), (3, .int (v3 &&& q2)), (6, .int q2), (5, .int (((60 : Int32) * v1) + ((2 : Int32) * v4))), (0, .ref 0), (1, .int v1), (2, .int v2)] dX11_fitting_65 rfl rfl (by decide) rfl ?_
        refine x_goto 8 dX11_fitting_68 (by decide) ?_
        refine x_lv [(0, .ref 0), (1, .int v1), (2, .int v2), (3, .int (v3 &&& q2)), (4, .int (v4 + (1 : Int32)))] [4, 5, 6, 1, 0] rfl ?_
        exact ih _ _ hf
set_option maxRecDepth 100000 in
set_option maxHeartbeats 4000000 in
theorem c_X11_fitting {I : z_I} {L : z_L} {p0 : Int32} {p1 : Int32}  {r : Int32} (hf : f_X11_fitting I L p0 p1 = some r) : z_C layM yX11_fitting cX11_fitting 7 (some .int) ({ frames := 2, cells := 0, slots := 0, locals := 41 } : Room) [.ref 0, .int p0, .int p1] I L (some (.int r), I, L) := by
  refine z_C.of (by decide) (Nat.le_of_ble_eq_true rfl) ?_
  show z_X layM RX11 cX11_fitting 7 (some .int) ({ frames := 2, cells := 0, slots := 0, locals := 41 } : Room) 0 [(0, .ref 0), (1, .int p0), (2, .int p1)] [] I L (some (.int r), I, L)
  unfold f_X11_fitting at hf
  refine x_aload_n 0 dX11_fitting_0 rfl rfl ?_
  refine x_callVi [] (c_X11_allCases (I := I) (L := L) ) dX11_fitting_1 lk_X11_296 lm_0 rfl cd_X11_allCases rfl rfl (Nat.le_of_ble_eq_true rfl) ⟨rfl, rfl, Nat.le_of_ble_eq_true rfl, Nat.le_of_ble_eq_true rfl⟩ ?_
  refine x_istore_n [(3, .int (f_X11_allCases I)), (0, .ref 0), (1, .int p0), (2, .int p1)] dX11_fitting_4 rfl (by decide) rfl ?_
  refine x_iconst (v := (0)) dX11_fitting_5 (by decide) ?_
  refine x_istore [(4, .int (0 : Int32)), (3, .int (f_X11_allCases I)), (0, .ref 0), (1, .int p0), (2, .int p1)] dX11_fitting_6 (by decide) rfl ?_
  refine x_lv [(0, .ref 0), (1, .int p0), (2, .int p1), (3, .int (f_X11_allCases I)), (4, .int (0 : Int32))] [2, 3, 4, 1, 0] rfl ?_
  refine l_X11_fitting_8 p0 p1 (I) (L)   _ _ _ hf
set_option maxRecDepth 100000 in
set_option maxHeartbeats 4000000 in
theorem c_X11_fits {I : z_I} {L : z_L} {p0 : Int32} {p1 : Int32}  {r : Int32 × z_I} (hf : f_X11_fits I L p0 p1 = some r) : z_C layM yX11_fits cX11_fits 4 (some .int) ({ frames := 3, cells := 0, slots := 0, locals := 67 } : Room) [.ref 0, .int p0, .int p1] I L (some (.int r.1), r.2, L) := by
  refine z_C.of (by decide) (Nat.le_of_ble_eq_true rfl) ?_
  show z_X layM RX11 cX11_fits 4 (some .int) ({ frames := 3, cells := 0, slots := 0, locals := 67 } : Room) 0 [(0, .ref 0), (1, .int p0), (2, .int p1)] [] I L (some (.int r.1), r.2, L)
  unfold f_X11_fits at hf
  refine x_aload_n 0 dX11_fits_0 rfl rfl ?_
  refine x_iload_n 1 dX11_fits_1 rfl rfl ?_
  refine x_iload_n 2 dX11_fits_2 rfl rfl ?_
  obtain ⟨q1, hq2, hf⟩ := f_bd hf
  refine x_callVi [.int p0, .int p1] (c_X11_wrongTold (I := I) (L := L)  hq2) dX11_fits_3 lk_X11_411 lm_0 rfl cd_X11_wrongTold rfl rfl (Nat.le_of_ble_eq_true rfl) ⟨rfl, rfl, Nat.le_of_ble_eq_true rfl, Nat.le_of_ble_eq_true rfl⟩ ?_
  refine x_istore_n [(3, .int q1), (0, .ref 0), (1, .int p0), (2, .int p1)] dX11_fits_6 rfl (by decide) rfl ?_
  refine x_iload_n 0 dX11_fits_7 rfl rfl ?_
  refine x_if_le 19 dX11_fits_8 (by decide) (fun hB => ?_) (fun hB => ?_)
  · replace hf := f_if hB hf
    refine x_aload_n 1 dX11_fits_19 rfl rfl ?_
    refine x_aload_n 1 dX11_fits_20 rfl rfl ?_
    refine x_iload_n 2 dX11_fits_21 rfl rfl ?_
    refine x_iload_n 3 dX11_fits_22 rfl rfl ?_
    obtain ⟨q3, hq4, hf⟩ := f_bd hf
    refine x_callVi [.int p0, .int p1] (c_X11_fitting (I := I) (L := L)  hq4) dX11_fits_23 lk_X11_414 lm_0 rfl cd_X11_fitting rfl rfl (Nat.le_of_ble_eq_true rfl) ⟨rfl, rfl, Nat.le_of_ble_eq_true rfl, Nat.le_of_ble_eq_true rfl⟩ ?_
    refine x_callVi [.int q3] (c_X11_gives (I := I) (L := L) q3) dX11_fits_26 lk_X11_103 lm_0 rfl cd_X11_gives rfl rfl (Nat.le_of_ble_eq_true rfl) ⟨rfl, rfl, Nat.le_of_ble_eq_true rfl, Nat.le_of_ble_eq_true rfl⟩ ?_
    cases hf
    exact x_iret dX11_fits_29 rfl rfl
  · replace hf := f_el hB hf
    refine x_aload_n 1 dX11_fits_11 rfl rfl ?_
    refine x_iload_n 0 dX11_fits_12 rfl rfl ?_
    refine x_callVi [.int q1] (c_X11_refuse (I := I) (L := L) q1) dX11_fits_13 lk_X11_99 lm_0 rfl cd_X11_refuse rfl rfl (Nat.le_of_ble_eq_true rfl) ⟨rfl, rfl, Nat.le_of_ble_eq_true rfl, Nat.le_of_ble_eq_true rfl⟩ ?_
    refine x_goto 29 dX11_fits_16 (by decide) ?_
    cases hf
    exact x_iret dX11_fits_29 rfl rfl
set_option maxRecDepth 100000 in
set_option maxHeartbeats 4000000 in
theorem l_X11_likely_31   (v4 : Int32) (I : z_I) (L : z_L) {r : Int32 × z_I}  : ∀ (n : Nat) (v5 : Int32) (v6 : Int32), g_X11_likely_31 v4 I L  n v5 v6 = some r → z_X layM RX11 cX11_likely 7 (some .int) ({ frames := 3, cells := 0, slots := 0, locals := 67 } : Room) 31 [(0, .ref 0), (4, .int v4), (5, .int v5), (6, .int v6)] [] I L (some (.int r.1), r.2, L) := by
  intro n
  induction n with
  | zero => intro v5 v6 hf; cases hf
  | succ n ih =>
    intro v5 v6 hf
    rw [g_X11_likely_31] at hf
    refine x_iload 3 dX11_likely_31 rfl ?_
    refine x_aload_n 0 dX11_likely_33 rfl rfl ?_
    refine x_getR dX11_likely_34 lm_0 fl_X11_7 rfl ?_
    refine x_iconst (v := (1)) dX11_likely_37 (by decide) ?_
    refine x_iald (j := 1) (v := (I 1 1)) dX11_likely_38 lm_1 (by decide +kernel) (by decide +kernel) rfl ?_
    refine x_icmp_ge 92 dX11_likely_39 (by decide) (fun hB => ?_) (fun hB => ?_)
    · replace hf := f_if hB hf
      refine x_aload_n 0 dX11_likely_92 rfl rfl ?_
      refine x_iload 2 dX11_likely_93 rfl ?_
      refine x_callVi [.int v5] (c_X11_orNone (I := I) (L := L) v5) dX11_likely_95 lk_X11_389 lm_0 rfl cd_X11_orNone rfl rfl (Nat.le_of_ble_eq_true rfl) ⟨rfl, rfl, Nat.le_of_ble_eq_true rfl, Nat.le_of_ble_eq_true rfl⟩ ?_
      cases hf
      exact x_iret dX11_likely_98 rfl rfl
    · replace hf := f_el hB hf
      refine x_aload_n 0 dX11_likely_42 rfl rfl ?_
      refine x_iload 1 dX11_likely_43 rfl ?_
      refine x_iload 3 dX11_likely_45 rfl ?_
      refine x_callVi [.int v4, .int v6] (c_X11_isIn (I := I) (L := L) v4 v6) dX11_likely_47 lk_X11_236 lm_0 rfl cd_X11_isIn rfl rfl (Nat.le_of_ble_eq_true rfl) ⟨rfl, rfl, Nat.le_of_ble_eq_true rfl, Nat.le_of_ble_eq_true rfl⟩ ?_
      refine x_if_eqB 86 dX11_likely_50 (by decide) (fun hB => ?_) (fun hB => ?_)
      · replace hf := f_el hB hf
        refine x_iinc 3 [(6, .int (v6 + (1 : Int32))), (0, .ref 0), (4, .int v4), (5, .int v5)] dX11_likely_86 rfl rfl (by decide) rfl ?_
        refine x_goto 31 dX11_likely_89 (by decide) ?_
        refine x_lv [(0, .ref 0), (4, .int v4), (5, .int v5), (6, .int (v6 + (1 : Int32)))] [1, 2, 3, 0] rfl ?_
        exact ih _ _ hf
      · replace hf := f_if hB hf
        refine x_iload 2 dX11_likely_53 rfl ?_
        refine x_iconst (v := (-1)) dX11_likely_55 (by decide) ?_
        refine x_icmp_eq 82 dX11_likely_56 (by decide) (fun hB => ?_) (fun hB => ?_)
        · replace hf := f_if hB hf
          refine x_iload 3 dX11_likely_82 rfl ?_
          refine x_istore [(5, .int v6), (0, .ref 0), (4, .int v4), (6, .int v6)] dX11_likely_84 (by decide) rfl ?_
          refine x_iinc 3 [(6, .int (v6 + (1 : Int32))), (5, .int v6), (0, .ref 0), (4, .int v4)] dX11_likely_86 rfl rfl (by decide) rfl ?_
          refine x_goto 31 dX11_likely_89 (by decide) ?_
          refine x_lv [(0, .ref 0), (4, .int v4), (5, .int v6), (6, .int (v6 + (1 : Int32)))] [2, 3, 1, 0] rfl ?_
          exact ih _ _ hf
        · replace hf := f_el hB hf
          refine x_aload_n 0 dX11_likely_59 rfl rfl ?_
          refine x_getR dX11_likely_60 lm_0 fl_X11_7 rfl ?_
          refine x_bipush (v := (22)) dX11_likely_63 (by decide) ?_
          refine x_iload 3 dX11_likely_65 rfl ?_
          refine x_iadd dX11_likely_67 ?_
          obtain ⟨h6, hf⟩ := f_gd hf
          refine x_iald (j := (((22 : Int32) + v6)).toNatClampNeg) (v := (I 1 (((22 : Int32) + v6)).toNatClampNeg)) dX11_likely_68 lm_1 h6 rfl rfl ?_
          refine x_aload_n 0 dX11_likely_69 rfl rfl ?_
          refine x_getR dX11_likely_70 lm_0 fl_X11_7 rfl ?_
          refine x_bipush (v := (22)) dX11_likely_73 (by decide) ?_
          refine x_iload 2 dX11_likely_75 rfl ?_
          refine x_iadd dX11_likely_77 ?_
          obtain ⟨h7, hf⟩ := f_gd hf
          refine x_iald (j := (((22 : Int32) + v5)).toNatClampNeg) (v := (I 1 (((22 : Int32) + v5)).toNatClampNeg)) dX11_likely_78 lm_1 h7 rfl rfl ?_
          refine x_icmp_le 86 dX11_likely_79 (by decide) (fun hB => ?_) (fun hB => ?_)
          · replace hf := f_if hB hf
            refine x_iinc 3 [(6, .int (v6 + (1 : Int32))), (0, .ref 0), (4, .int v4), (5, .int v5)] dX11_likely_86 rfl rfl (by decide) rfl ?_
            refine x_goto 31 dX11_likely_89 (by decide) ?_
            refine x_lv [(0, .ref 0), (4, .int v4), (5, .int v5), (6, .int (v6 + (1 : Int32)))] [1, 2, 3, 0] rfl ?_
            exact ih _ _ hf
          · replace hf := f_el hB hf
            refine x_iload 3 dX11_likely_82 rfl ?_
            refine x_istore [(5, .int v6), (0, .ref 0), (4, .int v4), (6, .int v6)] dX11_likely_84 (by decide) rfl ?_
            refine x_iinc 3 [(6, .int (v6 + (1 : Int32))), (5, .int v6), (0, .ref 0), (4, .int v4)] dX11_likely_86 rfl rfl (by decide) rfl ?_
            refine x_goto 31 dX11_likely_89 (by decide) ?_
            refine x_lv [(0, .ref 0), (4, .int v4), (5, .int v6), (6, .int (v6 + (1 : Int32)))] [2, 3, 1, 0] rfl ?_
            exact ih _ _ hf
set_option maxRecDepth 100000 in
set_option maxHeartbeats 4000000 in
theorem c_X11_likely {I : z_I} {L : z_L} {p0 : Int32} {p1 : Int32}  {r : Int32 × z_I} (hf : f_X11_likely I L p0 p1 = some r) : z_C layM yX11_likely cX11_likely 7 (some .int) ({ frames := 3, cells := 0, slots := 0, locals := 67 } : Room) [.ref 0, .int p0, .int p1] I L (some (.int r.1), r.2, L) := by
  refine z_C.of (by decide) (Nat.le_of_ble_eq_true rfl) ?_
  show z_X layM RX11 cX11_likely 7 (some .int) ({ frames := 3, cells := 0, slots := 0, locals := 67 } : Room) 0 [(0, .ref 0), (1, .int p0), (2, .int p1)] [] I L (some (.int r.1), r.2, L)
  unfold f_X11_likely at hf
  refine x_aload_n 0 dX11_likely_0 rfl rfl ?_
  refine x_iload_n 1 dX11_likely_1 rfl rfl ?_
  refine x_iload_n 2 dX11_likely_2 rfl rfl ?_
  obtain ⟨q1, hq2, hf⟩ := f_bd hf
  refine x_callVi [.int p0, .int p1] (c_X11_wrongTold (I := I) (L := L)  hq2) dX11_likely_3 lk_X11_411 lm_0 rfl cd_X11_wrongTold rfl rfl (Nat.le_of_ble_eq_true rfl) ⟨rfl, rfl, Nat.le_of_ble_eq_true rfl, Nat.le_of_ble_eq_true rfl⟩ ?_
  refine x_istore_n [(3, .int q1), (0, .ref 0), (1, .int p0), (2, .int p1)] dX11_likely_6 rfl (by decide) rfl ?_
  refine x_iload_n 0 dX11_likely_7 rfl rfl ?_
  refine x_if_le 17 dX11_likely_8 (by decide) (fun hB => ?_) (fun hB => ?_)
  · replace hf := f_if hB hf
    refine x_aload_n 1 dX11_likely_17 rfl rfl ?_
    refine x_iload_n 2 dX11_likely_18 rfl rfl ?_
    refine x_iload_n 3 dX11_likely_19 rfl rfl ?_
    obtain ⟨q3, hq4, hf⟩ := f_bd hf
    refine x_callVi [.int p0, .int p1] (c_X11_fitting (I := I) (L := L)  hq4) dX11_likely_20 lk_X11_414 lm_0 rfl cd_X11_fitting rfl rfl (Nat.le_of_ble_eq_true rfl) ⟨rfl, rfl, Nat.le_of_ble_eq_true rfl, Nat.le_of_ble_eq_true rfl⟩ ?_
    refine x_istore [(4, .int q3), (3, .int q1), (0, .ref 0), (1, .int p0), (2, .int p1)] dX11_likely_23 (by decide) rfl ?_
    refine x_iconst (v := (-1)) dX11_likely_25 (by decide) ?_
    refine x_istore [(5, .int (-1 : Int32)), (4, .int q3), (3, .int q1), (0, .ref 0), (1, .int p0), (2, .int p1)] dX11_likely_26 (by decide) rfl ?_
    refine x_iconst (v := (0)) dX11_likely_28 (by decide) ?_
    refine x_istore [(6, .int (0 : Int32)), (5, .int (-1 : Int32)), (4, .int q3), (3, .int q1), (0, .ref 0), (1, .int p0), (2, .int p1)] dX11_likely_29 (by decide) rfl ?_
    refine x_lv [(0, .ref 0), (4, .int q3), (5, .int (-1 : Int32)), (6, .int (0 : Int32))] [4, 2, 1, 0] rfl ?_
    refine l_X11_likely_31 q3 (I) (L)   _ _ _ hf
  · replace hf := f_el hB hf
    refine x_aload_n 1 dX11_likely_11 rfl rfl ?_
    refine x_iload_n 0 dX11_likely_12 rfl rfl ?_
    refine x_callVi [.int q1] (c_X11_refuse (I := I) (L := L) q1) dX11_likely_13 lk_X11_99 lm_0 rfl cd_X11_refuse rfl rfl (Nat.le_of_ble_eq_true rfl) ⟨rfl, rfl, Nat.le_of_ble_eq_true rfl, Nat.le_of_ble_eq_true rfl⟩ ?_
    cases hf
    exact x_iret dX11_likely_16 rfl rfl
set_option maxRecDepth 100000 in
set_option maxHeartbeats 4000000 in
theorem c_X11_oddsThat {I : z_I} {L : z_L} {p0 : Int32} {p1 : Int32} {p2 : Int32}  {r : Bool × z_I × z_L} (hf : f_X11_oddsThat I L p0 p1 p2 = some r) : z_C layM yX11_oddsThat cX11_oddsThat 6 (some .boolean) ({ frames := 3, cells := 0, slots := 0, locals := 67 } : Room) [.ref 0, .int p0, .int p1, .int p2] I L (some (.int (zb r.1)), r.2.1, r.2.2) := by
  refine z_C.of (by decide) (Nat.le_of_ble_eq_true rfl) ?_
  show z_X layM RX11 cX11_oddsThat 6 (some .boolean) ({ frames := 3, cells := 0, slots := 0, locals := 67 } : Room) 0 [(0, .ref 0), (1, .int p0), (2, .int p1), (3, .int p2)] [] I L (some (.int (zb r.1)), r.2.1, r.2.2)
  unfold f_X11_oddsThat at hf
  refine x_aload_n 0 dX11_oddsThat_0 rfl rfl ?_
  refine x_iload_n 3 dX11_oddsThat_1 rfl rfl ?_
  refine x_callVi [.int p2] (c_X11_isCase (I := I) (L := L) p2) dX11_oddsThat_2 lk_X11_324 lm_0 rfl cd_X11_isCase rfl rfl (Nat.le_of_ble_eq_true rfl) ⟨rfl, rfl, Nat.le_of_ble_eq_true rfl, Nat.le_of_ble_eq_true rfl⟩ ?_
  refine x_if_eqB 17 dX11_oddsThat_5 (by decide) (fun hB => ?_) (fun hB => ?_)
  · replace hf := f_el hB hf
    refine x_iconst (v := (1)) dX11_oddsThat_17 (by decide) ?_
    refine x_istore [(4, .int (1 : Int32)), (0, .ref 0), (1, .int p0), (2, .int p1), (3, .int p2)] dX11_oddsThat_18 (by decide) rfl ?_
    refine x_iload 0 dX11_oddsThat_20 rfl ?_
    refine x_if_le 32 dX11_oddsThat_22 (by decide) (fun h => absurd h (by decide)) (fun _ => ?_)
    refine x_aload_n 1 dX11_oddsThat_25 rfl rfl ?_
    refine x_iload 0 dX11_oddsThat_26 rfl ?_
    refine x_callVi [.int (1 : Int32)] (c_X11_is (I := I) (L := L) (1 : Int32)) dX11_oddsThat_28 lk_X11_106 lm_0 rfl cd_X11_is rfl rfl (Nat.le_of_ble_eq_true rfl) ⟨rfl, rfl, Nat.le_of_ble_eq_true rfl, Nat.le_of_ble_eq_true rfl⟩ ?_
    cases hf
    exact x_zret dX11_oddsThat_31 rfl rfl
  · replace hf := f_if hB hf
    refine x_aload_n 0 dX11_oddsThat_8 rfl rfl ?_
    refine x_iload_n 1 dX11_oddsThat_9 rfl rfl ?_
    refine x_iload_n 2 dX11_oddsThat_10 rfl rfl ?_
    obtain ⟨q1, hq2, hf⟩ := f_bd hf
    refine x_callVi [.int p0, .int p1] (c_X11_wrongTold (I := I) (L := L)  hq2) dX11_oddsThat_11 lk_X11_411 lm_0 rfl cd_X11_wrongTold rfl rfl (Nat.le_of_ble_eq_true rfl) ⟨rfl, rfl, Nat.le_of_ble_eq_true rfl, Nat.le_of_ble_eq_true rfl⟩ ?_
    refine x_goto 18 dX11_oddsThat_14 (by decide) ?_
    refine x_istore [(4, .int q1), (0, .ref 0), (1, .int p0), (2, .int p1), (3, .int p2)] dX11_oddsThat_18 (by decide) rfl ?_
    refine x_iload 0 dX11_oddsThat_20 rfl ?_
    refine x_if_le 32 dX11_oddsThat_22 (by decide) (fun hB => ?_) (fun hB => ?_)
    · replace hf := f_if hB hf
      refine x_aload_n 1 dX11_oddsThat_32 rfl rfl ?_
      refine x_iload_n 2 dX11_oddsThat_33 rfl rfl ?_
      refine x_iload_n 3 dX11_oddsThat_34 rfl rfl ?_
      obtain ⟨q3, hq4, hf⟩ := f_bd hf
      refine x_callVi [.int p0, .int p1] (c_X11_fitting (I := I) (L := L)  hq4) dX11_oddsThat_35 lk_X11_414 lm_0 rfl cd_X11_fitting rfl rfl (Nat.le_of_ble_eq_true rfl) ⟨rfl, rfl, Nat.le_of_ble_eq_true rfl, Nat.le_of_ble_eq_true rfl⟩ ?_
      refine x_istore [(5, .int q3), (4, .int q1), (0, .ref 0), (1, .int p0), (2, .int p1), (3, .int p2)] dX11_oddsThat_38 (by decide) rfl ?_
      refine x_iload 0 dX11_oddsThat_40 rfl ?_
      refine x_if_ne 54 dX11_oddsThat_42 (by decide) (fun hB => ?_) (fun hB => ?_)
      · replace hf := f_el hB hf
        refine x_aload_n 2 dX11_oddsThat_54 rfl rfl ?_
        refine x_aload_n 2 dX11_oddsThat_55 rfl rfl ?_
        refine x_iload 0 dX11_oddsThat_56 rfl ?_
        refine x_iconst (v := (1)) dX11_oddsThat_58 (by decide) ?_
        refine x_iload_n 5 dX11_oddsThat_59 rfl rfl ?_
        refine x_ishl dX11_oddsThat_60 ?_
        refine x_iand dX11_oddsThat_61 ?_
        obtain ⟨q5, hq6, hf⟩ := f_bd hf
        refine x_callVi [.int (q3 &&& ((1 : Int32) <<< (p2 &&& 31)))] (c_X11_weightOf (I := I) (L := L)  hq6) dX11_oddsThat_62 lk_X11_393 lm_0 rfl cd_X11_weightOf rfl rfl (Nat.le_of_ble_eq_true rfl) ⟨rfl, rfl, Nat.le_of_ble_eq_true rfl, Nat.le_of_ble_eq_true rfl⟩ ?_
        refine x_i2l dX11_oddsThat_65 ?_
        refine x_aload_n 2 dX11_oddsThat_66 rfl rfl ?_
        refine x_iload 0 dX11_oddsThat_67 rfl ?_
        obtain ⟨q7, hq8, hf⟩ := f_bd hf
        refine x_callVi [.int q3] (c_X11_weightOf (I := I) (L := L)  hq8) dX11_oddsThat_69 lk_X11_393 lm_0 rfl cd_X11_weightOf rfl rfl (Nat.le_of_ble_eq_true rfl) ⟨rfl, rfl, Nat.le_of_ble_eq_true rfl, Nat.le_of_ble_eq_true rfl⟩ ?_
        refine x_i2l dX11_oddsThat_72 ?_
        obtain ⟨q9, hq10, hf⟩ := f_bd hf
        refine x_callVi [.long (q5.toInt64), .long (q7.toInt64)] (c_X11_tellsBy (I := I) (L := L)  hq10) dX11_oddsThat_73 lk_X11_417 lm_0 rfl cd_X11_tellsBy rfl rfl (Nat.le_of_ble_eq_true rfl) ⟨rfl, rfl, Nat.le_of_ble_eq_true rfl, Nat.le_of_ble_eq_true rfl⟩ ?_
        cases hf
        exact x_zret dX11_oddsThat_76 rfl rfl
      · replace hf := f_if hB hf
        refine x_aload_n 2 dX11_oddsThat_45 rfl rfl ?_
        refine x_bipush (v := (6)) dX11_oddsThat_46 (by decide) ?_
        refine x_callVi [.int (6 : Int32)] (c_X11_is (I := I) (L := L) (6 : Int32)) dX11_oddsThat_48 lk_X11_106 lm_0 rfl cd_X11_is rfl rfl (Nat.le_of_ble_eq_true rfl) ⟨rfl, rfl, Nat.le_of_ble_eq_true rfl, Nat.le_of_ble_eq_true rfl⟩ ?_
        refine x_goto 76 dX11_oddsThat_51 (by decide) ?_
        cases hf
        exact x_zret dX11_oddsThat_76 rfl rfl
    · replace hf := f_el hB hf
      refine x_aload_n 1 dX11_oddsThat_25 rfl rfl ?_
      refine x_iload 0 dX11_oddsThat_26 rfl ?_
      refine x_callVi [.int q1] (c_X11_is (I := I) (L := L) q1) dX11_oddsThat_28 lk_X11_106 lm_0 rfl cd_X11_is rfl rfl (Nat.le_of_ble_eq_true rfl) ⟨rfl, rfl, Nat.le_of_ble_eq_true rfl, Nat.le_of_ble_eq_true rfl⟩ ?_
      cases hf
      exact x_zret dX11_oddsThat_31 rfl rfl
set_option maxRecDepth 100000 in
set_option maxHeartbeats 4000000 in
theorem l_X11_next_38   (v4 : Int32) (I : z_I) (L : z_L) {r : Int32 × z_I}  : ∀ (n : Nat) (v5 : Int32) (v6 : Int32) (v7 : Int32), g_X11_next_38 v4 I L  n v5 v6 v7 = some r → z_X layM RX11 cX11_next 9 (some .int) ({ frames := 3, cells := 0, slots := 0, locals := 67 } : Room) 38 [(0, .ref 0), (4, .int v4), (5, .int v5), (6, .int v6), (7, .int v7)] [] I L (some (.int r.1), r.2, L) := by
  intro n
  induction n with
  | zero => intro v5 v6 v7 hf; cases hf
  | succ n ih =>
    intro v5 v6 v7 hf
    rw [g_X11_next_38] at hf
    refine x_iload 4 dX11_next_38 rfl ?_
    refine x_aload_n 0 dX11_next_40 rfl rfl ?_
    refine x_getR dX11_next_41 lm_0 fl_X11_7 rfl ?_
    refine x_iconst (v := (2)) dX11_next_44 (by decide) ?_
    refine x_iald (j := 2) (v := (I 1 2)) dX11_next_45 lm_1 (by decide +kernel) (by decide +kernel) rfl ?_
    refine x_icmp_ge 104 dX11_next_46 (by decide) (fun hB => ?_) (fun hB => ?_)
    · replace hf := f_if hB hf
      refine x_aload_n 0 dX11_next_104 rfl rfl ?_
      refine x_iload 2 dX11_next_105 rfl ?_
      refine x_callVi [.int v5] (c_X11_orNone (I := I) (L := L) v5) dX11_next_107 lk_X11_389 lm_0 rfl cd_X11_orNone rfl rfl (Nat.le_of_ble_eq_true rfl) ⟨rfl, rfl, Nat.le_of_ble_eq_true rfl, Nat.le_of_ble_eq_true rfl⟩ ?_
      cases hf
      exact x_iret dX11_next_110 rfl rfl
    · replace hf := f_el hB hf
      refine x_iload 1 dX11_next_49 rfl ?_
      refine x_aload_n 0 dX11_next_51 rfl rfl ?_
      refine x_iload 4 dX11_next_52 rfl ?_
      obtain ⟨q8, hq9, hf⟩ := f_bd hf
      refine x_callVi [.int v7] (c_X11_truthOf (I := I) (L := L)  hq9) dX11_next_54 lk_X11_303 lm_0 rfl cd_X11_truthOf rfl rfl (Nat.le_of_ble_eq_true rfl) ⟨rfl, rfl, Nat.le_of_ble_eq_true rfl, Nat.le_of_ble_eq_true rfl⟩ ?_
      refine x_iand dX11_next_57 ?_
      obtain ⟨q10, hq11, hf⟩ := f_bd hf
      refine x_callSi [.int (v4 &&& q8)] (c_X11_bits (I := I) (L := L)  hq11) dX11_next_58 lk_X11_312 cd_X11_bits rfl rfl (Nat.le_of_ble_eq_true rfl) ⟨rfl, rfl, Nat.le_of_ble_eq_true rfl, Nat.le_of_ble_eq_true rfl⟩ ?_
      refine x_iload 1 dX11_next_61 rfl ?_
      refine x_aload_n 0 dX11_next_63 rfl rfl ?_
      refine x_iload 4 dX11_next_64 rfl ?_
      obtain ⟨q12, hq13, hf⟩ := f_bd hf
      refine x_callVi [.int v7] (c_X11_truthOf (I := I) (L := L)  hq13) dX11_next_66 lk_X11_303 lm_0 rfl cd_X11_truthOf rfl rfl (Nat.le_of_ble_eq_true rfl) ⟨rfl, rfl, Nat.le_of_ble_eq_true rfl, Nat.le_of_ble_eq_true rfl⟩ ?_
      refine x_iconst (v := (-1)) dX11_next_69 (by decide) ?_
      refine x_ixor dX11_next_70 ?_
      refine x_iand dX11_next_71 ?_
      obtain ⟨q14, hq15, hf⟩ := f_bd hf
      refine x_callSi [.int (v4 &&& (q12 ^^^ (-1 : Int32)))] (c_X11_bits (I := I) (L := L)  hq15) dX11_next_72 lk_X11_312 cd_X11_bits rfl rfl (Nat.le_of_ble_eq_true rfl) ⟨rfl, rfl, Nat.le_of_ble_eq_true rfl, Nat.le_of_ble_eq_true rfl⟩ ?_
      refine x_mmax dX11_next_75 lk_X11_345 ⟨Nat.le_of_ble_eq_true rfl, Nat.le_of_ble_eq_true rfl⟩ ?_
      refine x_istore [(8, .int (z_max q10 q14)), (0, .ref 0), (4, .int v4), (5, .int v5), (6, .int v6), (7, .int v7)] dX11_next_78 (by decide) rfl ?_
      refine x_iload 0 dX11_next_80 rfl ?_
      refine x_iload 4 dX11_next_82 rfl ?_
      refine x_icmp_lt 90 dX11_next_84 (by decide) (fun hB => ?_) (fun hB => ?_)
      · replace hf := f_if hB hf
        refine x_iload 0 dX11_next_90 rfl ?_
        refine x_istore [(6, .int (z_max q10 q14)), (8, .int (z_max q10 q14)), (0, .ref 0), (4, .int v4), (5, .int v5), (7, .int v7)] dX11_next_92 (by decide) rfl ?_
        refine x_iload 5 dX11_next_94 rfl ?_
        refine x_istore [(5, .int v7), (6, .int (z_max q10 q14)), (8, .int (z_max q10 q14)), (0, .ref 0), (4, .int v4), (7, .int v7)] dX11_next_96 (by decide) rfl ?_
        refine x_iinc 5 [(7, .int (v7 + (1 : Int32))), (5, .int v7), (6, .int (z_max q10 q14)), (8, .int (z_max q10 q14)), (0, .ref 0), (4, .int v4)] dX11_next_98 rfl rfl (by decide) rfl ?_
        refine x_goto 38 dX11_next_101 (by decide) ?_
        refine x_lv [(0, .ref 0), (4, .int v4), (5, .int v7), (6, .int (z_max q10 q14)), (7, .int (v7 + (1 : Int32)))] [4, 5, 1, 2, 0] rfl ?_
        exact ih _ _ _ hf
      · replace hf := f_el hB hf
        refine x_goto 98 dX11_next_87 (by decide) ?_
        refine x_iinc 5 [(7, .int (v7 + (1 : Int32))), (8, .int (z_max q10 q14)), (0, .ref 0), (4, .int v4), (5, .int v5), (6, .int v6)] dX11_next_98 rfl rfl (by decide) rfl ?_
        refine x_goto 38 dX11_next_101 (by decide) ?_
        refine x_lv [(0, .ref 0), (4, .int v4), (5, .int v5), (6, .int v6), (7, .int (v7 + (1 : Int32)))] [2, 3, 4, 5, 0] rfl ?_
        exact ih _ _ _ hf
set_option maxRecDepth 100000 in
set_option maxHeartbeats 4000000 in
theorem c_X11_next {I : z_I} {L : z_L} {p0 : Int32} {p1 : Int32}  {r : Int32 × z_I} (hf : f_X11_next I L p0 p1 = some r) : z_C layM yX11_next cX11_next 9 (some .int) ({ frames := 3, cells := 0, slots := 0, locals := 67 } : Room) [.ref 0, .int p0, .int p1] I L (some (.int r.1), r.2, L) := by
  refine z_C.of (by decide) (Nat.le_of_ble_eq_true rfl) ?_
  show z_X layM RX11 cX11_next 9 (some .int) ({ frames := 3, cells := 0, slots := 0, locals := 67 } : Room) 0 [(0, .ref 0), (1, .int p0), (2, .int p1)] [] I L (some (.int r.1), r.2, L)
  unfold f_X11_next at hf
  refine x_aload_n 0 dX11_next_0 rfl rfl ?_
  refine x_iload_n 1 dX11_next_1 rfl rfl ?_
  refine x_iload_n 2 dX11_next_2 rfl rfl ?_
  obtain ⟨q1, hq2, hf⟩ := f_bd hf
  refine x_callVi [.int p0, .int p1] (c_X11_wrongTold (I := I) (L := L)  hq2) dX11_next_3 lk_X11_411 lm_0 rfl cd_X11_wrongTold rfl rfl (Nat.le_of_ble_eq_true rfl) ⟨rfl, rfl, Nat.le_of_ble_eq_true rfl, Nat.le_of_ble_eq_true rfl⟩ ?_
  refine x_istore_n [(3, .int q1), (0, .ref 0), (1, .int p0), (2, .int p1)] dX11_next_6 rfl (by decide) rfl ?_
  refine x_iload_n 0 dX11_next_7 rfl rfl ?_
  refine x_if_le 17 dX11_next_8 (by decide) (fun hB => ?_) (fun hB => ?_)
  · replace hf := f_if hB hf
    refine x_aload_n 1 dX11_next_17 rfl rfl ?_
    refine x_iload_n 2 dX11_next_18 rfl rfl ?_
    refine x_iload_n 3 dX11_next_19 rfl rfl ?_
    obtain ⟨q3, hq4, hf⟩ := f_bd hf
    refine x_callVi [.int p0, .int p1] (c_X11_fitting (I := I) (L := L)  hq4) dX11_next_20 lk_X11_414 lm_0 rfl cd_X11_fitting rfl rfl (Nat.le_of_ble_eq_true rfl) ⟨rfl, rfl, Nat.le_of_ble_eq_true rfl, Nat.le_of_ble_eq_true rfl⟩ ?_
    refine x_istore [(4, .int q3), (3, .int q1), (0, .ref 0), (1, .int p0), (2, .int p1)] dX11_next_23 (by decide) rfl ?_
    refine x_iconst (v := (-1)) dX11_next_25 (by decide) ?_
    refine x_istore [(5, .int (-1 : Int32)), (4, .int q3), (3, .int q1), (0, .ref 0), (1, .int p0), (2, .int p1)] dX11_next_26 (by decide) rfl ?_
    refine x_iload 1 dX11_next_28 rfl ?_
    obtain ⟨q5, hq6, hf⟩ := f_bd hf
    refine x_callSi [.int q3] (c_X11_bits (I := I) (L := L)  hq6) dX11_next_30 lk_X11_312 cd_X11_bits rfl rfl (Nat.le_of_ble_eq_true rfl) ⟨rfl, rfl, Nat.le_of_ble_eq_true rfl, Nat.le_of_ble_eq_true rfl⟩ ?_
    refine x_istore [(6, .int q5), (5, .int (-1 : Int32)), (4, .int q3), (3, .int q1), (0, .ref 0), (1, .int p0), (2, .int p1)] dX11_next_33 (by decide) rfl ?_
    refine x_iconst (v := (0)) dX11_next_35 (by decide) ?_
    refine x_istore [(7, .int (0 : Int32)), (6, .int q5), (5, .int (-1 : Int32)), (4, .int q3), (3, .int q1), (0, .ref 0), (1, .int p0), (2, .int p1)] dX11_next_36 (by decide) rfl ?_
    refine x_lv [(0, .ref 0), (4, .int q3), (5, .int (-1 : Int32)), (6, .int q5), (7, .int (0 : Int32))] [5, 3, 2, 1, 0] rfl ?_
    refine l_X11_next_38 q3 (I) (L)   _ _ _ _ hf
  · replace hf := f_el hB hf
    refine x_aload_n 1 dX11_next_11 rfl rfl ?_
    refine x_iload_n 0 dX11_next_12 rfl rfl ?_
    refine x_callVi [.int q1] (c_X11_refuse (I := I) (L := L) q1) dX11_next_13 lk_X11_99 lm_0 rfl cd_X11_refuse rfl rfl (Nat.le_of_ble_eq_true rfl) ⟨rfl, rfl, Nat.le_of_ble_eq_true rfl, Nat.le_of_ble_eq_true rfl⟩ ?_
    cases hf
    exact x_iret dX11_next_16 rfl rfl
set_option maxRecDepth 100000 in
set_option maxHeartbeats 4000000 in
theorem l_X11_laysGather_69   (v2 : Int32) (v3 : Int32) (v4 : Int32) (v5 : Int32) (v6 : Int32) (I : z_I) (L : z_L) {r : z_I} (k97 : Int32 → Option (z_I)) (hk97 : ∀ (v7 : Int32), k97 v7 = some r → z_X layM RX11 cX11_laysGather 9 (none) ({ frames := 1, cells := 0, slots := 0, locals := 28 } : Room) 97 [(0, .ref 0), (2, .int v2), (3, .int v3), (4, .int v4), (5, .int v5), (6, .int v6), (7, .int v7)] [] I L (none, r, L)) : ∀ (n : Nat) (v7 : Int32) (v8 : Int32), g_X11_laysGather_69 v2 v3 v4 v5 v6 I k97 n v7 v8 = some r → z_X layM RX11 cX11_laysGather 9 (none) ({ frames := 1, cells := 0, slots := 0, locals := 28 } : Room) 69 [(0, .ref 0), (2, .int v2), (3, .int v3), (4, .int v4), (5, .int v5), (6, .int v6), (7, .int v7), (8, .int v8)] [] I L (none, r, L) := by
  intro n
  induction n with
  | zero => intro v7 v8 hf; cases hf
  | succ n ih =>
    intro v7 v8 hf
    rw [g_X11_laysGather_69] at hf
    refine x_iload 7 dX11_laysGather_69 rfl ?_
    refine x_iload 4 dX11_laysGather_71 rfl ?_
    refine x_icmp_gt 97 dX11_laysGather_73 (by decide) (fun hB => ?_) (fun hB => ?_)
    · replace hf := f_if hB hf
      refine x_lv [(0, .ref 0), (2, .int v2), (3, .int v3), (4, .int v4), (5, .int v5), (6, .int v6), (7, .int v7)] [0, 1, 2, 3, 4, 5, 6] rfl ?_
      exact hk97 _ hf
    · replace hf := f_el hB hf
      refine x_iload 6 dX11_laysGather_76 rfl ?_
      refine x_aload_n 0 dX11_laysGather_78 rfl rfl ?_
      refine x_getR dX11_laysGather_79 lm_0 fl_X11_7 rfl ?_
      refine x_iload 7 dX11_laysGather_82 rfl ?_
      refine x_callSi [.int v8] (c_X11_bedRow (I := I) (L := L) v8) dX11_laysGather_84 lk_X11_216 cd_X11_bedRow rfl rfl (Nat.le_of_ble_eq_true rfl) ⟨rfl, rfl, Nat.le_of_ble_eq_true rfl, Nat.le_of_ble_eq_true rfl⟩ ?_
      obtain ⟨h5, hf⟩ := f_gd hf
      refine x_iald (j := ((f_X11_bedRow v8)).toNatClampNeg) (v := (I 1 ((f_X11_bedRow v8)).toNatClampNeg)) dX11_laysGather_87 lm_1 h5 rfl rfl ?_
      refine x_iadd dX11_laysGather_88 ?_
      obtain ⟨w6, hw6, hf⟩ := f_lt hf
      refine x_topI hw6 ?_
      refine x_istore [(7, .int w6), (0, .ref 0), (2, .int v2), (3, .int v3), (4, .int v4), (5, .int v5), (6, .int v6), (8, .int v8)] dX11_laysGather_89 (by decide) rfl ?_
      refine x_iinc 7 [(8, .int (v8 + (1 : Int32))), (7, .int w6), (0, .ref 0), (2, .int v2), (3, .int v3), (4, .int v4), (5, .int v5), (6, .int v6)] dX11_laysGather_91 rfl rfl (by decide) rfl ?_
      refine x_goto 69 dX11_laysGather_94 (by decide) ?_
      refine x_lv [(0, .ref 0), (2, .int v2), (3, .int v3), (4, .int v4), (5, .int v5), (6, .int v6), (7, .int w6), (8, .int (v8 + (1 : Int32)))] [2, 3, 4, 5, 6, 7, 1, 0] rfl ?_
      exact ih _ _ hf
set_option maxRecDepth 100000 in
set_option maxHeartbeats 4000000 in
theorem l_X11_laysGather_32   (v2 : Int32) (v3 : Int32) (v4 : Int32) (L : z_L) {r : z_I} (k151 : z_I → Option (z_I)) (hk151 : ∀ (I : z_I), k151 I = some r → z_X layM RX11 cX11_laysGather 9 (none) ({ frames := 1, cells := 0, slots := 0, locals := 28 } : Room) 151 [(0, .ref 0), (2, .int v2), (3, .int v3), (4, .int v4)] [] I L (none, r, L)) : ∀ (n : Nat) (v5 : Int32) (I : z_I), g_X11_laysGather_32 v2 v3 v4 k151 n v5 I = some r → z_X layM RX11 cX11_laysGather 9 (none) ({ frames := 1, cells := 0, slots := 0, locals := 28 } : Room) 32 [(0, .ref 0), (2, .int v2), (3, .int v3), (4, .int v4), (5, .int v5)] [] I L (none, r, L) := by
  intro n
  induction n with
  | zero => intro v5 I hf; cases hf
  | succ n ih =>
    intro v5 I hf
    rw [g_X11_laysGather_32] at hf
    refine x_iload 4 dX11_laysGather_32 rfl ?_
    refine x_aload_n 0 dX11_laysGather_34 rfl rfl ?_
    refine x_getR dX11_laysGather_35 lm_0 fl_X11_7 rfl ?_
    refine x_iconst (v := (0)) dX11_laysGather_38 (by decide) ?_
    refine x_iald (j := 0) (v := (I 1 0)) dX11_laysGather_39 lm_1 (by decide +kernel) (by decide +kernel) rfl ?_
    refine x_icmp_ge 151 dX11_laysGather_40 (by decide) (fun hB => ?_) (fun hB => ?_)
    · replace hf := f_if hB hf
      refine x_lv [(0, .ref 0), (2, .int v2), (3, .int v3), (4, .int v4)] [0, 1, 2, 3] rfl ?_
      exact hk151 _ hf
    · replace hf := f_el hB hf
      refine x_iload 4 dX11_laysGather_43 rfl ?_
      refine x_iload 3 dX11_laysGather_45 rfl ?_
      refine x_isub dX11_laysGather_47 ?_
      refine x_iload_n 2 dX11_laysGather_48 rfl rfl ?_
      refine x_iload 3 dX11_laysGather_49 rfl ?_
      refine x_isub dX11_laysGather_51 ?_
      refine x_iload 4 dX11_laysGather_52 rfl ?_
      refine x_iload_n 2 dX11_laysGather_54 rfl rfl ?_
      refine x_isub dX11_laysGather_55 ?_
      refine x_mmin dX11_laysGather_56 lk_X11_154 ⟨Nat.le_of_ble_eq_true rfl, Nat.le_of_ble_eq_true rfl⟩ ?_
      refine x_iadd dX11_laysGather_59 ?_
      refine x_istore [(6, .int ((v5 - v4) + (z_min (v3 - v4) (v5 - v3)))), (0, .ref 0), (2, .int v2), (3, .int v3), (4, .int v4), (5, .int v5)] dX11_laysGather_60 (by decide) rfl ?_
      refine x_iconst (v := (0)) dX11_laysGather_62 (by decide) ?_
      refine x_istore [(7, .int (0 : Int32)), (6, .int ((v5 - v4) + (z_min (v3 - v4) (v5 - v3)))), (0, .ref 0), (2, .int v2), (3, .int v3), (4, .int v4), (5, .int v5)] dX11_laysGather_63 (by decide) rfl ?_
      refine x_iload 5 dX11_laysGather_65 rfl ?_
      refine x_istore [(8, .int v4), (7, .int (0 : Int32)), (6, .int ((v5 - v4) + (z_min (v3 - v4) (v5 - v3)))), (0, .ref 0), (2, .int v2), (3, .int v3), (4, .int v4), (5, .int v5)] dX11_laysGather_67 (by decide) rfl ?_
      refine x_lv [(0, .ref 0), (2, .int v2), (3, .int v3), (4, .int v4), (5, .int v5), (6, .int ((v5 - v4) + (z_min (v3 - v4) (v5 - v3)))), (7, .int (0 : Int32)), (8, .int v4)] [3, 4, 5, 6, 7, 2, 1, 0] rfl ?_
      refine l_X11_laysGather_69 v2 v3 v4 v5 ((v5 - v4) + (z_min (v3 - v4) (v5 - v3))) (I) (L) _ ?_ _ _ _ hf
      · intro v7_7 hf
        refine x_iload 5 dX11_laysGather_97 rfl ?_
        refine x_iload_n 1 dX11_laysGather_99 rfl rfl ?_
        refine x_icmp_gt 145 dX11_laysGather_100 (by decide) (fun hB => ?_) (fun hB => ?_)
        · replace hf := f_if hB hf
          refine x_iinc 4 [(5, .int (v5 + (1 : Int32))), (0, .ref 0), (2, .int v2), (3, .int v3), (4, .int v4), (6, .int ((v5 - v4) + (z_min (v3 - v4) (v5 - v3)))), (7, .int v7_7)] dX11_laysGather_145 rfl rfl (by decide) rfl ?_
          refine x_goto 32 dX11_laysGather_148 (by decide) ?_
          refine x_lv [(0, .ref 0), (2, .int v2), (3, .int v3), (4, .int v4), (5, .int (v5 + (1 : Int32)))] [1, 2, 3, 4, 0] rfl ?_
          exact ih _ _ hf
        · replace hf := f_el hB hf
          refine x_iload 6 dX11_laysGather_103 rfl ?_
          refine x_aload_n 0 dX11_laysGather_105 rfl rfl ?_
          refine x_getI (v := (I 0 32)) dX11_laysGather_106 lm_0 fl_X11_421 rfl rfl ?_
          refine x_icmp_lt 145 dX11_laysGather_109 (by decide) (fun hB => ?_) (fun hB => ?_)
          · replace hf := f_if hB hf
            refine x_iinc 4 [(5, .int (v5 + (1 : Int32))), (0, .ref 0), (2, .int v2), (3, .int v3), (4, .int v4), (6, .int ((v5 - v4) + (z_min (v3 - v4) (v5 - v3)))), (7, .int v7_7)] dX11_laysGather_145 rfl rfl (by decide) rfl ?_
            refine x_goto 32 dX11_laysGather_148 (by decide) ?_
            refine x_lv [(0, .ref 0), (2, .int v2), (3, .int v3), (4, .int v4), (5, .int (v5 + (1 : Int32)))] [1, 2, 3, 4, 0] rfl ?_
            exact ih _ _ hf
          · replace hf := f_el hB hf
            refine x_iload 6 dX11_laysGather_112 rfl ?_
            refine x_aload_n 0 dX11_laysGather_114 rfl rfl ?_
            refine x_getI (v := (I 0 32)) dX11_laysGather_115 lm_0 fl_X11_421 rfl rfl ?_
            refine x_icmp_ne 133 dX11_laysGather_118 (by decide) (fun hB => ?_) (fun hB => ?_)
            · replace hf := f_el hB hf
              refine x_aload_n 0 dX11_laysGather_133 rfl rfl ?_
              refine x_iload 6 dX11_laysGather_134 rfl ?_
              obtain ⟨I10, hI10, hf⟩ := f_lt hf
              refine x_putI dX11_laysGather_136 lm_0 fl_X11_421 rfl rfl rfl hI10 ?_
              refine x_aload_n 0 dX11_laysGather_139 rfl rfl ?_
              refine x_iload 5 dX11_laysGather_140 rfl ?_
              obtain ⟨I11, hI11, hf⟩ := f_lt hf
              refine x_putI dX11_laysGather_142 lm_0 fl_X11_424 rfl rfl rfl hI11 ?_
              refine x_iinc 4 [(5, .int (v5 + (1 : Int32))), (0, .ref 0), (2, .int v2), (3, .int v3), (4, .int v4), (6, .int ((v5 - v4) + (z_min (v3 - v4) (v5 - v3)))), (7, .int v7_7)] dX11_laysGather_145 rfl rfl (by decide) rfl ?_
              refine x_goto 32 dX11_laysGather_148 (by decide) ?_
              refine x_lv [(0, .ref 0), (2, .int v2), (3, .int v3), (4, .int v4), (5, .int (v5 + (1 : Int32)))] [1, 2, 3, 4, 0] rfl ?_
              exact ih _ _ hf
            · replace hf := f_if hB hf
              refine x_iload 5 dX11_laysGather_121 rfl ?_
              refine x_aload_n 0 dX11_laysGather_123 rfl rfl ?_
              refine x_getI (v := (I 0 33)) dX11_laysGather_124 lm_0 fl_X11_424 rfl rfl ?_
              refine x_icmp_lt 133 dX11_laysGather_127 (by decide) (fun hB => ?_) (fun hB => ?_)
              · replace hf := f_if hB hf
                refine x_aload_n 0 dX11_laysGather_133 rfl rfl ?_
                refine x_iload 6 dX11_laysGather_134 rfl ?_
                obtain ⟨I8, hI8, hf⟩ := f_lt hf
                refine x_putI dX11_laysGather_136 lm_0 fl_X11_421 rfl rfl rfl hI8 ?_
                refine x_aload_n 0 dX11_laysGather_139 rfl rfl ?_
                refine x_iload 5 dX11_laysGather_140 rfl ?_
                obtain ⟨I9, hI9, hf⟩ := f_lt hf
                refine x_putI dX11_laysGather_142 lm_0 fl_X11_424 rfl rfl rfl hI9 ?_
                refine x_iinc 4 [(5, .int (v5 + (1 : Int32))), (0, .ref 0), (2, .int v2), (3, .int v3), (4, .int v4), (6, .int ((v5 - v4) + (z_min (v3 - v4) (v5 - v3)))), (7, .int v7_7)] dX11_laysGather_145 rfl rfl (by decide) rfl ?_
                refine x_goto 32 dX11_laysGather_148 (by decide) ?_
                refine x_lv [(0, .ref 0), (2, .int v2), (3, .int v3), (4, .int v4), (5, .int (v5 + (1 : Int32)))] [1, 2, 3, 4, 0] rfl ?_
                exact ih _ _ hf
              · replace hf := f_el hB hf
                refine x_goto 145 dX11_laysGather_130 (by decide) ?_
                refine x_iinc 4 [(5, .int (v5 + (1 : Int32))), (0, .ref 0), (2, .int v2), (3, .int v3), (4, .int v4), (6, .int ((v5 - v4) + (z_min (v3 - v4) (v5 - v3)))), (7, .int v7_7)] dX11_laysGather_145 rfl rfl (by decide) rfl ?_
                refine x_goto 32 dX11_laysGather_148 (by decide) ?_
                refine x_lv [(0, .ref 0), (2, .int v2), (3, .int v3), (4, .int v4), (5, .int (v5 + (1 : Int32)))] [1, 2, 3, 4, 0] rfl ?_
                exact ih _ _ hf
set_option maxRecDepth 100000 in
set_option maxHeartbeats 4000000 in
theorem l_X11_laysGather_23   (v2 : Int32) (v3 : Int32) (L : z_L) {r : z_I}  : ∀ (n : Nat) (v4 : Int32) (I : z_I), g_X11_laysGather_23 v2 v3  n v4 I = some r → z_X layM RX11 cX11_laysGather 9 (none) ({ frames := 1, cells := 0, slots := 0, locals := 28 } : Room) 23 [(0, .ref 0), (2, .int v2), (3, .int v3), (4, .int v4)] [] I L (none, r, L) := by
  intro n
  induction n with
  | zero => intro v4 I hf; cases hf
  | succ n ih =>
    intro v4 I hf
    rw [g_X11_laysGather_23] at hf
    refine x_iload 3 dX11_laysGather_23 rfl ?_
    refine x_iload_n 2 dX11_laysGather_25 rfl rfl ?_
    refine x_icmp_gt 157 dX11_laysGather_26 (by decide) (fun hB => ?_) (fun hB => ?_)
    · replace hf := f_if hB hf
      cases hf
      exact x_vret dX11_laysGather_157 rfl rfl
    · replace hf := f_el hB hf
      refine x_iload_n 2 dX11_laysGather_29 rfl rfl ?_
      refine x_istore [(5, .int v3), (0, .ref 0), (2, .int v2), (3, .int v3), (4, .int v4)] dX11_laysGather_30 (by decide) rfl ?_
      refine x_lv [(0, .ref 0), (2, .int v2), (3, .int v3), (4, .int v4), (5, .int v3)] [1, 2, 3, 4, 0] rfl ?_
      refine l_X11_laysGather_32 v2 v3 v4 (L) _ ?_ _ _ _ hf
      · intro I_12 hf
        refine x_iinc 3 [(4, .int (v4 + (1 : Int32))), (0, .ref 0), (2, .int v2), (3, .int v3)] dX11_laysGather_151 rfl rfl (by decide) rfl ?_
        refine x_goto 23 dX11_laysGather_154 (by decide) ?_
        refine x_lv [(0, .ref 0), (2, .int v2), (3, .int v3), (4, .int (v4 + (1 : Int32)))] [1, 2, 3, 0] rfl ?_
        exact ih _ _ hf
set_option maxRecDepth 100000 in
set_option maxHeartbeats 4000000 in
theorem c_X11_laysGather {I : z_I} {L : z_L} {p0 : Int32} {p1 : Int32}  {r : z_I} (hf : f_X11_laysGather I p0 p1 = some r) : z_C layM yX11_laysGather cX11_laysGather 9 (none) ({ frames := 1, cells := 0, slots := 0, locals := 28 } : Room) [.ref 0, .int p0, .int p1] I L (none, r, L) := by
  refine z_C.of (by decide) (Nat.le_of_ble_eq_true rfl) ?_
  show z_X layM RX11 cX11_laysGather 9 (none) ({ frames := 1, cells := 0, slots := 0, locals := 28 } : Room) 0 [(0, .ref 0), (1, .int p0), (2, .int p1)] [] I L (none, r, L)
  unfold f_X11_laysGather at hf
  refine x_aload_n 0 dX11_laysGather_0 rfl rfl ?_
  refine x_getR dX11_laysGather_1 lm_0 fl_X11_7 rfl ?_
  refine x_iload_n 1 dX11_laysGather_4 rfl rfl ?_
  refine x_callSi [.int p0] (c_X11_scholarRow (I := I) (L := L) p0) dX11_laysGather_5 lk_X11_242 cd_X11_scholarRow rfl rfl (Nat.le_of_ble_eq_true rfl) ⟨rfl, rfl, Nat.le_of_ble_eq_true rfl, Nat.le_of_ble_eq_true rfl⟩ ?_
  obtain ⟨h1, hf⟩ := f_gd hf
  refine x_iald (j := ((f_X11_scholarRow p0)).toNatClampNeg) (v := (I 1 ((f_X11_scholarRow p0)).toNatClampNeg)) dX11_laysGather_8 lm_1 h1 rfl rfl ?_
  refine x_istore_n [(3, .int (I 1 ((f_X11_scholarRow p0)).toNatClampNeg)), (0, .ref 0), (1, .int p0), (2, .int p1)] dX11_laysGather_9 rfl (by decide) rfl ?_
  refine x_aload_n 1 dX11_laysGather_10 rfl rfl ?_
  refine x_iconst (v := (-1)) dX11_laysGather_11 (by decide) ?_
  obtain ⟨I2, hI2, hf⟩ := f_lt hf
  refine x_putI dX11_laysGather_12 lm_0 fl_X11_421 rfl rfl rfl hI2 ?_
  refine x_aload_n 1 dX11_laysGather_15 rfl rfl ?_
  refine x_iconst (v := (0)) dX11_laysGather_16 (by decide) ?_
  obtain ⟨I3, hI3, hf⟩ := f_lt hf
  refine x_putI dX11_laysGather_17 lm_0 fl_X11_424 rfl rfl rfl hI3 ?_
  refine x_iconst (v := (0)) dX11_laysGather_20 (by decide) ?_
  refine x_istore [(4, .int (0 : Int32)), (3, .int (I 1 ((f_X11_scholarRow p0)).toNatClampNeg)), (0, .ref 0), (1, .int p0), (2, .int p1)] dX11_laysGather_21 (by decide) rfl ?_
  refine x_lv [(0, .ref 0), (2, .int p1), (3, .int (I 1 ((f_X11_scholarRow p0)).toNatClampNeg)), (4, .int (0 : Int32))] [2, 4, 1, 0] rfl ?_
  refine l_X11_laysGather_23 p1 (I 1 ((f_X11_scholarRow p0)).toNatClampNeg) (L)   _ _ _ hf
set_option maxRecDepth 100000 in
set_option maxHeartbeats 4000000 in
theorem c_X11_gather {I : z_I} {L : z_L} {p0 : Int32} {p1 : Int32}  {r : Int32 × z_I} (hf : f_X11_gather I p0 p1 = some r) : z_C layM yX11_gather cX11_gather 3 (some .int) ({ frames := 2, cells := 0, slots := 0, locals := 56 } : Room) [.ref 0, .int p0, .int p1] I L (some (.int r.1), r.2, L) := by
  refine z_C.of (by decide) (Nat.le_of_ble_eq_true rfl) ?_
  show z_X layM RX11 cX11_gather 3 (some .int) ({ frames := 2, cells := 0, slots := 0, locals := 56 } : Room) 0 [(0, .ref 0), (1, .int p0), (2, .int p1)] [] I L (some (.int r.1), r.2, L)
  unfold f_X11_gather at hf
  refine x_aload_n 0 dX11_gather_0 rfl rfl ?_
  refine x_iload_n 1 dX11_gather_1 rfl rfl ?_
  refine x_callVi [.int p0] (c_X11_isScholar (I := I) (L := L) p0) dX11_gather_2 lk_X11_333 lm_0 rfl cd_X11_isScholar rfl rfl (Nat.le_of_ble_eq_true rfl) ⟨rfl, rfl, Nat.le_of_ble_eq_true rfl, Nat.le_of_ble_eq_true rfl⟩ ?_
  refine x_if_eqB 20 dX11_gather_5 (by decide) (fun hB => ?_) (fun hB => ?_)
  · replace hf := f_el hB hf
    refine x_aload_n 0 dX11_gather_20 rfl rfl ?_
    refine x_iconst (v := (1)) dX11_gather_21 (by decide) ?_
    refine x_callVi [.int (1 : Int32)] (c_X11_refuse (I := I) (L := L) (1 : Int32)) dX11_gather_22 lk_X11_99 lm_0 rfl cd_X11_refuse rfl rfl (Nat.le_of_ble_eq_true rfl) ⟨rfl, rfl, Nat.le_of_ble_eq_true rfl, Nat.le_of_ble_eq_true rfl⟩ ?_
    cases hf
    exact x_iret dX11_gather_25 rfl rfl
  · replace hf := f_if hB hf
    refine x_iload_n 2 dX11_gather_8 rfl rfl ?_
    refine x_i2l dX11_gather_9 ?_
    refine x_lconst (v := (0)) dX11_gather_10 (by decide) ?_
    refine x_ldc2 (v := (12)) dX11_gather_11 kc_X11_427 ?_
    refine x_callSi [.long (p1.toInt64), .long (0 : Int64), .long (12 : Int64)] (c_X11_isFrom (I := I) (L := L) (p1.toInt64) (0 : Int64) (12 : Int64)) dX11_gather_14 lk_X11_299 cd_X11_isFrom rfl rfl (Nat.le_of_ble_eq_true rfl) ⟨rfl, rfl, Nat.le_of_ble_eq_true rfl, Nat.le_of_ble_eq_true rfl⟩ ?_
    refine x_if_neB 26 dX11_gather_17 (by decide) (fun hB => ?_) (fun hB => ?_)
    · replace hf := f_if hB hf
      refine x_aload_n 0 dX11_gather_26 rfl rfl ?_
      refine x_iload_n 1 dX11_gather_27 rfl rfl ?_
      refine x_iload_n 2 dX11_gather_28 rfl rfl ?_
      obtain ⟨q1, hq2, hf⟩ := f_bd hf
      refine x_callVv [.int p0, .int p1] (c_X11_laysGather (I := I) (L := L)  hq2) dX11_gather_29 lk_X11_429 lm_0 rfl cd_X11_laysGather rfl rfl (Nat.le_of_ble_eq_true rfl) ⟨rfl, rfl, Nat.le_of_ble_eq_true rfl, Nat.le_of_ble_eq_true rfl⟩ ?_
      refine x_aload_n 0 dX11_gather_32 rfl rfl ?_
      refine x_aload_n 0 dX11_gather_33 rfl rfl ?_
      refine x_getI (v := (q1 0 32)) dX11_gather_34 lm_0 fl_X11_421 rfl rfl ?_
      refine x_callVi [.int (q1 0 32)] (c_X11_gives (I := q1) (L := L) (q1 0 32)) dX11_gather_37 lk_X11_103 lm_0 rfl cd_X11_gives rfl rfl (Nat.le_of_ble_eq_true rfl) ⟨rfl, rfl, Nat.le_of_ble_eq_true rfl, Nat.le_of_ble_eq_true rfl⟩ ?_
      cases hf
      exact x_iret dX11_gather_40 rfl rfl
    · replace hf := f_el hB hf
      refine x_aload_n 0 dX11_gather_20 rfl rfl ?_
      refine x_iconst (v := (1)) dX11_gather_21 (by decide) ?_
      refine x_callVi [.int (1 : Int32)] (c_X11_refuse (I := I) (L := L) (1 : Int32)) dX11_gather_22 lk_X11_99 lm_0 rfl cd_X11_refuse rfl rfl (Nat.le_of_ble_eq_true rfl) ⟨rfl, rfl, Nat.le_of_ble_eq_true rfl, Nat.le_of_ble_eq_true rfl⟩ ?_
      cases hf
      exact x_iret dX11_gather_25 rfl rfl
set_option maxRecDepth 100000 in
set_option maxHeartbeats 4000000 in
theorem c_X11_brisk {I : z_I} {L : z_L} {p0 : Int32} {p1 : Int32}  {r : Int32 × z_I} (hf : f_X11_brisk I p0 p1 = some r) : z_C layM yX11_brisk cX11_brisk 3 (some .int) ({ frames := 2, cells := 0, slots := 0, locals := 56 } : Room) [.ref 0, .int p0, .int p1] I L (some (.int r.1), r.2, L) := by
  refine z_C.of (by decide) (Nat.le_of_ble_eq_true rfl) ?_
  show z_X layM RX11 cX11_brisk 3 (some .int) ({ frames := 2, cells := 0, slots := 0, locals := 56 } : Room) 0 [(0, .ref 0), (1, .int p0), (2, .int p1)] [] I L (some (.int r.1), r.2, L)
  unfold f_X11_brisk at hf
  refine x_aload_n 0 dX11_brisk_0 rfl rfl ?_
  refine x_iload_n 1 dX11_brisk_1 rfl rfl ?_
  refine x_callVi [.int p0] (c_X11_isScholar (I := I) (L := L) p0) dX11_brisk_2 lk_X11_333 lm_0 rfl cd_X11_isScholar rfl rfl (Nat.le_of_ble_eq_true rfl) ⟨rfl, rfl, Nat.le_of_ble_eq_true rfl, Nat.le_of_ble_eq_true rfl⟩ ?_
  refine x_if_eqB 20 dX11_brisk_5 (by decide) (fun hB => ?_) (fun hB => ?_)
  · replace hf := f_el hB hf
    refine x_aload_n 0 dX11_brisk_20 rfl rfl ?_
    refine x_iconst (v := (1)) dX11_brisk_21 (by decide) ?_
    refine x_callVi [.int (1 : Int32)] (c_X11_refuse (I := I) (L := L) (1 : Int32)) dX11_brisk_22 lk_X11_99 lm_0 rfl cd_X11_refuse rfl rfl (Nat.le_of_ble_eq_true rfl) ⟨rfl, rfl, Nat.le_of_ble_eq_true rfl, Nat.le_of_ble_eq_true rfl⟩ ?_
    cases hf
    exact x_iret dX11_brisk_25 rfl rfl
  · replace hf := f_if hB hf
    refine x_iload_n 2 dX11_brisk_8 rfl rfl ?_
    refine x_i2l dX11_brisk_9 ?_
    refine x_lconst (v := (0)) dX11_brisk_10 (by decide) ?_
    refine x_ldc2 (v := (12)) dX11_brisk_11 kc_X11_427 ?_
    refine x_callSi [.long (p1.toInt64), .long (0 : Int64), .long (12 : Int64)] (c_X11_isFrom (I := I) (L := L) (p1.toInt64) (0 : Int64) (12 : Int64)) dX11_brisk_14 lk_X11_299 cd_X11_isFrom rfl rfl (Nat.le_of_ble_eq_true rfl) ⟨rfl, rfl, Nat.le_of_ble_eq_true rfl, Nat.le_of_ble_eq_true rfl⟩ ?_
    refine x_if_neB 26 dX11_brisk_17 (by decide) (fun hB => ?_) (fun hB => ?_)
    · replace hf := f_if hB hf
      refine x_aload_n 0 dX11_brisk_26 rfl rfl ?_
      refine x_iload_n 1 dX11_brisk_27 rfl rfl ?_
      refine x_iload_n 2 dX11_brisk_28 rfl rfl ?_
      obtain ⟨q1, hq2, hf⟩ := f_bd hf
      refine x_callVv [.int p0, .int p1] (c_X11_laysGather (I := I) (L := L)  hq2) dX11_brisk_29 lk_X11_429 lm_0 rfl cd_X11_laysGather rfl rfl (Nat.le_of_ble_eq_true rfl) ⟨rfl, rfl, Nat.le_of_ble_eq_true rfl, Nat.le_of_ble_eq_true rfl⟩ ?_
      refine x_aload_n 0 dX11_brisk_32 rfl rfl ?_
      refine x_aload_n 0 dX11_brisk_33 rfl rfl ?_
      refine x_getI (v := (q1 0 33)) dX11_brisk_34 lm_0 fl_X11_424 rfl rfl ?_
      refine x_callVi [.int (q1 0 33)] (c_X11_gives (I := q1) (L := L) (q1 0 33)) dX11_brisk_37 lk_X11_103 lm_0 rfl cd_X11_gives rfl rfl (Nat.le_of_ble_eq_true rfl) ⟨rfl, rfl, Nat.le_of_ble_eq_true rfl, Nat.le_of_ble_eq_true rfl⟩ ?_
      cases hf
      exact x_iret dX11_brisk_40 rfl rfl
    · replace hf := f_el hB hf
      refine x_aload_n 0 dX11_brisk_20 rfl rfl ?_
      refine x_iconst (v := (1)) dX11_brisk_21 (by decide) ?_
      refine x_callVi [.int (1 : Int32)] (c_X11_refuse (I := I) (L := L) (1 : Int32)) dX11_brisk_22 lk_X11_99 lm_0 rfl cd_X11_refuse rfl rfl (Nat.le_of_ble_eq_true rfl) ⟨rfl, rfl, Nat.le_of_ble_eq_true rfl, Nat.le_of_ble_eq_true rfl⟩ ?_
      cases hf
      exact x_iret dX11_brisk_25 rfl rfl
set_option maxRecDepth 100000 in
set_option maxHeartbeats 4000000 in
theorem c_X11_settles {I : z_I} {L : z_L} {p0 : Int32} {p1 : Int32}  {r : z_I} (hf : f_X11_settles I p0 p1 = some r) : z_C layM yX11_settles cX11_settles 4 (none) ({ frames := 0, cells := 0, slots := 0, locals := 0 } : Room) [.ref 0, .int p0, .int p1] I L (none, r, L) := by
  refine z_C.of (by decide) (Nat.le_of_ble_eq_true rfl) ?_
  show z_X layM RX11 cX11_settles 4 (none) ({ frames := 0, cells := 0, slots := 0, locals := 0 } : Room) 0 [(0, .ref 0), (1, .int p0), (2, .int p1)] [] I L (none, r, L)
  unfold f_X11_settles at hf
  refine x_aload_n 0 dX11_settles_0 rfl rfl ?_
  refine x_getR dX11_settles_1 lm_0 fl_X11_77 rfl ?_
  refine x_iload_n 1 dX11_settles_4 rfl rfl ?_
  obtain ⟨h1, hf⟩ := f_gd hf
  refine x_iald (j := (p0).toNatClampNeg) (v := (I 19 (p0).toNatClampNeg)) dX11_settles_5 lm_19 h1 rfl rfl ?_
  refine x_iconst (v := (-1)) dX11_settles_6 (by decide) ?_
  refine x_icmp_ne 14 dX11_settles_7 (by decide) (fun hB => ?_) (fun hB => ?_)
  · replace hf := f_el hB hf
    refine x_iconst (v := (0)) dX11_settles_14 (by decide) ?_
    refine x_istore_n [(3, .int (0 : Int32)), (0, .ref 0), (1, .int p0), (2, .int p1)] dX11_settles_15 rfl (by decide) rfl ?_
    refine x_iload_n 0 dX11_settles_16 rfl rfl ?_
    refine x_if_ne 50 dX11_settles_17 (by decide) (fun h => absurd h (by decide)) (fun _ => ?_)
    refine x_iload_n 2 dX11_settles_20 rfl rfl ?_
    refine x_iconst (v := (2)) dX11_settles_21 (by decide) ?_
    refine x_irem dX11_settles_22 (by decide) ?_
    refine x_if_ne 39 dX11_settles_23 (by decide) (fun hB => ?_) (fun hB => ?_)
    · replace hf := f_el hB hf
      refine x_iload_n 3 dX11_settles_39 rfl rfl ?_
      refine x_aload_n 1 dX11_settles_40 rfl rfl ?_
      refine x_getR dX11_settles_41 lm_0 fl_X11_74 rfl ?_
      refine x_iload_n 2 dX11_settles_44 rfl rfl ?_
      refine x_iald (j := (p0).toNatClampNeg) (v := (I 18 (p0).toNatClampNeg)) dX11_settles_45 lm_18 h1 rfl rfl ?_
      refine x_icmp_lt 50 dX11_settles_46 (by decide) (fun hB => ?_) (fun hB => ?_)
      · replace hf := f_if hB hf
        refine x_aload_n 1 dX11_settles_50 rfl rfl ?_
        refine x_getR dX11_settles_51 lm_0 fl_X11_74 rfl ?_
        refine x_iload_n 2 dX11_settles_54 rfl rfl ?_
        refine x_iload_n 3 dX11_settles_55 rfl rfl ?_
        obtain ⟨I15, hI15, hf⟩ := f_lt hf
        refine x_iast (j0 := (p0).toNatClampNeg) dX11_settles_56 lm_18 h1 rfl hI15 ?_
        refine x_aload_n 1 dX11_settles_57 rfl rfl ?_
        refine x_getR dX11_settles_58 lm_0 fl_X11_77 rfl ?_
        refine x_iload_n 2 dX11_settles_61 rfl rfl ?_
        refine x_aload_n 1 dX11_settles_62 rfl rfl ?_
        refine x_getR dX11_settles_63 lm_0 fl_X11_71 rfl ?_
        refine x_iload_n 2 dX11_settles_66 rfl rfl ?_
        refine x_iald (j := (p0).toNatClampNeg) (v := (I 17 (p0).toNatClampNeg)) dX11_settles_67 lm_17 h1 rfl (by rw [hI15, z2_o (by decide)]) ?_
        obtain ⟨I18, hI18, hf⟩ := f_lt hf
        refine x_iast (j0 := (p0).toNatClampNeg) dX11_settles_68 lm_19 h1 rfl hI18 ?_
        cases hf
        exact x_vret dX11_settles_69 rfl rfl
      · replace hf := f_el hB hf
        cases hf
        exact x_vret dX11_settles_49 rfl rfl
    · replace hf := f_if hB hf
      refine x_iload_n 3 dX11_settles_26 rfl rfl ?_
      refine x_aload_n 1 dX11_settles_27 rfl rfl ?_
      refine x_getR dX11_settles_28 lm_0 fl_X11_74 rfl ?_
      refine x_iload_n 2 dX11_settles_31 rfl rfl ?_
      refine x_iald (j := (p0).toNatClampNeg) (v := (I 18 (p0).toNatClampNeg)) dX11_settles_32 lm_18 h1 rfl rfl ?_
      refine x_icmp_gt 50 dX11_settles_33 (by decide) (fun hB => ?_) (fun hB => ?_)
      · replace hf := f_if hB hf
        refine x_aload_n 1 dX11_settles_50 rfl rfl ?_
        refine x_getR dX11_settles_51 lm_0 fl_X11_74 rfl ?_
        refine x_iload_n 2 dX11_settles_54 rfl rfl ?_
        refine x_iload_n 3 dX11_settles_55 rfl rfl ?_
        obtain ⟨I9, hI9, hf⟩ := f_lt hf
        refine x_iast (j0 := (p0).toNatClampNeg) dX11_settles_56 lm_18 h1 rfl hI9 ?_
        refine x_aload_n 1 dX11_settles_57 rfl rfl ?_
        refine x_getR dX11_settles_58 lm_0 fl_X11_77 rfl ?_
        refine x_iload_n 2 dX11_settles_61 rfl rfl ?_
        refine x_aload_n 1 dX11_settles_62 rfl rfl ?_
        refine x_getR dX11_settles_63 lm_0 fl_X11_71 rfl ?_
        refine x_iload_n 2 dX11_settles_66 rfl rfl ?_
        refine x_iald (j := (p0).toNatClampNeg) (v := (I 17 (p0).toNatClampNeg)) dX11_settles_67 lm_17 h1 rfl (by rw [hI9, z2_o (by decide)]) ?_
        obtain ⟨I12, hI12, hf⟩ := f_lt hf
        refine x_iast (j0 := (p0).toNatClampNeg) dX11_settles_68 lm_19 h1 rfl hI12 ?_
        cases hf
        exact x_vret dX11_settles_69 rfl rfl
      · replace hf := f_el hB hf
        refine x_goto 49 dX11_settles_36 (by decide) ?_
        cases hf
        exact x_vret dX11_settles_49 rfl rfl
  · replace hf := f_if hB hf
    refine x_iconst (v := (1)) dX11_settles_10 (by decide) ?_
    refine x_goto 15 dX11_settles_11 (by decide) ?_
    refine x_istore_n [(3, .int (1 : Int32)), (0, .ref 0), (1, .int p0), (2, .int p1)] dX11_settles_15 rfl (by decide) rfl ?_
    refine x_iload_n 0 dX11_settles_16 rfl rfl ?_
    refine x_if_ne 50 dX11_settles_17 (by decide) (fun _ => ?_) (fun h => absurd h (by decide))
    refine x_aload_n 1 dX11_settles_50 rfl rfl ?_
    refine x_getR dX11_settles_51 lm_0 fl_X11_74 rfl ?_
    refine x_iload_n 2 dX11_settles_54 rfl rfl ?_
    refine x_iload_n 3 dX11_settles_55 rfl rfl ?_
    obtain ⟨I3, hI3, hf⟩ := f_lt hf
    refine x_iast (j0 := (p0).toNatClampNeg) dX11_settles_56 lm_18 h1 rfl hI3 ?_
    refine x_aload_n 1 dX11_settles_57 rfl rfl ?_
    refine x_getR dX11_settles_58 lm_0 fl_X11_77 rfl ?_
    refine x_iload_n 2 dX11_settles_61 rfl rfl ?_
    refine x_aload_n 1 dX11_settles_62 rfl rfl ?_
    refine x_getR dX11_settles_63 lm_0 fl_X11_71 rfl ?_
    refine x_iload_n 2 dX11_settles_66 rfl rfl ?_
    refine x_iald (j := (p0).toNatClampNeg) (v := (I 17 (p0).toNatClampNeg)) dX11_settles_67 lm_17 h1 rfl (by rw [hI3, z2_o (by decide)]) ?_
    obtain ⟨I6, hI6, hf⟩ := f_lt hf
    refine x_iast (j0 := (p0).toNatClampNeg) dX11_settles_68 lm_19 h1 rfl hI6 ?_
    cases hf
    exact x_vret dX11_settles_69 rfl rfl
set_option maxRecDepth 100000 in
set_option maxHeartbeats 4000000 in
theorem l_X11_playing_42   (v1 : Int32) (L : z_L) {r : Int32 × z_I}  : ∀ (n : Nat) (v2 : Int32) (I : z_I), g_X11_playing_42 v1  n v2 I = some r → z_X layM RX11 cX11_playing 7 (some .int) ({ frames := 5, cells := 0, slots := 0, locals := 112 } : Room) 42 [(0, .ref 0), (1, .int v1), (2, .int v2)] [] I L (some (.int r.1), r.2, L) := by
  intro n
  induction n with
  | zero => intro v2 I hf; cases hf
  | succ n ih =>
    intro v2 I hf
    rw [g_X11_playing_42] at hf
    refine x_aload_n 0 dX11_playing_42 rfl rfl ?_
    refine x_getR dX11_playing_43 lm_0 fl_X11_71 rfl ?_
    refine x_iload_n 2 dX11_playing_46 rfl rfl ?_
    refine x_dup2 dX11_playing_47 rfl rfl ?_
    obtain ⟨h10, hf⟩ := f_gd hf
    refine x_iald (j := (v2).toNatClampNeg) (v := (I 17 (v2).toNatClampNeg)) dX11_playing_48 lm_17 h10 rfl rfl ?_
    refine x_iconst (v := (1)) dX11_playing_49 (by decide) ?_
    refine x_iadd dX11_playing_50 ?_
    obtain ⟨I12, hI12, hf⟩ := f_lt hf
    refine x_iast (j0 := (v2).toNatClampNeg) dX11_playing_51 lm_17 h10 rfl hI12 ?_
    refine x_aload_n 0 dX11_playing_52 rfl rfl ?_
    refine x_getR dX11_playing_53 lm_0 fl_X11_71 rfl ?_
    refine x_iload_n 2 dX11_playing_56 rfl rfl ?_
    refine x_iald (j := (v2).toNatClampNeg) (v := (I12 17 (v2).toNatClampNeg)) dX11_playing_57 lm_17 h10 rfl rfl ?_
    refine x_istore_n [(3, .int (I12 17 (v2).toNatClampNeg)), (0, .ref 0), (1, .int v1), (2, .int v2)] dX11_playing_58 rfl (by decide) rfl ?_
    refine x_iload_n 0 dX11_playing_59 rfl rfl ?_
    refine x_aload_n 1 dX11_playing_60 rfl rfl ?_
    refine x_getR dX11_playing_61 lm_0 fl_X11_7 rfl ?_
    refine x_iconst (v := (2)) dX11_playing_64 (by decide) ?_
    refine x_iald (j := 2) (v := (I 1 2)) dX11_playing_65 lm_1 (by decide +kernel) (by decide +kernel) (by rw [hI12, z2_o (by decide)]) ?_
    refine x_icmp_le 95 dX11_playing_66 (by decide) (fun hB => ?_) (fun hB => ?_)
    · replace hf := f_if hB hf
      refine x_iload_n 0 dX11_playing_95 rfl rfl ?_
      refine x_aload_n 1 dX11_playing_96 rfl rfl ?_
      refine x_getR dX11_playing_97 lm_0 fl_X11_7 rfl ?_
      refine x_iconst (v := (2)) dX11_playing_100 (by decide) ?_
      refine x_iald (j := 2) (v := (I 1 2)) dX11_playing_101 lm_1 (by decide +kernel) (by decide +kernel) (by rw [hI12, z2_o (by decide)]) ?_
      refine x_icmp_ge 109 dX11_playing_102 (by decide) (fun hB => ?_) (fun hB => ?_)
      · replace hf := f_if hB hf
        refine x_iconst (v := (0)) dX11_playing_109 (by decide) ?_
        refine x_istore [(4, .int (0 : Int32)), (3, .int (I12 17 (v2).toNatClampNeg)), (0, .ref 0), (1, .int v1), (2, .int v2)] dX11_playing_110 (by decide) rfl ?_
        refine x_iload 0 dX11_playing_112 rfl ?_
        refine x_if_eq 134 dX11_playing_114 (by decide) (fun _ => ?_) (fun h => absurd h (by decide))
        refine x_iload 0 dX11_playing_134 rfl ?_
        refine x_if_eq 153 dX11_playing_136 (by decide) (fun _ => ?_) (fun h => absurd h (by decide))
        refine x_iconst (v := (0)) dX11_playing_153 (by decide) ?_
        refine x_istore [(5, .int (0 : Int32)), (4, .int (0 : Int32)), (3, .int (I12 17 (v2).toNatClampNeg)), (0, .ref 0), (1, .int v1), (2, .int v2)] dX11_playing_154 (by decide) rfl ?_
        refine x_aload_n 3 dX11_playing_156 rfl rfl ?_
        refine x_getR dX11_playing_157 lm_0 fl_X11_68 rfl ?_
        refine x_iload_n 5 dX11_playing_160 rfl rfl ?_
        refine x_iald (j := (v2).toNatClampNeg) (v := (I 16 (v2).toNatClampNeg)) dX11_playing_161 lm_16 h10 rfl (by rw [hI12, z2_o (by decide)]) ?_
        refine x_iload_n 5 dX11_playing_162 rfl rfl ?_
        refine x_iconst (v := (2)) dX11_playing_163 (by decide) ?_
        refine x_irem dX11_playing_164 (by decide) ?_
        refine x_if_ne 173 dX11_playing_165 (by decide) (fun hB => ?_) (fun hB => ?_)
        · replace hf := f_el hB hf
          refine x_iload 0 dX11_playing_173 rfl ?_
          refine x_ineg dX11_playing_175 ?_
          refine x_iadd dX11_playing_176 ?_
          refine x_istore [(6, .int ((I 16 (v2).toNatClampNeg) + (-(0 : Int32)))), (5, .int (0 : Int32)), (4, .int (0 : Int32)), (3, .int (I12 17 (v2).toNatClampNeg)), (0, .ref 0), (1, .int v1), (2, .int v2)] dX11_playing_177 (by decide) rfl ?_
          refine x_iload_n 6 dX11_playing_179 rfl rfl ?_
          refine x_iconst (v := (1)) dX11_playing_180 (by decide) ?_
          refine x_iadd dX11_playing_181 ?_
          refine x_iload_n 5 dX11_playing_182 rfl rfl ?_
          refine x_icmp_ne 196 dX11_playing_183 (by decide) (fun hB => ?_) (fun hB => ?_)
          · replace hf := f_el hB hf
            refine x_iinc 6 [(2, .int (v2 + (1 : Int32))), (6, .int ((I 16 (v2).toNatClampNeg) + (-(0 : Int32)))), (5, .int (0 : Int32)), (4, .int (0 : Int32)), (3, .int (I12 17 (v2).toNatClampNeg)), (0, .ref 0), (1, .int v1)] dX11_playing_196 rfl rfl (by decide) rfl ?_
            refine x_aload_n 5 dX11_playing_199 rfl rfl ?_
            refine x_getR dX11_playing_200 lm_0 fl_X11_65 rfl ?_
            refine x_iload_n 0 dX11_playing_203 rfl rfl ?_
            refine x_aload_n 5 dX11_playing_204 rfl rfl ?_
            refine x_getR dX11_playing_205 lm_0 fl_X11_65 rfl ?_
            refine x_iload_n 0 dX11_playing_208 rfl rfl ?_
            refine x_iconst (v := (1)) dX11_playing_209 (by decide) ?_
            refine x_isub dX11_playing_210 ?_
            obtain ⟨h30, hf⟩ := f_gd hf
            refine x_iald (j := (((v2 + (1 : Int32)) - (1 : Int32))).toNatClampNeg) (v := (I 15 (((v2 + (1 : Int32)) - (1 : Int32))).toNatClampNeg)) dX11_playing_211 lm_15 h30 rfl (by rw [hI12, z2_o (by decide)]) ?_
            refine x_iload 3 dX11_playing_212 rfl ?_
            refine x_if_eq 223 dX11_playing_214 (by decide) (fun _ => ?_) (fun h => absurd h (by decide))
            refine x_iconst (v := (0)) dX11_playing_223 (by decide) ?_
            refine x_ior dX11_playing_224 ?_
            obtain ⟨h31, hf⟩ := f_gd hf
            obtain ⟨I32, hI32, hf⟩ := f_lt hf
            refine x_iast (j0 := ((v2 + (1 : Int32))).toNatClampNeg) dX11_playing_225 lm_15 h31 rfl hI32 ?_
            refine x_aload_n 5 dX11_playing_226 rfl rfl ?_
            refine x_getR dX11_playing_227 lm_0 fl_X11_68 rfl ?_
            refine x_iload_n 0 dX11_playing_230 rfl rfl ?_
            refine x_iload 1 dX11_playing_231 rfl ?_
            obtain ⟨I34, hI34, hf⟩ := f_lt hf
            refine x_iast (j0 := ((v2 + (1 : Int32))).toNatClampNeg) dX11_playing_233 lm_16 h31 rfl hI34 ?_
            refine x_aload_n 5 dX11_playing_234 rfl rfl ?_
            refine x_getR dX11_playing_235 lm_0 fl_X11_71 rfl ?_
            refine x_iload_n 0 dX11_playing_238 rfl rfl ?_
            refine x_iconst (v := (-1)) dX11_playing_239 (by decide) ?_
            obtain ⟨I36, hI36, hf⟩ := f_lt hf
            refine x_iast (j0 := ((v2 + (1 : Int32))).toNatClampNeg) dX11_playing_240 lm_17 h31 rfl hI36 ?_
            refine x_aload_n 5 dX11_playing_241 rfl rfl ?_
            refine x_getR dX11_playing_242 lm_0 fl_X11_77 rfl ?_
            refine x_iload_n 0 dX11_playing_245 rfl rfl ?_
            refine x_iconst (v := (-1)) dX11_playing_246 (by decide) ?_
            obtain ⟨I38, hI38, hf⟩ := f_lt hf
            refine x_iast (j0 := ((v2 + (1 : Int32))).toNatClampNeg) dX11_playing_247 lm_19 h31 rfl hI38 ?_
            refine x_goto 42 dX11_playing_248 (by decide) ?_
            refine x_lv [(0, .ref 0), (1, .int v1), (2, .int (v2 + (1 : Int32)))] [5, 6, 0] rfl ?_
            exact ih _ _ hf
          · replace hf := f_if hB hf
            refine x_aload_n 4 dX11_playing_186 rfl rfl ?_
            refine x_iload_n 6 dX11_playing_187 rfl rfl ?_
            refine x_iload 0 dX11_playing_188 rfl ?_
            obtain ⟨q28, hq29, hf⟩ := f_bd hf
            refine x_callVv [.int v2, .int ((I 16 (v2).toNatClampNeg) + (-(0 : Int32)))] (c_X11_settles (I := I12) (L := L)  hq29) dX11_playing_190 lk_X11_433 lm_0 rfl cd_X11_settles rfl rfl (Nat.le_of_ble_eq_true rfl) ⟨rfl, rfl, Nat.le_of_ble_eq_true rfl, Nat.le_of_ble_eq_true rfl⟩ ?_
            refine x_goto 248 dX11_playing_193 (by decide) ?_
            refine x_goto 42 dX11_playing_248 (by decide) ?_
            refine x_lv [(0, .ref 0), (1, .int v1), (2, .int v2)] [4, 5, 6] rfl ?_
            exact ih _ _ hf
        · replace hf := f_if hB hf
          refine x_iload 0 dX11_playing_168 rfl ?_
          refine x_goto 176 dX11_playing_170 (by decide) ?_
          refine x_iadd dX11_playing_176 ?_
          refine x_istore [(6, .int ((I 16 (v2).toNatClampNeg) + (0 : Int32))), (5, .int (0 : Int32)), (4, .int (0 : Int32)), (3, .int (I12 17 (v2).toNatClampNeg)), (0, .ref 0), (1, .int v1), (2, .int v2)] dX11_playing_177 (by decide) rfl ?_
          refine x_iload_n 6 dX11_playing_179 rfl rfl ?_
          refine x_iconst (v := (1)) dX11_playing_180 (by decide) ?_
          refine x_iadd dX11_playing_181 ?_
          refine x_iload_n 5 dX11_playing_182 rfl rfl ?_
          refine x_icmp_ne 196 dX11_playing_183 (by decide) (fun hB => ?_) (fun hB => ?_)
          · replace hf := f_el hB hf
            refine x_iinc 6 [(2, .int (v2 + (1 : Int32))), (6, .int ((I 16 (v2).toNatClampNeg) + (0 : Int32))), (5, .int (0 : Int32)), (4, .int (0 : Int32)), (3, .int (I12 17 (v2).toNatClampNeg)), (0, .ref 0), (1, .int v1)] dX11_playing_196 rfl rfl (by decide) rfl ?_
            refine x_aload_n 5 dX11_playing_199 rfl rfl ?_
            refine x_getR dX11_playing_200 lm_0 fl_X11_65 rfl ?_
            refine x_iload_n 0 dX11_playing_203 rfl rfl ?_
            refine x_aload_n 5 dX11_playing_204 rfl rfl ?_
            refine x_getR dX11_playing_205 lm_0 fl_X11_65 rfl ?_
            refine x_iload_n 0 dX11_playing_208 rfl rfl ?_
            refine x_iconst (v := (1)) dX11_playing_209 (by decide) ?_
            refine x_isub dX11_playing_210 ?_
            obtain ⟨h19, hf⟩ := f_gd hf
            refine x_iald (j := (((v2 + (1 : Int32)) - (1 : Int32))).toNatClampNeg) (v := (I 15 (((v2 + (1 : Int32)) - (1 : Int32))).toNatClampNeg)) dX11_playing_211 lm_15 h19 rfl (by rw [hI12, z2_o (by decide)]) ?_
            refine x_iload 3 dX11_playing_212 rfl ?_
            refine x_if_eq 223 dX11_playing_214 (by decide) (fun _ => ?_) (fun h => absurd h (by decide))
            refine x_iconst (v := (0)) dX11_playing_223 (by decide) ?_
            refine x_ior dX11_playing_224 ?_
            obtain ⟨h20, hf⟩ := f_gd hf
            obtain ⟨I21, hI21, hf⟩ := f_lt hf
            refine x_iast (j0 := ((v2 + (1 : Int32))).toNatClampNeg) dX11_playing_225 lm_15 h20 rfl hI21 ?_
            refine x_aload_n 5 dX11_playing_226 rfl rfl ?_
            refine x_getR dX11_playing_227 lm_0 fl_X11_68 rfl ?_
            refine x_iload_n 0 dX11_playing_230 rfl rfl ?_
            refine x_iload 1 dX11_playing_231 rfl ?_
            obtain ⟨I23, hI23, hf⟩ := f_lt hf
            refine x_iast (j0 := ((v2 + (1 : Int32))).toNatClampNeg) dX11_playing_233 lm_16 h20 rfl hI23 ?_
            refine x_aload_n 5 dX11_playing_234 rfl rfl ?_
            refine x_getR dX11_playing_235 lm_0 fl_X11_71 rfl ?_
            refine x_iload_n 0 dX11_playing_238 rfl rfl ?_
            refine x_iconst (v := (-1)) dX11_playing_239 (by decide) ?_
            obtain ⟨I25, hI25, hf⟩ := f_lt hf
            refine x_iast (j0 := ((v2 + (1 : Int32))).toNatClampNeg) dX11_playing_240 lm_17 h20 rfl hI25 ?_
            refine x_aload_n 5 dX11_playing_241 rfl rfl ?_
            refine x_getR dX11_playing_242 lm_0 fl_X11_77 rfl ?_
            refine x_iload_n 0 dX11_playing_245 rfl rfl ?_
            refine x_iconst (v := (-1)) dX11_playing_246 (by decide) ?_
            obtain ⟨I27, hI27, hf⟩ := f_lt hf
            refine x_iast (j0 := ((v2 + (1 : Int32))).toNatClampNeg) dX11_playing_247 lm_19 h20 rfl hI27 ?_
            refine x_goto 42 dX11_playing_248 (by decide) ?_
            refine x_lv [(0, .ref 0), (1, .int v1), (2, .int (v2 + (1 : Int32)))] [5, 6, 0] rfl ?_
            exact ih _ _ hf
          · replace hf := f_if hB hf
            refine x_aload_n 4 dX11_playing_186 rfl rfl ?_
            refine x_iload_n 6 dX11_playing_187 rfl rfl ?_
            refine x_iload 0 dX11_playing_188 rfl ?_
            obtain ⟨q17, hq18, hf⟩ := f_bd hf
            refine x_callVv [.int v2, .int ((I 16 (v2).toNatClampNeg) + (0 : Int32))] (c_X11_settles (I := I12) (L := L)  hq18) dX11_playing_190 lk_X11_433 lm_0 rfl cd_X11_settles rfl rfl (Nat.le_of_ble_eq_true rfl) ⟨rfl, rfl, Nat.le_of_ble_eq_true rfl, Nat.le_of_ble_eq_true rfl⟩ ?_
            refine x_goto 248 dX11_playing_193 (by decide) ?_
            refine x_goto 42 dX11_playing_248 (by decide) ?_
            refine x_lv [(0, .ref 0), (1, .int v1), (2, .int v2)] [4, 5, 6] rfl ?_
            exact ih _ _ hf
      · replace hf := f_el hB hf
        refine x_iconst (v := (1)) dX11_playing_105 (by decide) ?_
        refine x_goto 110 dX11_playing_106 (by decide) ?_
        refine x_istore [(4, .int (1 : Int32)), (3, .int (I12 17 (v2).toNatClampNeg)), (0, .ref 0), (1, .int v1), (2, .int v2)] dX11_playing_110 (by decide) rfl ?_
        refine x_iload 0 dX11_playing_112 rfl ?_
        refine x_if_eq 134 dX11_playing_114 (by decide) (fun h => absurd h (by decide)) (fun _ => ?_)
        refine x_aload_n 2 dX11_playing_117 rfl rfl ?_
        refine x_aload_n 2 dX11_playing_118 rfl rfl ?_
        refine x_getR dX11_playing_119 lm_0 fl_X11_65 rfl ?_
        refine x_iload_n 4 dX11_playing_122 rfl rfl ?_
        refine x_iald (j := (v2).toNatClampNeg) (v := (I 15 (v2).toNatClampNeg)) dX11_playing_123 lm_15 h10 rfl (by rw [hI12, z2_o (by decide)]) ?_
        refine x_iload_n 1 dX11_playing_124 rfl rfl ?_
        refine x_callVi [.int (I 15 (v2).toNatClampNeg), .int (I12 17 (v2).toNatClampNeg)] (c_X11_isIn (I := I12) (L := L) (I 15 (v2).toNatClampNeg) (I12 17 (v2).toNatClampNeg)) dX11_playing_125 lk_X11_236 lm_0 rfl cd_X11_isIn rfl rfl (Nat.le_of_ble_eq_true rfl) ⟨rfl, rfl, Nat.le_of_ble_eq_true rfl, Nat.le_of_ble_eq_true rfl⟩ ?_
        refine x_if_eqB 134 dX11_playing_128 (by decide) (fun hB => ?_) (fun hB => ?_)
        · replace hf := f_el hB hf
          refine x_iload 0 dX11_playing_134 rfl ?_
          refine x_if_eq 153 dX11_playing_136 (by decide) (fun h => absurd h (by decide)) (fun _ => ?_)
          refine x_aload_n 2 dX11_playing_139 rfl rfl ?_
          refine x_iload_n 1 dX11_playing_140 rfl rfl ?_
          refine x_aload_n 2 dX11_playing_141 rfl rfl ?_
          refine x_getR dX11_playing_142 lm_0 fl_X11_65 rfl ?_
          refine x_iload_n 4 dX11_playing_145 rfl rfl ?_
          refine x_iald (j := (v2).toNatClampNeg) (v := (I 15 (v2).toNatClampNeg)) dX11_playing_146 lm_15 h10 rfl (by rw [hI12, z2_o (by decide)]) ?_
          obtain ⟨q41, hq42, hf⟩ := f_bd hf
          refine x_callVi [.int (I12 17 (v2).toNatClampNeg), .int (I 15 (v2).toNatClampNeg)] (c_X11_yieldBy (I := I12) (L := L)  hq42) dX11_playing_147 lk_X11_330 lm_0 rfl cd_X11_yieldBy rfl rfl (Nat.le_of_ble_eq_true rfl) ⟨rfl, rfl, Nat.le_of_ble_eq_true rfl, Nat.le_of_ble_eq_true rfl⟩ ?_
          refine x_goto 154 dX11_playing_150 (by decide) ?_
          refine x_istore [(5, .int q41), (4, .int (1 : Int32)), (3, .int (I12 17 (v2).toNatClampNeg)), (0, .ref 0), (1, .int v1), (2, .int v2)] dX11_playing_154 (by decide) rfl ?_
          refine x_aload_n 3 dX11_playing_156 rfl rfl ?_
          refine x_getR dX11_playing_157 lm_0 fl_X11_68 rfl ?_
          refine x_iload_n 5 dX11_playing_160 rfl rfl ?_
          refine x_iald (j := (v2).toNatClampNeg) (v := (I 16 (v2).toNatClampNeg)) dX11_playing_161 lm_16 h10 rfl (by rw [hI12, z2_o (by decide)]) ?_
          refine x_iload_n 5 dX11_playing_162 rfl rfl ?_
          refine x_iconst (v := (2)) dX11_playing_163 (by decide) ?_
          refine x_irem dX11_playing_164 (by decide) ?_
          refine x_if_ne 173 dX11_playing_165 (by decide) (fun hB => ?_) (fun hB => ?_)
          · replace hf := f_el hB hf
            refine x_iload 0 dX11_playing_173 rfl ?_
            refine x_ineg dX11_playing_175 ?_
            refine x_iadd dX11_playing_176 ?_
            refine x_istore [(6, .int ((I 16 (v2).toNatClampNeg) + (-q41))), (5, .int q41), (4, .int (1 : Int32)), (3, .int (I12 17 (v2).toNatClampNeg)), (0, .ref 0), (1, .int v1), (2, .int v2)] dX11_playing_177 (by decide) rfl ?_
            refine x_iload_n 6 dX11_playing_179 rfl rfl ?_
            refine x_iconst (v := (1)) dX11_playing_180 (by decide) ?_
            refine x_iadd dX11_playing_181 ?_
            refine x_iload_n 5 dX11_playing_182 rfl rfl ?_
            refine x_icmp_ne 196 dX11_playing_183 (by decide) (fun hB => ?_) (fun hB => ?_)
            · replace hf := f_el hB hf
              refine x_iinc 6 [(2, .int (v2 + (1 : Int32))), (6, .int ((I 16 (v2).toNatClampNeg) + (-q41))), (5, .int q41), (4, .int (1 : Int32)), (3, .int (I12 17 (v2).toNatClampNeg)), (0, .ref 0), (1, .int v1)] dX11_playing_196 rfl rfl (by decide) rfl ?_
              refine x_aload_n 5 dX11_playing_199 rfl rfl ?_
              refine x_getR dX11_playing_200 lm_0 fl_X11_65 rfl ?_
              refine x_iload_n 0 dX11_playing_203 rfl rfl ?_
              refine x_aload_n 5 dX11_playing_204 rfl rfl ?_
              refine x_getR dX11_playing_205 lm_0 fl_X11_65 rfl ?_
              refine x_iload_n 0 dX11_playing_208 rfl rfl ?_
              refine x_iconst (v := (1)) dX11_playing_209 (by decide) ?_
              refine x_isub dX11_playing_210 ?_
              obtain ⟨h57, hf⟩ := f_gd hf
              refine x_iald (j := (((v2 + (1 : Int32)) - (1 : Int32))).toNatClampNeg) (v := (I 15 (((v2 + (1 : Int32)) - (1 : Int32))).toNatClampNeg)) dX11_playing_211 lm_15 h57 rfl (by rw [hI12, z2_o (by decide)]) ?_
              refine x_iload 3 dX11_playing_212 rfl ?_
              refine x_if_eq 223 dX11_playing_214 (by decide) (fun h => absurd h (by decide)) (fun _ => ?_)
              refine x_iconst (v := (1)) dX11_playing_217 (by decide) ?_
              refine x_iload_n 4 dX11_playing_218 rfl rfl ?_
              refine x_ishl dX11_playing_219 ?_
              refine x_goto 224 dX11_playing_220 (by decide) ?_
              refine x_ior dX11_playing_224 ?_
              obtain ⟨h58, hf⟩ := f_gd hf
              obtain ⟨I59, hI59, hf⟩ := f_lt hf
              refine x_iast (j0 := ((v2 + (1 : Int32))).toNatClampNeg) dX11_playing_225 lm_15 h58 rfl hI59 ?_
              refine x_aload_n 5 dX11_playing_226 rfl rfl ?_
              refine x_getR dX11_playing_227 lm_0 fl_X11_68 rfl ?_
              refine x_iload_n 0 dX11_playing_230 rfl rfl ?_
              refine x_iload 1 dX11_playing_231 rfl ?_
              obtain ⟨I61, hI61, hf⟩ := f_lt hf
              refine x_iast (j0 := ((v2 + (1 : Int32))).toNatClampNeg) dX11_playing_233 lm_16 h58 rfl hI61 ?_
              refine x_aload_n 5 dX11_playing_234 rfl rfl ?_
              refine x_getR dX11_playing_235 lm_0 fl_X11_71 rfl ?_
              refine x_iload_n 0 dX11_playing_238 rfl rfl ?_
              refine x_iconst (v := (-1)) dX11_playing_239 (by decide) ?_
              obtain ⟨I63, hI63, hf⟩ := f_lt hf
              refine x_iast (j0 := ((v2 + (1 : Int32))).toNatClampNeg) dX11_playing_240 lm_17 h58 rfl hI63 ?_
              refine x_aload_n 5 dX11_playing_241 rfl rfl ?_
              refine x_getR dX11_playing_242 lm_0 fl_X11_77 rfl ?_
              refine x_iload_n 0 dX11_playing_245 rfl rfl ?_
              refine x_iconst (v := (-1)) dX11_playing_246 (by decide) ?_
              obtain ⟨I65, hI65, hf⟩ := f_lt hf
              refine x_iast (j0 := ((v2 + (1 : Int32))).toNatClampNeg) dX11_playing_247 lm_19 h58 rfl hI65 ?_
              refine x_goto 42 dX11_playing_248 (by decide) ?_
              refine x_lv [(0, .ref 0), (1, .int v1), (2, .int (v2 + (1 : Int32)))] [5, 6, 0] rfl ?_
              exact ih _ _ hf
            · replace hf := f_if hB hf
              refine x_aload_n 4 dX11_playing_186 rfl rfl ?_
              refine x_iload_n 6 dX11_playing_187 rfl rfl ?_
              refine x_iload 0 dX11_playing_188 rfl ?_
              obtain ⟨q55, hq56, hf⟩ := f_bd hf
              refine x_callVv [.int v2, .int ((I 16 (v2).toNatClampNeg) + (-q41))] (c_X11_settles (I := I12) (L := L)  hq56) dX11_playing_190 lk_X11_433 lm_0 rfl cd_X11_settles rfl rfl (Nat.le_of_ble_eq_true rfl) ⟨rfl, rfl, Nat.le_of_ble_eq_true rfl, Nat.le_of_ble_eq_true rfl⟩ ?_
              refine x_goto 248 dX11_playing_193 (by decide) ?_
              refine x_goto 42 dX11_playing_248 (by decide) ?_
              refine x_lv [(0, .ref 0), (1, .int v1), (2, .int v2)] [4, 5, 6] rfl ?_
              exact ih _ _ hf
          · replace hf := f_if hB hf
            refine x_iload 0 dX11_playing_168 rfl ?_
            refine x_goto 176 dX11_playing_170 (by decide) ?_
            refine x_iadd dX11_playing_176 ?_
            refine x_istore [(6, .int ((I 16 (v2).toNatClampNeg) + q41)), (5, .int q41), (4, .int (1 : Int32)), (3, .int (I12 17 (v2).toNatClampNeg)), (0, .ref 0), (1, .int v1), (2, .int v2)] dX11_playing_177 (by decide) rfl ?_
            refine x_iload_n 6 dX11_playing_179 rfl rfl ?_
            refine x_iconst (v := (1)) dX11_playing_180 (by decide) ?_
            refine x_iadd dX11_playing_181 ?_
            refine x_iload_n 5 dX11_playing_182 rfl rfl ?_
            refine x_icmp_ne 196 dX11_playing_183 (by decide) (fun hB => ?_) (fun hB => ?_)
            · replace hf := f_el hB hf
              refine x_iinc 6 [(2, .int (v2 + (1 : Int32))), (6, .int ((I 16 (v2).toNatClampNeg) + q41)), (5, .int q41), (4, .int (1 : Int32)), (3, .int (I12 17 (v2).toNatClampNeg)), (0, .ref 0), (1, .int v1)] dX11_playing_196 rfl rfl (by decide) rfl ?_
              refine x_aload_n 5 dX11_playing_199 rfl rfl ?_
              refine x_getR dX11_playing_200 lm_0 fl_X11_65 rfl ?_
              refine x_iload_n 0 dX11_playing_203 rfl rfl ?_
              refine x_aload_n 5 dX11_playing_204 rfl rfl ?_
              refine x_getR dX11_playing_205 lm_0 fl_X11_65 rfl ?_
              refine x_iload_n 0 dX11_playing_208 rfl rfl ?_
              refine x_iconst (v := (1)) dX11_playing_209 (by decide) ?_
              refine x_isub dX11_playing_210 ?_
              obtain ⟨h46, hf⟩ := f_gd hf
              refine x_iald (j := (((v2 + (1 : Int32)) - (1 : Int32))).toNatClampNeg) (v := (I 15 (((v2 + (1 : Int32)) - (1 : Int32))).toNatClampNeg)) dX11_playing_211 lm_15 h46 rfl (by rw [hI12, z2_o (by decide)]) ?_
              refine x_iload 3 dX11_playing_212 rfl ?_
              refine x_if_eq 223 dX11_playing_214 (by decide) (fun h => absurd h (by decide)) (fun _ => ?_)
              refine x_iconst (v := (1)) dX11_playing_217 (by decide) ?_
              refine x_iload_n 4 dX11_playing_218 rfl rfl ?_
              refine x_ishl dX11_playing_219 ?_
              refine x_goto 224 dX11_playing_220 (by decide) ?_
              refine x_ior dX11_playing_224 ?_
              obtain ⟨h47, hf⟩ := f_gd hf
              obtain ⟨I48, hI48, hf⟩ := f_lt hf
              refine x_iast (j0 := ((v2 + (1 : Int32))).toNatClampNeg) dX11_playing_225 lm_15 h47 rfl hI48 ?_
              refine x_aload_n 5 dX11_playing_226 rfl rfl ?_
              refine x_getR dX11_playing_227 lm_0 fl_X11_68 rfl ?_
              refine x_iload_n 0 dX11_playing_230 rfl rfl ?_
              refine x_iload 1 dX11_playing_231 rfl ?_
              obtain ⟨I50, hI50, hf⟩ := f_lt hf
              refine x_iast (j0 := ((v2 + (1 : Int32))).toNatClampNeg) dX11_playing_233 lm_16 h47 rfl hI50 ?_
              refine x_aload_n 5 dX11_playing_234 rfl rfl ?_
              refine x_getR dX11_playing_235 lm_0 fl_X11_71 rfl ?_
              refine x_iload_n 0 dX11_playing_238 rfl rfl ?_
              refine x_iconst (v := (-1)) dX11_playing_239 (by decide) ?_
              obtain ⟨I52, hI52, hf⟩ := f_lt hf
              refine x_iast (j0 := ((v2 + (1 : Int32))).toNatClampNeg) dX11_playing_240 lm_17 h47 rfl hI52 ?_
              refine x_aload_n 5 dX11_playing_241 rfl rfl ?_
              refine x_getR dX11_playing_242 lm_0 fl_X11_77 rfl ?_
              refine x_iload_n 0 dX11_playing_245 rfl rfl ?_
              refine x_iconst (v := (-1)) dX11_playing_246 (by decide) ?_
              obtain ⟨I54, hI54, hf⟩ := f_lt hf
              refine x_iast (j0 := ((v2 + (1 : Int32))).toNatClampNeg) dX11_playing_247 lm_19 h47 rfl hI54 ?_
              refine x_goto 42 dX11_playing_248 (by decide) ?_
              refine x_lv [(0, .ref 0), (1, .int v1), (2, .int (v2 + (1 : Int32)))] [5, 6, 0] rfl ?_
              exact ih _ _ hf
            · replace hf := f_if hB hf
              refine x_aload_n 4 dX11_playing_186 rfl rfl ?_
              refine x_iload_n 6 dX11_playing_187 rfl rfl ?_
              refine x_iload 0 dX11_playing_188 rfl ?_
              obtain ⟨q44, hq45, hf⟩ := f_bd hf
              refine x_callVv [.int v2, .int ((I 16 (v2).toNatClampNeg) + q41)] (c_X11_settles (I := I12) (L := L)  hq45) dX11_playing_190 lk_X11_433 lm_0 rfl cd_X11_settles rfl rfl (Nat.le_of_ble_eq_true rfl) ⟨rfl, rfl, Nat.le_of_ble_eq_true rfl, Nat.le_of_ble_eq_true rfl⟩ ?_
              refine x_goto 248 dX11_playing_193 (by decide) ?_
              refine x_goto 42 dX11_playing_248 (by decide) ?_
              refine x_lv [(0, .ref 0), (1, .int v1), (2, .int v2)] [4, 5, 6] rfl ?_
              exact ih _ _ hf
        · replace hf := f_if hB hf
          refine x_goto 42 dX11_playing_131 (by decide) ?_
          refine x_lv [(0, .ref 0), (1, .int v1), (2, .int v2)] [2, 3, 4] rfl ?_
          exact ih _ _ hf
    · replace hf := f_el hB hf
      refine x_iload_n 3 dX11_playing_69 rfl rfl ?_
      refine x_if_ne 76 dX11_playing_70 (by decide) (fun hB => ?_) (fun hB => ?_)
      · replace hf := f_el hB hf
        refine x_iinc 3 [(2, .int (v2 + (-1 : Int32))), (3, .int (I12 17 (v2).toNatClampNeg)), (0, .ref 0), (1, .int v1)] dX11_playing_76 rfl rfl (by decide) rfl ?_
        refine x_aload_n 2 dX11_playing_79 rfl rfl ?_
        refine x_iload_n 0 dX11_playing_80 rfl rfl ?_
        refine x_aload_n 2 dX11_playing_81 rfl rfl ?_
        refine x_getR dX11_playing_82 lm_0 fl_X11_74 rfl ?_
        refine x_iload_n 0 dX11_playing_85 rfl rfl ?_
        refine x_iconst (v := (1)) dX11_playing_86 (by decide) ?_
        refine x_iadd dX11_playing_87 ?_
        obtain ⟨h67, hf⟩ := f_gd hf
        refine x_iald (j := (((v2 + (-1 : Int32)) + (1 : Int32))).toNatClampNeg) (v := (I 18 (((v2 + (-1 : Int32)) + (1 : Int32))).toNatClampNeg)) dX11_playing_88 lm_18 h67 rfl (by rw [hI12, z2_o (by decide)]) ?_
        obtain ⟨q68, hq69, hf⟩ := f_bd hf
        refine x_callVv [.int (v2 + (-1 : Int32)), .int (I 18 (((v2 + (-1 : Int32)) + (1 : Int32))).toNatClampNeg)] (c_X11_settles (I := I12) (L := L)  hq69) dX11_playing_89 lk_X11_433 lm_0 rfl cd_X11_settles rfl rfl (Nat.le_of_ble_eq_true rfl) ⟨rfl, rfl, Nat.le_of_ble_eq_true rfl, Nat.le_of_ble_eq_true rfl⟩ ?_
        refine x_goto 42 dX11_playing_92 (by decide) ?_
        refine x_lv [(0, .ref 0), (1, .int v1), (2, .int (v2 + (-1 : Int32)))] [2, 3, 0] rfl ?_
        exact ih _ _ hf
      · replace hf := f_if hB hf
        refine x_goto 251 dX11_playing_73 (by decide) ?_
        refine x_aload_n 1 dX11_playing_251 rfl rfl ?_
        refine x_getR dX11_playing_252 lm_0 fl_X11_74 rfl ?_
        refine x_iconst (v := (0)) dX11_playing_255 (by decide) ?_
        refine x_iald (j := 0) (v := (I 18 0)) dX11_playing_256 lm_18 (by decide +kernel) (by decide +kernel) (by rw [hI12, z2_o (by decide)]) ?_
        cases hf
        exact x_iret dX11_playing_257 rfl rfl
set_option maxRecDepth 100000 in
set_option maxHeartbeats 4000000 in
theorem c_X11_playing {I : z_I} {L : z_L} {p0 : Int32}  {r : Int32 × z_I} (hf : f_X11_playing I p0 = some r) : z_C layM yX11_playing cX11_playing 7 (some .int) ({ frames := 5, cells := 0, slots := 0, locals := 112 } : Room) [.ref 0, .int p0] I L (some (.int r.1), r.2, L) := by
  refine z_C.of (by decide) (Nat.le_of_ble_eq_true rfl) ?_
  show z_X layM RX11 cX11_playing 7 (some .int) ({ frames := 5, cells := 0, slots := 0, locals := 112 } : Room) 0 [(0, .ref 0), (1, .int p0)] [] I L (some (.int r.1), r.2, L)
  unfold f_X11_playing at hf
  refine x_iload_n 1 dX11_playing_0 rfl rfl ?_
  refine x_if_ne 6 dX11_playing_1 (by decide) (fun hB => ?_) (fun hB => ?_)
  · replace hf := f_el hB hf
    refine x_iconst (v := (0)) dX11_playing_6 (by decide) ?_
    refine x_istore_n [(2, .int (0 : Int32)), (0, .ref 0), (1, .int p0)] dX11_playing_7 rfl (by decide) rfl ?_
    refine x_aload_n 1 dX11_playing_8 rfl rfl ?_
    refine x_getR dX11_playing_9 lm_0 fl_X11_65 rfl ?_
    refine x_iconst (v := (0)) dX11_playing_12 (by decide) ?_
    refine x_aload_n 1 dX11_playing_13 rfl rfl ?_
    refine x_getR dX11_playing_14 lm_0 fl_X11_7 rfl ?_
    refine x_bipush (v := (6)) dX11_playing_17 (by decide) ?_
    refine x_iald (j := 6) (v := (I 1 6)) dX11_playing_19 lm_1 (by decide +kernel) (by decide +kernel) rfl ?_
    obtain ⟨I3, hI3, hf⟩ := f_lt hf
    refine x_iast (j0 := 0) dX11_playing_20 lm_15 (by decide +kernel) (by decide +kernel) hI3 ?_
    refine x_aload_n 1 dX11_playing_21 rfl rfl ?_
    refine x_getR dX11_playing_22 lm_0 fl_X11_68 rfl ?_
    refine x_iconst (v := (0)) dX11_playing_25 (by decide) ?_
    refine x_iconst (v := (0)) dX11_playing_26 (by decide) ?_
    obtain ⟨I5, hI5, hf⟩ := f_lt hf
    refine x_iast (j0 := 0) dX11_playing_27 lm_16 (by decide +kernel) (by decide +kernel) hI5 ?_
    refine x_aload_n 1 dX11_playing_28 rfl rfl ?_
    refine x_getR dX11_playing_29 lm_0 fl_X11_71 rfl ?_
    refine x_iconst (v := (0)) dX11_playing_32 (by decide) ?_
    refine x_iconst (v := (-1)) dX11_playing_33 (by decide) ?_
    obtain ⟨I7, hI7, hf⟩ := f_lt hf
    refine x_iast (j0 := 0) dX11_playing_34 lm_17 (by decide +kernel) (by decide +kernel) hI7 ?_
    refine x_aload_n 1 dX11_playing_35 rfl rfl ?_
    refine x_getR dX11_playing_36 lm_0 fl_X11_77 rfl ?_
    refine x_iconst (v := (0)) dX11_playing_39 (by decide) ?_
    refine x_iconst (v := (-1)) dX11_playing_40 (by decide) ?_
    obtain ⟨I9, hI9, hf⟩ := f_lt hf
    refine x_iast (j0 := 0) dX11_playing_41 lm_19 (by decide +kernel) (by decide +kernel) hI9 ?_
    refine x_lv [(0, .ref 0), (1, .int p0), (2, .int (0 : Int32))] [1, 2, 0] rfl ?_
    refine l_X11_playing_42 p0 (L)   _ _ _ hf
  · replace hf := f_if hB hf
    refine x_iconst (v := (0)) dX11_playing_4 (by decide) ?_
    cases hf
    exact x_iret dX11_playing_5 rfl rfl
set_option maxRecDepth 100000 in
set_option maxHeartbeats 4000000 in
theorem c_X11_game {I : z_I} {L : z_L} {p0 : Int32}  {r : Int32 × z_I} (hf : f_X11_game I p0 = some r) : z_C layM yX11_game cX11_game 2 (some .int) ({ frames := 6, cells := 0, slots := 0, locals := 138 } : Room) [.ref 0, .int p0] I L (some (.int r.1), r.2, L) := by
  refine z_C.of (by decide) (Nat.le_of_ble_eq_true rfl) ?_
  show z_X layM RX11 cX11_game 2 (some .int) ({ frames := 6, cells := 0, slots := 0, locals := 138 } : Room) 0 [(0, .ref 0), (1, .int p0)] [] I L (some (.int r.1), r.2, L)
  unfold f_X11_game at hf
  refine x_iload_n 1 dX11_game_0 rfl rfl ?_
  refine x_i2l dX11_game_1 ?_
  refine x_lconst (v := (0)) dX11_game_2 (by decide) ?_
  refine x_ldc2 (v := (4)) dX11_game_3 kc_X11_436 ?_
  refine x_callSi [.long (p0.toInt64), .long (0 : Int64), .long (4 : Int64)] (c_X11_isFrom (I := I) (L := L) (p0.toInt64) (0 : Int64) (4 : Int64)) dX11_game_6 lk_X11_299 cd_X11_isFrom rfl rfl (Nat.le_of_ble_eq_true rfl) ⟨rfl, rfl, Nat.le_of_ble_eq_true rfl, Nat.le_of_ble_eq_true rfl⟩ ?_
  refine x_if_neB 18 dX11_game_9 (by decide) (fun hB => ?_) (fun hB => ?_)
  · replace hf := f_if hB hf
    refine x_aload_n 0 dX11_game_18 rfl rfl ?_
    refine x_aload_n 0 dX11_game_19 rfl rfl ?_
    refine x_iload_n 1 dX11_game_20 rfl rfl ?_
    obtain ⟨q1, hq2, hf⟩ := f_bd hf
    refine x_callVi [.int p0] (c_X11_playing (I := I) (L := L)  hq2) dX11_game_21 lk_X11_438 lm_0 rfl cd_X11_playing rfl rfl (Nat.le_of_ble_eq_true rfl) ⟨rfl, rfl, Nat.le_of_ble_eq_true rfl, Nat.le_of_ble_eq_true rfl⟩ ?_
    refine x_callVi [.int q1.1] (c_X11_gives (I := q1.2) (L := L) q1.1) dX11_game_24 lk_X11_103 lm_0 rfl cd_X11_gives rfl rfl (Nat.le_of_ble_eq_true rfl) ⟨rfl, rfl, Nat.le_of_ble_eq_true rfl, Nat.le_of_ble_eq_true rfl⟩ ?_
    cases hf
    exact x_iret dX11_game_27 rfl rfl
  · replace hf := f_el hB hf
    refine x_aload_n 0 dX11_game_12 rfl rfl ?_
    refine x_iconst (v := (1)) dX11_game_13 (by decide) ?_
    refine x_callVi [.int (1 : Int32)] (c_X11_refuse (I := I) (L := L) (1 : Int32)) dX11_game_14 lk_X11_99 lm_0 rfl cd_X11_refuse rfl rfl (Nat.le_of_ble_eq_true rfl) ⟨rfl, rfl, Nat.le_of_ble_eq_true rfl, Nat.le_of_ble_eq_true rfl⟩ ?_
    cases hf
    exact x_iret dX11_game_17 rfl rfl
set_option maxRecDepth 100000 in
set_option maxHeartbeats 4000000 in
theorem c_X11_moveOf {I : z_I} {L : z_L} {p0 : Int32}  {r : Int32 × z_I} (hf : f_X11_moveOf I p0 = some r) : z_C layM yX11_moveOf cX11_moveOf 2 (some .int) ({ frames := 6, cells := 0, slots := 0, locals := 138 } : Room) [.ref 0, .int p0] I L (some (.int r.1), r.2, L) := by
  refine z_C.of (by decide) (Nat.le_of_ble_eq_true rfl) ?_
  show z_X layM RX11 cX11_moveOf 2 (some .int) ({ frames := 6, cells := 0, slots := 0, locals := 138 } : Room) 0 [(0, .ref 0), (1, .int p0)] [] I L (some (.int r.1), r.2, L)
  unfold f_X11_moveOf at hf
  refine x_iload_n 1 dX11_moveOf_0 rfl rfl ?_
  refine x_i2l dX11_moveOf_1 ?_
  refine x_lconst (v := (1)) dX11_moveOf_2 (by decide) ?_
  refine x_ldc2 (v := (4)) dX11_moveOf_3 kc_X11_436 ?_
  refine x_callSi [.long (p0.toInt64), .long (1 : Int64), .long (4 : Int64)] (c_X11_isFrom (I := I) (L := L) (p0.toInt64) (1 : Int64) (4 : Int64)) dX11_moveOf_6 lk_X11_299 cd_X11_isFrom rfl rfl (Nat.le_of_ble_eq_true rfl) ⟨rfl, rfl, Nat.le_of_ble_eq_true rfl, Nat.le_of_ble_eq_true rfl⟩ ?_
  refine x_if_neB 18 dX11_moveOf_9 (by decide) (fun hB => ?_) (fun hB => ?_)
  · replace hf := f_if hB hf
    refine x_aload_n 0 dX11_moveOf_18 rfl rfl ?_
    refine x_iload_n 1 dX11_moveOf_19 rfl rfl ?_
    obtain ⟨q1, hq2, hf⟩ := f_bd hf
    refine x_callVi [.int p0] (c_X11_playing (I := I) (L := L)  hq2) dX11_moveOf_20 lk_X11_438 lm_0 rfl cd_X11_playing rfl rfl (Nat.le_of_ble_eq_true rfl) ⟨rfl, rfl, Nat.le_of_ble_eq_true rfl, Nat.le_of_ble_eq_true rfl⟩ ?_
    refine x_pop dX11_moveOf_23 rfl ?_
    refine x_aload_n 0 dX11_moveOf_24 rfl rfl ?_
    refine x_getR dX11_moveOf_25 lm_0 fl_X11_77 rfl ?_
    refine x_iconst (v := (0)) dX11_moveOf_28 (by decide) ?_
    refine x_iald (j := 0) (v := (q1.2 19 0)) dX11_moveOf_29 lm_19 (by decide +kernel) (by decide +kernel) rfl ?_
    refine x_aload_n 0 dX11_moveOf_30 rfl rfl ?_
    refine x_getR dX11_moveOf_31 lm_0 fl_X11_7 rfl ?_
    refine x_iconst (v := (2)) dX11_moveOf_34 (by decide) ?_
    refine x_iald (j := 2) (v := (q1.2 1 2)) dX11_moveOf_35 lm_1 (by decide +kernel) (by decide +kernel) rfl ?_
    refine x_icmp_ne 48 dX11_moveOf_36 (by decide) (fun hB => ?_) (fun hB => ?_)
    · replace hf := f_el hB hf
      refine x_aload_n 0 dX11_moveOf_48 rfl rfl ?_
      refine x_aload_n 0 dX11_moveOf_49 rfl rfl ?_
      refine x_getR dX11_moveOf_50 lm_0 fl_X11_77 rfl ?_
      refine x_iconst (v := (0)) dX11_moveOf_53 (by decide) ?_
      refine x_iald (j := 0) (v := (q1.2 19 0)) dX11_moveOf_54 lm_19 (by decide +kernel) (by decide +kernel) rfl ?_
      refine x_callVi [.int (q1.2 19 0)] (c_X11_gives (I := q1.2) (L := L) (q1.2 19 0)) dX11_moveOf_55 lk_X11_103 lm_0 rfl cd_X11_gives rfl rfl (Nat.le_of_ble_eq_true rfl) ⟨rfl, rfl, Nat.le_of_ble_eq_true rfl, Nat.le_of_ble_eq_true rfl⟩ ?_
      cases hf
      exact x_iret dX11_moveOf_58 rfl rfl
    · replace hf := f_if hB hf
      refine x_aload_n 0 dX11_moveOf_39 rfl rfl ?_
      refine x_bipush (v := (6)) dX11_moveOf_40 (by decide) ?_
      refine x_callVi [.int (6 : Int32)] (c_X11_refuse (I := q1.2) (L := L) (6 : Int32)) dX11_moveOf_42 lk_X11_99 lm_0 rfl cd_X11_refuse rfl rfl (Nat.le_of_ble_eq_true rfl) ⟨rfl, rfl, Nat.le_of_ble_eq_true rfl, Nat.le_of_ble_eq_true rfl⟩ ?_
      refine x_goto 58 dX11_moveOf_45 (by decide) ?_
      cases hf
      exact x_iret dX11_moveOf_58 rfl rfl
  · replace hf := f_el hB hf
    refine x_aload_n 0 dX11_moveOf_12 rfl rfl ?_
    refine x_iconst (v := (1)) dX11_moveOf_13 (by decide) ?_
    refine x_callVi [.int (1 : Int32)] (c_X11_refuse (I := I) (L := L) (1 : Int32)) dX11_moveOf_14 lk_X11_99 lm_0 rfl cd_X11_refuse rfl rfl (Nat.le_of_ble_eq_true rfl) ⟨rfl, rfl, Nat.le_of_ble_eq_true rfl, Nat.le_of_ble_eq_true rfl⟩ ?_
    cases hf
    exact x_iret dX11_moveOf_17 rfl rfl
set_option maxRecDepth 100000 in
set_option maxHeartbeats 4000000 in
theorem l_X11_ordersOf_5   (v0 : Int64) (v2 : Int32) (I : z_I) (L : z_L) {r : Int64}  : ∀ (n : Nat) (v3 : Int64) (v5 : Int32), g_X11_ordersOf_5 v0 v2  n v3 v5 = some r → z_X layM RX11 cX11_ordersOf 6 (some .long) ({ frames := 1, cells := 0, slots := 0, locals := 28 } : Room) 5 [(0, .long v0), (2, .int v2), (3, .long v3), (5, .int v5)] [] I L (some (.long r), I, L) := by
  intro n
  induction n with
  | zero => intro v3 v5 hf; cases hf
  | succ n ih =>
    intro v3 v5 hf
    rw [g_X11_ordersOf_5] at hf
    refine x_iload 3 dX11_ordersOf_5 rfl ?_
    refine x_iload_n 1 dX11_ordersOf_7 rfl rfl ?_
    refine x_icmp_ge 29 dX11_ordersOf_8 (by decide) (fun hB => ?_) (fun hB => ?_)
    · replace hf := f_if hB hf
      refine x_lload_n 2 dX11_ordersOf_29 rfl rfl ?_
      cases hf
      exact x_lret dX11_ordersOf_30 rfl rfl
    · replace hf := f_el hB hf
      refine x_lload_n 2 dX11_ordersOf_11 rfl rfl ?_
      refine x_lconst (v := (0)) dX11_ordersOf_12 (by decide) ?_
      refine x_lload_n 0 dX11_ordersOf_13 rfl rfl ?_
      refine x_iload 3 dX11_ordersOf_14 rfl ?_
      refine x_i2l dX11_ordersOf_16 ?_
      refine x_lsub dX11_ordersOf_17 ?_
      refine x_mmaxl dX11_ordersOf_18 lk_X11_441 ⟨Nat.le_of_ble_eq_true rfl, Nat.le_of_ble_eq_true rfl⟩ ?_
      refine x_lmul dX11_ordersOf_21 ?_
      obtain ⟨w1, hw1, hf⟩ := f_lt hf
      refine x_topL hw1 ?_
      refine x_lstore_n [(3, .long w1), (0, .long v0), (2, .int v2), (5, .int v5)] dX11_ordersOf_22 rfl (by decide) rfl ?_
      refine x_iinc 3 [(5, .int (v5 + (1 : Int32))), (3, .long w1), (0, .long v0), (2, .int v2)] dX11_ordersOf_23 rfl rfl (by decide) rfl ?_
      refine x_goto 5 dX11_ordersOf_26 (by decide) ?_
      refine x_lv [(0, .long v0), (2, .int v2), (3, .long w1), (5, .int (v5 + (1 : Int32)))] [2, 3, 1, 0] rfl ?_
      exact ih _ _ hf
set_option maxRecDepth 100000 in
set_option maxHeartbeats 4000000 in
theorem c_X11_ordersOf {I : z_I} {L : z_L} {p0 : Int64} {p1 : Int32}  {r : Int64} (hf : f_X11_ordersOf p0 p1 = some r) : z_C layM yX11_ordersOf cX11_ordersOf 6 (some .long) ({ frames := 1, cells := 0, slots := 0, locals := 28 } : Room) [.long p0, .int p1] I L (some (.long r), I, L) := by
  refine z_C.of (by decide) (Nat.le_of_ble_eq_true rfl) ?_
  show z_X layM RX11 cX11_ordersOf 6 (some .long) ({ frames := 1, cells := 0, slots := 0, locals := 28 } : Room) 0 [(0, .long p0), (2, .int p1)] [] I L (some (.long r), I, L)
  unfold f_X11_ordersOf at hf
  refine x_lconst (v := (1)) dX11_ordersOf_0 (by decide) ?_
  refine x_lstore_n [(3, .long (1 : Int64)), (0, .long p0), (2, .int p1)] dX11_ordersOf_1 rfl (by decide) rfl ?_
  refine x_iconst (v := (0)) dX11_ordersOf_2 (by decide) ?_
  refine x_istore [(5, .int (0 : Int32)), (3, .long (1 : Int64)), (0, .long p0), (2, .int p1)] dX11_ordersOf_3 (by decide) rfl ?_
  refine x_lv [(0, .long p0), (2, .int p1), (3, .long (1 : Int64)), (5, .int (0 : Int32))] [2, 3, 1, 0] rfl ?_
  refine l_X11_ordersOf_5 p0 p1 (I) (L)   _ _ _ hf
set_option maxRecDepth 100000 in
set_option maxHeartbeats 4000000 in
theorem l_X11_blind_88   (v2 : Int32) (v4 : Int64) (v6 : Int64) (I : z_I) (L : z_L) {r : Bool × z_I × z_L} (k139 : Int64 → Option (Bool × z_I × z_L)) (hk139 : ∀ (v8 : Int64), k139 v8 = some r → z_X layM RX11 cX11_blind 11 (some .boolean) ({ frames := 2, cells := 0, slots := 0, locals := 53 } : Room) 139 [(0, .ref 0), (2, .int v2), (4, .long v4), (6, .long v6), (8, .long v8)] [] I L (some (.int (zb r.1)), r.2.1, r.2.2)) : ∀ (n : Nat) (v8 : Int64) (v10 : Int32), g_X11_blind_88 v2 v4 v6 I L k139 n v8 v10 = some r → z_X layM RX11 cX11_blind 11 (some .boolean) ({ frames := 2, cells := 0, slots := 0, locals := 53 } : Room) 88 [(0, .ref 0), (2, .int v2), (4, .long v4), (6, .long v6), (8, .long v8), (10, .int v10)] [] I L (some (.int (zb r.1)), r.2.1, r.2.2) := by
  intro n
  induction n with
  | zero => intro v8 v10 hf; cases hf
  | succ n ih =>
    intro v8 v10 hf
    rw [g_X11_blind_88] at hf
    refine x_iload 5 dX11_blind_88 rfl ?_
    refine x_iload_n 1 dX11_blind_90 rfl rfl ?_
    refine x_icmp_gt 139 dX11_blind_91 (by decide) (fun hB => ?_) (fun hB => ?_)
    · replace hf := f_if hB hf
      refine x_lv [(0, .ref 0), (2, .int v2), (4, .long v4), (6, .long v6), (8, .long v8)] [0, 1, 2, 3, 4] rfl ?_
      exact hk139 _ hf
    · replace hf := f_el hB hf
      refine x_lload 4 dX11_blind_94 rfl ?_
      refine x_iload_n 1 dX11_blind_96 rfl rfl ?_
      refine x_i2l dX11_blind_97 ?_
      refine x_iload 5 dX11_blind_98 rfl ?_
      obtain ⟨q5, hq6, hf⟩ := f_bd hf
      refine x_callSl [.long (v2.toInt64), .int v10] (c_X11_ordersOf (I := I) (L := L)  hq6) dX11_blind_100 lk_X11_444 cd_X11_ordersOf rfl rfl (Nat.le_of_ble_eq_true rfl) ⟨rfl, rfl, Nat.le_of_ble_eq_true rfl, Nat.le_of_ble_eq_true rfl⟩ ?_
      refine x_iload 5 dX11_blind_103 rfl ?_
      refine x_i2l dX11_blind_105 ?_
      refine x_iload 5 dX11_blind_106 rfl ?_
      obtain ⟨q7, hq8, hf⟩ := f_bd hf
      refine x_callSl [.long (v10.toInt64), .int v10] (c_X11_ordersOf (I := I) (L := L)  hq8) dX11_blind_108 lk_X11_444 cd_X11_ordersOf rfl rfl (Nat.le_of_ble_eq_true rfl) ⟨rfl, rfl, Nat.le_of_ble_eq_true rfl, Nat.le_of_ble_eq_true rfl⟩ ?_
      obtain ⟨h9, hf⟩ := f_gd hf
      refine x_ldiv dX11_blind_111 h9 ?_
      refine x_lload 2 dX11_blind_112 rfl ?_
      refine x_iload 5 dX11_blind_114 rfl ?_
      obtain ⟨q10, hq11, hf⟩ := f_bd hf
      refine x_callSl [.long v4, .int v10] (c_X11_ordersOf (I := I) (L := L)  hq11) dX11_blind_116 lk_X11_444 cd_X11_ordersOf rfl rfl (Nat.le_of_ble_eq_true rfl) ⟨rfl, rfl, Nat.le_of_ble_eq_true rfl, Nat.le_of_ble_eq_true rfl⟩ ?_
      refine x_lmul dX11_blind_119 ?_
      refine x_lload 3 dX11_blind_120 rfl ?_
      refine x_iload_n 1 dX11_blind_122 rfl rfl ?_
      refine x_iload 5 dX11_blind_123 rfl ?_
      refine x_isub dX11_blind_125 ?_
      obtain ⟨q12, hq13, hf⟩ := f_bd hf
      refine x_callSl [.long v6, .int (v2 - v10)] (c_X11_ordersOf (I := I) (L := L)  hq13) dX11_blind_126 lk_X11_444 cd_X11_ordersOf rfl rfl (Nat.le_of_ble_eq_true rfl) ⟨rfl, rfl, Nat.le_of_ble_eq_true rfl, Nat.le_of_ble_eq_true rfl⟩ ?_
      refine x_lmul dX11_blind_129 ?_
      refine x_ladd dX11_blind_130 ?_
      refine x_lstore [(8, .long (v8 + (((q5 / q7) * q10) * q12))), (0, .ref 0), (2, .int v2), (4, .long v4), (6, .long v6), (10, .int v10)] dX11_blind_131 (by decide) rfl ?_
      refine x_iinc 5 [(10, .int (v10 + (1 : Int32))), (8, .long (v8 + (((q5 / q7) * q10) * q12))), (0, .ref 0), (2, .int v2), (4, .long v4), (6, .long v6)] dX11_blind_133 rfl rfl (by decide) rfl ?_
      refine x_goto 88 dX11_blind_136 (by decide) ?_
      refine x_lv [(0, .ref 0), (2, .int v2), (4, .long v4), (6, .long v6), (8, .long (v8 + (((q5 / q7) * q10) * q12))), (10, .int (v10 + (1 : Int32)))] [2, 3, 4, 5, 1, 0] rfl ?_
      exact ih _ _ hf
set_option maxRecDepth 100000 in
set_option maxHeartbeats 4000000 in
theorem c_X11_blind {I : z_I} {L : z_L} {p0 : Int32} {p1 : Int32} {p2 : Int32}  {r : Bool × z_I × z_L} (hf : f_X11_blind I L p0 p1 p2 = some r) : z_C layM yX11_blind cX11_blind 11 (some .boolean) ({ frames := 2, cells := 0, slots := 0, locals := 53 } : Room) [.ref 0, .int p0, .int p1, .int p2] I L (some (.int (zb r.1)), r.2.1, r.2.2) := by
  refine z_C.of (by decide) (Nat.le_of_ble_eq_true rfl) ?_
  show z_X layM RX11 cX11_blind 11 (some .boolean) ({ frames := 2, cells := 0, slots := 0, locals := 53 } : Room) 0 [(0, .ref 0), (1, .int p0), (2, .int p1), (3, .int p2)] [] I L (some (.int (zb r.1)), r.2.1, r.2.2)
  unfold f_X11_blind at hf
  refine x_aload_n 0 dX11_blind_0 rfl rfl ?_
  refine x_iload_n 1 dX11_blind_1 rfl rfl ?_
  refine x_callVi [.int p0] (c_X11_isBed (I := I) (L := L) p0) dX11_blind_2 lk_X11_321 lm_0 rfl cd_X11_isBed rfl rfl (Nat.le_of_ble_eq_true rfl) ⟨rfl, rfl, Nat.le_of_ble_eq_true rfl, Nat.le_of_ble_eq_true rfl⟩ ?_
  refine x_if_eqB 32 dX11_blind_5 (by decide) (fun hB => ?_) (fun hB => ?_)
  · replace hf := f_el hB hf
    refine x_aload_n 0 dX11_blind_32 rfl rfl ?_
    refine x_iconst (v := (1)) dX11_blind_33 (by decide) ?_
    refine x_callVi [.int (1 : Int32)] (c_X11_is (I := I) (L := L) (1 : Int32)) dX11_blind_34 lk_X11_106 lm_0 rfl cd_X11_is rfl rfl (Nat.le_of_ble_eq_true rfl) ⟨rfl, rfl, Nat.le_of_ble_eq_true rfl, Nat.le_of_ble_eq_true rfl⟩ ?_
    cases hf
    exact x_zret dX11_blind_37 rfl rfl
  · replace hf := f_if hB hf
    refine x_iload_n 2 dX11_blind_8 rfl rfl ?_
    refine x_i2l dX11_blind_9 ?_
    refine x_lconst (v := (0)) dX11_blind_10 (by decide) ?_
    refine x_ldc2 (v := (4)) dX11_blind_11 kc_X11_436 ?_
    refine x_callSi [.long (p1.toInt64), .long (0 : Int64), .long (4 : Int64)] (c_X11_isFrom (I := I) (L := L) (p1.toInt64) (0 : Int64) (4 : Int64)) dX11_blind_14 lk_X11_299 cd_X11_isFrom rfl rfl (Nat.le_of_ble_eq_true rfl) ⟨rfl, rfl, Nat.le_of_ble_eq_true rfl, Nat.le_of_ble_eq_true rfl⟩ ?_
    refine x_if_eqB 32 dX11_blind_17 (by decide) (fun hB => ?_) (fun hB => ?_)
    · replace hf := f_el hB hf
      refine x_aload_n 0 dX11_blind_32 rfl rfl ?_
      refine x_iconst (v := (1)) dX11_blind_33 (by decide) ?_
      refine x_callVi [.int (1 : Int32)] (c_X11_is (I := I) (L := L) (1 : Int32)) dX11_blind_34 lk_X11_106 lm_0 rfl cd_X11_is rfl rfl (Nat.le_of_ble_eq_true rfl) ⟨rfl, rfl, Nat.le_of_ble_eq_true rfl, Nat.le_of_ble_eq_true rfl⟩ ?_
      cases hf
      exact x_zret dX11_blind_37 rfl rfl
    · replace hf := f_if hB hf
      refine x_iload_n 3 dX11_blind_20 rfl rfl ?_
      refine x_i2l dX11_blind_21 ?_
      refine x_lconst (v := (0)) dX11_blind_22 (by decide) ?_
      refine x_ldc2 (v := (4)) dX11_blind_23 kc_X11_436 ?_
      refine x_callSi [.long (p2.toInt64), .long (0 : Int64), .long (4 : Int64)] (c_X11_isFrom (I := I) (L := L) (p2.toInt64) (0 : Int64) (4 : Int64)) dX11_blind_26 lk_X11_299 cd_X11_isFrom rfl rfl (Nat.le_of_ble_eq_true rfl) ⟨rfl, rfl, Nat.le_of_ble_eq_true rfl, Nat.le_of_ble_eq_true rfl⟩ ?_
      refine x_if_neB 38 dX11_blind_29 (by decide) (fun hB => ?_) (fun hB => ?_)
      · replace hf := f_if hB hf
        refine x_aload_n 0 dX11_blind_38 rfl rfl ?_
        refine x_getR dX11_blind_39 lm_0 fl_X11_7 rfl ?_
        refine x_iload_n 1 dX11_blind_42 rfl rfl ?_
        refine x_callSi [.int p0] (c_X11_bedRow (I := I) (L := L) p0) dX11_blind_43 lk_X11_216 cd_X11_bedRow rfl rfl (Nat.le_of_ble_eq_true rfl) ⟨rfl, rfl, Nat.le_of_ble_eq_true rfl, Nat.le_of_ble_eq_true rfl⟩ ?_
        obtain ⟨h1, hf⟩ := f_gd hf
        refine x_iald (j := ((f_X11_bedRow p0)).toNatClampNeg) (v := (I 1 ((f_X11_bedRow p0)).toNatClampNeg)) dX11_blind_46 lm_1 h1 rfl rfl ?_
        refine x_i2l dX11_blind_47 ?_
        obtain ⟨w2, hw2, hf⟩ := f_lt hf
        refine x_topL hw2 ?_
        refine x_lstore [(4, .long w2), (0, .ref 0), (1, .int p0), (2, .int p1), (3, .int p2)] dX11_blind_48 (by decide) rfl ?_
        refine x_aload_n 1 dX11_blind_50 rfl rfl ?_
        refine x_getR dX11_blind_51 lm_0 fl_X11_7 rfl ?_
        refine x_iload_n 2 dX11_blind_54 rfl rfl ?_
        refine x_callSi [.int p0] (c_X11_bedRow (I := I) (L := L) p0) dX11_blind_55 lk_X11_216 cd_X11_bedRow rfl rfl (Nat.le_of_ble_eq_true rfl) ⟨rfl, rfl, Nat.le_of_ble_eq_true rfl, Nat.le_of_ble_eq_true rfl⟩ ?_
        refine x_iconst (v := (1)) dX11_blind_58 (by decide) ?_
        refine x_iadd dX11_blind_59 ?_
        obtain ⟨h3, hf⟩ := f_gd hf
        refine x_iald (j := (((f_X11_bedRow p0) + (1 : Int32))).toNatClampNeg) (v := (I 1 (((f_X11_bedRow p0) + (1 : Int32))).toNatClampNeg)) dX11_blind_60 lm_1 h3 rfl rfl ?_
        refine x_i2l dX11_blind_61 ?_
        obtain ⟨w4, hw4, hf⟩ := f_lt hf
        refine x_topL hw4 ?_
        refine x_lstore [(6, .long w4), (4, .long w2), (0, .ref 0), (1, .int p0), (2, .int p1), (3, .int p2)] dX11_blind_62 (by decide) rfl ?_
        refine x_lload 1 dX11_blind_64 rfl ?_
        refine x_lload 0 dX11_blind_66 rfl ?_
        refine x_ladd dX11_blind_68 ?_
        refine x_iload_n 4 dX11_blind_69 rfl rfl ?_
        refine x_i2l dX11_blind_70 ?_
        refine x_lcmp_ge 82 dX11_blind_71 dX11_blind_72 (by decide) (fun hB => ?_) (fun hB => ?_)
        · replace hf := f_if hB hf
          refine x_lconst (v := (0)) dX11_blind_82 (by decide) ?_
          refine x_lstore [(8, .long (0 : Int64)), (6, .long w4), (4, .long w2), (0, .ref 0), (1, .int p0), (2, .int p1), (3, .int p2)] dX11_blind_83 (by decide) rfl ?_
          refine x_iload_n 6 dX11_blind_85 rfl rfl ?_
          refine x_istore [(10, .int p2), (8, .long (0 : Int64)), (6, .long w4), (4, .long w2), (0, .ref 0), (1, .int p0), (2, .int p1), (3, .int p2)] dX11_blind_86 (by decide) rfl ?_
          refine x_lv [(0, .ref 0), (2, .int p1), (4, .long w2), (6, .long w4), (8, .long (0 : Int64)), (10, .int p2)] [4, 6, 3, 2, 1, 0] rfl ?_
          refine l_X11_blind_88 p1 w2 w4 (I) (L) _ ?_ _ _ _ hf
          · intro v8_14 hf
            refine x_aload_n 0 dX11_blind_139 rfl rfl ?_
            refine x_lload 4 dX11_blind_140 rfl ?_
            refine x_lload 2 dX11_blind_142 rfl ?_
            refine x_lload 3 dX11_blind_144 rfl ?_
            refine x_ladd dX11_blind_146 ?_
            refine x_iload_n 1 dX11_blind_147 rfl rfl ?_
            obtain ⟨q15, hq16, hf⟩ := f_bd hf
            refine x_callSl [.long (w2 + w4), .int p1] (c_X11_ordersOf (I := I) (L := L)  hq16) dX11_blind_148 lk_X11_444 cd_X11_ordersOf rfl rfl (Nat.le_of_ble_eq_true rfl) ⟨rfl, rfl, Nat.le_of_ble_eq_true rfl, Nat.le_of_ble_eq_true rfl⟩ ?_
            obtain ⟨q17, hq18, hf⟩ := f_bd hf
            refine x_callVi [.long v8_14, .long q15] (c_X11_tellsBy (I := I) (L := L)  hq18) dX11_blind_151 lk_X11_417 lm_0 rfl cd_X11_tellsBy rfl rfl (Nat.le_of_ble_eq_true rfl) ⟨rfl, rfl, Nat.le_of_ble_eq_true rfl, Nat.le_of_ble_eq_true rfl⟩ ?_
            cases hf
            exact x_zret dX11_blind_154 rfl rfl
        · replace hf := f_el hB hf
          refine x_aload_n 2 dX11_blind_75 rfl rfl ?_
          refine x_bipush (v := (6)) dX11_blind_76 (by decide) ?_
          refine x_callVi [.int (6 : Int32)] (c_X11_is (I := I) (L := L) (6 : Int32)) dX11_blind_78 lk_X11_106 lm_0 rfl cd_X11_is rfl rfl (Nat.le_of_ble_eq_true rfl) ⟨rfl, rfl, Nat.le_of_ble_eq_true rfl, Nat.le_of_ble_eq_true rfl⟩ ?_
          cases hf
          exact x_zret dX11_blind_81 rfl rfl
      · replace hf := f_el hB hf
        refine x_aload_n 0 dX11_blind_32 rfl rfl ?_
        refine x_iconst (v := (1)) dX11_blind_33 (by decide) ?_
        refine x_callVi [.int (1 : Int32)] (c_X11_is (I := I) (L := L) (1 : Int32)) dX11_blind_34 lk_X11_106 lm_0 rfl cd_X11_is rfl rfl (Nat.le_of_ble_eq_true rfl) ⟨rfl, rfl, Nat.le_of_ble_eq_true rfl, Nat.le_of_ble_eq_true rfl⟩ ?_
        cases hf
        exact x_zret dX11_blind_37 rfl rfl
set_option maxRecDepth 100000 in
set_option maxHeartbeats 4000000 in
theorem c_X11_share {I : z_I} {L : z_L} {p0 : Int32}  {r : Bool × z_I × z_L} (hf : f_X11_share I L p0 = some r) : z_C layM yX11_share cX11_share 2 (some .boolean) ({ frames := 2, cells := 0, slots := 0, locals := 51 } : Room) [.ref 0, .int p0] I L (some (.int (zb r.1)), r.2.1, r.2.2) := by
  refine z_C.of (by decide) (Nat.le_of_ble_eq_true rfl) ?_
  show z_X layM RX11 cX11_share 2 (some .boolean) ({ frames := 2, cells := 0, slots := 0, locals := 51 } : Room) 0 [(0, .ref 0), (1, .int p0)] [] I L (some (.int (zb r.1)), r.2.1, r.2.2)
  unfold f_X11_share at hf
  refine x_aload_n 0 dX11_share_0 rfl rfl ?_
  refine x_iload_n 1 dX11_share_1 rfl rfl ?_
  refine x_callVi [.int p0] (c_X11_isScholar (I := I) (L := L) p0) dX11_share_2 lk_X11_333 lm_0 rfl cd_X11_isScholar rfl rfl (Nat.le_of_ble_eq_true rfl) ⟨rfl, rfl, Nat.le_of_ble_eq_true rfl, Nat.le_of_ble_eq_true rfl⟩ ?_
  refine x_if_neB 14 dX11_share_5 (by decide) (fun hB => ?_) (fun hB => ?_)
  · replace hf := f_if hB hf
    refine x_aload_n 0 dX11_share_14 rfl rfl ?_
    refine x_iconst (v := (2)) dX11_share_15 (by decide) ?_
    obtain ⟨q1, hq2, hf⟩ := f_bd hf
    refine x_callVi [.int (2 : Int32)] (c_X11_together (I := I) (L := L)  hq2) dX11_share_16 lk_X11_318 lm_0 rfl cd_X11_together rfl rfl (Nat.le_of_ble_eq_true rfl) ⟨rfl, rfl, Nat.le_of_ble_eq_true rfl, Nat.le_of_ble_eq_true rfl⟩ ?_
    refine x_if_ne 31 dX11_share_19 (by decide) (fun hB => ?_) (fun hB => ?_)
    · replace hf := f_el hB hf
      refine x_aload_n 0 dX11_share_31 rfl rfl ?_
      refine x_aload_n 0 dX11_share_32 rfl rfl ?_
      refine x_getR dX11_share_33 lm_0 fl_X11_7 rfl ?_
      refine x_iload_n 1 dX11_share_36 rfl rfl ?_
      refine x_callSi [.int p0] (c_X11_scholarRow (I := I) (L := L) p0) dX11_share_37 lk_X11_242 cd_X11_scholarRow rfl rfl (Nat.le_of_ble_eq_true rfl) ⟨rfl, rfl, Nat.le_of_ble_eq_true rfl, Nat.le_of_ble_eq_true rfl⟩ ?_
      refine x_iconst (v := (1)) dX11_share_40 (by decide) ?_
      refine x_iadd dX11_share_41 ?_
      obtain ⟨h3, hf⟩ := f_gd hf
      refine x_iald (j := (((f_X11_scholarRow p0) + (1 : Int32))).toNatClampNeg) (v := (I 1 (((f_X11_scholarRow p0) + (1 : Int32))).toNatClampNeg)) dX11_share_42 lm_1 h3 rfl rfl ?_
      refine x_i2l dX11_share_43 ?_
      refine x_aload_n 0 dX11_share_44 rfl rfl ?_
      refine x_iconst (v := (2)) dX11_share_45 (by decide) ?_
      obtain ⟨q4, hq5, hf⟩ := f_bd hf
      refine x_callVi [.int (2 : Int32)] (c_X11_together (I := I) (L := L)  hq5) dX11_share_46 lk_X11_318 lm_0 rfl cd_X11_together rfl rfl (Nat.le_of_ble_eq_true rfl) ⟨rfl, rfl, Nat.le_of_ble_eq_true rfl, Nat.le_of_ble_eq_true rfl⟩ ?_
      refine x_i2l dX11_share_49 ?_
      obtain ⟨q6, hq7, hf⟩ := f_bd hf
      refine x_callVi [.long ((I 1 (((f_X11_scholarRow p0) + (1 : Int32))).toNatClampNeg).toInt64), .long (q4.toInt64)] (c_X11_tellsBy (I := I) (L := L)  hq7) dX11_share_50 lk_X11_417 lm_0 rfl cd_X11_tellsBy rfl rfl (Nat.le_of_ble_eq_true rfl) ⟨rfl, rfl, Nat.le_of_ble_eq_true rfl, Nat.le_of_ble_eq_true rfl⟩ ?_
      cases hf
      exact x_zret dX11_share_53 rfl rfl
    · replace hf := f_if hB hf
      refine x_aload_n 0 dX11_share_22 rfl rfl ?_
      refine x_bipush (v := (6)) dX11_share_23 (by decide) ?_
      refine x_callVi [.int (6 : Int32)] (c_X11_is (I := I) (L := L) (6 : Int32)) dX11_share_25 lk_X11_106 lm_0 rfl cd_X11_is rfl rfl (Nat.le_of_ble_eq_true rfl) ⟨rfl, rfl, Nat.le_of_ble_eq_true rfl, Nat.le_of_ble_eq_true rfl⟩ ?_
      refine x_goto 53 dX11_share_28 (by decide) ?_
      cases hf
      exact x_zret dX11_share_53 rfl rfl
  · replace hf := f_el hB hf
    refine x_aload_n 0 dX11_share_8 rfl rfl ?_
    refine x_iconst (v := (1)) dX11_share_9 (by decide) ?_
    refine x_callVi [.int (1 : Int32)] (c_X11_is (I := I) (L := L) (1 : Int32)) dX11_share_10 lk_X11_106 lm_0 rfl cd_X11_is rfl rfl (Nat.le_of_ble_eq_true rfl) ⟨rfl, rfl, Nat.le_of_ble_eq_true rfl, Nat.le_of_ble_eq_true rfl⟩ ?_
    cases hf
    exact x_zret dX11_share_13 rfl rfl
set_option maxRecDepth 100000 in
set_option maxHeartbeats 4000000 in
theorem l_X11_copyBeds_52   (v1 : Int32) (I : z_I) {r : Int32 × z_I × z_L}  : ∀ (n : Nat) (v2 : Int32) (L : z_L), g_X11_copyBeds_52 v1 I  n v2 L = some r → z_X layM RX11 cX11_copyBeds 3 (some .int) ({ frames := 1, cells := 0, slots := 0, locals := 22 } : Room) 52 [(0, .ref 0), (1, .int v1), (2, .int v2)] [] I L (some (.int r.1), r.2.1, r.2.2) := by
  intro n
  induction n with
  | zero => intro v2 L hf; cases hf
  | succ n ih =>
    intro v2 L hf
    rw [g_X11_copyBeds_52] at hf
    refine x_iload_n 2 dX11_copyBeds_52 rfl rfl ?_
    refine x_aload_n 0 dX11_copyBeds_53 rfl rfl ?_
    refine x_getR dX11_copyBeds_54 lm_0 fl_X11_7 rfl ?_
    refine x_iconst (v := (0)) dX11_copyBeds_57 (by decide) ?_
    refine x_iald (j := 0) (v := (I 1 0)) dX11_copyBeds_58 lm_1 (by decide +kernel) (by decide +kernel) rfl ?_
    refine x_icmp_ge 98 dX11_copyBeds_59 (by decide) (fun hB => ?_) (fun hB => ?_)
    · replace hf := f_if hB hf
      refine x_aload_n 0 dX11_copyBeds_98 rfl rfl ?_
      refine x_aload_n 0 dX11_copyBeds_99 rfl rfl ?_
      refine x_getR dX11_copyBeds_100 lm_0 fl_X11_7 rfl ?_
      refine x_iconst (v := (0)) dX11_copyBeds_103 (by decide) ?_
      refine x_iald (j := 0) (v := (I 1 0)) dX11_copyBeds_104 lm_1 (by decide +kernel) (by decide +kernel) rfl ?_
      refine x_callVi [.int (I 1 0)] (c_X11_gives (I := I) (L := L) (I 1 0)) dX11_copyBeds_105 lk_X11_103 lm_0 rfl cd_X11_gives rfl rfl (Nat.le_of_ble_eq_true rfl) ⟨rfl, rfl, Nat.le_of_ble_eq_true rfl, Nat.le_of_ble_eq_true rfl⟩ ?_
      cases hf
      exact x_iret dX11_copyBeds_108 rfl rfl
    · replace hf := f_el hB hf
      refine x_aload_n 0 dX11_copyBeds_62 rfl rfl ?_
      refine x_getR dX11_copyBeds_63 lm_0 fl_X11_27 rfl ?_
      refine x_bipush (v := (60)) dX11_copyBeds_66 (by decide) ?_
      refine x_iload_n 1 dX11_copyBeds_68 rfl rfl ?_
      refine x_imul dX11_copyBeds_69 ?_
      refine x_iload_n 2 dX11_copyBeds_70 rfl rfl ?_
      refine x_iadd dX11_copyBeds_71 ?_
      refine x_aload_n 0 dX11_copyBeds_72 rfl rfl ?_
      refine x_getR dX11_copyBeds_73 lm_0 fl_X11_7 rfl ?_
      refine x_iload_n 2 dX11_copyBeds_76 rfl rfl ?_
      refine x_callSi [.int v2] (c_X11_bedRow (I := I) (L := L) v2) dX11_copyBeds_77 lk_X11_216 cd_X11_bedRow rfl rfl (Nat.le_of_ble_eq_true rfl) ⟨rfl, rfl, Nat.le_of_ble_eq_true rfl, Nat.le_of_ble_eq_true rfl⟩ ?_
      obtain ⟨h6, hf⟩ := f_gd hf
      refine x_iald (j := ((f_X11_bedRow v2)).toNatClampNeg) (v := (I 1 ((f_X11_bedRow v2)).toNatClampNeg)) dX11_copyBeds_80 lm_1 h6 rfl rfl ?_
      refine x_i2l dX11_copyBeds_81 ?_
      refine x_aload_n 0 dX11_copyBeds_82 rfl rfl ?_
      refine x_getR dX11_copyBeds_83 lm_0 fl_X11_21 rfl ?_
      refine x_iload_n 1 dX11_copyBeds_86 rfl rfl ?_
      obtain ⟨h7, hf⟩ := f_gd hf
      refine x_iald (j := (v1).toNatClampNeg) (v := (I 3 (v1).toNatClampNeg)) dX11_copyBeds_87 lm_3 h7 rfl rfl ?_
      refine x_callSl [.long ((I 1 ((f_X11_bedRow v2)).toNatClampNeg).toInt64), .int (I 3 (v1).toNatClampNeg)] (c_X11_cut (I := I) (L := L) ((I 1 ((f_X11_bedRow v2)).toNatClampNeg).toInt64) (I 3 (v1).toNatClampNeg)) dX11_copyBeds_88 lk_X11_117 cd_X11_cut rfl rfl (Nat.le_of_ble_eq_true rfl) ⟨rfl, rfl, Nat.le_of_ble_eq_true rfl, Nat.le_of_ble_eq_true rfl⟩ ?_
      obtain ⟨h8, hf⟩ := f_gd hf
      obtain ⟨L9, hL9, hf⟩ := f_lt hf
      refine x_last (j0 := ((((60 : Int32) * v1) + v2)).toNatClampNeg) dX11_copyBeds_91 lm_5 h8 rfl hL9 ?_
      refine x_iinc 2 [(2, .int (v2 + (1 : Int32))), (0, .ref 0), (1, .int v1)] dX11_copyBeds_92 rfl rfl (by decide) rfl ?_
      refine x_goto 52 dX11_copyBeds_95 (by decide) ?_
      refine x_lv [(0, .ref 0), (1, .int v1), (2, .int (v2 + (1 : Int32)))] [1, 2, 0] rfl ?_
      exact ih _ _ hf
set_option maxRecDepth 100000 in
set_option maxHeartbeats 4000000 in
theorem c_X11_copyBeds {I : z_I} {L : z_L} {p0 : Int32}  {r : Int32 × z_I × z_L} (hf : f_X11_copyBeds I L p0 = some r) : z_C layM yX11_copyBeds cX11_copyBeds 3 (some .int) ({ frames := 1, cells := 0, slots := 0, locals := 22 } : Room) [.ref 0, .int p0] I L (some (.int r.1), r.2.1, r.2.2) := by
  refine z_C.of (by decide) (Nat.le_of_ble_eq_true rfl) ?_
  show z_X layM RX11 cX11_copyBeds 3 (some .int) ({ frames := 1, cells := 0, slots := 0, locals := 22 } : Room) 0 [(0, .ref 0), (1, .int p0)] [] I L (some (.int r.1), r.2.1, r.2.2)
  unfold f_X11_copyBeds at hf
  refine x_iload_n 1 dX11_copyBeds_0 rfl rfl ?_
  refine x_callSi [.int p0] (c_X11_isTray (I := I) (L := L) p0) dX11_copyBeds_1 lk_X11_110 cd_X11_isTray rfl rfl (Nat.le_of_ble_eq_true rfl) ⟨rfl, rfl, Nat.le_of_ble_eq_true rfl, Nat.le_of_ble_eq_true rfl⟩ ?_
  refine x_if_neB 13 dX11_copyBeds_4 (by decide) (fun hB => ?_) (fun hB => ?_)
  · replace hf := f_if hB hf
    refine x_aload_n 0 dX11_copyBeds_13 rfl rfl ?_
    refine x_getR dX11_copyBeds_14 lm_0 fl_X11_24 rfl ?_
    refine x_iload_n 1 dX11_copyBeds_17 rfl rfl ?_
    obtain ⟨h1, hf⟩ := f_gd hf
    refine x_iald (j := (p0).toNatClampNeg) (v := (I 4 (p0).toNatClampNeg)) dX11_copyBeds_18 lm_4 h1 rfl rfl ?_
    refine x_iconst (v := (-1)) dX11_copyBeds_19 (by decide) ?_
    refine x_icmp_ne 29 dX11_copyBeds_20 (by decide) (fun hB => ?_) (fun hB => ?_)
    · replace hf := f_el hB hf
      refine x_aload_n 0 dX11_copyBeds_29 rfl rfl ?_
      refine x_getR dX11_copyBeds_30 lm_0 fl_X11_24 rfl ?_
      refine x_iload_n 1 dX11_copyBeds_33 rfl rfl ?_
      refine x_iald (j := (p0).toNatClampNeg) (v := (I 4 (p0).toNatClampNeg)) dX11_copyBeds_34 lm_4 h1 rfl rfl ?_
      refine x_aload_n 0 dX11_copyBeds_35 rfl rfl ?_
      refine x_getR dX11_copyBeds_36 lm_0 fl_X11_7 rfl ?_
      refine x_iconst (v := (0)) dX11_copyBeds_39 (by decide) ?_
      refine x_iald (j := 0) (v := (I 1 0)) dX11_copyBeds_40 lm_1 (by decide +kernel) (by decide +kernel) rfl ?_
      refine x_icmp_ge 50 dX11_copyBeds_41 (by decide) (fun hB => ?_) (fun hB => ?_)
      · replace hf := f_if hB hf
        refine x_iconst (v := (0)) dX11_copyBeds_50 (by decide) ?_
        refine x_istore_n [(2, .int (0 : Int32)), (0, .ref 0), (1, .int p0)] dX11_copyBeds_51 rfl (by decide) rfl ?_
        refine x_lv [(0, .ref 0), (1, .int p0), (2, .int (0 : Int32))] [1, 2, 0] rfl ?_
        refine l_X11_copyBeds_52 p0 (I)   _ _ _ hf
      · replace hf := f_el hB hf
        refine x_aload_n 0 dX11_copyBeds_44 rfl rfl ?_
        refine x_iconst (v := (3)) dX11_copyBeds_45 (by decide) ?_
        refine x_callVi [.int (3 : Int32)] (c_X11_refuse (I := I) (L := L) (3 : Int32)) dX11_copyBeds_46 lk_X11_99 lm_0 rfl cd_X11_refuse rfl rfl (Nat.le_of_ble_eq_true rfl) ⟨rfl, rfl, Nat.le_of_ble_eq_true rfl, Nat.le_of_ble_eq_true rfl⟩ ?_
        cases hf
        exact x_iret dX11_copyBeds_49 rfl rfl
    · replace hf := f_if hB hf
      refine x_aload_n 0 dX11_copyBeds_23 rfl rfl ?_
      refine x_iconst (v := (2)) dX11_copyBeds_24 (by decide) ?_
      refine x_callVi [.int (2 : Int32)] (c_X11_refuse (I := I) (L := L) (2 : Int32)) dX11_copyBeds_25 lk_X11_99 lm_0 rfl cd_X11_refuse rfl rfl (Nat.le_of_ble_eq_true rfl) ⟨rfl, rfl, Nat.le_of_ble_eq_true rfl, Nat.le_of_ble_eq_true rfl⟩ ?_
      cases hf
      exact x_iret dX11_copyBeds_28 rfl rfl
  · replace hf := f_el hB hf
    refine x_aload_n 0 dX11_copyBeds_7 rfl rfl ?_
    refine x_iconst (v := (1)) dX11_copyBeds_8 (by decide) ?_
    refine x_callVi [.int (1 : Int32)] (c_X11_refuse (I := I) (L := L) (1 : Int32)) dX11_copyBeds_9 lk_X11_99 lm_0 rfl cd_X11_refuse rfl rfl (Nat.le_of_ble_eq_true rfl) ⟨rfl, rfl, Nat.le_of_ble_eq_true rfl, Nat.le_of_ble_eq_true rfl⟩ ?_
    cases hf
    exact x_iret dX11_copyBeds_12 rfl rfl
set_option maxRecDepth 100000 in
set_option maxHeartbeats 4000000 in
theorem c_X11_draw {I : z_I} {L : z_L} {p0 : Int32}  {r : Int32 × z_I} (hf : f_X11_draw I p0 = some r) : z_C layM yX11_draw cX11_draw 2 (some .int) ({ frames := 0, cells := 0, slots := 0, locals := 0 } : Room) [.ref 0, .int p0] I L (some (.int r.1), r.2, L) := by
  refine z_C.of (by decide) (Nat.le_of_ble_eq_true rfl) ?_
  show z_X layM RX11 cX11_draw 2 (some .int) ({ frames := 0, cells := 0, slots := 0, locals := 0 } : Room) 0 [(0, .ref 0), (1, .int p0)] [] I L (some (.int r.1), r.2, L)
  unfold f_X11_draw at hf
  refine x_aload_n 0 dX11_draw_0 rfl rfl ?_
  refine x_aload_n 0 dX11_draw_1 rfl rfl ?_
  refine x_getI (v := (I 0 39)) dX11_draw_2 lm_0 fl_X11_447 rfl rfl ?_
  refine x_sipush (v := (3229)) dX11_draw_5 (by decide) ?_
  refine x_imul dX11_draw_8 ?_
  refine x_sipush (v := (11453)) dX11_draw_9 (by decide) ?_
  refine x_iadd dX11_draw_12 ?_
  refine x_ldcw (v := (65536)) dX11_draw_13 kc_X11_450 ?_
  refine x_irem dX11_draw_16 (by decide) ?_
  obtain ⟨I1, hI1, hf⟩ := f_lt hf
  refine x_putI dX11_draw_17 lm_0 fl_X11_447 rfl rfl rfl hI1 ?_
  refine x_aload_n 0 dX11_draw_20 rfl rfl ?_
  refine x_getI (v := ((((I 0 39) * (3229 : Int32)) + (11453 : Int32)) - (((I 0 39) * (3229 : Int32)) + (11453 : Int32)) / (65536 : Int32) * (65536 : Int32))) dX11_draw_21 lm_0 fl_X11_447 rfl (by rw [hI1, z2_s, z1_s]) ?_
  refine x_bipush (v := (8)) dX11_draw_24 (by decide) ?_
  refine x_idiv dX11_draw_26 (by decide) ?_
  refine x_iload_n 1 dX11_draw_27 rfl rfl ?_
  obtain ⟨h2, hf⟩ := f_gd hf
  refine x_irem dX11_draw_28 h2 ?_
  cases hf
  exact x_iret dX11_draw_29 rfl rfl
set_option maxRecDepth 100000 in
set_option maxHeartbeats 4000000 in
theorem c_X11_makesBy {I : z_I} {L : z_L} {p0 : Int32}  {r : Bool × z_I} (hf : f_X11_makesBy I p0 = some r) : z_C layM yX11_makesBy cX11_makesBy 3 (some .boolean) ({ frames := 6, cells := 0, slots := 0, locals := 135 } : Room) [.ref 0, .int p0] I L (some (.int (zb r.1)), r.2, L) := by
  refine z_C.of (by decide) (Nat.le_of_ble_eq_true rfl) ?_
  show z_X layM RX11 cX11_makesBy 3 (some .boolean) ({ frames := 6, cells := 0, slots := 0, locals := 135 } : Room) 0 [(0, .ref 0), (1, .int p0)] [] I L (some (.int (zb r.1)), r.2, L)
  unfold f_X11_makesBy at hf
  refine x_aload_n 0 dX11_makesBy_0 rfl rfl ?_
  refine x_iload_n 1 dX11_makesBy_1 rfl rfl ?_
  obtain ⟨q1, hq2, hf⟩ := f_bd hf
  refine x_callVi [.int p0] (c_X11_makes (I := I) (L := L)  hq2) dX11_makesBy_2 lk_X11_336 lm_0 rfl cd_X11_makes rfl rfl (Nat.le_of_ble_eq_true rfl) ⟨rfl, rfl, Nat.le_of_ble_eq_true rfl, Nat.le_of_ble_eq_true rfl⟩ ?_
  refine x_istore_n [(2, .int q1.1), (0, .ref 0), (1, .int p0)] dX11_makesBy_5 rfl (by decide) rfl ?_
  refine x_iload_n 0 dX11_makesBy_6 rfl rfl ?_
  refine x_iconst (v := (-1)) dX11_makesBy_7 (by decide) ?_
  refine x_icmp_ne 13 dX11_makesBy_8 (by decide) (fun hB => ?_) (fun hB => ?_)
  · replace hf := f_el hB hf
    refine x_aload_n 1 dX11_makesBy_13 rfl rfl ?_
    refine x_getR dX11_makesBy_14 lm_0 fl_X11_83 rfl ?_
    refine x_iconst (v := (1)) dX11_makesBy_17 (by decide) ?_
    refine x_dup2 dX11_makesBy_18 rfl rfl ?_
    refine x_iald (j := 1) (v := (q1.2 21 1)) dX11_makesBy_19 lm_21 (by decide +kernel) (by decide +kernel) rfl ?_
    refine x_iload_n 0 dX11_makesBy_20 rfl rfl ?_
    refine x_iadd dX11_makesBy_21 ?_
    obtain ⟨I5, hI5, hf⟩ := f_lt hf
    refine x_iast (j0 := 1) dX11_makesBy_22 lm_21 (by decide +kernel) (by decide +kernel) hI5 ?_
    refine x_iconst (v := (1)) dX11_makesBy_23 (by decide) ?_
    cases hf
    exact x_zret (b := true) dX11_makesBy_24 rfl rfl
  · replace hf := f_if hB hf
    refine x_iconst (v := (0)) dX11_makesBy_11 (by decide) ?_
    cases hf
    exact x_zret (b := false) dX11_makesBy_12 rfl rfl
set_option maxRecDepth 100000 in
set_option maxHeartbeats 4000000 in
theorem c_X11_picksBy {I : z_I} {L : z_L} {p0 : Int32}  {r : Bool × z_I} (hf : f_X11_picksBy I p0 = some r) : z_C layM yX11_picksBy cX11_picksBy 3 (some .boolean) ({ frames := 2, cells := 0, slots := 0, locals := 51 } : Room) [.ref 0, .int p0] I L (some (.int (zb r.1)), r.2, L) := by
  refine z_C.of (by decide) (Nat.le_of_ble_eq_true rfl) ?_
  show z_X layM RX11 cX11_picksBy 3 (some .boolean) ({ frames := 2, cells := 0, slots := 0, locals := 51 } : Room) 0 [(0, .ref 0), (1, .int p0)] [] I L (some (.int (zb r.1)), r.2, L)
  unfold f_X11_picksBy at hf
  refine x_aload_n 0 dX11_picksBy_0 rfl rfl ?_
  refine x_iload_n 1 dX11_picksBy_1 rfl rfl ?_
  obtain ⟨q1, hq2, hf⟩ := f_bd hf
  refine x_callVi [.int p0] (c_X11_picks (I := I) (L := L)  hq2) dX11_picksBy_2 lk_X11_348 lm_0 rfl cd_X11_picks rfl rfl (Nat.le_of_ble_eq_true rfl) ⟨rfl, rfl, Nat.le_of_ble_eq_true rfl, Nat.le_of_ble_eq_true rfl⟩ ?_
  refine x_istore_n [(2, .int q1.1), (0, .ref 0), (1, .int p0)] dX11_picksBy_5 rfl (by decide) rfl ?_
  refine x_aload_n 1 dX11_picksBy_6 rfl rfl ?_
  refine x_getR dX11_picksBy_7 lm_0 fl_X11_83 rfl ?_
  refine x_iconst (v := (2)) dX11_picksBy_10 (by decide) ?_
  refine x_dup2 dX11_picksBy_11 rfl rfl ?_
  refine x_iald (j := 2) (v := (q1.2 21 2)) dX11_picksBy_12 lm_21 (by decide +kernel) (by decide +kernel) rfl ?_
  refine x_iload_n 0 dX11_picksBy_13 rfl rfl ?_
  refine x_iadd dX11_picksBy_14 ?_
  obtain ⟨I5, hI5, hf⟩ := f_lt hf
  refine x_iast (j0 := 2) dX11_picksBy_15 lm_21 (by decide +kernel) (by decide +kernel) hI5 ?_
  refine x_iload_n 0 dX11_picksBy_16 rfl rfl ?_
  refine x_if_le 24 dX11_picksBy_17 (by decide) (fun hB => ?_) (fun hB => ?_)
  · replace hf := f_if hB hf
    refine x_iconst (v := (0)) dX11_picksBy_24 (by decide) ?_
    cases hf
    exact x_zret (b := false) dX11_picksBy_25 rfl rfl
  · replace hf := f_el hB hf
    refine x_iconst (v := (1)) dX11_picksBy_20 (by decide) ?_
    refine x_goto 25 dX11_picksBy_21 (by decide) ?_
    cases hf
    exact x_zret (b := true) dX11_picksBy_25 rfl rfl
set_option maxRecDepth 100000 in
set_option maxHeartbeats 4000000 in
theorem c_X11_nightsBy {I : z_I} {L : z_L} {p0 : Int32}  {r : Bool × z_I} (hf : f_X11_nightsBy I p0 = some r) : z_C layM yX11_nightsBy cX11_nightsBy 2 (some .boolean) ({ frames := 3, cells := 0, slots := 0, locals := 72 } : Room) [.ref 0, .int p0] I L (some (.int (zb r.1)), r.2, L) := by
  refine z_C.of (by decide) (Nat.le_of_ble_eq_true rfl) ?_
  show z_X layM RX11 cX11_nightsBy 2 (some .boolean) ({ frames := 3, cells := 0, slots := 0, locals := 72 } : Room) 0 [(0, .ref 0), (1, .int p0)] [] I L (some (.int (zb r.1)), r.2, L)
  unfold f_X11_nightsBy at hf
  refine x_aload_n 0 dX11_nightsBy_0 rfl rfl ?_
  refine x_getR dX11_nightsBy_1 lm_0 fl_X11_7 rfl ?_
  refine x_iconst (v := (5)) dX11_nightsBy_4 (by decide) ?_
  refine x_iald (j := 5) (v := (I 1 5)) dX11_nightsBy_5 lm_1 (by decide +kernel) (by decide +kernel) rfl ?_
  refine x_iload_n 1 dX11_nightsBy_6 rfl rfl ?_
  refine x_iadd dX11_nightsBy_7 ?_
  refine x_sipush (v := (9999)) dX11_nightsBy_8 (by decide) ?_
  refine x_icmp_le 16 dX11_nightsBy_11 (by decide) (fun hB => ?_) (fun hB => ?_)
  · replace hf := f_if hB hf
    refine x_aload_n 0 dX11_nightsBy_16 rfl rfl ?_
    refine x_iload_n 1 dX11_nightsBy_17 rfl rfl ?_
    obtain ⟨q2, hq3, hf⟩ := f_bd hf
    refine x_callVv [.int p0] (c_X11_nightsGo (I := I) (L := L)  hq3) dX11_nightsBy_18 lk_X11_356 lm_0 rfl cd_X11_nightsGo rfl rfl (Nat.le_of_ble_eq_true rfl) ⟨rfl, rfl, Nat.le_of_ble_eq_true rfl, Nat.le_of_ble_eq_true rfl⟩ ?_
    refine x_aload_n 0 dX11_nightsBy_21 rfl rfl ?_
    refine x_getR dX11_nightsBy_22 lm_0 fl_X11_83 rfl ?_
    refine x_iconst (v := (3)) dX11_nightsBy_25 (by decide) ?_
    refine x_dup2 dX11_nightsBy_26 rfl rfl ?_
    refine x_iald (j := 3) (v := (q2 21 3)) dX11_nightsBy_27 lm_21 (by decide +kernel) (by decide +kernel) rfl ?_
    refine x_iload_n 1 dX11_nightsBy_28 rfl rfl ?_
    refine x_iadd dX11_nightsBy_29 ?_
    obtain ⟨I6, hI6, hf⟩ := f_lt hf
    refine x_iast (j0 := 3) dX11_nightsBy_30 lm_21 (by decide +kernel) (by decide +kernel) hI6 ?_
    refine x_iconst (v := (1)) dX11_nightsBy_31 (by decide) ?_
    cases hf
    exact x_zret (b := true) dX11_nightsBy_32 rfl rfl
  · replace hf := f_el hB hf
    refine x_iconst (v := (0)) dX11_nightsBy_14 (by decide) ?_
    cases hf
    exact x_zret (b := false) dX11_nightsBy_15 rfl rfl
set_option maxRecDepth 100000 in
set_option maxHeartbeats 4000000 in
theorem c_X11_doesAny {I : z_I} {L : z_L}   {r : Bool × z_I} (hf : f_X11_doesAny I = some r) : z_C layM yX11_doesAny cX11_doesAny 3 (some .boolean) ({ frames := 7, cells := 0, slots := 0, locals := 157 } : Room) [.ref 0] I L (some (.int (zb r.1)), r.2, L) := by
  refine z_C.of (by decide) (Nat.le_of_ble_eq_true rfl) ?_
  show z_X layM RX11 cX11_doesAny 3 (some .boolean) ({ frames := 7, cells := 0, slots := 0, locals := 157 } : Room) 0 [(0, .ref 0)] [] I L (some (.int (zb r.1)), r.2, L)
  unfold f_X11_doesAny at hf
  refine x_aload_n 0 dX11_doesAny_0 rfl rfl ?_
  refine x_getR dX11_doesAny_1 lm_0 fl_X11_7 rfl ?_
  refine x_iconst (v := (2)) dX11_doesAny_4 (by decide) ?_
  refine x_iald (j := 2) (v := (I 1 2)) dX11_doesAny_5 lm_1 (by decide +kernel) (by decide +kernel) rfl ?_
  refine x_if_eq 18 dX11_doesAny_6 (by decide) (fun hB => ?_) (fun hB => ?_)
  · replace hf := f_if hB hf
    refine x_iconst (v := (0)) dX11_doesAny_18 (by decide) ?_
    cases hf
    exact x_zret (b := false) dX11_doesAny_19 rfl rfl
  · replace hf := f_el hB hf
    refine x_aload_n 0 dX11_doesAny_9 rfl rfl ?_
    refine x_getR dX11_doesAny_10 lm_0 fl_X11_7 rfl ?_
    refine x_iconst (v := (3)) dX11_doesAny_13 (by decide) ?_
    refine x_iald (j := 3) (v := (I 1 3)) dX11_doesAny_14 lm_1 (by decide +kernel) (by decide +kernel) rfl ?_
    refine x_if_ne 20 dX11_doesAny_15 (by decide) (fun hB => ?_) (fun hB => ?_)
    · replace hf := f_el hB hf
      refine x_aload_n 0 dX11_doesAny_20 rfl rfl ?_
      refine x_aload_n 0 dX11_doesAny_21 rfl rfl ?_
      refine x_getR dX11_doesAny_22 lm_0 fl_X11_7 rfl ?_
      refine x_iconst (v := (2)) dX11_doesAny_25 (by decide) ?_
      refine x_iald (j := 2) (v := (I 1 2)) dX11_doesAny_26 lm_1 (by decide +kernel) (by decide +kernel) rfl ?_
      obtain ⟨q4, hq5, hf⟩ := f_bd hf
      refine x_callVi [.int (I 1 2)] (c_X11_draw (I := I) (L := L)  hq5) dX11_doesAny_27 lk_X11_451 lm_0 rfl cd_X11_draw rfl rfl (Nat.le_of_ble_eq_true rfl) ⟨rfl, rfl, Nat.le_of_ble_eq_true rfl, Nat.le_of_ble_eq_true rfl⟩ ?_
      refine x_istore_n [(1, .int q4.1), (0, .ref 0)] dX11_doesAny_30 rfl (by decide) rfl ?_
      refine x_aload_n 1 dX11_doesAny_31 rfl rfl ?_
      refine x_aload_n 1 dX11_doesAny_32 rfl rfl ?_
      refine x_getR dX11_doesAny_33 lm_0 fl_X11_7 rfl ?_
      refine x_iconst (v := (3)) dX11_doesAny_36 (by decide) ?_
      refine x_iald (j := 3) (v := (q4.2 1 3)) dX11_doesAny_37 lm_1 (by decide +kernel) (by decide +kernel) rfl ?_
      obtain ⟨q7, hq8, hf⟩ := f_bd hf
      refine x_callVi [.int (q4.2 1 3)] (c_X11_draw (I := q4.2) (L := L)  hq8) dX11_doesAny_38 lk_X11_451 lm_0 rfl cd_X11_draw rfl rfl (Nat.le_of_ble_eq_true rfl) ⟨rfl, rfl, Nat.le_of_ble_eq_true rfl, Nat.le_of_ble_eq_true rfl⟩ ?_
      refine x_istore_n [(2, .int q7.1), (1, .int q4.1), (0, .ref 0)] dX11_doesAny_41 rfl (by decide) rfl ?_
      refine x_aload_n 2 dX11_doesAny_42 rfl rfl ?_
      refine x_bipush (v := (16)) dX11_doesAny_43 (by decide) ?_
      obtain ⟨q9, hq10, hf⟩ := f_bd hf
      refine x_callVi [.int (16 : Int32)] (c_X11_draw (I := q7.2) (L := L)  hq10) dX11_doesAny_45 lk_X11_451 lm_0 rfl cd_X11_draw rfl rfl (Nat.le_of_ble_eq_true rfl) ⟨rfl, rfl, Nat.le_of_ble_eq_true rfl, Nat.le_of_ble_eq_true rfl⟩ ?_
      refine x_aload_n 2 dX11_doesAny_48 rfl rfl ?_
      refine x_getR dX11_doesAny_49 lm_0 fl_X11_7 rfl ?_
      refine x_iconst (v := (4)) dX11_doesAny_52 (by decide) ?_
      refine x_iald (j := 4) (v := (q9.2 1 4)) dX11_doesAny_53 lm_1 (by decide +kernel) (by decide +kernel) rfl ?_
      refine x_icmp_ge 65 dX11_doesAny_54 (by decide) (fun hB => ?_) (fun hB => ?_)
      · replace hf := f_if hB hf
        refine x_aload_n 2 dX11_doesAny_65 rfl rfl ?_
        refine x_iload_n 0 dX11_doesAny_66 rfl rfl ?_
        obtain ⟨q12, hq13, hf⟩ := f_bd hf
        refine x_callVi [.int q7.1] (c_X11_picksBy (I := q9.2) (L := L)  hq13) dX11_doesAny_67 lk_X11_457 lm_0 rfl cd_X11_picksBy rfl rfl (Nat.le_of_ble_eq_true rfl) ⟨rfl, rfl, Nat.le_of_ble_eq_true rfl, Nat.le_of_ble_eq_true rfl⟩ ?_
        cases hf
        exact x_zret dX11_doesAny_70 rfl rfl
      · replace hf := f_el hB hf
        refine x_aload_n 2 dX11_doesAny_57 rfl rfl ?_
        refine x_iload_n 1 dX11_doesAny_58 rfl rfl ?_
        obtain ⟨q14, hq15, hf⟩ := f_bd hf
        refine x_callVi [.int q4.1] (c_X11_makesBy (I := q9.2) (L := L)  hq15) dX11_doesAny_59 lk_X11_454 lm_0 rfl cd_X11_makesBy rfl rfl (Nat.le_of_ble_eq_true rfl) ⟨rfl, rfl, Nat.le_of_ble_eq_true rfl, Nat.le_of_ble_eq_true rfl⟩ ?_
        refine x_goto 70 dX11_doesAny_62 (by decide) ?_
        cases hf
        exact x_zret dX11_doesAny_70 rfl rfl
    · replace hf := f_if hB hf
      refine x_iconst (v := (0)) dX11_doesAny_18 (by decide) ?_
      cases hf
      exact x_zret (b := false) dX11_doesAny_19 rfl rfl
set_option maxRecDepth 100000 in
set_option maxHeartbeats 4000000 in
theorem c_X11_does {I : z_I} {L : z_L} {p0 : Int32}  {r : Bool × z_I} (hf : f_X11_does I p0 = some r) : z_C layM yX11_does cX11_does 3 (some .boolean) ({ frames := 8, cells := 0, slots := 0, locals := 179 } : Room) [.ref 0, .int p0] I L (some (.int (zb r.1)), r.2, L) := by
  refine z_C.of (by decide) (Nat.le_of_ble_eq_true rfl) ?_
  show z_X layM RX11 cX11_does 3 (some .boolean) ({ frames := 8, cells := 0, slots := 0, locals := 179 } : Room) 0 [(0, .ref 0), (1, .int p0)] [] I L (some (.int (zb r.1)), r.2, L)
  unfold f_X11_does at hf
  refine x_aload_n 0 dX11_does_0 rfl rfl ?_
  refine x_getR dX11_does_1 lm_0 fl_X11_7 rfl ?_
  refine x_iload_n 1 dX11_does_4 rfl rfl ?_
  refine x_iconst (v := (1)) dX11_does_5 (by decide) ?_
  refine x_iadd dX11_does_6 ?_
  obtain ⟨h1, hf⟩ := f_gd hf
  refine x_iald (j := ((p0 + (1 : Int32))).toNatClampNeg) (v := (I 1 ((p0 + (1 : Int32))).toNatClampNeg)) dX11_does_7 lm_1 h1 rfl rfl ?_
  refine x_istore_n [(2, .int (I 1 ((p0 + (1 : Int32))).toNatClampNeg)), (0, .ref 0), (1, .int p0)] dX11_does_8 rfl (by decide) rfl ?_
  refine x_aload_n 1 dX11_does_9 rfl rfl ?_
  refine x_getR dX11_does_10 lm_0 fl_X11_7 rfl ?_
  refine x_iload_n 2 dX11_does_13 rfl rfl ?_
  obtain ⟨h2, hf⟩ := f_gd hf
  refine x_iald (j := (p0).toNatClampNeg) (v := (I 1 (p0).toNatClampNeg)) dX11_does_14 lm_1 h2 rfl rfl ?_
  by_cases hs5 : (I 1 (p0).toNatClampNeg) = (12)
  · replace hf := f_if hs5 hf
    refine x_tabIn (12) 52 dX11_does_15 hs5 (by decide) (by decide) rfl (by decide) ?_
    refine x_aload_n 1 dX11_does_52 rfl rfl ?_
    refine x_iload_n 0 dX11_does_53 rfl rfl ?_
    obtain ⟨q3, hq4, hf⟩ := f_bd hf
    refine x_callVi [.int (I 1 ((p0 + (1 : Int32))).toNatClampNeg)] (c_X11_makesBy (I := I) (L := L)  hq4) dX11_does_54 lk_X11_454 lm_0 rfl cd_X11_makesBy rfl rfl (Nat.le_of_ble_eq_true rfl) ⟨rfl, rfl, Nat.le_of_ble_eq_true rfl, Nat.le_of_ble_eq_true rfl⟩ ?_
    cases hf
    exact x_zret dX11_does_57 rfl rfl
  replace hf := f_el hs5 hf
  by_cases hs9 : (I 1 (p0).toNatClampNeg) = (13)
  · replace hf := f_if hs9 hf
    refine x_tabIn (13) 58 dX11_does_15 hs9 (by decide) (by decide) rfl (by decide) ?_
    refine x_aload_n 1 dX11_does_58 rfl rfl ?_
    refine x_iload_n 0 dX11_does_59 rfl rfl ?_
    refine x_aload_n 1 dX11_does_60 rfl rfl ?_
    refine x_getR dX11_does_61 lm_0 fl_X11_7 rfl ?_
    refine x_iload_n 2 dX11_does_64 rfl rfl ?_
    refine x_iconst (v := (2)) dX11_does_65 (by decide) ?_
    refine x_iadd dX11_does_66 ?_
    obtain ⟨h6, hf⟩ := f_gd hf
    refine x_iald (j := ((p0 + (2 : Int32))).toNatClampNeg) (v := (I 1 ((p0 + (2 : Int32))).toNatClampNeg)) dX11_does_67 lm_1 h6 rfl rfl ?_
    obtain ⟨q7, hq8, hf⟩ := f_bd hf
    refine x_callVi [.int (I 1 ((p0 + (1 : Int32))).toNatClampNeg), .int (I 1 ((p0 + (2 : Int32))).toNatClampNeg)] (c_X11_walks (I := I) (L := L)  hq8) dX11_does_68 lk_X11_342 lm_0 rfl cd_X11_walks rfl rfl (Nat.le_of_ble_eq_true rfl) ⟨rfl, rfl, Nat.le_of_ble_eq_true rfl, Nat.le_of_ble_eq_true rfl⟩ ?_
    cases hf
    exact x_zret dX11_does_71 rfl rfl
  replace hf := f_el hs9 hf
  by_cases hs12 : (I 1 (p0).toNatClampNeg) = (14)
  · replace hf := f_if hs12 hf
    refine x_tabIn (14) 72 dX11_does_15 hs12 (by decide) (by decide) rfl (by decide) ?_
    refine x_aload_n 1 dX11_does_72 rfl rfl ?_
    refine x_iload_n 0 dX11_does_73 rfl rfl ?_
    obtain ⟨q10, hq11, hf⟩ := f_bd hf
    refine x_callVi [.int (I 1 ((p0 + (1 : Int32))).toNatClampNeg)] (c_X11_picksBy (I := I) (L := L)  hq11) dX11_does_74 lk_X11_457 lm_0 rfl cd_X11_picksBy rfl rfl (Nat.le_of_ble_eq_true rfl) ⟨rfl, rfl, Nat.le_of_ble_eq_true rfl, Nat.le_of_ble_eq_true rfl⟩ ?_
    cases hf
    exact x_zret dX11_does_77 rfl rfl
  replace hf := f_el hs12 hf
  by_cases hs15 : (I 1 (p0).toNatClampNeg) = (15)
  · replace hf := f_if hs15 hf
    refine x_tabIn (15) 78 dX11_does_15 hs15 (by decide) (by decide) rfl (by decide) ?_
    refine x_aload_n 1 dX11_does_78 rfl rfl ?_
    refine x_iload_n 0 dX11_does_79 rfl rfl ?_
    obtain ⟨q13, hq14, hf⟩ := f_bd hf
    refine x_callVi [.int (I 1 ((p0 + (1 : Int32))).toNatClampNeg)] (c_X11_nightsBy (I := I) (L := L)  hq14) dX11_does_80 lk_X11_460 lm_0 rfl cd_X11_nightsBy rfl rfl (Nat.le_of_ble_eq_true rfl) ⟨rfl, rfl, Nat.le_of_ble_eq_true rfl, Nat.le_of_ble_eq_true rfl⟩ ?_
    cases hf
    exact x_zret dX11_does_83 rfl rfl
  replace hf := f_el hs15 hf
  by_cases hs18 : (I 1 (p0).toNatClampNeg) = (16)
  · replace hf := f_if hs18 hf
    refine x_tabIn (16) 84 dX11_does_15 hs18 (by decide) (by decide) rfl (by decide) ?_
    refine x_aload_n 1 dX11_does_84 rfl rfl ?_
    obtain ⟨q16, hq17, hf⟩ := f_bd hf
    refine x_callVi [] (c_X11_forgets (I := I) (L := L)  hq17) dX11_does_85 lk_X11_339 lm_0 rfl cd_X11_forgets rfl rfl (Nat.le_of_ble_eq_true rfl) ⟨rfl, rfl, Nat.le_of_ble_eq_true rfl, Nat.le_of_ble_eq_true rfl⟩ ?_
    refine x_if_le 95 dX11_does_88 (by decide) (fun hB => ?_) (fun hB => ?_)
    · replace hf := f_if hB hf
      refine x_iconst (v := (0)) dX11_does_95 (by decide) ?_
      cases hf
      exact x_zret (b := false) dX11_does_96 rfl rfl
    · replace hf := f_el hB hf
      refine x_iconst (v := (1)) dX11_does_91 (by decide) ?_
      refine x_goto 96 dX11_does_92 (by decide) ?_
      cases hf
      exact x_zret (b := true) dX11_does_96 rfl rfl
  replace hf := f_el hs18 hf
  by_cases hs21 : (I 1 (p0).toNatClampNeg) = (17)
  · replace hf := f_if hs21 hf
    refine x_tabIn (17) 97 dX11_does_15 hs21 (by decide) (by decide) rfl (by decide) ?_
    refine x_aload_n 1 dX11_does_97 rfl rfl ?_
    obtain ⟨q19, hq20, hf⟩ := f_bd hf
    refine x_callVi [] (c_X11_doesAny (I := I) (L := L)  hq20) dX11_does_98 lk_X11_463 lm_0 rfl cd_X11_doesAny rfl rfl (Nat.le_of_ble_eq_true rfl) ⟨rfl, rfl, Nat.le_of_ble_eq_true rfl, Nat.le_of_ble_eq_true rfl⟩ ?_
    cases hf
    exact x_zret dX11_does_101 rfl rfl
  replace hf := f_el hs21 hf
  refine x_tabOut 102 dX11_does_15 (by have := lv_neT (a := 12) hs5 (by decide); have := lv_neT (a := 13) hs9 (by decide); have := lv_neT (a := 14) hs12 (by decide); have := lv_neT (a := 15) hs15 (by decide); have := lv_neT (a := 16) hs18 (by decide); have := lv_neT (a := 17) hs21 (by decide); omega) (by decide) ?_
  refine x_iconst (v := (1)) dX11_does_102 (by decide) ?_
  cases hf
  exact x_zret (b := true) dX11_does_103 rfl rfl
set_option maxRecDepth 100000 in
set_option maxHeartbeats 4000000 in
theorem c_X11_holds {I : z_I} {L : z_L} {p0 : Int32}  {r : Bool} (hf : f_X11_holds I p0 = some r) : z_C layM yX11_holds cX11_holds 5 (some .boolean) ({ frames := 1, cells := 0, slots := 0, locals := 22 } : Room) [.ref 0, .int p0] I L (some (.int (zb r)), I, L) := by
  refine z_C.of (by decide) (Nat.le_of_ble_eq_true rfl) ?_
  show z_X layM RX11 cX11_holds 5 (some .boolean) ({ frames := 1, cells := 0, slots := 0, locals := 22 } : Room) 0 [(0, .ref 0), (1, .int p0)] [] I L (some (.int (zb r)), I, L)
  unfold f_X11_holds at hf
  refine x_aload_n 0 dX11_holds_0 rfl rfl ?_
  refine x_getR dX11_holds_1 lm_0 fl_X11_7 rfl ?_
  refine x_iload_n 1 dX11_holds_4 rfl rfl ?_
  obtain ⟨h1, hf⟩ := f_gd hf
  refine x_iald (j := (p0).toNatClampNeg) (v := (I 1 (p0).toNatClampNeg)) dX11_holds_5 lm_1 h1 rfl rfl ?_
  refine x_sipush (v := (1800)) dX11_holds_6 (by decide) ?_
  refine x_isub dX11_holds_9 ?_
  refine x_istore_n [(2, .int ((I 1 (p0).toNatClampNeg) - (1800 : Int32))), (0, .ref 0), (1, .int p0)] dX11_holds_10 rfl (by decide) rfl ?_
  refine x_aload_n 1 dX11_holds_11 rfl rfl ?_
  refine x_getR dX11_holds_12 lm_0 fl_X11_7 rfl ?_
  refine x_iload_n 2 dX11_holds_15 rfl rfl ?_
  refine x_iconst (v := (1)) dX11_holds_16 (by decide) ?_
  refine x_iadd dX11_holds_17 ?_
  obtain ⟨h2, hf⟩ := f_gd hf
  refine x_iald (j := ((p0 + (1 : Int32))).toNatClampNeg) (v := (I 1 ((p0 + (1 : Int32))).toNatClampNeg)) dX11_holds_18 lm_1 h2 rfl rfl ?_
  refine x_istore_n [(3, .int (I 1 ((p0 + (1 : Int32))).toNatClampNeg)), (2, .int ((I 1 (p0).toNatClampNeg) - (1800 : Int32))), (0, .ref 0), (1, .int p0)] dX11_holds_19 rfl (by decide) rfl ?_
  refine x_iload_n 1 dX11_holds_20 rfl rfl ?_
  refine x_bipush (v := (22)) dX11_holds_21 (by decide) ?_
  refine x_icmp_ne 39 dX11_holds_23 (by decide) (fun hB => ?_) (fun hB => ?_)
  · replace hf := f_el hB hf
    refine x_iload_n 1 dX11_holds_39 rfl rfl ?_
    refine x_iconst (v := (5)) dX11_holds_40 (by decide) ?_
    refine x_icmp_ne 56 dX11_holds_41 (by decide) (fun hB => ?_) (fun hB => ?_)
    · replace hf := f_el hB hf
      refine x_aload_n 2 dX11_holds_56 rfl rfl ?_
      refine x_getR dX11_holds_57 lm_0 fl_X11_7 rfl ?_
      refine x_iload_n 0 dX11_holds_60 rfl rfl ?_
      refine x_callSi [.int (I 1 ((p0 + (1 : Int32))).toNatClampNeg)] (c_X11_scholarRow (I := I) (L := L) (I 1 ((p0 + (1 : Int32))).toNatClampNeg)) dX11_holds_61 lk_X11_242 cd_X11_scholarRow rfl rfl (Nat.le_of_ble_eq_true rfl) ⟨rfl, rfl, Nat.le_of_ble_eq_true rfl, Nat.le_of_ble_eq_true rfl⟩ ?_
      refine x_iconst (v := (1)) dX11_holds_64 (by decide) ?_
      refine x_iadd dX11_holds_65 ?_
      obtain ⟨h11, hf⟩ := f_gd hf
      refine x_iald (j := (((f_X11_scholarRow (I 1 ((p0 + (1 : Int32))).toNatClampNeg)) + (1 : Int32))).toNatClampNeg) (v := (I 1 (((f_X11_scholarRow (I 1 ((p0 + (1 : Int32))).toNatClampNeg)) + (1 : Int32))).toNatClampNeg)) dX11_holds_66 lm_1 h11 rfl rfl ?_
      obtain ⟨w12, hw12, hf⟩ := f_lt hf
      refine x_topI hw12 ?_
      refine x_istore [(4, .int w12), (3, .int (I 1 ((p0 + (1 : Int32))).toNatClampNeg)), (2, .int ((I 1 (p0).toNatClampNeg) - (1800 : Int32))), (0, .ref 0), (1, .int p0)] dX11_holds_67 (by decide) rfl ?_
      refine x_aload_n 3 dX11_holds_69 rfl rfl ?_
      refine x_getR dX11_holds_70 lm_0 fl_X11_7 rfl ?_
      refine x_iload_n 4 dX11_holds_73 rfl rfl ?_
      refine x_iconst (v := (5)) dX11_holds_74 (by decide) ?_
      refine x_iadd dX11_holds_75 ?_
      obtain ⟨h13, hf⟩ := f_gd hf
      refine x_iald (j := ((p0 + (5 : Int32))).toNatClampNeg) (v := (I 1 ((p0 + (5 : Int32))).toNatClampNeg)) dX11_holds_76 lm_1 h13 rfl rfl ?_
      refine x_bipush (v := (60)) dX11_holds_77 (by decide) ?_
      refine x_icmp_ne 103 dX11_holds_79 (by decide) (fun hB => ?_) (fun hB => ?_)
      · replace hf := f_el hB hf
        refine x_aload_n 3 dX11_holds_103 rfl rfl ?_
        refine x_getR dX11_holds_104 lm_0 fl_X11_7 rfl ?_
        refine x_iload_n 4 dX11_holds_107 rfl rfl ?_
        refine x_iconst (v := (5)) dX11_holds_108 (by decide) ?_
        refine x_iadd dX11_holds_109 ?_
        refine x_iald (j := ((p0 + (5 : Int32))).toNatClampNeg) (v := (I 1 ((p0 + (5 : Int32))).toNatClampNeg)) dX11_holds_110 lm_1 h13 rfl rfl ?_
        refine x_bipush (v := (62)) dX11_holds_111 (by decide) ?_
        refine x_icmp_ne 137 dX11_holds_113 (by decide) (fun hB => ?_) (fun hB => ?_)
        · replace hf := f_el hB hf
          refine x_iload 0 dX11_holds_137 rfl ?_
          refine x_aload_n 3 dX11_holds_139 rfl rfl ?_
          refine x_getR dX11_holds_140 lm_0 fl_X11_7 rfl ?_
          refine x_iload_n 4 dX11_holds_143 rfl rfl ?_
          refine x_iconst (v := (2)) dX11_holds_144 (by decide) ?_
          refine x_iadd dX11_holds_145 ?_
          obtain ⟨h17, hf⟩ := f_gd hf
          refine x_iald (j := ((p0 + (2 : Int32))).toNatClampNeg) (v := (I 1 ((p0 + (2 : Int32))).toNatClampNeg)) dX11_holds_146 lm_1 h17 rfl rfl ?_
          refine x_icmp_ne 154 dX11_holds_147 (by decide) (fun hB => ?_) (fun hB => ?_)
          · replace hf := f_el hB hf
            refine x_iconst (v := (0)) dX11_holds_154 (by decide) ?_
            cases hf
            exact x_zret (b := false) dX11_holds_155 rfl rfl
          · replace hf := f_if hB hf
            refine x_iconst (v := (1)) dX11_holds_150 (by decide) ?_
            refine x_goto 155 dX11_holds_151 (by decide) ?_
            cases hf
            exact x_zret (b := true) dX11_holds_155 rfl rfl
        · replace hf := f_if hB hf
          refine x_iload 0 dX11_holds_116 rfl ?_
          refine x_aload_n 3 dX11_holds_118 rfl rfl ?_
          refine x_getR dX11_holds_119 lm_0 fl_X11_7 rfl ?_
          refine x_iload_n 4 dX11_holds_122 rfl rfl ?_
          refine x_iconst (v := (2)) dX11_holds_123 (by decide) ?_
          refine x_iadd dX11_holds_124 ?_
          obtain ⟨h16, hf⟩ := f_gd hf
          refine x_iald (j := ((p0 + (2 : Int32))).toNatClampNeg) (v := (I 1 ((p0 + (2 : Int32))).toNatClampNeg)) dX11_holds_125 lm_1 h16 rfl rfl ?_
          refine x_icmp_le 133 dX11_holds_126 (by decide) (fun hB => ?_) (fun hB => ?_)
          · replace hf := f_if hB hf
            refine x_iconst (v := (0)) dX11_holds_133 (by decide) ?_
            refine x_goto 155 dX11_holds_134 (by decide) ?_
            cases hf
            exact x_zret (b := false) dX11_holds_155 rfl rfl
          · replace hf := f_el hB hf
            refine x_iconst (v := (1)) dX11_holds_129 (by decide) ?_
            refine x_goto 155 dX11_holds_130 (by decide) ?_
            cases hf
            exact x_zret (b := true) dX11_holds_155 rfl rfl
      · replace hf := f_if hB hf
        refine x_iload 0 dX11_holds_82 rfl ?_
        refine x_aload_n 3 dX11_holds_84 rfl rfl ?_
        refine x_getR dX11_holds_85 lm_0 fl_X11_7 rfl ?_
        refine x_iload_n 4 dX11_holds_88 rfl rfl ?_
        refine x_iconst (v := (2)) dX11_holds_89 (by decide) ?_
        refine x_iadd dX11_holds_90 ?_
        obtain ⟨h14, hf⟩ := f_gd hf
        refine x_iald (j := ((p0 + (2 : Int32))).toNatClampNeg) (v := (I 1 ((p0 + (2 : Int32))).toNatClampNeg)) dX11_holds_91 lm_1 h14 rfl rfl ?_
        refine x_icmp_ge 99 dX11_holds_92 (by decide) (fun hB => ?_) (fun hB => ?_)
        · replace hf := f_if hB hf
          refine x_iconst (v := (0)) dX11_holds_99 (by decide) ?_
          refine x_goto 155 dX11_holds_100 (by decide) ?_
          cases hf
          exact x_zret (b := false) dX11_holds_155 rfl rfl
        · replace hf := f_el hB hf
          refine x_iconst (v := (1)) dX11_holds_95 (by decide) ?_
          refine x_goto 155 dX11_holds_96 (by decide) ?_
          cases hf
          exact x_zret (b := true) dX11_holds_155 rfl rfl
    · replace hf := f_if hB hf
      refine x_aload_n 2 dX11_holds_44 rfl rfl ?_
      refine x_getR dX11_holds_45 lm_0 fl_X11_7 rfl ?_
      refine x_iload_n 0 dX11_holds_48 rfl rfl ?_
      refine x_callSi [.int (I 1 ((p0 + (1 : Int32))).toNatClampNeg)] (c_X11_bedRow (I := I) (L := L) (I 1 ((p0 + (1 : Int32))).toNatClampNeg)) dX11_holds_49 lk_X11_216 cd_X11_bedRow rfl rfl (Nat.le_of_ble_eq_true rfl) ⟨rfl, rfl, Nat.le_of_ble_eq_true rfl, Nat.le_of_ble_eq_true rfl⟩ ?_
      obtain ⟨h4, hf⟩ := f_gd hf
      refine x_iald (j := ((f_X11_bedRow (I 1 ((p0 + (1 : Int32))).toNatClampNeg))).toNatClampNeg) (v := (I 1 ((f_X11_bedRow (I 1 ((p0 + (1 : Int32))).toNatClampNeg))).toNatClampNeg)) dX11_holds_52 lm_1 h4 rfl rfl ?_
      refine x_goto 67 dX11_holds_53 (by decide) ?_
      obtain ⟨w5, hw5, hf⟩ := f_lt hf
      refine x_topI hw5 ?_
      refine x_istore [(4, .int w5), (3, .int (I 1 ((p0 + (1 : Int32))).toNatClampNeg)), (2, .int ((I 1 (p0).toNatClampNeg) - (1800 : Int32))), (0, .ref 0), (1, .int p0)] dX11_holds_67 (by decide) rfl ?_
      refine x_aload_n 3 dX11_holds_69 rfl rfl ?_
      refine x_getR dX11_holds_70 lm_0 fl_X11_7 rfl ?_
      refine x_iload_n 4 dX11_holds_73 rfl rfl ?_
      refine x_iconst (v := (5)) dX11_holds_74 (by decide) ?_
      refine x_iadd dX11_holds_75 ?_
      obtain ⟨h6, hf⟩ := f_gd hf
      refine x_iald (j := ((p0 + (5 : Int32))).toNatClampNeg) (v := (I 1 ((p0 + (5 : Int32))).toNatClampNeg)) dX11_holds_76 lm_1 h6 rfl rfl ?_
      refine x_bipush (v := (60)) dX11_holds_77 (by decide) ?_
      refine x_icmp_ne 103 dX11_holds_79 (by decide) (fun hB => ?_) (fun hB => ?_)
      · replace hf := f_el hB hf
        refine x_aload_n 3 dX11_holds_103 rfl rfl ?_
        refine x_getR dX11_holds_104 lm_0 fl_X11_7 rfl ?_
        refine x_iload_n 4 dX11_holds_107 rfl rfl ?_
        refine x_iconst (v := (5)) dX11_holds_108 (by decide) ?_
        refine x_iadd dX11_holds_109 ?_
        refine x_iald (j := ((p0 + (5 : Int32))).toNatClampNeg) (v := (I 1 ((p0 + (5 : Int32))).toNatClampNeg)) dX11_holds_110 lm_1 h6 rfl rfl ?_
        refine x_bipush (v := (62)) dX11_holds_111 (by decide) ?_
        refine x_icmp_ne 137 dX11_holds_113 (by decide) (fun hB => ?_) (fun hB => ?_)
        · replace hf := f_el hB hf
          refine x_iload 0 dX11_holds_137 rfl ?_
          refine x_aload_n 3 dX11_holds_139 rfl rfl ?_
          refine x_getR dX11_holds_140 lm_0 fl_X11_7 rfl ?_
          refine x_iload_n 4 dX11_holds_143 rfl rfl ?_
          refine x_iconst (v := (2)) dX11_holds_144 (by decide) ?_
          refine x_iadd dX11_holds_145 ?_
          obtain ⟨h10, hf⟩ := f_gd hf
          refine x_iald (j := ((p0 + (2 : Int32))).toNatClampNeg) (v := (I 1 ((p0 + (2 : Int32))).toNatClampNeg)) dX11_holds_146 lm_1 h10 rfl rfl ?_
          refine x_icmp_ne 154 dX11_holds_147 (by decide) (fun hB => ?_) (fun hB => ?_)
          · replace hf := f_el hB hf
            refine x_iconst (v := (0)) dX11_holds_154 (by decide) ?_
            cases hf
            exact x_zret (b := false) dX11_holds_155 rfl rfl
          · replace hf := f_if hB hf
            refine x_iconst (v := (1)) dX11_holds_150 (by decide) ?_
            refine x_goto 155 dX11_holds_151 (by decide) ?_
            cases hf
            exact x_zret (b := true) dX11_holds_155 rfl rfl
        · replace hf := f_if hB hf
          refine x_iload 0 dX11_holds_116 rfl ?_
          refine x_aload_n 3 dX11_holds_118 rfl rfl ?_
          refine x_getR dX11_holds_119 lm_0 fl_X11_7 rfl ?_
          refine x_iload_n 4 dX11_holds_122 rfl rfl ?_
          refine x_iconst (v := (2)) dX11_holds_123 (by decide) ?_
          refine x_iadd dX11_holds_124 ?_
          obtain ⟨h9, hf⟩ := f_gd hf
          refine x_iald (j := ((p0 + (2 : Int32))).toNatClampNeg) (v := (I 1 ((p0 + (2 : Int32))).toNatClampNeg)) dX11_holds_125 lm_1 h9 rfl rfl ?_
          refine x_icmp_le 133 dX11_holds_126 (by decide) (fun hB => ?_) (fun hB => ?_)
          · replace hf := f_if hB hf
            refine x_iconst (v := (0)) dX11_holds_133 (by decide) ?_
            refine x_goto 155 dX11_holds_134 (by decide) ?_
            cases hf
            exact x_zret (b := false) dX11_holds_155 rfl rfl
          · replace hf := f_el hB hf
            refine x_iconst (v := (1)) dX11_holds_129 (by decide) ?_
            refine x_goto 155 dX11_holds_130 (by decide) ?_
            cases hf
            exact x_zret (b := true) dX11_holds_155 rfl rfl
      · replace hf := f_if hB hf
        refine x_iload 0 dX11_holds_82 rfl ?_
        refine x_aload_n 3 dX11_holds_84 rfl rfl ?_
        refine x_getR dX11_holds_85 lm_0 fl_X11_7 rfl ?_
        refine x_iload_n 4 dX11_holds_88 rfl rfl ?_
        refine x_iconst (v := (2)) dX11_holds_89 (by decide) ?_
        refine x_iadd dX11_holds_90 ?_
        obtain ⟨h7, hf⟩ := f_gd hf
        refine x_iald (j := ((p0 + (2 : Int32))).toNatClampNeg) (v := (I 1 ((p0 + (2 : Int32))).toNatClampNeg)) dX11_holds_91 lm_1 h7 rfl rfl ?_
        refine x_icmp_ge 99 dX11_holds_92 (by decide) (fun hB => ?_) (fun hB => ?_)
        · replace hf := f_if hB hf
          refine x_iconst (v := (0)) dX11_holds_99 (by decide) ?_
          refine x_goto 155 dX11_holds_100 (by decide) ?_
          cases hf
          exact x_zret (b := false) dX11_holds_155 rfl rfl
        · replace hf := f_el hB hf
          refine x_iconst (v := (1)) dX11_holds_95 (by decide) ?_
          refine x_goto 155 dX11_holds_96 (by decide) ?_
          cases hf
          exact x_zret (b := true) dX11_holds_155 rfl rfl
  · replace hf := f_if hB hf
    refine x_aload_n 2 dX11_holds_26 rfl rfl ?_
    refine x_aload_n 2 dX11_holds_27 rfl rfl ?_
    refine x_getR dX11_holds_28 lm_0 fl_X11_7 rfl ?_
    refine x_bipush (v := (6)) dX11_holds_31 (by decide) ?_
    refine x_iald (j := 6) (v := (I 1 6)) dX11_holds_33 lm_1 (by decide +kernel) (by decide +kernel) rfl ?_
    refine x_iload_n 0 dX11_holds_34 rfl rfl ?_
    refine x_callVi [.int (I 1 6), .int (I 1 ((p0 + (1 : Int32))).toNatClampNeg)] (c_X11_isIn (I := I) (L := L) (I 1 6) (I 1 ((p0 + (1 : Int32))).toNatClampNeg)) dX11_holds_35 lk_X11_236 lm_0 rfl cd_X11_isIn rfl rfl (Nat.le_of_ble_eq_true rfl) ⟨rfl, rfl, Nat.le_of_ble_eq_true rfl, Nat.le_of_ble_eq_true rfl⟩ ?_
    cases hf
    exact x_zret dX11_holds_38 rfl rfl
set_option maxRecDepth 100000 in
set_option maxHeartbeats 4000000 in
theorem l_X11_behindEnds_2    (L : z_L) {r : Int32 × z_I}  : ∀ (n : Nat) (v2 : Int32) (I : z_I), g_X11_behindEnds_2   n v2 I = some r → z_X layM RX11 cX11_behindEnds 5 (some .int) ({ frames := 0, cells := 0, slots := 0, locals := 0 } : Room) 2 [(0, .ref 0), (2, .int v2)] [] I L (some (.int r.1), r.2, L) := by
  intro n
  induction n with
  | zero => intro v2 I hf; cases hf
  | succ n ih =>
    intro v2 I hf
    rw [g_X11_behindEnds_2] at hf
    refine x_iload_n 1 dX11_behindEnds_2 rfl rfl ?_
    refine x_aload_n 0 dX11_behindEnds_3 rfl rfl ?_
    refine x_getR dX11_behindEnds_4 lm_0 fl_X11_7 rfl ?_
    refine x_bipush (v := (7)) dX11_behindEnds_7 (by decide) ?_
    refine x_iald (j := 7) (v := (I 1 7)) dX11_behindEnds_9 lm_1 (by decide +kernel) (by decide +kernel) rfl ?_
    refine x_icmp_ge 115 dX11_behindEnds_10 (by decide) (fun hB => ?_) (fun hB => ?_)
    · replace hf := f_if hB hf
      refine x_iload_n 1 dX11_behindEnds_115 rfl rfl ?_
      cases hf
      exact x_iret dX11_behindEnds_116 rfl rfl
    · replace hf := f_el hB hf
      refine x_aload_n 0 dX11_behindEnds_13 rfl rfl ?_
      refine x_getR dX11_behindEnds_14 lm_0 fl_X11_7 rfl ?_
      refine x_bipush (v := (60)) dX11_behindEnds_17 (by decide) ?_
      refine x_bipush (v := (6)) dX11_behindEnds_19 (by decide) ?_
      refine x_iload_n 1 dX11_behindEnds_21 rfl rfl ?_
      refine x_imul dX11_behindEnds_22 ?_
      refine x_iadd dX11_behindEnds_23 ?_
      obtain ⟨h2, hf⟩ := f_gd hf
      refine x_iald (j := (((60 : Int32) + ((6 : Int32) * v2))).toNatClampNeg) (v := (I 1 (((60 : Int32) + ((6 : Int32) * v2))).toNatClampNeg)) dX11_behindEnds_24 lm_1 h2 rfl rfl ?_
      refine x_bipush (v := (20)) dX11_behindEnds_25 (by decide) ?_
      refine x_icmp_ne 115 dX11_behindEnds_27 (by decide) (fun hB => ?_) (fun hB => ?_)
      · replace hf := f_el hB hf
        refine x_iload_n 1 dX11_behindEnds_115 rfl rfl ?_
        cases hf
        exact x_iret dX11_behindEnds_116 rfl rfl
      · replace hf := f_if hB hf
        refine x_aload_n 0 dX11_behindEnds_30 rfl rfl ?_
        refine x_getR dX11_behindEnds_31 lm_0 fl_X11_7 rfl ?_
        refine x_bipush (v := (60)) dX11_behindEnds_34 (by decide) ?_
        refine x_bipush (v := (6)) dX11_behindEnds_36 (by decide) ?_
        refine x_iload_n 1 dX11_behindEnds_38 rfl rfl ?_
        refine x_imul dX11_behindEnds_39 ?_
        refine x_iadd dX11_behindEnds_40 ?_
        refine x_iconst (v := (4)) dX11_behindEnds_41 (by decide) ?_
        refine x_iadd dX11_behindEnds_42 ?_
        obtain ⟨h3, hf⟩ := f_gd hf
        refine x_iald (j := ((((60 : Int32) + ((6 : Int32) * v2)) + (4 : Int32))).toNatClampNeg) (v := (I 1 ((((60 : Int32) + ((6 : Int32) * v2)) + (4 : Int32))).toNatClampNeg)) dX11_behindEnds_43 lm_1 h3 rfl rfl ?_
        obtain ⟨w4, hw4, hf⟩ := f_lt hf
        refine x_topI hw4 ?_
        refine x_istore_n [(3, .int w4), (0, .ref 0), (2, .int v2)] dX11_behindEnds_44 rfl (by decide) rfl ?_
        refine x_aload_n 1 dX11_behindEnds_45 rfl rfl ?_
        refine x_getR dX11_behindEnds_46 lm_0 fl_X11_7 rfl ?_
        refine x_bipush (v := (60)) dX11_behindEnds_49 (by decide) ?_
        refine x_bipush (v := (6)) dX11_behindEnds_51 (by decide) ?_
        refine x_iload_n 0 dX11_behindEnds_53 rfl rfl ?_
        refine x_imul dX11_behindEnds_54 ?_
        refine x_iadd dX11_behindEnds_55 ?_
        obtain ⟨h5, hf⟩ := f_gd hf
        refine x_iald (j := (((60 : Int32) + ((6 : Int32) * w4))).toNatClampNeg) (v := (I 1 (((60 : Int32) + ((6 : Int32) * w4))).toNatClampNeg)) dX11_behindEnds_56 lm_1 h5 rfl rfl ?_
        refine x_bipush (v := (19)) dX11_behindEnds_57 (by decide) ?_
        refine x_icmp_ne 75 dX11_behindEnds_59 (by decide) (fun hB => ?_) (fun hB => ?_)
        · replace hf := f_el hB hf
          refine x_iconst (v := (0)) dX11_behindEnds_75 (by decide) ?_
          refine x_istore [(4, .int (0 : Int32)), (3, .int w4), (0, .ref 0), (2, .int v2)] dX11_behindEnds_76 (by decide) rfl ?_
          refine x_aload_n 2 dX11_behindEnds_78 rfl rfl ?_
          refine x_getR dX11_behindEnds_79 lm_0 fl_X11_80 rfl ?_
          refine x_iload_n 1 dX11_behindEnds_82 rfl rfl ?_
          refine x_dup2 dX11_behindEnds_83 rfl rfl ?_
          obtain ⟨h13, hf⟩ := f_gd hf
          refine x_iald (j := (w4).toNatClampNeg) (v := (I 20 (w4).toNatClampNeg)) dX11_behindEnds_84 lm_20 h13 rfl rfl ?_
          refine x_iload 0 dX11_behindEnds_85 rfl ?_
          refine x_if_eq 94 dX11_behindEnds_87 (by decide) (fun _ => ?_) (fun h => absurd h (by decide))
          refine x_iconst (v := (0)) dX11_behindEnds_94 (by decide) ?_
          refine x_isub dX11_behindEnds_95 ?_
          obtain ⟨I15, hI15, hf⟩ := f_lt hf
          refine x_iast (j0 := (w4).toNatClampNeg) dX11_behindEnds_96 lm_20 h13 rfl hI15 ?_
          refine x_iload 0 dX11_behindEnds_97 rfl ?_
          refine x_if_eq 108 dX11_behindEnds_99 (by decide) (fun _ => ?_) (fun h => absurd h (by decide))
          refine x_iload_n 3 dX11_behindEnds_108 rfl rfl ?_
          refine x_iconst (v := (1)) dX11_behindEnds_109 (by decide) ?_
          refine x_iadd dX11_behindEnds_110 ?_
          refine x_istore_n [(2, .int (v2 + (1 : Int32))), (4, .int (0 : Int32)), (3, .int w4), (0, .ref 0)] dX11_behindEnds_111 rfl (by decide) rfl ?_
          refine x_goto 2 dX11_behindEnds_112 (by decide) ?_
          refine x_lv [(0, .ref 0), (2, .int (v2 + (1 : Int32)))] [3, 0] rfl ?_
          exact ih _ _ hf
        · replace hf := f_if hB hf
          refine x_aload_n 1 dX11_behindEnds_62 rfl rfl ?_
          refine x_getR dX11_behindEnds_63 lm_0 fl_X11_80 rfl ?_
          refine x_iload_n 0 dX11_behindEnds_66 rfl rfl ?_
          obtain ⟨h6, hf⟩ := f_gd hf
          refine x_iald (j := (w4).toNatClampNeg) (v := (I 20 (w4).toNatClampNeg)) dX11_behindEnds_67 lm_20 h6 rfl rfl ?_
          refine x_if_le 75 dX11_behindEnds_68 (by decide) (fun hB => ?_) (fun hB => ?_)
          · replace hf := f_if hB hf
            refine x_iconst (v := (0)) dX11_behindEnds_75 (by decide) ?_
            refine x_istore [(4, .int (0 : Int32)), (3, .int w4), (0, .ref 0), (2, .int v2)] dX11_behindEnds_76 (by decide) rfl ?_
            refine x_aload_n 2 dX11_behindEnds_78 rfl rfl ?_
            refine x_getR dX11_behindEnds_79 lm_0 fl_X11_80 rfl ?_
            refine x_iload_n 1 dX11_behindEnds_82 rfl rfl ?_
            refine x_dup2 dX11_behindEnds_83 rfl rfl ?_
            refine x_iald (j := (w4).toNatClampNeg) (v := (I 20 (w4).toNatClampNeg)) dX11_behindEnds_84 lm_20 h6 rfl rfl ?_
            refine x_iload 0 dX11_behindEnds_85 rfl ?_
            refine x_if_eq 94 dX11_behindEnds_87 (by decide) (fun _ => ?_) (fun h => absurd h (by decide))
            refine x_iconst (v := (0)) dX11_behindEnds_94 (by decide) ?_
            refine x_isub dX11_behindEnds_95 ?_
            obtain ⟨I9, hI9, hf⟩ := f_lt hf
            refine x_iast (j0 := (w4).toNatClampNeg) dX11_behindEnds_96 lm_20 h6 rfl hI9 ?_
            refine x_iload 0 dX11_behindEnds_97 rfl ?_
            refine x_if_eq 108 dX11_behindEnds_99 (by decide) (fun _ => ?_) (fun h => absurd h (by decide))
            refine x_iload_n 3 dX11_behindEnds_108 rfl rfl ?_
            refine x_iconst (v := (1)) dX11_behindEnds_109 (by decide) ?_
            refine x_iadd dX11_behindEnds_110 ?_
            refine x_istore_n [(2, .int (v2 + (1 : Int32))), (4, .int (0 : Int32)), (3, .int w4), (0, .ref 0)] dX11_behindEnds_111 rfl (by decide) rfl ?_
            refine x_goto 2 dX11_behindEnds_112 (by decide) ?_
            refine x_lv [(0, .ref 0), (2, .int (v2 + (1 : Int32)))] [3, 0] rfl ?_
            exact ih _ _ hf
          · replace hf := f_el hB hf
            refine x_iconst (v := (1)) dX11_behindEnds_71 (by decide) ?_
            refine x_goto 76 dX11_behindEnds_72 (by decide) ?_
            refine x_istore [(4, .int (1 : Int32)), (3, .int w4), (0, .ref 0), (2, .int v2)] dX11_behindEnds_76 (by decide) rfl ?_
            refine x_aload_n 2 dX11_behindEnds_78 rfl rfl ?_
            refine x_getR dX11_behindEnds_79 lm_0 fl_X11_80 rfl ?_
            refine x_iload_n 1 dX11_behindEnds_82 rfl rfl ?_
            refine x_dup2 dX11_behindEnds_83 rfl rfl ?_
            refine x_iald (j := (w4).toNatClampNeg) (v := (I 20 (w4).toNatClampNeg)) dX11_behindEnds_84 lm_20 h6 rfl rfl ?_
            refine x_iload 0 dX11_behindEnds_85 rfl ?_
            refine x_if_eq 94 dX11_behindEnds_87 (by decide) (fun h => absurd h (by decide)) (fun _ => ?_)
            refine x_iconst (v := (1)) dX11_behindEnds_90 (by decide) ?_
            refine x_goto 95 dX11_behindEnds_91 (by decide) ?_
            refine x_isub dX11_behindEnds_95 ?_
            obtain ⟨I12, hI12, hf⟩ := f_lt hf
            refine x_iast (j0 := (w4).toNatClampNeg) dX11_behindEnds_96 lm_20 h6 rfl hI12 ?_
            refine x_iload 0 dX11_behindEnds_97 rfl ?_
            refine x_if_eq 108 dX11_behindEnds_99 (by decide) (fun h => absurd h (by decide)) (fun _ => ?_)
            refine x_iload_n 1 dX11_behindEnds_102 rfl rfl ?_
            refine x_iconst (v := (1)) dX11_behindEnds_103 (by decide) ?_
            refine x_iadd dX11_behindEnds_104 ?_
            refine x_goto 111 dX11_behindEnds_105 (by decide) ?_
            refine x_istore_n [(2, .int (w4 + (1 : Int32))), (4, .int (1 : Int32)), (3, .int w4), (0, .ref 0)] dX11_behindEnds_111 rfl (by decide) rfl ?_
            refine x_goto 2 dX11_behindEnds_112 (by decide) ?_
            refine x_lv [(0, .ref 0), (2, .int (w4 + (1 : Int32)))] [3, 0] rfl ?_
            exact ih _ _ hf
set_option maxRecDepth 100000 in
set_option maxHeartbeats 4000000 in
theorem c_X11_behindEnds {I : z_I} {L : z_L} {p0 : Int32}  {r : Int32 × z_I} (hf : f_X11_behindEnds I p0 = some r) : z_C layM yX11_behindEnds cX11_behindEnds 5 (some .int) ({ frames := 0, cells := 0, slots := 0, locals := 0 } : Room) [.ref 0, .int p0] I L (some (.int r.1), r.2, L) := by
  refine z_C.of (by decide) (Nat.le_of_ble_eq_true rfl) ?_
  show z_X layM RX11 cX11_behindEnds 5 (some .int) ({ frames := 0, cells := 0, slots := 0, locals := 0 } : Room) 0 [(0, .ref 0), (1, .int p0)] [] I L (some (.int r.1), r.2, L)
  unfold f_X11_behindEnds at hf
  refine x_iload_n 1 dX11_behindEnds_0 rfl rfl ?_
  refine x_istore_n [(2, .int p0), (0, .ref 0), (1, .int p0)] dX11_behindEnds_1 rfl (by decide) rfl ?_
  refine x_lv [(0, .ref 0), (2, .int p0)] [1, 0] rfl ?_
  refine l_X11_behindEnds_2 (L)   _ _ _ hf
set_option maxRecDepth 100000 in
set_option maxHeartbeats 4000000 in
theorem l_X11_lives_12    (L : z_L) {r : z_I} (k30 : z_I → Option (z_I)) (hk30 : ∀ (I : z_I), k30 I = some r → z_X layM RX11 cX11_lives 4 (none) ({ frames := 9, cells := 0, slots := 0, locals := 201 } : Room) 30 [(0, .ref 0)] [] I L (none, r, L)) : ∀ (n : Nat) (v2 : Int32) (I : z_I), g_X11_lives_12  k30 n v2 I = some r → z_X layM RX11 cX11_lives 4 (none) ({ frames := 9, cells := 0, slots := 0, locals := 201 } : Room) 12 [(0, .ref 0), (2, .int v2)] [] I L (none, r, L) := by
  intro n
  induction n with
  | zero => intro v2 I hf; cases hf
  | succ n ih =>
    intro v2 I hf
    rw [g_X11_lives_12] at hf
    refine x_iload_n 1 dX11_lives_12 rfl rfl ?_
    refine x_iconst (v := (5)) dX11_lives_13 (by decide) ?_
    refine x_icmp_ge 30 dX11_lives_14 (by decide) (fun hB => ?_) (fun hB => ?_)
    · replace hf := f_if hB hf
      refine x_lv [(0, .ref 0)] [0] rfl ?_
      exact hk30 _ hf
    · replace hf := f_el hB hf
      refine x_aload_n 0 dX11_lives_17 rfl rfl ?_
      refine x_getR dX11_lives_18 lm_0 fl_X11_83 rfl ?_
      refine x_iload_n 1 dX11_lives_21 rfl rfl ?_
      refine x_iconst (v := (0)) dX11_lives_22 (by decide) ?_
      obtain ⟨h3, hf⟩ := f_gd hf
      obtain ⟨I4, hI4, hf⟩ := f_lt hf
      refine x_iast (j0 := (v2).toNatClampNeg) dX11_lives_23 lm_21 h3 rfl hI4 ?_
      refine x_iinc 1 [(2, .int (v2 + (1 : Int32))), (0, .ref 0)] dX11_lives_24 rfl rfl (by decide) rfl ?_
      refine x_goto 12 dX11_lives_27 (by decide) ?_
      refine x_lv [(0, .ref 0), (2, .int (v2 + (1 : Int32)))] [1, 0] rfl ?_
      exact ih _ _ hf
set_option maxRecDepth 100000 in
set_option maxHeartbeats 4000000 in
theorem l_X11_lives_32    (L : z_L) {r : z_I}  : ∀ (n : Nat) (v2 : Int32) (I : z_I), g_X11_lives_32   n v2 I = some r → z_X layM RX11 cX11_lives 4 (none) ({ frames := 9, cells := 0, slots := 0, locals := 201 } : Room) 32 [(0, .ref 0), (2, .int v2)] [] I L (none, r, L) := by
  intro n
  induction n with
  | zero => intro v2 I hf; cases hf
  | succ n ih =>
    intro v2 I hf
    rw [g_X11_lives_32] at hf
    refine x_iload_n 1 dX11_lives_32 rfl rfl ?_
    refine x_aload_n 0 dX11_lives_33 rfl rfl ?_
    refine x_getR dX11_lives_34 lm_0 fl_X11_7 rfl ?_
    refine x_bipush (v := (7)) dX11_lives_37 (by decide) ?_
    refine x_iald (j := 7) (v := (I 1 7)) dX11_lives_39 lm_1 (by decide +kernel) (by decide +kernel) rfl ?_
    refine x_icmp_ge 184 dX11_lives_40 (by decide) (fun hB => ?_) (fun hB => ?_)
    · replace hf := f_if hB hf
      cases hf
      exact x_vret dX11_lives_184 rfl rfl
    · replace hf := f_el hB hf
      refine x_aload_n 0 dX11_lives_43 rfl rfl ?_
      refine x_getI (v := (I 0 40)) dX11_lives_44 lm_0 fl_X11_466 rfl rfl ?_
      refine x_sipush (v := (300)) dX11_lives_47 (by decide) ?_
      refine x_icmp_ne 61 dX11_lives_50 (by decide) (fun hB => ?_) (fun hB => ?_)
      · replace hf := f_el hB hf
        refine x_bipush (v := (60)) dX11_lives_61 (by decide) ?_
        refine x_bipush (v := (6)) dX11_lives_63 (by decide) ?_
        refine x_iload_n 1 dX11_lives_65 rfl rfl ?_
        refine x_imul dX11_lives_66 ?_
        refine x_iadd dX11_lives_67 ?_
        refine x_istore_n [(3, .int ((60 : Int32) + ((6 : Int32) * v2))), (0, .ref 0), (2, .int v2)] dX11_lives_68 rfl (by decide) rfl ?_
        refine x_aload_n 1 dX11_lives_69 rfl rfl ?_
        refine x_dup dX11_lives_70 rfl ?_
        refine x_getI (v := (I 0 40)) dX11_lives_71 lm_0 fl_X11_466 rfl rfl ?_
        refine x_iconst (v := (1)) dX11_lives_74 (by decide) ?_
        refine x_iadd dX11_lives_75 ?_
        obtain ⟨I9, hI9, hf⟩ := f_lt hf
        refine x_putI dX11_lives_76 lm_0 fl_X11_466 rfl rfl rfl hI9 ?_
        refine x_aload_n 1 dX11_lives_79 rfl rfl ?_
        refine x_getR dX11_lives_80 lm_0 fl_X11_7 rfl ?_
        refine x_iload_n 0 dX11_lives_83 rfl rfl ?_
        obtain ⟨h10, hf⟩ := f_gd hf
        refine x_iald (j := (((60 : Int32) + ((6 : Int32) * v2))).toNatClampNeg) (v := (I 1 (((60 : Int32) + ((6 : Int32) * v2))).toNatClampNeg)) dX11_lives_84 lm_1 h10 rfl (by rw [hI9, z2_o (by decide)]) ?_
        refine x_bipush (v := (21)) dX11_lives_85 (by decide) ?_
        refine x_icmp_ne 91 dX11_lives_87 (by decide) (fun hB => ?_) (fun hB => ?_)
        · replace hf := f_el hB hf
          refine x_aload_n 1 dX11_lives_91 rfl rfl ?_
          refine x_getR dX11_lives_92 lm_0 fl_X11_83 rfl ?_
          refine x_iconst (v := (0)) dX11_lives_95 (by decide) ?_
          refine x_dup2 dX11_lives_96 rfl rfl ?_
          refine x_iald (j := 0) (v := (I 21 0)) dX11_lives_97 lm_21 (by decide +kernel) (by decide +kernel) (by rw [hI9, z2_o (by decide)]) ?_
          refine x_aload_n 1 dX11_lives_98 rfl rfl ?_
          refine x_iload_n 0 dX11_lives_99 rfl rfl ?_
          obtain ⟨q12, hq13, hf⟩ := f_bd hf
          refine x_callVi [.int ((60 : Int32) + ((6 : Int32) * v2))] (c_X11_does (I := I9) (L := L)  hq13) dX11_lives_100 lk_X11_469 lm_0 rfl cd_X11_does rfl rfl (Nat.le_of_ble_eq_true rfl) ⟨rfl, rfl, Nat.le_of_ble_eq_true rfl, Nat.le_of_ble_eq_true rfl⟩ ?_
          refine x_if_eqB 110 dX11_lives_103 (by decide) (fun hB => ?_) (fun hB => ?_)
          · replace hf := f_el hB hf
            refine x_iconst (v := (1)) dX11_lives_110 (by decide) ?_
            refine x_iadd dX11_lives_111 ?_
            obtain ⟨I41, hI41, hf⟩ := f_lt hf
            refine x_iast (j0 := 0) dX11_lives_112 lm_21 (by decide +kernel) (by decide +kernel) hI41 ?_
            refine x_aload_n 1 dX11_lives_113 rfl rfl ?_
            refine x_getR dX11_lives_114 lm_0 fl_X11_7 rfl ?_
            refine x_iload_n 0 dX11_lives_117 rfl rfl ?_
            refine x_iald (j := (((60 : Int32) + ((6 : Int32) * v2))).toNatClampNeg) (v := (q12.2 1 (((60 : Int32) + ((6 : Int32) * v2))).toNatClampNeg)) dX11_lives_118 lm_1 h10 rfl (by rw [hI41, z2_o (by decide)]) ?_
            refine x_bipush (v := (19)) dX11_lives_119 (by decide) ?_
            refine x_icmp_ne 140 dX11_lives_121 (by decide) (fun hB => ?_) (fun hB => ?_)
            · replace hf := f_el hB hf
              refine x_aload_n 1 dX11_lives_140 rfl rfl ?_
              refine x_aload_n 1 dX11_lives_141 rfl rfl ?_
              refine x_getR dX11_lives_142 lm_0 fl_X11_7 rfl ?_
              refine x_iload_n 0 dX11_lives_145 rfl rfl ?_
              refine x_iald (j := (((60 : Int32) + ((6 : Int32) * v2))).toNatClampNeg) (v := (q12.2 1 (((60 : Int32) + ((6 : Int32) * v2))).toNatClampNeg)) dX11_lives_146 lm_1 h10 rfl (by rw [hI41, z2_o (by decide)]) ?_
              refine x_sipush (v := (1800)) dX11_lives_147 (by decide) ?_
              refine x_icmp_lt 174 dX11_lives_150 (by decide) (fun hB => ?_) (fun hB => ?_)
              · replace hf := f_if hB hf
                refine x_iload_n 2 dX11_lives_174 rfl rfl ?_
                refine x_iconst (v := (1)) dX11_lives_175 (by decide) ?_
                refine x_iadd dX11_lives_176 ?_
                obtain ⟨q57, hq58, hf⟩ := f_bd hf
                refine x_callVi [.int (v2 + (1 : Int32))] (c_X11_behindEnds (I := I41) (L := L)  hq58) dX11_lives_177 lk_X11_475 lm_0 rfl cd_X11_behindEnds rfl rfl (Nat.le_of_ble_eq_true rfl) ⟨rfl, rfl, Nat.le_of_ble_eq_true rfl, Nat.le_of_ble_eq_true rfl⟩ ?_
                refine x_istore_n [(2, .int q57.1), (3, .int ((60 : Int32) + ((6 : Int32) * v2))), (0, .ref 0)] dX11_lives_180 rfl (by decide) rfl ?_
                refine x_goto 32 dX11_lives_181 (by decide) ?_
                refine x_lv [(0, .ref 0), (2, .int q57.1)] [2, 0] rfl ?_
                exact ih _ _ hf
              · replace hf := f_el hB hf
                refine x_aload_n 1 dX11_lives_153 rfl rfl ?_
                refine x_iload_n 0 dX11_lives_154 rfl rfl ?_
                obtain ⟨q59, hq60, hf⟩ := f_bd hf
                refine x_callVi [.int ((60 : Int32) + ((6 : Int32) * v2))] (c_X11_holds (I := I41) (L := L)  hq60) dX11_lives_155 lk_X11_472 lm_0 rfl cd_X11_holds rfl rfl (Nat.le_of_ble_eq_true rfl) ⟨rfl, rfl, Nat.le_of_ble_eq_true rfl, Nat.le_of_ble_eq_true rfl⟩ ?_
                refine x_if_neB 174 dX11_lives_158 (by decide) (fun hB => ?_) (fun hB => ?_)
                · replace hf := f_if hB hf
                  refine x_iload_n 2 dX11_lives_174 rfl rfl ?_
                  refine x_iconst (v := (1)) dX11_lives_175 (by decide) ?_
                  refine x_iadd dX11_lives_176 ?_
                  obtain ⟨q61, hq62, hf⟩ := f_bd hf
                  refine x_callVi [.int (v2 + (1 : Int32))] (c_X11_behindEnds (I := I41) (L := L)  hq62) dX11_lives_177 lk_X11_475 lm_0 rfl cd_X11_behindEnds rfl rfl (Nat.le_of_ble_eq_true rfl) ⟨rfl, rfl, Nat.le_of_ble_eq_true rfl, Nat.le_of_ble_eq_true rfl⟩ ?_
                  refine x_istore_n [(2, .int q61.1), (3, .int ((60 : Int32) + ((6 : Int32) * v2))), (0, .ref 0)] dX11_lives_180 rfl (by decide) rfl ?_
                  refine x_goto 32 dX11_lives_181 (by decide) ?_
                  refine x_lv [(0, .ref 0), (2, .int q61.1)] [2, 0] rfl ?_
                  exact ih _ _ hf
                · replace hf := f_el hB hf
                  refine x_aload_n 1 dX11_lives_161 rfl rfl ?_
                  refine x_getR dX11_lives_162 lm_0 fl_X11_7 rfl ?_
                  refine x_iload_n 0 dX11_lives_165 rfl rfl ?_
                  refine x_iconst (v := (4)) dX11_lives_166 (by decide) ?_
                  refine x_iadd dX11_lives_167 ?_
                  obtain ⟨h63, hf⟩ := f_gd hf
                  refine x_iald (j := ((((60 : Int32) + ((6 : Int32) * v2)) + (4 : Int32))).toNatClampNeg) (v := (q12.2 1 ((((60 : Int32) + ((6 : Int32) * v2)) + (4 : Int32))).toNatClampNeg)) dX11_lives_168 lm_1 h63 rfl (by rw [hI41, z2_o (by decide)]) ?_
                  refine x_iconst (v := (1)) dX11_lives_169 (by decide) ?_
                  refine x_iadd dX11_lives_170 ?_
                  refine x_goto 177 dX11_lives_171 (by decide) ?_
                  obtain ⟨q64, hq65, hf⟩ := f_bd hf
                  refine x_callVi [.int ((q12.2 1 ((((60 : Int32) + ((6 : Int32) * v2)) + (4 : Int32))).toNatClampNeg) + (1 : Int32))] (c_X11_behindEnds (I := I41) (L := L)  hq65) dX11_lives_177 lk_X11_475 lm_0 rfl cd_X11_behindEnds rfl rfl (Nat.le_of_ble_eq_true rfl) ⟨rfl, rfl, Nat.le_of_ble_eq_true rfl, Nat.le_of_ble_eq_true rfl⟩ ?_
                  refine x_istore_n [(2, .int q64.1), (3, .int ((60 : Int32) + ((6 : Int32) * v2))), (0, .ref 0)] dX11_lives_180 rfl (by decide) rfl ?_
                  refine x_goto 32 dX11_lives_181 (by decide) ?_
                  refine x_lv [(0, .ref 0), (2, .int q64.1)] [2, 0] rfl ?_
                  exact ih _ _ hf
            · replace hf := f_if hB hf
              refine x_aload_n 1 dX11_lives_124 rfl rfl ?_
              refine x_getR dX11_lives_125 lm_0 fl_X11_80 rfl ?_
              refine x_iload_n 2 dX11_lives_128 rfl rfl ?_
              refine x_aload_n 1 dX11_lives_129 rfl rfl ?_
              refine x_getR dX11_lives_130 lm_0 fl_X11_7 rfl ?_
              refine x_iload_n 0 dX11_lives_133 rfl rfl ?_
              refine x_iconst (v := (1)) dX11_lives_134 (by decide) ?_
              refine x_iadd dX11_lives_135 ?_
              obtain ⟨h43, hf⟩ := f_gd hf
              refine x_iald (j := ((((60 : Int32) + ((6 : Int32) * v2)) + (1 : Int32))).toNatClampNeg) (v := (q12.2 1 ((((60 : Int32) + ((6 : Int32) * v2)) + (1 : Int32))).toNatClampNeg)) dX11_lives_136 lm_1 h43 rfl (by rw [hI41, z2_o (by decide)]) ?_
              refine x_iconst (v := (1)) dX11_lives_137 (by decide) ?_
              refine x_isub dX11_lives_138 ?_
              obtain ⟨h44, hf⟩ := f_gd hf
              obtain ⟨I45, hI45, hf⟩ := f_lt hf
              refine x_iast (j0 := (v2).toNatClampNeg) dX11_lives_139 lm_20 h44 rfl hI45 ?_
              refine x_aload_n 1 dX11_lives_140 rfl rfl ?_
              refine x_aload_n 1 dX11_lives_141 rfl rfl ?_
              refine x_getR dX11_lives_142 lm_0 fl_X11_7 rfl ?_
              refine x_iload_n 0 dX11_lives_145 rfl rfl ?_
              refine x_iald (j := (((60 : Int32) + ((6 : Int32) * v2))).toNatClampNeg) (v := (q12.2 1 (((60 : Int32) + ((6 : Int32) * v2))).toNatClampNeg)) dX11_lives_146 lm_1 h10 rfl (by rw [hI45, z2_o (by decide), hI41, z2_o (by decide)]) ?_
              refine x_sipush (v := (1800)) dX11_lives_147 (by decide) ?_
              refine x_icmp_lt 174 dX11_lives_150 (by decide) (fun hB => ?_) (fun hB => ?_)
              · replace hf := f_if hB hf
                refine x_iload_n 2 dX11_lives_174 rfl rfl ?_
                refine x_iconst (v := (1)) dX11_lives_175 (by decide) ?_
                refine x_iadd dX11_lives_176 ?_
                obtain ⟨q47, hq48, hf⟩ := f_bd hf
                refine x_callVi [.int (v2 + (1 : Int32))] (c_X11_behindEnds (I := I45) (L := L)  hq48) dX11_lives_177 lk_X11_475 lm_0 rfl cd_X11_behindEnds rfl rfl (Nat.le_of_ble_eq_true rfl) ⟨rfl, rfl, Nat.le_of_ble_eq_true rfl, Nat.le_of_ble_eq_true rfl⟩ ?_
                refine x_istore_n [(2, .int q47.1), (3, .int ((60 : Int32) + ((6 : Int32) * v2))), (0, .ref 0)] dX11_lives_180 rfl (by decide) rfl ?_
                refine x_goto 32 dX11_lives_181 (by decide) ?_
                refine x_lv [(0, .ref 0), (2, .int q47.1)] [2, 0] rfl ?_
                exact ih _ _ hf
              · replace hf := f_el hB hf
                refine x_aload_n 1 dX11_lives_153 rfl rfl ?_
                refine x_iload_n 0 dX11_lives_154 rfl rfl ?_
                obtain ⟨q49, hq50, hf⟩ := f_bd hf
                refine x_callVi [.int ((60 : Int32) + ((6 : Int32) * v2))] (c_X11_holds (I := I45) (L := L)  hq50) dX11_lives_155 lk_X11_472 lm_0 rfl cd_X11_holds rfl rfl (Nat.le_of_ble_eq_true rfl) ⟨rfl, rfl, Nat.le_of_ble_eq_true rfl, Nat.le_of_ble_eq_true rfl⟩ ?_
                refine x_if_neB 174 dX11_lives_158 (by decide) (fun hB => ?_) (fun hB => ?_)
                · replace hf := f_if hB hf
                  refine x_iload_n 2 dX11_lives_174 rfl rfl ?_
                  refine x_iconst (v := (1)) dX11_lives_175 (by decide) ?_
                  refine x_iadd dX11_lives_176 ?_
                  obtain ⟨q51, hq52, hf⟩ := f_bd hf
                  refine x_callVi [.int (v2 + (1 : Int32))] (c_X11_behindEnds (I := I45) (L := L)  hq52) dX11_lives_177 lk_X11_475 lm_0 rfl cd_X11_behindEnds rfl rfl (Nat.le_of_ble_eq_true rfl) ⟨rfl, rfl, Nat.le_of_ble_eq_true rfl, Nat.le_of_ble_eq_true rfl⟩ ?_
                  refine x_istore_n [(2, .int q51.1), (3, .int ((60 : Int32) + ((6 : Int32) * v2))), (0, .ref 0)] dX11_lives_180 rfl (by decide) rfl ?_
                  refine x_goto 32 dX11_lives_181 (by decide) ?_
                  refine x_lv [(0, .ref 0), (2, .int q51.1)] [2, 0] rfl ?_
                  exact ih _ _ hf
                · replace hf := f_el hB hf
                  refine x_aload_n 1 dX11_lives_161 rfl rfl ?_
                  refine x_getR dX11_lives_162 lm_0 fl_X11_7 rfl ?_
                  refine x_iload_n 0 dX11_lives_165 rfl rfl ?_
                  refine x_iconst (v := (4)) dX11_lives_166 (by decide) ?_
                  refine x_iadd dX11_lives_167 ?_
                  obtain ⟨h53, hf⟩ := f_gd hf
                  refine x_iald (j := ((((60 : Int32) + ((6 : Int32) * v2)) + (4 : Int32))).toNatClampNeg) (v := (q12.2 1 ((((60 : Int32) + ((6 : Int32) * v2)) + (4 : Int32))).toNatClampNeg)) dX11_lives_168 lm_1 h53 rfl (by rw [hI45, z2_o (by decide), hI41, z2_o (by decide)]) ?_
                  refine x_iconst (v := (1)) dX11_lives_169 (by decide) ?_
                  refine x_iadd dX11_lives_170 ?_
                  refine x_goto 177 dX11_lives_171 (by decide) ?_
                  obtain ⟨q54, hq55, hf⟩ := f_bd hf
                  refine x_callVi [.int ((q12.2 1 ((((60 : Int32) + ((6 : Int32) * v2)) + (4 : Int32))).toNatClampNeg) + (1 : Int32))] (c_X11_behindEnds (I := I45) (L := L)  hq55) dX11_lives_177 lk_X11_475 lm_0 rfl cd_X11_behindEnds rfl rfl (Nat.le_of_ble_eq_true rfl) ⟨rfl, rfl, Nat.le_of_ble_eq_true rfl, Nat.le_of_ble_eq_true rfl⟩ ?_
                  refine x_istore_n [(2, .int q54.1), (3, .int ((60 : Int32) + ((6 : Int32) * v2))), (0, .ref 0)] dX11_lives_180 rfl (by decide) rfl ?_
                  refine x_goto 32 dX11_lives_181 (by decide) ?_
                  refine x_lv [(0, .ref 0), (2, .int q54.1)] [2, 0] rfl ?_
                  exact ih _ _ hf
          · replace hf := f_if hB hf
            refine x_iconst (v := (0)) dX11_lives_106 (by decide) ?_
            refine x_goto 111 dX11_lives_107 (by decide) ?_
            refine x_iadd dX11_lives_111 ?_
            obtain ⟨I15, hI15, hf⟩ := f_lt hf
            refine x_iast (j0 := 0) dX11_lives_112 lm_21 (by decide +kernel) (by decide +kernel) hI15 ?_
            refine x_aload_n 1 dX11_lives_113 rfl rfl ?_
            refine x_getR dX11_lives_114 lm_0 fl_X11_7 rfl ?_
            refine x_iload_n 0 dX11_lives_117 rfl rfl ?_
            refine x_iald (j := (((60 : Int32) + ((6 : Int32) * v2))).toNatClampNeg) (v := (q12.2 1 (((60 : Int32) + ((6 : Int32) * v2))).toNatClampNeg)) dX11_lives_118 lm_1 h10 rfl (by rw [hI15, z2_o (by decide)]) ?_
            refine x_bipush (v := (19)) dX11_lives_119 (by decide) ?_
            refine x_icmp_ne 140 dX11_lives_121 (by decide) (fun hB => ?_) (fun hB => ?_)
            · replace hf := f_el hB hf
              refine x_aload_n 1 dX11_lives_140 rfl rfl ?_
              refine x_aload_n 1 dX11_lives_141 rfl rfl ?_
              refine x_getR dX11_lives_142 lm_0 fl_X11_7 rfl ?_
              refine x_iload_n 0 dX11_lives_145 rfl rfl ?_
              refine x_iald (j := (((60 : Int32) + ((6 : Int32) * v2))).toNatClampNeg) (v := (q12.2 1 (((60 : Int32) + ((6 : Int32) * v2))).toNatClampNeg)) dX11_lives_146 lm_1 h10 rfl (by rw [hI15, z2_o (by decide)]) ?_
              refine x_sipush (v := (1800)) dX11_lives_147 (by decide) ?_
              refine x_icmp_lt 174 dX11_lives_150 (by decide) (fun hB => ?_) (fun hB => ?_)
              · replace hf := f_if hB hf
                refine x_iload_n 2 dX11_lives_174 rfl rfl ?_
                refine x_iconst (v := (1)) dX11_lives_175 (by decide) ?_
                refine x_iadd dX11_lives_176 ?_
                obtain ⟨q31, hq32, hf⟩ := f_bd hf
                refine x_callVi [.int (v2 + (1 : Int32))] (c_X11_behindEnds (I := I15) (L := L)  hq32) dX11_lives_177 lk_X11_475 lm_0 rfl cd_X11_behindEnds rfl rfl (Nat.le_of_ble_eq_true rfl) ⟨rfl, rfl, Nat.le_of_ble_eq_true rfl, Nat.le_of_ble_eq_true rfl⟩ ?_
                refine x_istore_n [(2, .int q31.1), (3, .int ((60 : Int32) + ((6 : Int32) * v2))), (0, .ref 0)] dX11_lives_180 rfl (by decide) rfl ?_
                refine x_goto 32 dX11_lives_181 (by decide) ?_
                refine x_lv [(0, .ref 0), (2, .int q31.1)] [2, 0] rfl ?_
                exact ih _ _ hf
              · replace hf := f_el hB hf
                refine x_aload_n 1 dX11_lives_153 rfl rfl ?_
                refine x_iload_n 0 dX11_lives_154 rfl rfl ?_
                obtain ⟨q33, hq34, hf⟩ := f_bd hf
                refine x_callVi [.int ((60 : Int32) + ((6 : Int32) * v2))] (c_X11_holds (I := I15) (L := L)  hq34) dX11_lives_155 lk_X11_472 lm_0 rfl cd_X11_holds rfl rfl (Nat.le_of_ble_eq_true rfl) ⟨rfl, rfl, Nat.le_of_ble_eq_true rfl, Nat.le_of_ble_eq_true rfl⟩ ?_
                refine x_if_neB 174 dX11_lives_158 (by decide) (fun hB => ?_) (fun hB => ?_)
                · replace hf := f_if hB hf
                  refine x_iload_n 2 dX11_lives_174 rfl rfl ?_
                  refine x_iconst (v := (1)) dX11_lives_175 (by decide) ?_
                  refine x_iadd dX11_lives_176 ?_
                  obtain ⟨q35, hq36, hf⟩ := f_bd hf
                  refine x_callVi [.int (v2 + (1 : Int32))] (c_X11_behindEnds (I := I15) (L := L)  hq36) dX11_lives_177 lk_X11_475 lm_0 rfl cd_X11_behindEnds rfl rfl (Nat.le_of_ble_eq_true rfl) ⟨rfl, rfl, Nat.le_of_ble_eq_true rfl, Nat.le_of_ble_eq_true rfl⟩ ?_
                  refine x_istore_n [(2, .int q35.1), (3, .int ((60 : Int32) + ((6 : Int32) * v2))), (0, .ref 0)] dX11_lives_180 rfl (by decide) rfl ?_
                  refine x_goto 32 dX11_lives_181 (by decide) ?_
                  refine x_lv [(0, .ref 0), (2, .int q35.1)] [2, 0] rfl ?_
                  exact ih _ _ hf
                · replace hf := f_el hB hf
                  refine x_aload_n 1 dX11_lives_161 rfl rfl ?_
                  refine x_getR dX11_lives_162 lm_0 fl_X11_7 rfl ?_
                  refine x_iload_n 0 dX11_lives_165 rfl rfl ?_
                  refine x_iconst (v := (4)) dX11_lives_166 (by decide) ?_
                  refine x_iadd dX11_lives_167 ?_
                  obtain ⟨h37, hf⟩ := f_gd hf
                  refine x_iald (j := ((((60 : Int32) + ((6 : Int32) * v2)) + (4 : Int32))).toNatClampNeg) (v := (q12.2 1 ((((60 : Int32) + ((6 : Int32) * v2)) + (4 : Int32))).toNatClampNeg)) dX11_lives_168 lm_1 h37 rfl (by rw [hI15, z2_o (by decide)]) ?_
                  refine x_iconst (v := (1)) dX11_lives_169 (by decide) ?_
                  refine x_iadd dX11_lives_170 ?_
                  refine x_goto 177 dX11_lives_171 (by decide) ?_
                  obtain ⟨q38, hq39, hf⟩ := f_bd hf
                  refine x_callVi [.int ((q12.2 1 ((((60 : Int32) + ((6 : Int32) * v2)) + (4 : Int32))).toNatClampNeg) + (1 : Int32))] (c_X11_behindEnds (I := I15) (L := L)  hq39) dX11_lives_177 lk_X11_475 lm_0 rfl cd_X11_behindEnds rfl rfl (Nat.le_of_ble_eq_true rfl) ⟨rfl, rfl, Nat.le_of_ble_eq_true rfl, Nat.le_of_ble_eq_true rfl⟩ ?_
                  refine x_istore_n [(2, .int q38.1), (3, .int ((60 : Int32) + ((6 : Int32) * v2))), (0, .ref 0)] dX11_lives_180 rfl (by decide) rfl ?_
                  refine x_goto 32 dX11_lives_181 (by decide) ?_
                  refine x_lv [(0, .ref 0), (2, .int q38.1)] [2, 0] rfl ?_
                  exact ih _ _ hf
            · replace hf := f_if hB hf
              refine x_aload_n 1 dX11_lives_124 rfl rfl ?_
              refine x_getR dX11_lives_125 lm_0 fl_X11_80 rfl ?_
              refine x_iload_n 2 dX11_lives_128 rfl rfl ?_
              refine x_aload_n 1 dX11_lives_129 rfl rfl ?_
              refine x_getR dX11_lives_130 lm_0 fl_X11_7 rfl ?_
              refine x_iload_n 0 dX11_lives_133 rfl rfl ?_
              refine x_iconst (v := (1)) dX11_lives_134 (by decide) ?_
              refine x_iadd dX11_lives_135 ?_
              obtain ⟨h17, hf⟩ := f_gd hf
              refine x_iald (j := ((((60 : Int32) + ((6 : Int32) * v2)) + (1 : Int32))).toNatClampNeg) (v := (q12.2 1 ((((60 : Int32) + ((6 : Int32) * v2)) + (1 : Int32))).toNatClampNeg)) dX11_lives_136 lm_1 h17 rfl (by rw [hI15, z2_o (by decide)]) ?_
              refine x_iconst (v := (1)) dX11_lives_137 (by decide) ?_
              refine x_isub dX11_lives_138 ?_
              obtain ⟨h18, hf⟩ := f_gd hf
              obtain ⟨I19, hI19, hf⟩ := f_lt hf
              refine x_iast (j0 := (v2).toNatClampNeg) dX11_lives_139 lm_20 h18 rfl hI19 ?_
              refine x_aload_n 1 dX11_lives_140 rfl rfl ?_
              refine x_aload_n 1 dX11_lives_141 rfl rfl ?_
              refine x_getR dX11_lives_142 lm_0 fl_X11_7 rfl ?_
              refine x_iload_n 0 dX11_lives_145 rfl rfl ?_
              refine x_iald (j := (((60 : Int32) + ((6 : Int32) * v2))).toNatClampNeg) (v := (q12.2 1 (((60 : Int32) + ((6 : Int32) * v2))).toNatClampNeg)) dX11_lives_146 lm_1 h10 rfl (by rw [hI19, z2_o (by decide), hI15, z2_o (by decide)]) ?_
              refine x_sipush (v := (1800)) dX11_lives_147 (by decide) ?_
              refine x_icmp_lt 174 dX11_lives_150 (by decide) (fun hB => ?_) (fun hB => ?_)
              · replace hf := f_if hB hf
                refine x_iload_n 2 dX11_lives_174 rfl rfl ?_
                refine x_iconst (v := (1)) dX11_lives_175 (by decide) ?_
                refine x_iadd dX11_lives_176 ?_
                obtain ⟨q21, hq22, hf⟩ := f_bd hf
                refine x_callVi [.int (v2 + (1 : Int32))] (c_X11_behindEnds (I := I19) (L := L)  hq22) dX11_lives_177 lk_X11_475 lm_0 rfl cd_X11_behindEnds rfl rfl (Nat.le_of_ble_eq_true rfl) ⟨rfl, rfl, Nat.le_of_ble_eq_true rfl, Nat.le_of_ble_eq_true rfl⟩ ?_
                refine x_istore_n [(2, .int q21.1), (3, .int ((60 : Int32) + ((6 : Int32) * v2))), (0, .ref 0)] dX11_lives_180 rfl (by decide) rfl ?_
                refine x_goto 32 dX11_lives_181 (by decide) ?_
                refine x_lv [(0, .ref 0), (2, .int q21.1)] [2, 0] rfl ?_
                exact ih _ _ hf
              · replace hf := f_el hB hf
                refine x_aload_n 1 dX11_lives_153 rfl rfl ?_
                refine x_iload_n 0 dX11_lives_154 rfl rfl ?_
                obtain ⟨q23, hq24, hf⟩ := f_bd hf
                refine x_callVi [.int ((60 : Int32) + ((6 : Int32) * v2))] (c_X11_holds (I := I19) (L := L)  hq24) dX11_lives_155 lk_X11_472 lm_0 rfl cd_X11_holds rfl rfl (Nat.le_of_ble_eq_true rfl) ⟨rfl, rfl, Nat.le_of_ble_eq_true rfl, Nat.le_of_ble_eq_true rfl⟩ ?_
                refine x_if_neB 174 dX11_lives_158 (by decide) (fun hB => ?_) (fun hB => ?_)
                · replace hf := f_if hB hf
                  refine x_iload_n 2 dX11_lives_174 rfl rfl ?_
                  refine x_iconst (v := (1)) dX11_lives_175 (by decide) ?_
                  refine x_iadd dX11_lives_176 ?_
                  obtain ⟨q25, hq26, hf⟩ := f_bd hf
                  refine x_callVi [.int (v2 + (1 : Int32))] (c_X11_behindEnds (I := I19) (L := L)  hq26) dX11_lives_177 lk_X11_475 lm_0 rfl cd_X11_behindEnds rfl rfl (Nat.le_of_ble_eq_true rfl) ⟨rfl, rfl, Nat.le_of_ble_eq_true rfl, Nat.le_of_ble_eq_true rfl⟩ ?_
                  refine x_istore_n [(2, .int q25.1), (3, .int ((60 : Int32) + ((6 : Int32) * v2))), (0, .ref 0)] dX11_lives_180 rfl (by decide) rfl ?_
                  refine x_goto 32 dX11_lives_181 (by decide) ?_
                  refine x_lv [(0, .ref 0), (2, .int q25.1)] [2, 0] rfl ?_
                  exact ih _ _ hf
                · replace hf := f_el hB hf
                  refine x_aload_n 1 dX11_lives_161 rfl rfl ?_
                  refine x_getR dX11_lives_162 lm_0 fl_X11_7 rfl ?_
                  refine x_iload_n 0 dX11_lives_165 rfl rfl ?_
                  refine x_iconst (v := (4)) dX11_lives_166 (by decide) ?_
                  refine x_iadd dX11_lives_167 ?_
                  obtain ⟨h27, hf⟩ := f_gd hf
                  refine x_iald (j := ((((60 : Int32) + ((6 : Int32) * v2)) + (4 : Int32))).toNatClampNeg) (v := (q12.2 1 ((((60 : Int32) + ((6 : Int32) * v2)) + (4 : Int32))).toNatClampNeg)) dX11_lives_168 lm_1 h27 rfl (by rw [hI19, z2_o (by decide), hI15, z2_o (by decide)]) ?_
                  refine x_iconst (v := (1)) dX11_lives_169 (by decide) ?_
                  refine x_iadd dX11_lives_170 ?_
                  refine x_goto 177 dX11_lives_171 (by decide) ?_
                  obtain ⟨q28, hq29, hf⟩ := f_bd hf
                  refine x_callVi [.int ((q12.2 1 ((((60 : Int32) + ((6 : Int32) * v2)) + (4 : Int32))).toNatClampNeg) + (1 : Int32))] (c_X11_behindEnds (I := I19) (L := L)  hq29) dX11_lives_177 lk_X11_475 lm_0 rfl cd_X11_behindEnds rfl rfl (Nat.le_of_ble_eq_true rfl) ⟨rfl, rfl, Nat.le_of_ble_eq_true rfl, Nat.le_of_ble_eq_true rfl⟩ ?_
                  refine x_istore_n [(2, .int q28.1), (3, .int ((60 : Int32) + ((6 : Int32) * v2))), (0, .ref 0)] dX11_lives_180 rfl (by decide) rfl ?_
                  refine x_goto 32 dX11_lives_181 (by decide) ?_
                  refine x_lv [(0, .ref 0), (2, .int q28.1)] [2, 0] rfl ?_
                  exact ih _ _ hf
        · replace hf := f_if hB hf
          cases hf
          exact x_vret dX11_lives_90 rfl rfl
      · replace hf := f_if hB hf
        refine x_aload_n 0 dX11_lives_53 rfl rfl ?_
        refine x_getR dX11_lives_54 lm_0 fl_X11_83 rfl ?_
        refine x_iconst (v := (4)) dX11_lives_57 (by decide) ?_
        refine x_iconst (v := (1)) dX11_lives_58 (by decide) ?_
        obtain ⟨I8, hI8, hf⟩ := f_lt hf
        refine x_iast (j0 := 4) dX11_lives_59 lm_21 (by decide +kernel) (by decide +kernel) hI8 ?_
        cases hf
        exact x_vret dX11_lives_60 rfl rfl
set_option maxRecDepth 100000 in
set_option maxHeartbeats 4000000 in
theorem c_X11_lives {I : z_I} {L : z_L} {p0 : Int32}  {r : z_I} (hf : f_X11_lives I p0 = some r) : z_C layM yX11_lives cX11_lives 4 (none) ({ frames := 9, cells := 0, slots := 0, locals := 201 } : Room) [.ref 0, .int p0] I L (none, r, L) := by
  refine z_C.of (by decide) (Nat.le_of_ble_eq_true rfl) ?_
  show z_X layM RX11 cX11_lives 4 (none) ({ frames := 9, cells := 0, slots := 0, locals := 201 } : Room) 0 [(0, .ref 0), (1, .int p0)] [] I L (none, r, L)
  unfold f_X11_lives at hf
  refine x_aload_n 0 dX11_lives_0 rfl rfl ?_
  refine x_iload_n 1 dX11_lives_1 rfl rfl ?_
  obtain ⟨I1, hI1, hf⟩ := f_lt hf
  refine x_putI dX11_lives_2 lm_0 fl_X11_447 rfl rfl rfl hI1 ?_
  refine x_aload_n 0 dX11_lives_5 rfl rfl ?_
  refine x_iconst (v := (0)) dX11_lives_6 (by decide) ?_
  obtain ⟨I2, hI2, hf⟩ := f_lt hf
  refine x_putI dX11_lives_7 lm_0 fl_X11_466 rfl rfl rfl hI2 ?_
  refine x_iconst (v := (0)) dX11_lives_10 (by decide) ?_
  refine x_istore_n [(2, .int (0 : Int32)), (0, .ref 0), (1, .int p0)] dX11_lives_11 rfl (by decide) rfl ?_
  refine x_lv [(0, .ref 0), (2, .int (0 : Int32))] [1, 0] rfl ?_
  refine l_X11_lives_12 (L) _ ?_ _ _ _ hf
  · intro I_5 hf
    refine x_iconst (v := (0)) dX11_lives_30 (by decide) ?_
    refine x_istore_n [(2, .int (0 : Int32)), (0, .ref 0)] dX11_lives_31 rfl (by decide) rfl ?_
    refine x_lv [(0, .ref 0), (2, .int (0 : Int32))] [1, 0] rfl ?_
    refine l_X11_lives_32 (L)   _ _ _ hf
set_option maxRecDepth 100000 in
set_option maxHeartbeats 4000000 in
theorem l_X11_live_43    (L : z_L) {r : Int32 × z_I}  : ∀ (n : Nat) (v2 : Int32) (I : z_I), g_X11_live_43   n v2 I = some r → z_X layM RX11 cX11_live 3 (some .int) ({ frames := 10, cells := 0, slots := 0, locals := 224 } : Room) 43 [(0, .ref 0), (2, .int v2)] [] I L (some (.int r.1), r.2, L) := by
  intro n
  induction n with
  | zero => intro v2 I hf; cases hf
  | succ n ih =>
    intro v2 I hf
    rw [g_X11_live_43] at hf
    refine x_iload_n 1 dX11_live_43 rfl rfl ?_
    refine x_iconst (v := (5)) dX11_live_44 (by decide) ?_
    refine x_icmp_ge 66 dX11_live_45 (by decide) (fun hB => ?_) (fun hB => ?_)
    · replace hf := f_if hB hf
      refine x_aload_n 0 dX11_live_66 rfl rfl ?_
      refine x_iconst (v := (1)) dX11_live_67 (by decide) ?_
      obtain ⟨I4, hI4, hf⟩ := f_lt hf
      refine x_putB (b := true) dX11_live_68 lm_0 fl_X11_483 rfl rfl hI4 ?_
      refine x_aload_n 0 dX11_live_71 rfl rfl ?_
      refine x_aload_n 0 dX11_live_72 rfl rfl ?_
      refine x_getI (v := (I 0 40)) dX11_live_73 lm_0 fl_X11_466 rfl (by rw [hI4, z2_s, z1_o (by decide)]) ?_
      refine x_callVi [.int (I 0 40)] (c_X11_gives (I := I4) (L := L) (I 0 40)) dX11_live_76 lk_X11_103 lm_0 rfl cd_X11_gives rfl rfl (Nat.le_of_ble_eq_true rfl) ⟨rfl, rfl, Nat.le_of_ble_eq_true rfl, Nat.le_of_ble_eq_true rfl⟩ ?_
      cases hf
      exact x_iret dX11_live_79 rfl rfl
    · replace hf := f_el hB hf
      refine x_aload_n 0 dX11_live_48 rfl rfl ?_
      refine x_getR dX11_live_49 lm_0 fl_X11_86 rfl ?_
      refine x_iload_n 1 dX11_live_52 rfl rfl ?_
      refine x_aload_n 0 dX11_live_53 rfl rfl ?_
      refine x_getR dX11_live_54 lm_0 fl_X11_83 rfl ?_
      refine x_iload_n 1 dX11_live_57 rfl rfl ?_
      obtain ⟨h5, hf⟩ := f_gd hf
      refine x_iald (j := (v2).toNatClampNeg) (v := (I 21 (v2).toNatClampNeg)) dX11_live_58 lm_21 h5 rfl rfl ?_
      obtain ⟨I7, hI7, hf⟩ := f_lt hf
      refine x_iast (j0 := (v2).toNatClampNeg) dX11_live_59 lm_22 h5 rfl hI7 ?_
      refine x_iinc 1 [(2, .int (v2 + (1 : Int32))), (0, .ref 0)] dX11_live_60 rfl rfl (by decide) rfl ?_
      refine x_goto 43 dX11_live_63 (by decide) ?_
      refine x_lv [(0, .ref 0), (2, .int (v2 + (1 : Int32)))] [1, 0] rfl ?_
      exact ih _ _ hf
set_option maxRecDepth 100000 in
set_option maxHeartbeats 4000000 in
theorem c_X11_live {I : z_I} {L : z_L} {p0 : Int32}  {r : Int32 × z_I} (hf : f_X11_live I p0 = some r) : z_C layM yX11_live cX11_live 3 (some .int) ({ frames := 10, cells := 0, slots := 0, locals := 224 } : Room) [.ref 0, .int p0] I L (some (.int r.1), r.2, L) := by
  refine z_C.of (by decide) (Nat.le_of_ble_eq_true rfl) ?_
  show z_X layM RX11 cX11_live 3 (some .int) ({ frames := 10, cells := 0, slots := 0, locals := 224 } : Room) 0 [(0, .ref 0), (1, .int p0)] [] I L (some (.int r.1), r.2, L)
  unfold f_X11_live at hf
  refine x_iload_n 1 dX11_live_0 rfl rfl ?_
  refine x_i2l dX11_live_1 ?_
  refine x_lconst (v := (0)) dX11_live_2 (by decide) ?_
  refine x_ldc2 (v := (9999)) dX11_live_3 kc_X11_478 ?_
  refine x_callSi [.long (p0.toInt64), .long (0 : Int64), .long (9999 : Int64)] (c_X11_isFrom (I := I) (L := L) (p0.toInt64) (0 : Int64) (9999 : Int64)) dX11_live_6 lk_X11_299 cd_X11_isFrom rfl rfl (Nat.le_of_ble_eq_true rfl) ⟨rfl, rfl, Nat.le_of_ble_eq_true rfl, Nat.le_of_ble_eq_true rfl⟩ ?_
  refine x_if_neB 18 dX11_live_9 (by decide) (fun hB => ?_) (fun hB => ?_)
  · replace hf := f_if hB hf
    refine x_aload_n 0 dX11_live_18 rfl rfl ?_
    refine x_getR dX11_live_19 lm_0 fl_X11_7 rfl ?_
    refine x_bipush (v := (7)) dX11_live_22 (by decide) ?_
    refine x_iald (j := 7) (v := (I 1 7)) dX11_live_24 lm_1 (by decide +kernel) (by decide +kernel) rfl ?_
    refine x_iconst (v := (-1)) dX11_live_25 (by decide) ?_
    refine x_icmp_ne 36 dX11_live_26 (by decide) (fun hB => ?_) (fun hB => ?_)
    · replace hf := f_el hB hf
      refine x_aload_n 0 dX11_live_36 rfl rfl ?_
      refine x_iload_n 1 dX11_live_37 rfl rfl ?_
      obtain ⟨q2, hq3, hf⟩ := f_bd hf
      refine x_callVv [.int p0] (c_X11_lives (I := I) (L := L)  hq3) dX11_live_38 lk_X11_480 lm_0 rfl cd_X11_lives rfl rfl (Nat.le_of_ble_eq_true rfl) ⟨rfl, rfl, Nat.le_of_ble_eq_true rfl, Nat.le_of_ble_eq_true rfl⟩ ?_
      refine x_iconst (v := (0)) dX11_live_41 (by decide) ?_
      refine x_istore_n [(2, .int (0 : Int32)), (0, .ref 0), (1, .int p0)] dX11_live_42 rfl (by decide) rfl ?_
      refine x_lv [(0, .ref 0), (2, .int (0 : Int32))] [1, 0] rfl ?_
      refine l_X11_live_43 (L)   _ _ _ hf
    · replace hf := f_if hB hf
      refine x_aload_n 0 dX11_live_29 rfl rfl ?_
      refine x_bipush (v := (6)) dX11_live_30 (by decide) ?_
      refine x_callVi [.int (6 : Int32)] (c_X11_refuse (I := I) (L := L) (6 : Int32)) dX11_live_32 lk_X11_99 lm_0 rfl cd_X11_refuse rfl rfl (Nat.le_of_ble_eq_true rfl) ⟨rfl, rfl, Nat.le_of_ble_eq_true rfl, Nat.le_of_ble_eq_true rfl⟩ ?_
      cases hf
      exact x_iret dX11_live_35 rfl rfl
  · replace hf := f_el hB hf
    refine x_aload_n 0 dX11_live_12 rfl rfl ?_
    refine x_iconst (v := (1)) dX11_live_13 (by decide) ?_
    refine x_callVi [.int (1 : Int32)] (c_X11_refuse (I := I) (L := L) (1 : Int32)) dX11_live_14 lk_X11_99 lm_0 rfl cd_X11_refuse rfl rfl (Nat.le_of_ble_eq_true rfl) ⟨rfl, rfl, Nat.le_of_ble_eq_true rfl, Nat.le_of_ble_eq_true rfl⟩ ?_
    cases hf
    exact x_iret dX11_live_17 rfl rfl
set_option maxRecDepth 100000 in
set_option maxHeartbeats 4000000 in
theorem c_X11_lived {I : z_I} {L : z_L} {p0 : Int32}  {r : Int32 × z_I} (hf : f_X11_lived I p0 = some r) : z_C layM yX11_lived cX11_lived 2 (some .int) ({ frames := 1, cells := 0, slots := 0, locals := 21 } : Room) [.ref 0, .int p0] I L (some (.int r.1), r.2, L) := by
  refine z_C.of (by decide) (Nat.le_of_ble_eq_true rfl) ?_
  show z_X layM RX11 cX11_lived 2 (some .int) ({ frames := 1, cells := 0, slots := 0, locals := 21 } : Room) 0 [(0, .ref 0), (1, .int p0)] [] I L (some (.int r.1), r.2, L)
  unfold f_X11_lived at hf
  refine x_iload_n 1 dX11_lived_0 rfl rfl ?_
  refine x_if_lt 9 dX11_lived_1 (by decide) (fun hB => ?_) (fun hB => ?_)
  · replace hf := f_if hB hf
    refine x_aload_n 0 dX11_lived_9 rfl rfl ?_
    refine x_iconst (v := (1)) dX11_lived_10 (by decide) ?_
    refine x_callVi [.int (1 : Int32)] (c_X11_refuse (I := I) (L := L) (1 : Int32)) dX11_lived_11 lk_X11_99 lm_0 rfl cd_X11_refuse rfl rfl (Nat.le_of_ble_eq_true rfl) ⟨rfl, rfl, Nat.le_of_ble_eq_true rfl, Nat.le_of_ble_eq_true rfl⟩ ?_
    refine x_goto 43 dX11_lived_14 (by decide) ?_
    cases hf
    exact x_iret dX11_lived_43 rfl rfl
  · replace hf := f_el hB hf
    refine x_iload_n 1 dX11_lived_4 rfl rfl ?_
    refine x_iconst (v := (4)) dX11_lived_5 (by decide) ?_
    refine x_icmp_le 17 dX11_lived_6 (by decide) (fun hB => ?_) (fun hB => ?_)
    · replace hf := f_if hB hf
      refine x_aload_n 0 dX11_lived_17 rfl rfl ?_
      refine x_getB (v := (zn (I 0 44))) dX11_lived_18 lm_0 fl_X11_483 rfl rfl ?_
      refine x_if_eqB 37 dX11_lived_21 (by decide) (fun hB => ?_) (fun hB => ?_)
      · replace hf := f_el hB hf
        refine x_aload_n 0 dX11_lived_37 rfl rfl ?_
        refine x_bipush (v := (6)) dX11_lived_38 (by decide) ?_
        refine x_callVi [.int (6 : Int32)] (c_X11_refuse (I := I) (L := L) (6 : Int32)) dX11_lived_40 lk_X11_99 lm_0 rfl cd_X11_refuse rfl rfl (Nat.le_of_ble_eq_true rfl) ⟨rfl, rfl, Nat.le_of_ble_eq_true rfl, Nat.le_of_ble_eq_true rfl⟩ ?_
        cases hf
        exact x_iret dX11_lived_43 rfl rfl
      · replace hf := f_if hB hf
        refine x_aload_n 0 dX11_lived_24 rfl rfl ?_
        refine x_aload_n 0 dX11_lived_25 rfl rfl ?_
        refine x_getR dX11_lived_26 lm_0 fl_X11_86 rfl ?_
        refine x_iload_n 1 dX11_lived_29 rfl rfl ?_
        obtain ⟨h1, hf⟩ := f_gd hf
        refine x_iald (j := (p0).toNatClampNeg) (v := (I 22 (p0).toNatClampNeg)) dX11_lived_30 lm_22 h1 rfl rfl ?_
        refine x_callVi [.int (I 22 (p0).toNatClampNeg)] (c_X11_gives (I := I) (L := L) (I 22 (p0).toNatClampNeg)) dX11_lived_31 lk_X11_103 lm_0 rfl cd_X11_gives rfl rfl (Nat.le_of_ble_eq_true rfl) ⟨rfl, rfl, Nat.le_of_ble_eq_true rfl, Nat.le_of_ble_eq_true rfl⟩ ?_
        refine x_goto 43 dX11_lived_34 (by decide) ?_
        cases hf
        exact x_iret dX11_lived_43 rfl rfl
    · replace hf := f_el hB hf
      refine x_aload_n 0 dX11_lived_9 rfl rfl ?_
      refine x_iconst (v := (1)) dX11_lived_10 (by decide) ?_
      refine x_callVi [.int (1 : Int32)] (c_X11_refuse (I := I) (L := L) (1 : Int32)) dX11_lived_11 lk_X11_99 lm_0 rfl cd_X11_refuse rfl rfl (Nat.le_of_ble_eq_true rfl) ⟨rfl, rfl, Nat.le_of_ble_eq_true rfl, Nat.le_of_ble_eq_true rfl⟩ ?_
      refine x_goto 43 dX11_lived_14 (by decide) ?_
      cases hf
      exact x_iret dX11_lived_43 rfl rfl
set_option maxRecDepth 100000 in
set_option maxHeartbeats 4000000 in
theorem l_X11_mean_61   (v1 : Int32) (v2 : Int32) (L : z_L) {r : Bool × z_I × z_L} (k89 : z_I → Option (Bool × z_I × z_L)) (hk89 : ∀ (I : z_I), k89 I = some r → z_X layM RX11 cX11_mean 7 (some .boolean) ({ frames := 10, cells := 0, slots := 0, locals := 224 } : Room) 89 [(0, .ref 0), (1, .int v1), (2, .int v2)] [] I L (some (.int (zb r.1)), r.2.1, r.2.2)) : ∀ (n : Nat) (v3 : Int32) (I : z_I), g_X11_mean_61 v1 v2 L k89 n v3 I = some r → z_X layM RX11 cX11_mean 7 (some .boolean) ({ frames := 10, cells := 0, slots := 0, locals := 224 } : Room) 61 [(0, .ref 0), (1, .int v1), (2, .int v2), (3, .int v3)] [] I L (some (.int (zb r.1)), r.2.1, r.2.2) := by
  intro n
  induction n with
  | zero => intro v3 I hf; cases hf
  | succ n ih =>
    intro v3 I hf
    rw [g_X11_mean_61] at hf
    refine x_iload_n 3 dX11_mean_61 rfl rfl ?_
    refine x_bipush (v := (60)) dX11_mean_62 (by decide) ?_
    refine x_icmp_ge 89 dX11_mean_64 (by decide) (fun hB => ?_) (fun hB => ?_)
    · replace hf := f_if hB hf
      refine x_lv [(0, .ref 0), (1, .int v1), (2, .int v2)] [0, 1, 2] rfl ?_
      exact hk89 _ hf
    · replace hf := f_el hB hf
      refine x_aload_n 0 dX11_mean_67 rfl rfl ?_
      refine x_getR dX11_mean_68 lm_0 fl_X11_7 rfl ?_
      refine x_sipush (v := (2140)) dX11_mean_71 (by decide) ?_
      refine x_iload_n 3 dX11_mean_74 rfl rfl ?_
      refine x_iadd dX11_mean_75 ?_
      refine x_aload_n 0 dX11_mean_76 rfl rfl ?_
      refine x_getR dX11_mean_77 lm_0 fl_X11_7 rfl ?_
      refine x_iload_n 3 dX11_mean_80 rfl rfl ?_
      obtain ⟨h2, hf⟩ := f_gd hf
      refine x_iald (j := (v3).toNatClampNeg) (v := (I 1 (v3).toNatClampNeg)) dX11_mean_81 lm_1 h2 rfl rfl ?_
      obtain ⟨h3, hf⟩ := f_gd hf
      obtain ⟨I4, hI4, hf⟩ := f_lt hf
      refine x_iast (j0 := (((2140 : Int32) + v3)).toNatClampNeg) dX11_mean_82 lm_1 h3 rfl hI4 ?_
      refine x_iinc 3 [(3, .int (v3 + (1 : Int32))), (0, .ref 0), (1, .int v1), (2, .int v2)] dX11_mean_83 rfl rfl (by decide) rfl ?_
      refine x_goto 61 dX11_mean_86 (by decide) ?_
      refine x_lv [(0, .ref 0), (1, .int v1), (2, .int v2), (3, .int (v3 + (1 : Int32)))] [1, 2, 3, 0] rfl ?_
      exact ih _ _ hf
set_option maxRecDepth 100000 in
set_option maxHeartbeats 4000000 in
theorem l_X11_mean_120   (v1 : Int32) (v2 : Int32) (v3 : Int64) (v5 : Int32) (L : z_L) {r : Bool × z_I × z_L} (k151 : z_I → Option (Bool × z_I × z_L)) (hk151 : ∀ (I : z_I), k151 I = some r → z_X layM RX11 cX11_mean 7 (some .boolean) ({ frames := 10, cells := 0, slots := 0, locals := 224 } : Room) 151 [(0, .ref 0), (1, .int v1), (2, .int v2), (3, .long v3), (5, .int v5)] [] I L (some (.int (zb r.1)), r.2.1, r.2.2)) : ∀ (n : Nat) (v6 : Int32) (I : z_I), g_X11_mean_120 v1 v2 v3 v5 L k151 n v6 I = some r → z_X layM RX11 cX11_mean 7 (some .boolean) ({ frames := 10, cells := 0, slots := 0, locals := 224 } : Room) 120 [(0, .ref 0), (1, .int v1), (2, .int v2), (3, .long v3), (5, .int v5), (6, .int v6)] [] I L (some (.int (zb r.1)), r.2.1, r.2.2) := by
  intro n
  induction n with
  | zero => intro v6 I hf; cases hf
  | succ n ih =>
    intro v6 I hf
    rw [g_X11_mean_120] at hf
    refine x_iload 5 dX11_mean_120 rfl ?_
    refine x_bipush (v := (60)) dX11_mean_122 (by decide) ?_
    refine x_icmp_ge 151 dX11_mean_124 (by decide) (fun hB => ?_) (fun hB => ?_)
    · replace hf := f_if hB hf
      refine x_lv [(0, .ref 0), (1, .int v1), (2, .int v2), (3, .long v3), (5, .int v5)] [0, 1, 2, 3, 4] rfl ?_
      exact hk151 _ hf
    · replace hf := f_el hB hf
      refine x_aload_n 0 dX11_mean_127 rfl rfl ?_
      refine x_getR dX11_mean_128 lm_0 fl_X11_7 rfl ?_
      refine x_iload 5 dX11_mean_131 rfl ?_
      refine x_aload_n 0 dX11_mean_133 rfl rfl ?_
      refine x_getR dX11_mean_134 lm_0 fl_X11_7 rfl ?_
      refine x_sipush (v := (2140)) dX11_mean_137 (by decide) ?_
      refine x_iload 5 dX11_mean_140 rfl ?_
      refine x_iadd dX11_mean_142 ?_
      obtain ⟨h12, hf⟩ := f_gd hf
      refine x_iald (j := (((2140 : Int32) + v6)).toNatClampNeg) (v := (I 1 (((2140 : Int32) + v6)).toNatClampNeg)) dX11_mean_143 lm_1 h12 rfl rfl ?_
      obtain ⟨h13, hf⟩ := f_gd hf
      obtain ⟨I14, hI14, hf⟩ := f_lt hf
      refine x_iast (j0 := (v6).toNatClampNeg) dX11_mean_144 lm_1 h13 rfl hI14 ?_
      refine x_iinc 5 [(6, .int (v6 + (1 : Int32))), (0, .ref 0), (1, .int v1), (2, .int v2), (3, .long v3), (5, .int v5)] dX11_mean_145 rfl rfl (by decide) rfl ?_
      refine x_goto 120 dX11_mean_148 (by decide) ?_
      refine x_lv [(0, .ref 0), (1, .int v1), (2, .int v2), (3, .long v3), (5, .int v5), (6, .int (v6 + (1 : Int32)))] [1, 2, 3, 4, 5, 0] rfl ?_
      exact ih _ _ hf
set_option maxRecDepth 100000 in
set_option maxHeartbeats 4000000 in
theorem l_X11_mean_94   (v1 : Int32) (v2 : Int32) (L : z_L) {r : Bool × z_I × z_L}  : ∀ (n : Nat) (v3 : Int64) (v5 : Int32) (I : z_I), g_X11_mean_94 v1 v2 L  n v3 v5 I = some r → z_X layM RX11 cX11_mean 7 (some .boolean) ({ frames := 10, cells := 0, slots := 0, locals := 224 } : Room) 94 [(0, .ref 0), (1, .int v1), (2, .int v2), (3, .long v3), (5, .int v5)] [] I L (some (.int (zb r.1)), r.2.1, r.2.2) := by
  intro n
  induction n with
  | zero => intro v3 v5 I hf; cases hf
  | succ n ih =>
    intro v3 v5 I hf
    rw [g_X11_mean_94] at hf
    refine x_iload 4 dX11_mean_94 rfl ?_
    refine x_iload_n 2 dX11_mean_96 rfl rfl ?_
    refine x_icmp_ge 157 dX11_mean_97 (by decide) (fun hB => ?_) (fun hB => ?_)
    · replace hf := f_if hB hf
      refine x_aload_n 0 dX11_mean_157 rfl rfl ?_
      refine x_lload_n 3 dX11_mean_158 rfl rfl ?_
      refine x_iload_n 2 dX11_mean_159 rfl rfl ?_
      refine x_i2l dX11_mean_160 ?_
      obtain ⟨q6, hq7, hf⟩ := f_bd hf
      refine x_callVi [.long v3, .long (v2.toInt64)] (c_X11_tellsBy (I := I) (L := L)  hq7) dX11_mean_161 lk_X11_417 lm_0 rfl cd_X11_tellsBy rfl rfl (Nat.le_of_ble_eq_true rfl) ⟨rfl, rfl, Nat.le_of_ble_eq_true rfl, Nat.le_of_ble_eq_true rfl⟩ ?_
      cases hf
      exact x_zret dX11_mean_164 rfl rfl
    · replace hf := f_el hB hf
      refine x_aload_n 0 dX11_mean_100 rfl rfl ?_
      refine x_iload_n 1 dX11_mean_101 rfl rfl ?_
      refine x_iload 4 dX11_mean_102 rfl ?_
      refine x_iadd dX11_mean_104 ?_
      obtain ⟨q8, hq9, hf⟩ := f_bd hf
      refine x_callVv [.int (v1 + v5)] (c_X11_lives (I := I) (L := L)  hq9) dX11_mean_105 lk_X11_480 lm_0 rfl cd_X11_lives rfl rfl (Nat.le_of_ble_eq_true rfl) ⟨rfl, rfl, Nat.le_of_ble_eq_true rfl, Nat.le_of_ble_eq_true rfl⟩ ?_
      refine x_lload_n 3 dX11_mean_108 rfl rfl ?_
      refine x_aload_n 0 dX11_mean_109 rfl rfl ?_
      refine x_iconst (v := (2)) dX11_mean_110 (by decide) ?_
      obtain ⟨q10, hq11, hf⟩ := f_bd hf
      refine x_callVi [.int (2 : Int32)] (c_X11_together (I := q8) (L := L)  hq11) dX11_mean_111 lk_X11_318 lm_0 rfl cd_X11_together rfl rfl (Nat.le_of_ble_eq_true rfl) ⟨rfl, rfl, Nat.le_of_ble_eq_true rfl, Nat.le_of_ble_eq_true rfl⟩ ?_
      refine x_i2l dX11_mean_114 ?_
      refine x_ladd dX11_mean_115 ?_
      refine x_lstore_n [(3, .long (v3 + (q10.toInt64))), (0, .ref 0), (1, .int v1), (2, .int v2), (5, .int v5)] dX11_mean_116 rfl (by decide) rfl ?_
      refine x_iconst (v := (0)) dX11_mean_117 (by decide) ?_
      refine x_istore [(6, .int (0 : Int32)), (3, .long (v3 + (q10.toInt64))), (0, .ref 0), (1, .int v1), (2, .int v2), (5, .int v5)] dX11_mean_118 (by decide) rfl ?_
      refine x_lv [(0, .ref 0), (1, .int v1), (2, .int v2), (3, .long (v3 + (q10.toInt64))), (5, .int v5), (6, .int (0 : Int32))] [2, 3, 4, 1, 5, 0] rfl ?_
      refine l_X11_mean_120 v1 v2 (v3 + (q10.toInt64)) v5 (L) _ ?_ _ _ _ hf
      · intro I_15 hf
        refine x_iinc 4 [(5, .int (v5 + (1 : Int32))), (0, .ref 0), (1, .int v1), (2, .int v2), (3, .long (v3 + (q10.toInt64)))] dX11_mean_151 rfl rfl (by decide) rfl ?_
        refine x_goto 94 dX11_mean_154 (by decide) ?_
        refine x_lv [(0, .ref 0), (1, .int v1), (2, .int v2), (3, .long (v3 + (q10.toInt64))), (5, .int (v5 + (1 : Int32)))] [1, 2, 3, 4, 0] rfl ?_
        exact ih _ _ _ hf
set_option maxRecDepth 100000 in
set_option maxHeartbeats 4000000 in
theorem c_X11_mean {I : z_I} {L : z_L} {p0 : Int32} {p1 : Int32}  {r : Bool × z_I × z_L} (hf : f_X11_mean I L p0 p1 = some r) : z_C layM yX11_mean cX11_mean 7 (some .boolean) ({ frames := 10, cells := 0, slots := 0, locals := 224 } : Room) [.ref 0, .int p0, .int p1] I L (some (.int (zb r.1)), r.2.1, r.2.2) := by
  refine z_C.of (by decide) (Nat.le_of_ble_eq_true rfl) ?_
  show z_X layM RX11 cX11_mean 7 (some .boolean) ({ frames := 10, cells := 0, slots := 0, locals := 224 } : Room) 0 [(0, .ref 0), (1, .int p0), (2, .int p1)] [] I L (some (.int (zb r.1)), r.2.1, r.2.2)
  unfold f_X11_mean at hf
  refine x_iload_n 1 dX11_mean_0 rfl rfl ?_
  refine x_i2l dX11_mean_1 ?_
  refine x_lconst (v := (0)) dX11_mean_2 (by decide) ?_
  refine x_ldc2 (v := (9999)) dX11_mean_3 kc_X11_478 ?_
  refine x_callSi [.long (p0.toInt64), .long (0 : Int64), .long (9999 : Int64)] (c_X11_isFrom (I := I) (L := L) (p0.toInt64) (0 : Int64) (9999 : Int64)) dX11_mean_6 lk_X11_299 cd_X11_isFrom rfl rfl (Nat.le_of_ble_eq_true rfl) ⟨rfl, rfl, Nat.le_of_ble_eq_true rfl, Nat.le_of_ble_eq_true rfl⟩ ?_
  refine x_if_eqB 35 dX11_mean_9 (by decide) (fun hB => ?_) (fun hB => ?_)
  · replace hf := f_el hB hf
    refine x_aload_n 0 dX11_mean_35 rfl rfl ?_
    refine x_iconst (v := (1)) dX11_mean_36 (by decide) ?_
    refine x_callVi [.int (1 : Int32)] (c_X11_is (I := I) (L := L) (1 : Int32)) dX11_mean_37 lk_X11_106 lm_0 rfl cd_X11_is rfl rfl (Nat.le_of_ble_eq_true rfl) ⟨rfl, rfl, Nat.le_of_ble_eq_true rfl, Nat.le_of_ble_eq_true rfl⟩ ?_
    cases hf
    exact x_zret dX11_mean_40 rfl rfl
  · replace hf := f_if hB hf
    refine x_iload_n 2 dX11_mean_12 rfl rfl ?_
    refine x_i2l dX11_mean_13 ?_
    refine x_lconst (v := (1)) dX11_mean_14 (by decide) ?_
    refine x_ldc2 (v := (20)) dX11_mean_15 kc_X11_359 ?_
    refine x_callSi [.long (p1.toInt64), .long (1 : Int64), .long (20 : Int64)] (c_X11_isFrom (I := I) (L := L) (p1.toInt64) (1 : Int64) (20 : Int64)) dX11_mean_18 lk_X11_299 cd_X11_isFrom rfl rfl (Nat.le_of_ble_eq_true rfl) ⟨rfl, rfl, Nat.le_of_ble_eq_true rfl, Nat.le_of_ble_eq_true rfl⟩ ?_
    refine x_if_eqB 35 dX11_mean_21 (by decide) (fun hB => ?_) (fun hB => ?_)
    · replace hf := f_el hB hf
      refine x_aload_n 0 dX11_mean_35 rfl rfl ?_
      refine x_iconst (v := (1)) dX11_mean_36 (by decide) ?_
      refine x_callVi [.int (1 : Int32)] (c_X11_is (I := I) (L := L) (1 : Int32)) dX11_mean_37 lk_X11_106 lm_0 rfl cd_X11_is rfl rfl (Nat.le_of_ble_eq_true rfl) ⟨rfl, rfl, Nat.le_of_ble_eq_true rfl, Nat.le_of_ble_eq_true rfl⟩ ?_
      cases hf
      exact x_zret dX11_mean_40 rfl rfl
    · replace hf := f_if hB hf
      refine x_iload_n 1 dX11_mean_24 rfl rfl ?_
      refine x_iload_n 2 dX11_mean_25 rfl rfl ?_
      refine x_iadd dX11_mean_26 ?_
      refine x_iconst (v := (1)) dX11_mean_27 (by decide) ?_
      refine x_isub dX11_mean_28 ?_
      refine x_sipush (v := (9999)) dX11_mean_29 (by decide) ?_
      refine x_icmp_le 41 dX11_mean_32 (by decide) (fun hB => ?_) (fun hB => ?_)
      · replace hf := f_if hB hf
        refine x_aload_n 0 dX11_mean_41 rfl rfl ?_
        refine x_getR dX11_mean_42 lm_0 fl_X11_7 rfl ?_
        refine x_bipush (v := (7)) dX11_mean_45 (by decide) ?_
        refine x_iald (j := 7) (v := (I 1 7)) dX11_mean_47 lm_1 (by decide +kernel) (by decide +kernel) rfl ?_
        refine x_iconst (v := (-1)) dX11_mean_48 (by decide) ?_
        refine x_icmp_ne 59 dX11_mean_49 (by decide) (fun hB => ?_) (fun hB => ?_)
        · replace hf := f_el hB hf
          refine x_iconst (v := (0)) dX11_mean_59 (by decide) ?_
          refine x_istore_n [(3, .int (0 : Int32)), (0, .ref 0), (1, .int p0), (2, .int p1)] dX11_mean_60 rfl (by decide) rfl ?_
          refine x_lv [(0, .ref 0), (1, .int p0), (2, .int p1), (3, .int (0 : Int32))] [1, 2, 3, 0] rfl ?_
          refine l_X11_mean_61 p0 p1 (L) _ ?_ _ _ _ hf
          · intro I_5 hf
            refine x_lconst (v := (0)) dX11_mean_89 (by decide) ?_
            refine x_lstore_n [(3, .long (0 : Int64)), (0, .ref 0), (1, .int p0), (2, .int p1)] dX11_mean_90 rfl (by decide) rfl ?_
            refine x_iconst (v := (0)) dX11_mean_91 (by decide) ?_
            refine x_istore [(5, .int (0 : Int32)), (3, .long (0 : Int64)), (0, .ref 0), (1, .int p0), (2, .int p1)] dX11_mean_92 (by decide) rfl ?_
            refine x_lv [(0, .ref 0), (1, .int p0), (2, .int p1), (3, .long (0 : Int64)), (5, .int (0 : Int32))] [2, 3, 4, 1, 0] rfl ?_
            refine l_X11_mean_94 p0 p1 (L)   _ _ _ _ hf
        · replace hf := f_if hB hf
          refine x_aload_n 0 dX11_mean_52 rfl rfl ?_
          refine x_bipush (v := (6)) dX11_mean_53 (by decide) ?_
          refine x_callVi [.int (6 : Int32)] (c_X11_is (I := I) (L := L) (6 : Int32)) dX11_mean_55 lk_X11_106 lm_0 rfl cd_X11_is rfl rfl (Nat.le_of_ble_eq_true rfl) ⟨rfl, rfl, Nat.le_of_ble_eq_true rfl, Nat.le_of_ble_eq_true rfl⟩ ?_
          cases hf
          exact x_zret dX11_mean_58 rfl rfl
      · replace hf := f_el hB hf
        refine x_aload_n 0 dX11_mean_35 rfl rfl ?_
        refine x_iconst (v := (1)) dX11_mean_36 (by decide) ?_
        refine x_callVi [.int (1 : Int32)] (c_X11_is (I := I) (L := L) (1 : Int32)) dX11_mean_37 lk_X11_106 lm_0 rfl cd_X11_is rfl rfl (Nat.le_of_ble_eq_true rfl) ⟨rfl, rfl, Nat.le_of_ble_eq_true rfl, Nat.le_of_ble_eq_true rfl⟩ ?_
        cases hf
        exact x_zret dX11_mean_40 rfl rfl
set_option maxRecDepth 100000 in
set_option maxHeartbeats 4000000 in
theorem l_X11_copies_2   (v1 : Int32) (v2 : Int32) (L : z_L) {r : z_I × z_L} (k39 : z_I → Option (z_I × z_L)) (hk39 : ∀ (I : z_I), k39 I = some r → z_X layM RX11 cX11_copies 4 (none) ({ frames := 0, cells := 0, slots := 0, locals := 0 } : Room) 39 [(0, .ref 0), (1, .int v1), (2, .int v2)] [] I L (none, r.1, r.2)) : ∀ (n : Nat) (v3 : Int32) (I : z_I), g_X11_copies_2 v1 v2 L k39 n v3 I = some r → z_X layM RX11 cX11_copies 4 (none) ({ frames := 0, cells := 0, slots := 0, locals := 0 } : Room) 2 [(0, .ref 0), (1, .int v1), (2, .int v2), (3, .int v3)] [] I L (none, r.1, r.2) := by
  intro n
  induction n with
  | zero => intro v3 I hf; cases hf
  | succ n ih =>
    intro v3 I hf
    rw [g_X11_copies_2] at hf
    refine x_iload_n 3 dX11_copies_2 rfl rfl ?_
    refine x_sipush (v := (428)) dX11_copies_3 (by decide) ?_
    refine x_icmp_ge 39 dX11_copies_6 (by decide) (fun hB => ?_) (fun hB => ?_)
    · replace hf := f_if hB hf
      refine x_lv [(0, .ref 0), (1, .int v1), (2, .int v2)] [0, 1, 2] rfl ?_
      exact hk39 _ hf
    · replace hf := f_el hB hf
      refine x_aload_n 0 dX11_copies_9 rfl rfl ?_
      refine x_getR dX11_copies_10 lm_0 fl_X11_7 rfl ?_
      refine x_sipush (v := (428)) dX11_copies_13 (by decide) ?_
      refine x_iload_n 2 dX11_copies_16 rfl rfl ?_
      refine x_imul dX11_copies_17 ?_
      refine x_iload_n 3 dX11_copies_18 rfl rfl ?_
      refine x_iadd dX11_copies_19 ?_
      refine x_aload_n 0 dX11_copies_20 rfl rfl ?_
      refine x_getR dX11_copies_21 lm_0 fl_X11_7 rfl ?_
      refine x_sipush (v := (428)) dX11_copies_24 (by decide) ?_
      refine x_iload_n 1 dX11_copies_27 rfl rfl ?_
      refine x_imul dX11_copies_28 ?_
      refine x_iload_n 3 dX11_copies_29 rfl rfl ?_
      refine x_iadd dX11_copies_30 ?_
      obtain ⟨h1, hf⟩ := f_gd hf
      refine x_iald (j := ((((428 : Int32) * v1) + v3)).toNatClampNeg) (v := (I 1 ((((428 : Int32) * v1) + v3)).toNatClampNeg)) dX11_copies_31 lm_1 h1 rfl rfl ?_
      obtain ⟨h2, hf⟩ := f_gd hf
      obtain ⟨I3, hI3, hf⟩ := f_lt hf
      refine x_iast (j0 := ((((428 : Int32) * v2) + v3)).toNatClampNeg) dX11_copies_32 lm_1 h2 rfl hI3 ?_
      refine x_iinc 3 [(3, .int (v3 + (1 : Int32))), (0, .ref 0), (1, .int v1), (2, .int v2)] dX11_copies_33 rfl rfl (by decide) rfl ?_
      refine x_goto 2 dX11_copies_36 (by decide) ?_
      refine x_lv [(0, .ref 0), (1, .int v1), (2, .int v2), (3, .int (v3 + (1 : Int32)))] [1, 2, 3, 0] rfl ?_
      exact ih _ _ hf
set_option maxRecDepth 100000 in
set_option maxHeartbeats 4000000 in
theorem l_X11_copies_41   (v1 : Int32) (v2 : Int32) (I : z_I) {r : z_I × z_L}  : ∀ (n : Nat) (v3 : Int32) (L : z_L), g_X11_copies_41 v1 v2 I  n v3 L = some r → z_X layM RX11 cX11_copies 4 (none) ({ frames := 0, cells := 0, slots := 0, locals := 0 } : Room) 41 [(0, .ref 0), (1, .int v1), (2, .int v2), (3, .int v3)] [] I L (none, r.1, r.2) := by
  intro n
  induction n with
  | zero => intro v3 L hf; cases hf
  | succ n ih =>
    intro v3 L hf
    rw [g_X11_copies_41] at hf
    refine x_iload_n 3 dX11_copies_41 rfl rfl ?_
    refine x_bipush (v := (19)) dX11_copies_42 (by decide) ?_
    refine x_icmp_ge 75 dX11_copies_44 (by decide) (fun hB => ?_) (fun hB => ?_)
    · replace hf := f_if hB hf
      cases hf
      exact x_vret dX11_copies_75 rfl rfl
    · replace hf := f_el hB hf
      refine x_aload_n 0 dX11_copies_47 rfl rfl ?_
      refine x_getR dX11_copies_48 lm_0 fl_X11_13 rfl ?_
      refine x_bipush (v := (19)) dX11_copies_51 (by decide) ?_
      refine x_iload_n 2 dX11_copies_53 rfl rfl ?_
      refine x_imul dX11_copies_54 ?_
      refine x_iload_n 3 dX11_copies_55 rfl rfl ?_
      refine x_iadd dX11_copies_56 ?_
      refine x_aload_n 0 dX11_copies_57 rfl rfl ?_
      refine x_getR dX11_copies_58 lm_0 fl_X11_13 rfl ?_
      refine x_bipush (v := (19)) dX11_copies_61 (by decide) ?_
      refine x_iload_n 1 dX11_copies_63 rfl rfl ?_
      refine x_imul dX11_copies_64 ?_
      refine x_iload_n 3 dX11_copies_65 rfl rfl ?_
      refine x_iadd dX11_copies_66 ?_
      obtain ⟨h5, hf⟩ := f_gd hf
      refine x_lald (j := ((((19 : Int32) * v1) + v3)).toNatClampNeg) (v := (L 2 ((((19 : Int32) * v1) + v3)).toNatClampNeg)) dX11_copies_67 lm_2 h5 rfl rfl ?_
      obtain ⟨h6, hf⟩ := f_gd hf
      obtain ⟨L7, hL7, hf⟩ := f_lt hf
      refine x_last (j0 := ((((19 : Int32) * v2) + v3)).toNatClampNeg) dX11_copies_68 lm_2 h6 rfl hL7 ?_
      refine x_iinc 3 [(3, .int (v3 + (1 : Int32))), (0, .ref 0), (1, .int v1), (2, .int v2)] dX11_copies_69 rfl rfl (by decide) rfl ?_
      refine x_goto 41 dX11_copies_72 (by decide) ?_
      refine x_lv [(0, .ref 0), (1, .int v1), (2, .int v2), (3, .int (v3 + (1 : Int32)))] [1, 2, 3, 0] rfl ?_
      exact ih _ _ hf
set_option maxRecDepth 100000 in
set_option maxHeartbeats 4000000 in
theorem c_X11_copies {I : z_I} {L : z_L} {p0 : Int32} {p1 : Int32}  {r : z_I × z_L} (hf : f_X11_copies I L p0 p1 = some r) : z_C layM yX11_copies cX11_copies 4 (none) ({ frames := 0, cells := 0, slots := 0, locals := 0 } : Room) [.ref 0, .int p0, .int p1] I L (none, r.1, r.2) := by
  refine z_C.of (by decide) (Nat.le_of_ble_eq_true rfl) ?_
  show z_X layM RX11 cX11_copies 4 (none) ({ frames := 0, cells := 0, slots := 0, locals := 0 } : Room) 0 [(0, .ref 0), (1, .int p0), (2, .int p1)] [] I L (none, r.1, r.2)
  unfold f_X11_copies at hf
  refine x_iconst (v := (0)) dX11_copies_0 (by decide) ?_
  refine x_istore_n [(3, .int (0 : Int32)), (0, .ref 0), (1, .int p0), (2, .int p1)] dX11_copies_1 rfl (by decide) rfl ?_
  refine x_lv [(0, .ref 0), (1, .int p0), (2, .int p1), (3, .int (0 : Int32))] [1, 2, 3, 0] rfl ?_
  refine l_X11_copies_2 p0 p1 (L) _ ?_ _ _ _ hf
  · intro I_4 hf
    refine x_iconst (v := (0)) dX11_copies_39 (by decide) ?_
    refine x_istore_n [(3, .int (0 : Int32)), (0, .ref 0), (1, .int p0), (2, .int p1)] dX11_copies_40 rfl (by decide) rfl ?_
    refine x_lv [(0, .ref 0), (1, .int p0), (2, .int p1), (3, .int (0 : Int32))] [1, 2, 3, 0] rfl ?_
    refine l_X11_copies_41 p0 p1 (I_4)   _ _ _ hf
set_option maxRecDepth 100000 in
set_option maxHeartbeats 4000000 in
theorem c_X11_mark {I : z_I} {L : z_L}   {r : Int32 × z_I × z_L} (hf : f_X11_mark I L = some r) : z_C layM yX11_mark cX11_mark 1 (some .int) ({ frames := 1, cells := 0, slots := 0, locals := 23 } : Room) [.ref 0] I L (some (.int r.1), r.2.1, r.2.2) := by
  refine z_C.of (by decide) (Nat.le_of_ble_eq_true rfl) ?_
  show z_X layM RX11 cX11_mark 1 (some .int) ({ frames := 1, cells := 0, slots := 0, locals := 23 } : Room) 0 [(0, .ref 0)] [] I L (some (.int r.1), r.2.1, r.2.2)
  unfold f_X11_mark at hf
  refine x_aload_n 0 dX11_mark_0 rfl rfl ?_
  refine x_getI (v := (I 0 45)) dX11_mark_1 lm_0 fl_X11_487 rfl rfl ?_
  refine x_iconst (v := (3)) dX11_mark_4 (by decide) ?_
  refine x_icmp_ne 14 dX11_mark_5 (by decide) (fun hB => ?_) (fun hB => ?_)
  · replace hf := f_el hB hf
    refine x_aload_n 0 dX11_mark_14 rfl rfl ?_
    refine x_dup dX11_mark_15 rfl ?_
    refine x_getI (v := (I 0 45)) dX11_mark_16 lm_0 fl_X11_487 rfl rfl ?_
    refine x_iconst (v := (1)) dX11_mark_19 (by decide) ?_
    refine x_iadd dX11_mark_20 ?_
    obtain ⟨I1, hI1, hf⟩ := f_lt hf
    refine x_putI dX11_mark_21 lm_0 fl_X11_487 rfl rfl rfl hI1 ?_
    refine x_aload_n 0 dX11_mark_24 rfl rfl ?_
    refine x_iconst (v := (0)) dX11_mark_25 (by decide) ?_
    refine x_aload_n 0 dX11_mark_26 rfl rfl ?_
    refine x_getI (v := ((I 0 45) + (1 : Int32))) dX11_mark_27 lm_0 fl_X11_487 rfl (by rw [hI1, z2_s, z1_s]) ?_
    obtain ⟨q2, hq3, hf⟩ := f_bd hf
    refine x_callVv [.int (0 : Int32), .int ((I 0 45) + (1 : Int32))] (c_X11_copies (I := I1) (L := L)  hq3) dX11_mark_30 lk_X11_490 lm_0 rfl cd_X11_copies rfl rfl (Nat.le_of_ble_eq_true rfl) ⟨rfl, rfl, Nat.le_of_ble_eq_true rfl, Nat.le_of_ble_eq_true rfl⟩ ?_
    refine x_aload_n 0 dX11_mark_33 rfl rfl ?_
    refine x_aload_n 0 dX11_mark_34 rfl rfl ?_
    refine x_getI (v := (q2.1 0 45)) dX11_mark_35 lm_0 fl_X11_487 rfl rfl ?_
    refine x_callVi [.int (q2.1 0 45)] (c_X11_gives (I := q2.1) (L := q2.2) (q2.1 0 45)) dX11_mark_38 lk_X11_103 lm_0 rfl cd_X11_gives rfl rfl (Nat.le_of_ble_eq_true rfl) ⟨rfl, rfl, Nat.le_of_ble_eq_true rfl, Nat.le_of_ble_eq_true rfl⟩ ?_
    cases hf
    exact x_iret dX11_mark_41 rfl rfl
  · replace hf := f_if hB hf
    refine x_aload_n 0 dX11_mark_8 rfl rfl ?_
    refine x_iconst (v := (4)) dX11_mark_9 (by decide) ?_
    refine x_callVi [.int (4 : Int32)] (c_X11_refuse (I := I) (L := L) (4 : Int32)) dX11_mark_10 lk_X11_99 lm_0 rfl cd_X11_refuse rfl rfl (Nat.le_of_ble_eq_true rfl) ⟨rfl, rfl, Nat.le_of_ble_eq_true rfl, Nat.le_of_ble_eq_true rfl⟩ ?_
    cases hf
    exact x_iret dX11_mark_13 rfl rfl
set_option maxRecDepth 100000 in
set_option maxHeartbeats 4000000 in
theorem c_X11_undo {I : z_I} {L : z_L}   {r : Int32 × z_I × z_L} (hf : f_X11_undo I L = some r) : z_C layM yX11_undo cX11_undo 1 (some .int) ({ frames := 1, cells := 0, slots := 0, locals := 23 } : Room) [.ref 0] I L (some (.int r.1), r.2.1, r.2.2) := by
  refine z_C.of (by decide) (Nat.le_of_ble_eq_true rfl) ?_
  show z_X layM RX11 cX11_undo 1 (some .int) ({ frames := 1, cells := 0, slots := 0, locals := 23 } : Room) 0 [(0, .ref 0)] [] I L (some (.int r.1), r.2.1, r.2.2)
  unfold f_X11_undo at hf
  refine x_aload_n 0 dX11_undo_0 rfl rfl ?_
  refine x_getI (v := (I 0 45)) dX11_undo_1 lm_0 fl_X11_487 rfl rfl ?_
  refine x_if_ne 14 dX11_undo_4 (by decide) (fun hB => ?_) (fun hB => ?_)
  · replace hf := f_el hB hf
    refine x_aload_n 0 dX11_undo_14 rfl rfl ?_
    refine x_aload_n 0 dX11_undo_15 rfl rfl ?_
    refine x_getI (v := (I 0 45)) dX11_undo_16 lm_0 fl_X11_487 rfl rfl ?_
    refine x_iconst (v := (0)) dX11_undo_19 (by decide) ?_
    obtain ⟨q1, hq2, hf⟩ := f_bd hf
    refine x_callVv [.int (I 0 45), .int (0 : Int32)] (c_X11_copies (I := I) (L := L)  hq2) dX11_undo_20 lk_X11_490 lm_0 rfl cd_X11_copies rfl rfl (Nat.le_of_ble_eq_true rfl) ⟨rfl, rfl, Nat.le_of_ble_eq_true rfl, Nat.le_of_ble_eq_true rfl⟩ ?_
    refine x_aload_n 0 dX11_undo_23 rfl rfl ?_
    refine x_dup dX11_undo_24 rfl ?_
    refine x_getI (v := (q1.1 0 45)) dX11_undo_25 lm_0 fl_X11_487 rfl rfl ?_
    refine x_iconst (v := (1)) dX11_undo_28 (by decide) ?_
    refine x_isub dX11_undo_29 ?_
    obtain ⟨I3, hI3, hf⟩ := f_lt hf
    refine x_putI dX11_undo_30 lm_0 fl_X11_487 rfl rfl rfl hI3 ?_
    refine x_aload_n 0 dX11_undo_33 rfl rfl ?_
    refine x_aload_n 0 dX11_undo_34 rfl rfl ?_
    refine x_getI (v := ((q1.1 0 45) - (1 : Int32))) dX11_undo_35 lm_0 fl_X11_487 rfl (by rw [hI3, z2_s, z1_s]) ?_
    refine x_callVi [.int ((q1.1 0 45) - (1 : Int32))] (c_X11_gives (I := I3) (L := q1.2) ((q1.1 0 45) - (1 : Int32))) dX11_undo_38 lk_X11_103 lm_0 rfl cd_X11_gives rfl rfl (Nat.le_of_ble_eq_true rfl) ⟨rfl, rfl, Nat.le_of_ble_eq_true rfl, Nat.le_of_ble_eq_true rfl⟩ ?_
    cases hf
    exact x_iret dX11_undo_41 rfl rfl
  · replace hf := f_if hB hf
    refine x_aload_n 0 dX11_undo_7 rfl rfl ?_
    refine x_bipush (v := (6)) dX11_undo_8 (by decide) ?_
    refine x_callVi [.int (6 : Int32)] (c_X11_refuse (I := I) (L := L) (6 : Int32)) dX11_undo_10 lk_X11_99 lm_0 rfl cd_X11_refuse rfl rfl (Nat.le_of_ble_eq_true rfl) ⟨rfl, rfl, Nat.le_of_ble_eq_true rfl, Nat.le_of_ble_eq_true rfl⟩ ?_
    cases hf
    exact x_iret dX11_undo_13 rfl rfl
