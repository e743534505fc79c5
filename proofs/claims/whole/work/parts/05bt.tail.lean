theorem lt_2 : yl_79[2]? = some (.inl (.byte, 900, 0, [])) := rfl
theorem lt_39 : yl_79[39]? = some (.inr (7, [(2, 2), (2, 40), (0, 0), (0, 0), (0, 0), (0, 0), (0, 0), (0, 0), (1, 0), (0, 0), (0, 0), (0, 0), (0, 0)])) := rfl
theorem lt_40 : yl_79[40]? = some (.inl (.long, 23, 1, [])) := rfl
def g_X7_init_24   : Nat → Int32 → Int64 → Int32 → z_L → Option (z_L)
  | 0, _, _, _, _ => none
  | n + 1, v2, v3, v5, L =>
    if (119 : Int32) ≤ v5 then
      some L
    else
      if zin v5 119 = true then
        if (z_chT (v5).toNatClampNeg) = (32 : Int32) then
          if (23 : Int32) ≤ v2 then
            g_X7_init_24   n v2 v3 (v5 + (1 : Int32)) L
          else
            if zin v2 23 = true then
              z_lt (z2 L 40 (v2).toNatClampNeg v3) fun L3 =>
              g_X7_init_24   n (v2 + (1 : Int32)) (0 : Int64) (v5 + (1 : Int32)) L3
            else none
        else
          z_lt ((v3 * (27 : Int64)) + ((((z_chT (v5).toNatClampNeg) - (97 : Int32)) + (1 : Int32)).toInt64)) fun w4 =>
          g_X7_init_24   n v2 w4 (v5 + (1 : Int32)) L
      else none
def f_X7_tail (L : z_L) : Option (z_L) :=
  g_X7_init_24  z_fuel (0 : Int32) (0 : Int64) (0 : Int32) L
set_option maxRecDepth 100000 in
set_option maxHeartbeats 4000000 in
theorem l_X7_init_24    (I : z_I) {r : z_L}  : ∀ (n : Nat) (v2 : Int32) (v3 : Int64) (v5 : Int32) (L : z_L), g_X7_init_24   n v2 v3 v5 L = some r → z_X yl_79 RX7 cX7_init 7 (none) ({ frames := 4, cells := 1, slots := 23, locals := 90 } : Room) 24 [(0, .ref 39), (2, .int v2), (3, .long v3), (5, .int v5)] [] I L (none, I, r) := by
  intro n
  induction n with
  | zero => intro v2 v3 v5 L hf; cases hf
  | succ n ih =>
    intro v2 v3 v5 L hf
    rw [g_X7_init_24] at hf
    refine x_iload 3 dX7_init_24 rfl ?_
    refine x_ldcT dX7_init_26 ?_
    refine x_slenT dX7_init_28 lk_X7_21 ⟨Nat.le_of_ble_eq_true rfl, Nat.le_of_ble_eq_true rfl⟩ (Nat.le_of_ble_eq_true rfl) ?_
    refine x_icmp_ge 92 dX7_init_31 (by decide) (fun hB => ?_) (fun hB => ?_)
    · replace hf := f_if hB hf
      cases hf
      exact x_vret dX7_init_92 rfl rfl
    · replace hf := f_el hB hf
      refine x_ldcT dX7_init_34 ?_
      refine x_iload 3 dX7_init_36 rfl ?_
      obtain ⟨h1, hf⟩ := f_gd hf
      refine x_scharT dX7_init_38 lk_X7_27 h1 ⟨Nat.le_of_ble_eq_true rfl, Nat.le_of_ble_eq_true rfl⟩ (Nat.le_of_ble_eq_true rfl) ?_
      refine x_istore [(6, .int (z_chT (v5).toNatClampNeg)), (0, .ref 39), (2, .int v2), (3, .long v3), (5, .int v5)] dX7_init_41 (by decide) rfl ?_
      refine x_iload 0 dX7_init_43 rfl ?_
      refine x_bipush (v := (32)) dX7_init_45 (by decide) ?_
      refine x_icmp_eq 68 dX7_init_47 (by decide) (fun hB => ?_) (fun hB => ?_)
      · replace hf := f_if hB hf
        refine x_iload_n 2 dX7_init_68 rfl rfl ?_
        refine x_bipush (v := (23)) dX7_init_69 (by decide) ?_
        refine x_icmp_ge 86 dX7_init_71 (by decide) (fun hB => ?_) (fun hB => ?_)
        · replace hf := f_if hB hf
          refine x_iinc 4 [(5, .int (v5 + (1 : Int32))), (6, .int (z_chT (v5).toNatClampNeg)), (0, .ref 39), (2, .int v2), (3, .long v3)] dX7_init_86 rfl rfl (by decide) rfl ?_
          refine x_goto 24 dX7_init_89 (by decide) ?_
          refine x_lv [(0, .ref 39), (2, .int v2), (3, .long v3), (5, .int (v5 + (1 : Int32)))] [2, 3, 4, 0] rfl ?_
          exact ih _ _ _ _ hf
        · replace hf := f_el hB hf
          refine x_aload_n 1 dX7_init_74 rfl rfl ?_
          refine x_getR dX7_init_75 lt_39 fl_X7_9 rfl ?_
          refine x_iload_n 2 dX7_init_78 rfl rfl ?_
          refine x_lload_n 3 dX7_init_79 rfl rfl ?_
          obtain ⟨h2, hf⟩ := f_gd hf
          obtain ⟨L3, hL3, hf⟩ := f_lt hf
          refine x_last (j0 := (v2).toNatClampNeg) dX7_init_80 lt_40 h2 rfl hL3 ?_
          refine x_lconst (v := (0)) dX7_init_81 (by decide) ?_
          refine x_lstore_n [(3, .long (0 : Int64)), (6, .int (z_chT (v5).toNatClampNeg)), (0, .ref 39), (2, .int v2), (5, .int v5)] dX7_init_82 rfl (by decide) rfl ?_
          refine x_iinc 3 [(2, .int (v2 + (1 : Int32))), (3, .long (0 : Int64)), (6, .int (z_chT (v5).toNatClampNeg)), (0, .ref 39), (5, .int v5)] dX7_init_83 rfl rfl (by decide) rfl ?_
          refine x_iinc 4 [(5, .int (v5 + (1 : Int32))), (2, .int (v2 + (1 : Int32))), (3, .long (0 : Int64)), (6, .int (z_chT (v5).toNatClampNeg)), (0, .ref 39)] dX7_init_86 rfl rfl (by decide) rfl ?_
          refine x_goto 24 dX7_init_89 (by decide) ?_
          refine x_lv [(0, .ref 39), (2, .int (v2 + (1 : Int32))), (3, .long (0 : Int64)), (5, .int (v5 + (1 : Int32)))] [4, 1, 2, 0] rfl ?_
          exact ih _ _ _ _ hf
      · replace hf := f_el hB hf
        refine x_lload_n 3 dX7_init_50 rfl rfl ?_
        refine x_ldc2 (v := (27)) dX7_init_51 kc_X7_31 ?_
        refine x_lmul dX7_init_54 ?_
        refine x_iload 0 dX7_init_55 rfl ?_
        refine x_bipush (v := (97)) dX7_init_57 (by decide) ?_
        refine x_isub dX7_init_59 ?_
        refine x_iconst (v := (1)) dX7_init_60 (by decide) ?_
        refine x_iadd dX7_init_61 ?_
        refine x_i2l dX7_init_62 ?_
        refine x_ladd dX7_init_63 ?_
        obtain ⟨w4, hw4, hf⟩ := f_lt hf
        refine x_topL hw4 ?_
        refine x_lstore_n [(3, .long w4), (6, .int (z_chT (v5).toNatClampNeg)), (0, .ref 39), (2, .int v2), (5, .int v5)] dX7_init_64 rfl (by decide) rfl ?_
        refine x_goto 86 dX7_init_65 (by decide) ?_
        refine x_iinc 4 [(5, .int (v5 + (1 : Int32))), (3, .long w4), (6, .int (z_chT (v5).toNatClampNeg)), (0, .ref 39), (2, .int v2)] dX7_init_86 rfl rfl (by decide) rfl ?_
        refine x_goto 24 dX7_init_89 (by decide) ?_
        refine x_lv [(0, .ref 39), (2, .int v2), (3, .long w4), (5, .int (v5 + (1 : Int32)))] [3, 4, 1, 0] rfl ?_
        exact ih _ _ _ _ hf
set_option maxRecDepth 100000 in
set_option maxHeartbeats 4000000 in
theorem x_X7_tail {I : z_I} {L r : z_L} (hf : f_X7_tail L = some r) : z_X yl_79 RX7 cX7_init 7 none ({ frames := 4, cells := 1, slots := 23, locals := 90 } : Room) 17 [(0, .ref 39), (1, .ref 2)] [] I L (none, I, r) := by
  unfold f_X7_tail at hf
  refine x_iconst (v := (0)) dX7_init_17 (by decide) ?_
  refine x_istore_n [(2, .int (0 : Int32)), (0, .ref 39), (1, .ref 2)] dX7_init_18 rfl (by decide) rfl ?_
  refine x_lconst (v := (0)) dX7_init_19 (by decide) ?_
  refine x_lstore_n [(3, .long (0 : Int64)), (2, .int (0 : Int32)), (0, .ref 39), (1, .ref 2)] dX7_init_20 rfl (by decide) rfl ?_
  refine x_iconst (v := (0)) dX7_init_21 (by decide) ?_
  refine x_istore [(5, .int (0 : Int32)), (3, .long (0 : Int64)), (2, .int (0 : Int32)), (0, .ref 39), (1, .ref 2)] dX7_init_22 (by decide) rfl ?_
  refine x_lv [(0, .ref 39), (2, .int (0 : Int32)), (3, .long (0 : Int64)), (5, .int (0 : Int32))] [3, 2, 1, 0] rfl ?_
  refine l_X7_init_24 (I)   _ _ _ _ _ hf
