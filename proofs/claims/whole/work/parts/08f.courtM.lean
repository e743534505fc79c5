/-! the same in the reference -/
section
variable {C : q_N} {m : Nat} {J : z_I} {K : z_L}
theorem m_isBed (h : q_sm C 0 m J K) (p : Int32) : f_X11_isBed J p = q_hs (C 0 0) p := by
  unfold f_X11_isBed q_hs; rw [h.f.1]
theorem m_isCase (h : q_sm C 0 m J K) (p : Int32) : f_X11_isCase J p = q_hs (C 0 1) p := by
  unfold f_X11_isCase q_hs; rw [h.f.2.1]
theorem m_isClaim (h : q_sm C 0 m J K) (p : Int32) : f_X11_isClaim J p = q_hs (C 0 2) p := by
  unfold f_X11_isClaim q_hs; rw [h.f.2.2.1]
theorem m_isScholar (h : q_sm C 0 m J K) (p : Int32) : f_X11_isScholar J p = q_hs (C 0 3) p := by
  unfold f_X11_isScholar q_hs; rw [h.f.2.2.2.1]
theorem m_allCases (h : q_sm C 0 m J K) (ok : q_ok C) : f_X11_allCases J = nI (2 ^ C 0 1 - 1) := by
  obtain ⟨o0, o1, o2, o3, -⟩ := id ok
  unfold f_X11_allCases
  rw [h.f.2.1, q_shl _ (by omega), ql_1, q_ones (by omega)]
theorem m_areCases (h : q_sm C 0 m J K) (ok : q_ok C) (p : Int32) : f_X11_areCases J p.toInt64 = q_hs (2 ^ C 0 1) p := by
  obtain ⟨o0, o1, o2, o3, -⟩ := id ok
  have hp := q_pow (n := C 0 1) (by omega)
  have h1 : 0 < 2 ^ C 0 1 := Nat.two_pow_pos _
  unfold f_X11_areCases
  rw [m_allCases h ok, nI_l (by omega), show (0 : Int64) = lN 0 from rfl, q_from (by omega) (by omega), ← ql_0, q_wi_hs (by omega), show 2 ^ C 0 1 - 1 + 1 = 2 ^ C 0 1 by omega]
theorem x0_hasCases {c : Nat} {I : z_I} {L : z_L} (h : q_sx C c I L) (ok : q_ok C) (p : Int32) : f_X0_hasCases I c p = q_hs (2 ^ C 0 1) p := by
  obtain ⟨o0, o1, o2, o3, -⟩ := id ok
  have hp := q_pow (n := C 0 1) (by omega)
  unfold f_X0_hasCases
  rw [x0_setOfAll h ok]
  by_cases z : (p &&& (nI (2 ^ C 0 1 - 1) ^^^ (-1))) = 0
  · rw [if_pos z]
    obtain ⟨s, hs, rfl⟩ := (q_cs (by omega)).1 z
    rw [q_hs_i hs hp]
  · rw [if_neg z]
    cases hb : q_hs (2 ^ C 0 1) p with
    | false => rfl
    | true => exact absurd ((q_cs (by omega)).2 (q_hs_t hb hp)) z
theorem m_truthOf (h : q_sm C 0 m J K) (ok : q_ok C) {k : Nat} (hk : k < C 0 2) : f_X11_truthOf J (nI k) = some (nI (C 6 k)) := by
  obtain ⟨o0, o1, o2, o3, -⟩ := id ok
  simp (disch := omega) only [f_X11_truthOf, f_X11_claimRow, ql_0, ql_1, ql_2, ql_3, ql_4, ql_5, ql_6, ql_7, ql_8, ql_9, ql_10, ql_11, ql_12, ql_13, ql_14, ql_15, ql_16, ql_17, ql_18, ql_19, ql_20, ql_21, ql_22, ql_23, ql_24, ql_27, ql_30, ql_31, ql_32, ql_40, ql_48, ql_51, ql_52, ql_57, ql_59, ql_60, ql_61, ql_62, ql_76, ql_84, ql_91, ql_97, ql_99, ql_100, ql_120, ql_122, ql_127, ql_128, ql_200, ql_255, ql_256, ql_300, ql_420, ql_428, ql_640, ql_900, ql_896, ql_999, ql_1712, ql_1716, ql_1734, ql_1772, ql_1800, ql_1805, ql_1811, ql_1822, ql_2132, ql_2140, ql_3229, ql_9999, ql_11453, ql_65536, ql_100000, ql_1000000, nI_add, pk_mul, q_and, q_or, q_xor, nI_clamp, q_in, q_neg1, q_nno, q_nno', q_annN, q_sh1, q_tbN, nI_leI, nI_ltI, nI_eq, pk_sub, ↓reduceIte, if_pos, if_neg, q_zlt, q_bs, h.a6 hk]
theorem q_ok6 (ok : q_ok C) {k : Nat} (hk : k < C 0 2) : C 6 k < 256 ∧ C 6 k < 2 ^ C 0 1 := by
  have := (ok.2.2.2.2.2.2.2.2.2.1 k hk).2.2.2.1
  exact ⟨q_p8 ok.2.1 this, this⟩
theorem q_okM (ok : q_ok C) : C 0 6 < 128 := q_p7 ok.2.2.1 ok.2.2.2.2.2.2.1
theorem m_weightOf (h : q_sm C 0 m J K) (ok : q_ok C) {s : Nat} (hs : s < 2 ^ 31) : f_X11_weightOf J (nI s) = some (nI (q_wt C s (C 0 1))) := by
  obtain ⟨o0, o1, o2, o3, -⟩ := id ok
  unfold f_X11_weightOf
  refine q_lp (G := fun n k (a : Nat) => g_X11_weightOf_4 (nI s) J n (nI a) (nI k)) (fun k => q_wt C s k) (fun n k _ hk => ?_) (fun n => ?_) (Nat.zero_le (C 0 1)) (q_fu (by omega))
  · cases hb : s.testBit k <;> simp (disch := omega) only [g_X11_weightOf_4, h.f.2.1, h.a3 hk, ql_0, ql_1, ql_2, ql_3, ql_4, ql_5, ql_6, ql_7, ql_8, ql_9, ql_10, ql_11, ql_12, ql_13, ql_14, ql_15, ql_16, ql_17, ql_18, ql_19, ql_20, ql_21, ql_22, ql_23, ql_24, ql_27, ql_30, ql_31, ql_32, ql_40, ql_48, ql_51, ql_52, ql_57, ql_59, ql_60, ql_61, ql_62, ql_76, ql_84, ql_91, ql_97, ql_99, ql_100, ql_120, ql_122, ql_127, ql_128, ql_200, ql_255, ql_256, ql_300, ql_420, ql_428, ql_640, ql_900, ql_896, ql_999, ql_1712, ql_1716, ql_1734, ql_1772, ql_1800, ql_1805, ql_1811, ql_1822, ql_2132, ql_2140, ql_3229, ql_9999, ql_11453, ql_65536, ql_100000, ql_1000000, nI_add, pk_mul, q_and, q_or, q_xor, nI_clamp, q_in, q_neg1, q_nno, q_nno', q_annN, q_sh1, q_tbN, nI_leI, nI_ltI, nI_eq, pk_sub, ↓reduceIte, if_pos, if_neg, q_zlt, q_bs, q_isIn, q_wt, q_sum, hb, Nat.add_zero, Bool.false_eq_true, reduceCtorEq]
  · simp (disch := omega) only [g_X11_weightOf_4, h.f.2.1, ql_0, ql_1, ql_2, ql_3, ql_4, ql_5, ql_6, ql_7, ql_8, ql_9, ql_10, ql_11, ql_12, ql_13, ql_14, ql_15, ql_16, ql_17, ql_18, ql_19, ql_20, ql_21, ql_22, ql_23, ql_24, ql_27, ql_30, ql_31, ql_32, ql_40, ql_48, ql_51, ql_52, ql_57, ql_59, ql_60, ql_61, ql_62, ql_76, ql_84, ql_91, ql_97, ql_99, ql_100, ql_120, ql_122, ql_127, ql_128, ql_200, ql_255, ql_256, ql_300, ql_420, ql_428, ql_640, ql_900, ql_896, ql_999, ql_1712, ql_1716, ql_1734, ql_1772, ql_1800, ql_1805, ql_1811, ql_1822, ql_2132, ql_2140, ql_3229, ql_9999, ql_11453, ql_65536, ql_100000, ql_1000000, nI_add, pk_mul, q_and, q_or, q_xor, nI_clamp, q_in, q_neg1, q_nno, q_nno', q_annN, q_sh1, q_tbN, nI_leI, nI_ltI, nI_eq, pk_sub, ↓reduceIte, if_pos, if_neg, q_zlt, q_bs]
theorem m_partBy (h : q_sm C 0 m J K) (ok : q_ok C) {d w : Nat} (hw : w < 31) (hd : d < 2 ^ 31) : f_X11_partBy J (nI w) (nI d) = some (nI (q_prt C d w (C 0 2))) := by
  obtain ⟨o0, o1, o2, o3, -⟩ := id ok
  unfold f_X11_partBy
  rw [m_allCases h ok]
  rw [show 2 ^ C 0 1 - 1 = q_prt C d w 0 from rfl, ql_0]
  refine q_lp (G := fun n k (a : Nat) => g_X11_partBy_8 (nI w) (nI d) J n (nI a) (nI k)) (fun k => q_prt C d w k) (fun n k _ hk => ?_) (fun n => ?_) (Nat.zero_le (C 0 2)) (q_fu (by omega))
  · have e : q_prt C d w (k + 1) = if d.testBit k then (if (C 6 k).testBit w then q_prt C d w k &&& C 6 k else q_prt C d w k ^^^ (q_prt C d w k &&& C 6 k)) else q_prt C d w k := rfl
    have h6 := (q_ok6 ok hk).1
    cases hb : d.testBit k <;> cases hc : (C 6 k).testBit w <;> simp (disch := omega) only [g_X11_partBy_8, h.f.2.2.1, m_truthOf h ok hk, ql_0, ql_1, ql_2, ql_3, ql_4, ql_5, ql_6, ql_7, ql_8, ql_9, ql_10, ql_11, ql_12, ql_13, ql_14, ql_15, ql_16, ql_17, ql_18, ql_19, ql_20, ql_21, ql_22, ql_23, ql_24, ql_27, ql_30, ql_31, ql_32, ql_40, ql_48, ql_51, ql_52, ql_57, ql_59, ql_60, ql_61, ql_62, ql_76, ql_84, ql_91, ql_97, ql_99, ql_100, ql_120, ql_122, ql_127, ql_128, ql_200, ql_255, ql_256, ql_300, ql_420, ql_428, ql_640, ql_900, ql_896, ql_999, ql_1712, ql_1716, ql_1734, ql_1772, ql_1800, ql_1805, ql_1811, ql_1822, ql_2132, ql_2140, ql_3229, ql_9999, ql_11453, ql_65536, ql_100000, ql_1000000, nI_add, pk_mul, q_and, q_or, q_xor, nI_clamp, q_in, q_neg1, q_nno, q_nno', q_annN, q_sh1, q_tbN, nI_leI, nI_ltI, nI_eq, pk_sub, ↓reduceIte, if_pos, if_neg, q_zlt, q_bs, q_isIn, e, hb, hc, Bool.false_eq_true, reduceCtorEq]
  · simp (disch := omega) only [g_X11_partBy_8, h.f.2.2.1, ql_0, ql_1, ql_2, ql_3, ql_4, ql_5, ql_6, ql_7, ql_8, ql_9, ql_10, ql_11, ql_12, ql_13, ql_14, ql_15, ql_16, ql_17, ql_18, ql_19, ql_20, ql_21, ql_22, ql_23, ql_24, ql_27, ql_30, ql_31, ql_32, ql_40, ql_48, ql_51, ql_52, ql_57, ql_59, ql_60, ql_61, ql_62, ql_76, ql_84, ql_91, ql_97, ql_99, ql_100, ql_120, ql_122, ql_127, ql_128, ql_200, ql_255, ql_256, ql_300, ql_420, ql_428, ql_640, ql_900, ql_896, ql_999, ql_1712, ql_1716, ql_1734, ql_1772, ql_1800, ql_1805, ql_1811, ql_1822, ql_2132, ql_2140, ql_3229, ql_9999, ql_11453, ql_65536, ql_100000, ql_1000000, nI_add, pk_mul, q_and, q_or, q_xor, nI_clamp, q_in, q_neg1, q_nno, q_nno', q_annN, q_sh1, q_tbN, nI_leI, nI_ltI, nI_eq, pk_sub, ↓reduceIte, if_pos, if_neg, q_zlt, q_bs]
theorem m_bits {x : Nat} (hx : x < 256) : f_X11_bits (nI x) = some (nI (q_pc x)) := by
  have key : ∀ j x a n, x < 256 → q_pc x = j → j < n → g_X11_bits_4 n (nI a) (nI x) = some (nI (a + j)) := by
    intro j
    induction j with
    | zero =>
      intro x a n hx hj hn
      have : x = 0 := (q_pc0 x hx).2.1 hj
      subst this
      cases n with
      | zero => omega
      | succ n => simp (disch := omega) only [g_X11_bits_4, ql_0, ql_1, ql_2, ql_3, ql_4, ql_5, ql_6, ql_7, ql_8, ql_9, ql_10, ql_11, ql_12, ql_13, ql_14, ql_15, ql_16, ql_17, ql_18, ql_19, ql_20, ql_21, ql_22, ql_23, ql_24, ql_27, ql_30, ql_31, ql_32, ql_40, ql_48, ql_51, ql_52, ql_57, ql_59, ql_60, ql_61, ql_62, ql_76, ql_84, ql_91, ql_97, ql_99, ql_100, ql_120, ql_122, ql_127, ql_128, ql_200, ql_255, ql_256, ql_300, ql_420, ql_428, ql_640, ql_900, ql_896, ql_999, ql_1712, ql_1716, ql_1734, ql_1772, ql_1800, ql_1805, ql_1811, ql_1822, ql_2132, ql_2140, ql_3229, ql_9999, ql_11453, ql_65536, ql_100000, ql_1000000, nI_add, pk_mul, q_and, q_or, q_xor, nI_clamp, q_in, q_neg1, q_nno, q_nno', q_annN, q_sh1, q_tbN, nI_leI, nI_ltI, nI_eq, pk_sub, ↓reduceIte, if_pos, if_neg, q_zlt, q_bs, Nat.add_zero]
    | succ j ih =>
      intro x a n hx hj hn
      have h0 : 0 < x := Nat.pos_of_ne_zero (fun z => by subst z; rw [(q_pc0 0 hx).2.2] at hj; omega)
      obtain ⟨e1, e2⟩ := q_pcs x hx h0
      cases n with
      | zero => omega
      | succ n =>
        have := ih (x &&& (x - 1)) (a + 1) n e2 (by omega) (by omega)
        simp (disch := omega) only [g_X11_bits_4, ql_0, ql_1, ql_2, ql_3, ql_4, ql_5, ql_6, ql_7, ql_8, ql_9, ql_10, ql_11, ql_12, ql_13, ql_14, ql_15, ql_16, ql_17, ql_18, ql_19, ql_20, ql_21, ql_22, ql_23, ql_24, ql_27, ql_30, ql_31, ql_32, ql_40, ql_48, ql_51, ql_52, ql_57, ql_59, ql_60, ql_61, ql_62, ql_76, ql_84, ql_91, ql_97, ql_99, ql_100, ql_120, ql_122, ql_127, ql_128, ql_200, ql_255, ql_256, ql_300, ql_420, ql_428, ql_640, ql_900, ql_896, ql_999, ql_1712, ql_1716, ql_1734, ql_1772, ql_1800, ql_1805, ql_1811, ql_1822, ql_2132, ql_2140, ql_3229, ql_9999, ql_11453, ql_65536, ql_100000, ql_1000000, nI_add, pk_mul, q_and, q_or, q_xor, nI_clamp, q_in, q_neg1, q_nno, q_nno', q_annN, q_sh1, q_tbN, nI_leI, nI_ltI, nI_eq, pk_sub, ↓reduceIte, if_pos, if_neg, q_zlt, q_bs]
        rw [this, show a + 1 + j = a + (j + 1) by omega]
  have := key (q_pc x) x 0 z_fuel hx rfl (q_fu (by have := (q_pc0 x hx).1; omega))
  rw [Nat.zero_add] at this
  exact this
theorem m_together2 (h : q_sm C 0 m J K) (ok : q_ok C) : f_X11_together J 2 = some (nI (q_sum (C 9) (C 0 3))) := by
  obtain ⟨o0, o1, o2, o3, -⟩ := id ok
  unfold f_X11_together
  rw [if_pos rfl]
  refine q_lp (G := fun n k (a : Nat) => g_X11_together_9 J n (nI a) (nI k)) (fun k => q_sum (C 9) k) (fun n k _ hk => ?_) (fun n => ?_) (Nat.zero_le (C 0 3)) (q_fu (by omega))
  · simp (disch := omega) only [g_X11_together_9, f_X11_scholarRow, h.f.2.2.2.1, ql_0, ql_1, ql_2, ql_3, ql_4, ql_5, ql_6, ql_7, ql_8, ql_9, ql_10, ql_11, ql_12, ql_13, ql_14, ql_15, ql_16, ql_17, ql_18, ql_19, ql_20, ql_21, ql_22, ql_23, ql_24, ql_27, ql_30, ql_31, ql_32, ql_40, ql_48, ql_51, ql_52, ql_57, ql_59, ql_60, ql_61, ql_62, ql_76, ql_84, ql_91, ql_97, ql_99, ql_100, ql_120, ql_122, ql_127, ql_128, ql_200, ql_255, ql_256, ql_300, ql_420, ql_428, ql_640, ql_900, ql_896, ql_999, ql_1712, ql_1716, ql_1734, ql_1772, ql_1800, ql_1805, ql_1811, ql_1822, ql_2132, ql_2140, ql_3229, ql_9999, ql_11453, ql_65536, ql_100000, ql_1000000, nI_add, pk_mul, q_and, q_or, q_xor, nI_clamp, q_in, q_neg1, q_nno, q_nno', q_annN, q_sh1, q_tbN, nI_leI, nI_ltI, nI_eq, pk_sub, ↓reduceIte, if_pos, if_neg, q_zlt, q_bs, h.a9 hk, q_sum]
  · simp (disch := omega) only [g_X11_together_9, h.f.2.2.2.1, ql_0, ql_1, ql_2, ql_3, ql_4, ql_5, ql_6, ql_7, ql_8, ql_9, ql_10, ql_11, ql_12, ql_13, ql_14, ql_15, ql_16, ql_17, ql_18, ql_19, ql_20, ql_21, ql_22, ql_23, ql_24, ql_27, ql_30, ql_31, ql_32, ql_40, ql_48, ql_51, ql_52, ql_57, ql_59, ql_60, ql_61, ql_62, ql_76, ql_84, ql_91, ql_97, ql_99, ql_100, ql_120, ql_122, ql_127, ql_128, ql_200, ql_255, ql_256, ql_300, ql_420, ql_428, ql_640, ql_900, ql_896, ql_999, ql_1712, ql_1716, ql_1734, ql_1772, ql_1800, ql_1805, ql_1811, ql_1822, ql_2132, ql_2140, ql_3229, ql_9999, ql_11453, ql_65536, ql_100000, ql_1000000, nI_add, pk_mul, q_and, q_or, q_xor, nI_clamp, q_in, q_neg1, q_nno, q_nno', q_annN, q_sh1, q_tbN, nI_leI, nI_ltI, nI_eq, pk_sub, ↓reduceIte, if_pos, if_neg, q_zlt, q_bs]
theorem m_together0 (h : q_sm C 0 m J K) (ok : q_ok C) : f_X11_together J 0 = some (nI (q_sum (C 1) (C 0 0))) := by
  obtain ⟨o0, o1, o2, o3, -⟩ := id ok
  unfold f_X11_together
  rw [if_neg (by decide)]
  refine q_lp (G := fun n k (a : Nat) => g_X11_together_44 0 J n (nI a) (nI k)) (fun k => q_sum (C 1) k) (fun n k _ hk => ?_) (fun n => ?_) (Nat.zero_le (C 0 0)) (q_fu (by omega))
  · simp (disch := omega) only [g_X11_together_44, f_X11_bedRow, h.f.1, ql_0, ql_1, ql_2, ql_3, ql_4, ql_5, ql_6, ql_7, ql_8, ql_9, ql_10, ql_11, ql_12, ql_13, ql_14, ql_15, ql_16, ql_17, ql_18, ql_19, ql_20, ql_21, ql_22, ql_23, ql_24, ql_27, ql_30, ql_31, ql_32, ql_40, ql_48, ql_51, ql_52, ql_57, ql_59, ql_60, ql_61, ql_62, ql_76, ql_84, ql_91, ql_97, ql_99, ql_100, ql_120, ql_122, ql_127, ql_128, ql_200, ql_255, ql_256, ql_300, ql_420, ql_428, ql_640, ql_900, ql_896, ql_999, ql_1712, ql_1716, ql_1734, ql_1772, ql_1800, ql_1805, ql_1811, ql_1822, ql_2132, ql_2140, ql_3229, ql_9999, ql_11453, ql_65536, ql_100000, ql_1000000, nI_add, pk_mul, q_and, q_or, q_xor, nI_clamp, q_in, q_neg1, q_nno, q_nno', q_annN, q_sh1, q_tbN, nI_leI, nI_ltI, nI_eq, pk_sub, ↓reduceIte, if_pos, if_neg, q_zlt, q_bs, Nat.add_zero, h.a1 hk, q_sum]
  · simp (disch := omega) only [g_X11_together_44, h.f.1, ql_0, ql_1, ql_2, ql_3, ql_4, ql_5, ql_6, ql_7, ql_8, ql_9, ql_10, ql_11, ql_12, ql_13, ql_14, ql_15, ql_16, ql_17, ql_18, ql_19, ql_20, ql_21, ql_22, ql_23, ql_24, ql_27, ql_30, ql_31, ql_32, ql_40, ql_48, ql_51, ql_52, ql_57, ql_59, ql_60, ql_61, ql_62, ql_76, ql_84, ql_91, ql_97, ql_99, ql_100, ql_120, ql_122, ql_127, ql_128, ql_200, ql_255, ql_256, ql_300, ql_420, ql_428, ql_640, ql_900, ql_896, ql_999, ql_1712, ql_1716, ql_1734, ql_1772, ql_1800, ql_1805, ql_1811, ql_1822, ql_2132, ql_2140, ql_3229, ql_9999, ql_11453, ql_65536, ql_100000, ql_1000000, nI_add, pk_mul, q_and, q_or, q_xor, nI_clamp, q_in, q_neg1, q_nno, q_nno', q_annN, q_sh1, q_tbN, nI_leI, nI_ltI, nI_eq, pk_sub, ↓reduceIte, if_pos, if_neg, q_zlt, q_bs]
theorem m_together1 (h : q_sm C 0 m J K) (ok : q_ok C) : f_X11_together J 1 = some (nI (q_sum (C 2) (C 0 0))) := by
  obtain ⟨o0, o1, o2, o3, -⟩ := id ok
  unfold f_X11_together
  rw [if_neg (by decide)]
  refine q_lp (G := fun n k (a : Nat) => g_X11_together_44 1 J n (nI a) (nI k)) (fun k => q_sum (C 2) k) (fun n k _ hk => ?_) (fun n => ?_) (Nat.zero_le (C 0 0)) (q_fu (by omega))
  · simp (disch := omega) only [g_X11_together_44, f_X11_bedRow, h.f.1, ql_0, ql_1, ql_2, ql_3, ql_4, ql_5, ql_6, ql_7, ql_8, ql_9, ql_10, ql_11, ql_12, ql_13, ql_14, ql_15, ql_16, ql_17, ql_18, ql_19, ql_20, ql_21, ql_22, ql_23, ql_24, ql_27, ql_30, ql_31, ql_32, ql_40, ql_48, ql_51, ql_52, ql_57, ql_59, ql_60, ql_61, ql_62, ql_76, ql_84, ql_91, ql_97, ql_99, ql_100, ql_120, ql_122, ql_127, ql_128, ql_200, ql_255, ql_256, ql_300, ql_420, ql_428, ql_640, ql_900, ql_896, ql_999, ql_1712, ql_1716, ql_1734, ql_1772, ql_1800, ql_1805, ql_1811, ql_1822, ql_2132, ql_2140, ql_3229, ql_9999, ql_11453, ql_65536, ql_100000, ql_1000000, nI_add, pk_mul, q_and, q_or, q_xor, nI_clamp, q_in, q_neg1, q_nno, q_nno', q_annN, q_sh1, q_tbN, nI_leI, nI_ltI, nI_eq, pk_sub, ↓reduceIte, if_pos, if_neg, q_zlt, q_bs, h.a2 hk, q_sum]
  · simp (disch := omega) only [g_X11_together_44, h.f.1, ql_0, ql_1, ql_2, ql_3, ql_4, ql_5, ql_6, ql_7, ql_8, ql_9, ql_10, ql_11, ql_12, ql_13, ql_14, ql_15, ql_16, ql_17, ql_18, ql_19, ql_20, ql_21, ql_22, ql_23, ql_24, ql_27, ql_30, ql_31, ql_32, ql_40, ql_48, ql_51, ql_52, ql_57, ql_59, ql_60, ql_61, ql_62, ql_76, ql_84, ql_91, ql_97, ql_99, ql_100, ql_120, ql_122, ql_127, ql_128, ql_200, ql_255, ql_256, ql_300, ql_420, ql_428, ql_640, ql_900, ql_896, ql_999, ql_1712, ql_1716, ql_1734, ql_1772, ql_1800, ql_1805, ql_1811, ql_1822, ql_2132, ql_2140, ql_3229, ql_9999, ql_11453, ql_65536, ql_100000, ql_1000000, nI_add, pk_mul, q_and, q_or, q_xor, nI_clamp, q_in, q_neg1, q_nno, q_nno', q_annN, q_sh1, q_tbN, nI_leI, nI_ltI, nI_eq, pk_sub, ↓reduceIte, if_pos, if_neg, q_zlt, q_bs]
end
