/-! told; what puts one number or two -/
theorem x0_all (c : Nat) {C : q_N} {I : z_I} {L : z_L} (h : q_sx C c I L) (ok : q_ok C) : f_X0_allCrocuses I c = some (nI (q_sum (C 1) (C 0 0))) ∧ f_X0_allShams I c = some (nI (q_sum (C 2) (C 0 0))) ∧ f_X0_allGold I c = some (nI (q_sum (C 9) (C 0 3))) := by
  obtain ⟨o0, o1, o2, o3, -⟩ := id ok
  refine ⟨?_, ?_, ?_⟩
  · simp only [f_X0_allCrocuses, h.f.1, x0_sumOf (f := C 1) o0 (by omega) (fun k hk => h.a1 hk), q_bs]
  · simp only [f_X0_allShams, h.f.1, x0_sumOf (f := C 2) o0 (by omega) (fun k hk => h.a2 hk), q_bs]
  · simp only [f_X0_allGold, h.f.2.2.2.1, x0_sumOf (f := C 9) o3 (by omega) (fun k hk => h.a9 hk), q_bs]
theorem r_told : s_told q_R := by
  intro I L J K p0 hR
  obtain ⟨C, T, mk, h⟩ := id hR
  obtain ⟨hx, hm, ok, -⟩ := h.o
  obtain ⟨o0, o1, o2, o3, -⟩ := id ok
  have oM := q_okM ok
  obtain ⟨x0, x1, x2, x3, x4, x5, x6⟩ := hx.f
  obtain ⟨m0, m1, m2, m3, m4, m5, m6⟩ := hm.f
  obtain ⟨t7, t8, t9⟩ := x0_all 3 hx ok
  have t10 := x0_countParts hx ok
  have u7 := m_together0 hm ok
  have u8 := m_together1 hm ok
  have u9 := m_together2 hm ok
  rw [ql_0] at u7
  rw [ql_1] at u8
  rw [ql_2] at u9
  have u10 := m_partsBy hm ok (d := C 0 0 6) (by omega)
  rcases q_sgn p0 with z | ⟨j, hj, rfl⟩
  · refine q_end (-1) 1 (I := I) (J := J) ?_ ?_ hR
    · simp (disch := omega) only [f_X10_told, ql_0, ql_1, ql_2, ql_3, ql_4, ql_5, ql_6, ql_7, ql_8, ql_9, ql_10, ql_11, ql_12, ql_13, ql_14, ql_15, ql_16, ql_17, ql_18, ql_19, ql_20, ql_21, ql_22, ql_23, ql_24, ql_27, ql_30, ql_31, ql_32, ql_40, ql_48, ql_51, ql_52, ql_57, ql_59, ql_60, ql_61, ql_62, ql_76, ql_84, ql_91, ql_97, ql_99, ql_100, ql_120, ql_122, ql_127, ql_128, ql_200, ql_255, ql_256, ql_300, ql_420, ql_428, ql_640, ql_900, ql_896, ql_999, ql_1712, ql_1716, ql_1734, ql_1772, ql_1800, ql_1805, ql_1811, ql_1822, ql_2132, ql_2140, ql_3229, ql_9999, ql_11453, ql_65536, ql_100000, ql_1000000, nI_add, pk_mul, q_and, q_or, q_xor, nI_clamp, q_in, q_neg1, q_nno, q_nno', q_annN, q_sh1, q_tbN, nI_leI, nI_ltI, nI_eq, pk_sub, ↓reduceIte, if_pos, if_neg, q_zlt, q_bs, q_ngE z, f_X10_refuse]
    · simp (disch := omega) only [f_X11_told, ql_0, ql_1, ql_2, ql_3, ql_4, ql_5, ql_6, ql_7, ql_8, ql_9, ql_10, ql_11, ql_12, ql_13, ql_14, ql_15, ql_16, ql_17, ql_18, ql_19, ql_20, ql_21, ql_22, ql_23, ql_24, ql_27, ql_30, ql_31, ql_32, ql_40, ql_48, ql_51, ql_52, ql_57, ql_59, ql_60, ql_61, ql_62, ql_76, ql_84, ql_91, ql_97, ql_99, ql_100, ql_120, ql_122, ql_127, ql_128, ql_200, ql_255, ql_256, ql_300, ql_420, ql_428, ql_640, ql_900, ql_896, ql_999, ql_1712, ql_1716, ql_1734, ql_1772, ql_1800, ql_1805, ql_1811, ql_1822, ql_2132, ql_2140, ql_3229, ql_9999, ql_11453, ql_65536, ql_100000, ql_1000000, nI_add, pk_mul, q_and, q_or, q_xor, nI_clamp, q_in, q_neg1, q_nno, q_nno', q_annN, q_sh1, q_tbN, nI_leI, nI_ltI, nI_eq, pk_sub, ↓reduceIte, if_pos, if_neg, q_zlt, q_bs, z, f_X11_refuse]
  · by_cases h0 : j = 0
    · subst h0
      refine q_end (nI (C 0 0 0)) 0 (I := I) (J := J) ?_ ?_ hR
      · simp (disch := omega) only [f_X10_told, ql_0, ql_1, ql_2, ql_3, ql_4, ql_5, ql_6, ql_7, ql_8, ql_9, ql_10, ql_11, ql_12, ql_13, ql_14, ql_15, ql_16, ql_17, ql_18, ql_19, ql_20, ql_21, ql_22, ql_23, ql_24, ql_27, ql_30, ql_31, ql_32, ql_40, ql_48, ql_51, ql_52, ql_57, ql_59, ql_60, ql_61, ql_62, ql_76, ql_84, ql_91, ql_97, ql_99, ql_100, ql_120, ql_122, ql_127, ql_128, ql_200, ql_255, ql_256, ql_300, ql_420, ql_428, ql_640, ql_900, ql_896, ql_999, ql_1712, ql_1716, ql_1734, ql_1772, ql_1800, ql_1805, ql_1811, ql_1822, ql_2132, ql_2140, ql_3229, ql_9999, ql_11453, ql_65536, ql_100000, ql_1000000, nI_add, pk_mul, q_and, q_or, q_xor, nI_clamp, q_in, q_neg1, q_nno, q_nno', q_annN, q_sh1, q_tbN, nI_leI, nI_ltI, nI_eq, pk_sub, ↓reduceIte, if_pos, if_neg, q_zlt, q_bs, x0, f_X10_give]
      · simp (disch := omega) only [f_X11_told, ql_0, ql_1, ql_2, ql_3, ql_4, ql_5, ql_6, ql_7, ql_8, ql_9, ql_10, ql_11, ql_12, ql_13, ql_14, ql_15, ql_16, ql_17, ql_18, ql_19, ql_20, ql_21, ql_22, ql_23, ql_24, ql_27, ql_30, ql_31, ql_32, ql_40, ql_48, ql_51, ql_52, ql_57, ql_59, ql_60, ql_61, ql_62, ql_76, ql_84, ql_91, ql_97, ql_99, ql_100, ql_120, ql_122, ql_127, ql_128, ql_200, ql_255, ql_256, ql_300, ql_420, ql_428, ql_640, ql_900, ql_896, ql_999, ql_1712, ql_1716, ql_1734, ql_1772, ql_1800, ql_1805, ql_1811, ql_1822, ql_2132, ql_2140, ql_3229, ql_9999, ql_11453, ql_65536, ql_100000, ql_1000000, nI_add, pk_mul, q_and, q_or, q_xor, nI_clamp, q_in, q_neg1, q_nno, q_nno', q_annN, q_sh1, q_tbN, nI_leI, nI_ltI, nI_eq, pk_sub, ↓reduceIte, if_pos, if_neg, q_zlt, q_bs, m0, Nat.reduceSub, f_X11_gives]
    · by_cases h1 : j = 1
      · subst h1
        refine q_end (nI (C 0 0 1)) 0 (I := I) (J := J) ?_ ?_ hR
        · simp (disch := omega) only [f_X10_told, ql_0, ql_1, ql_2, ql_3, ql_4, ql_5, ql_6, ql_7, ql_8, ql_9, ql_10, ql_11, ql_12, ql_13, ql_14, ql_15, ql_16, ql_17, ql_18, ql_19, ql_20, ql_21, ql_22, ql_23, ql_24, ql_27, ql_30, ql_31, ql_32, ql_40, ql_48, ql_51, ql_52, ql_57, ql_59, ql_60, ql_61, ql_62, ql_76, ql_84, ql_91, ql_97, ql_99, ql_100, ql_120, ql_122, ql_127, ql_128, ql_200, ql_255, ql_256, ql_300, ql_420, ql_428, ql_640, ql_900, ql_896, ql_999, ql_1712, ql_1716, ql_1734, ql_1772, ql_1800, ql_1805, ql_1811, ql_1822, ql_2132, ql_2140, ql_3229, ql_9999, ql_11453, ql_65536, ql_100000, ql_1000000, nI_add, pk_mul, q_and, q_or, q_xor, nI_clamp, q_in, q_neg1, q_nno, q_nno', q_annN, q_sh1, q_tbN, nI_leI, nI_ltI, nI_eq, pk_sub, ↓reduceIte, if_pos, if_neg, q_zlt, q_bs, x1, f_X10_give]
        · simp (disch := omega) only [f_X11_told, ql_0, ql_1, ql_2, ql_3, ql_4, ql_5, ql_6, ql_7, ql_8, ql_9, ql_10, ql_11, ql_12, ql_13, ql_14, ql_15, ql_16, ql_17, ql_18, ql_19, ql_20, ql_21, ql_22, ql_23, ql_24, ql_27, ql_30, ql_31, ql_32, ql_40, ql_48, ql_51, ql_52, ql_57, ql_59, ql_60, ql_61, ql_62, ql_76, ql_84, ql_91, ql_97, ql_99, ql_100, ql_120, ql_122, ql_127, ql_128, ql_200, ql_255, ql_256, ql_300, ql_420, ql_428, ql_640, ql_900, ql_896, ql_999, ql_1712, ql_1716, ql_1734, ql_1772, ql_1800, ql_1805, ql_1811, ql_1822, ql_2132, ql_2140, ql_3229, ql_9999, ql_11453, ql_65536, ql_100000, ql_1000000, nI_add, pk_mul, q_and, q_or, q_xor, nI_clamp, q_in, q_neg1, q_nno, q_nno', q_annN, q_sh1, q_tbN, nI_leI, nI_ltI, nI_eq, pk_sub, ↓reduceIte, if_pos, if_neg, q_zlt, q_bs, m1, Nat.reduceSub, f_X11_gives]
      · by_cases h2 : j = 2
        · subst h2
          refine q_end (nI (C 0 0 2)) 0 (I := I) (J := J) ?_ ?_ hR
          · simp (disch := omega) only [f_X10_told, ql_0, ql_1, ql_2, ql_3, ql_4, ql_5, ql_6, ql_7, ql_8, ql_9, ql_10, ql_11, ql_12, ql_13, ql_14, ql_15, ql_16, ql_17, ql_18, ql_19, ql_20, ql_21, ql_22, ql_23, ql_24, ql_27, ql_30, ql_31, ql_32, ql_40, ql_48, ql_51, ql_52, ql_57, ql_59, ql_60, ql_61, ql_62, ql_76, ql_84, ql_91, ql_97, ql_99, ql_100, ql_120, ql_122, ql_127, ql_128, ql_200, ql_255, ql_256, ql_300, ql_420, ql_428, ql_640, ql_900, ql_896, ql_999, ql_1712, ql_1716, ql_1734, ql_1772, ql_1800, ql_1805, ql_1811, ql_1822, ql_2132, ql_2140, ql_3229, ql_9999, ql_11453, ql_65536, ql_100000, ql_1000000, nI_add, pk_mul, q_and, q_or, q_xor, nI_clamp, q_in, q_neg1, q_nno, q_nno', q_annN, q_sh1, q_tbN, nI_leI, nI_ltI, nI_eq, pk_sub, ↓reduceIte, if_pos, if_neg, q_zlt, q_bs, x2, f_X10_give]
          · simp (disch := omega) only [f_X11_told, ql_0, ql_1, ql_2, ql_3, ql_4, ql_5, ql_6, ql_7, ql_8, ql_9, ql_10, ql_11, ql_12, ql_13, ql_14, ql_15, ql_16, ql_17, ql_18, ql_19, ql_20, ql_21, ql_22, ql_23, ql_24, ql_27, ql_30, ql_31, ql_32, ql_40, ql_48, ql_51, ql_52, ql_57, ql_59, ql_60, ql_61, ql_62, ql_76, ql_84, ql_91, ql_97, ql_99, ql_100, ql_120, ql_122, ql_127, ql_128, ql_200, ql_255, ql_256, ql_300, ql_420, ql_428, ql_640, ql_900, ql_896, ql_999, ql_1712, ql_1716, ql_1734, ql_1772, ql_1800, ql_1805, ql_1811, ql_1822, ql_2132, ql_2140, ql_3229, ql_9999, ql_11453, ql_65536, ql_100000, ql_1000000, nI_add, pk_mul, q_and, q_or, q_xor, nI_clamp, q_in, q_neg1, q_nno, q_nno', q_annN, q_sh1, q_tbN, nI_leI, nI_ltI, nI_eq, pk_sub, ↓reduceIte, if_pos, if_neg, q_zlt, q_bs, m2, Nat.reduceSub, f_X11_gives]
        · by_cases h3 : j = 3
          · subst h3
            refine q_end (nI (C 0 0 3)) 0 (I := I) (J := J) ?_ ?_ hR
            · simp (disch := omega) only [f_X10_told, ql_0, ql_1, ql_2, ql_3, ql_4, ql_5, ql_6, ql_7, ql_8, ql_9, ql_10, ql_11, ql_12, ql_13, ql_14, ql_15, ql_16, ql_17, ql_18, ql_19, ql_20, ql_21, ql_22, ql_23, ql_24, ql_27, ql_30, ql_31, ql_32, ql_40, ql_48, ql_51, ql_52, ql_57, ql_59, ql_60, ql_61, ql_62, ql_76, ql_84, ql_91, ql_97, ql_99, ql_100, ql_120, ql_122, ql_127, ql_128, ql_200, ql_255, ql_256, ql_300, ql_420, ql_428, ql_640, ql_900, ql_896, ql_999, ql_1712, ql_1716, ql_1734, ql_1772, ql_1800, ql_1805, ql_1811, ql_1822, ql_2132, ql_2140, ql_3229, ql_9999, ql_11453, ql_65536, ql_100000, ql_1000000, nI_add, pk_mul, q_and, q_or, q_xor, nI_clamp, q_in, q_neg1, q_nno, q_nno', q_annN, q_sh1, q_tbN, nI_leI, nI_ltI, nI_eq, pk_sub, ↓reduceIte, if_pos, if_neg, q_zlt, q_bs, x3, f_X10_give]
            · simp (disch := omega) only [f_X11_told, ql_0, ql_1, ql_2, ql_3, ql_4, ql_5, ql_6, ql_7, ql_8, ql_9, ql_10, ql_11, ql_12, ql_13, ql_14, ql_15, ql_16, ql_17, ql_18, ql_19, ql_20, ql_21, ql_22, ql_23, ql_24, ql_27, ql_30, ql_31, ql_32, ql_40, ql_48, ql_51, ql_52, ql_57, ql_59, ql_60, ql_61, ql_62, ql_76, ql_84, ql_91, ql_97, ql_99, ql_100, ql_120, ql_122, ql_127, ql_128, ql_200, ql_255, ql_256, ql_300, ql_420, ql_428, ql_640, ql_900, ql_896, ql_999, ql_1712, ql_1716, ql_1734, ql_1772, ql_1800, ql_1805, ql_1811, ql_1822, ql_2132, ql_2140, ql_3229, ql_9999, ql_11453, ql_65536, ql_100000, ql_1000000, nI_add, pk_mul, q_and, q_or, q_xor, nI_clamp, q_in, q_neg1, q_nno, q_nno', q_annN, q_sh1, q_tbN, nI_leI, nI_ltI, nI_eq, pk_sub, ↓reduceIte, if_pos, if_neg, q_zlt, q_bs, m3, Nat.reduceSub, f_X11_gives]
          · by_cases h4 : j = 4
            · subst h4
              refine q_end (nI (C 0 0 4)) 0 (I := I) (J := J) ?_ ?_ hR
              · simp (disch := omega) only [f_X10_told, ql_0, ql_1, ql_2, ql_3, ql_4, ql_5, ql_6, ql_7, ql_8, ql_9, ql_10, ql_11, ql_12, ql_13, ql_14, ql_15, ql_16, ql_17, ql_18, ql_19, ql_20, ql_21, ql_22, ql_23, ql_24, ql_27, ql_30, ql_31, ql_32, ql_40, ql_48, ql_51, ql_52, ql_57, ql_59, ql_60, ql_61, ql_62, ql_76, ql_84, ql_91, ql_97, ql_99, ql_100, ql_120, ql_122, ql_127, ql_128, ql_200, ql_255, ql_256, ql_300, ql_420, ql_428, ql_640, ql_900, ql_896, ql_999, ql_1712, ql_1716, ql_1734, ql_1772, ql_1800, ql_1805, ql_1811, ql_1822, ql_2132, ql_2140, ql_3229, ql_9999, ql_11453, ql_65536, ql_100000, ql_1000000, nI_add, pk_mul, q_and, q_or, q_xor, nI_clamp, q_in, q_neg1, q_nno, q_nno', q_annN, q_sh1, q_tbN, nI_leI, nI_ltI, nI_eq, pk_sub, ↓reduceIte, if_pos, if_neg, q_zlt, q_bs, x4, f_X10_give]
              · simp (disch := omega) only [f_X11_told, ql_0, ql_1, ql_2, ql_3, ql_4, ql_5, ql_6, ql_7, ql_8, ql_9, ql_10, ql_11, ql_12, ql_13, ql_14, ql_15, ql_16, ql_17, ql_18, ql_19, ql_20, ql_21, ql_22, ql_23, ql_24, ql_27, ql_30, ql_31, ql_32, ql_40, ql_48, ql_51, ql_52, ql_57, ql_59, ql_60, ql_61, ql_62, ql_76, ql_84, ql_91, ql_97, ql_99, ql_100, ql_120, ql_122, ql_127, ql_128, ql_200, ql_255, ql_256, ql_300, ql_420, ql_428, ql_640, ql_900, ql_896, ql_999, ql_1712, ql_1716, ql_1734, ql_1772, ql_1800, ql_1805, ql_1811, ql_1822, ql_2132, ql_2140, ql_3229, ql_9999, ql_11453, ql_65536, ql_100000, ql_1000000, nI_add, pk_mul, q_and, q_or, q_xor, nI_clamp, q_in, q_neg1, q_nno, q_nno', q_annN, q_sh1, q_tbN, nI_leI, nI_ltI, nI_eq, pk_sub, ↓reduceIte, if_pos, if_neg, q_zlt, q_bs, m4, Nat.reduceSub, f_X11_gives]
            · by_cases h5 : j = 5
              · subst h5
                refine q_end (nI (C 0 0 5)) 0 (I := I) (J := J) ?_ ?_ hR
                · simp (disch := omega) only [f_X10_told, ql_0, ql_1, ql_2, ql_3, ql_4, ql_5, ql_6, ql_7, ql_8, ql_9, ql_10, ql_11, ql_12, ql_13, ql_14, ql_15, ql_16, ql_17, ql_18, ql_19, ql_20, ql_21, ql_22, ql_23, ql_24, ql_27, ql_30, ql_31, ql_32, ql_40, ql_48, ql_51, ql_52, ql_57, ql_59, ql_60, ql_61, ql_62, ql_76, ql_84, ql_91, ql_97, ql_99, ql_100, ql_120, ql_122, ql_127, ql_128, ql_200, ql_255, ql_256, ql_300, ql_420, ql_428, ql_640, ql_900, ql_896, ql_999, ql_1712, ql_1716, ql_1734, ql_1772, ql_1800, ql_1805, ql_1811, ql_1822, ql_2132, ql_2140, ql_3229, ql_9999, ql_11453, ql_65536, ql_100000, ql_1000000, nI_add, pk_mul, q_and, q_or, q_xor, nI_clamp, q_in, q_neg1, q_nno, q_nno', q_annN, q_sh1, q_tbN, nI_leI, nI_ltI, nI_eq, pk_sub, ↓reduceIte, if_pos, if_neg, q_zlt, q_bs, x5, f_X10_give]
                · simp (disch := omega) only [f_X11_told, ql_0, ql_1, ql_2, ql_3, ql_4, ql_5, ql_6, ql_7, ql_8, ql_9, ql_10, ql_11, ql_12, ql_13, ql_14, ql_15, ql_16, ql_17, ql_18, ql_19, ql_20, ql_21, ql_22, ql_23, ql_24, ql_27, ql_30, ql_31, ql_32, ql_40, ql_48, ql_51, ql_52, ql_57, ql_59, ql_60, ql_61, ql_62, ql_76, ql_84, ql_91, ql_97, ql_99, ql_100, ql_120, ql_122, ql_127, ql_128, ql_200, ql_255, ql_256, ql_300, ql_420, ql_428, ql_640, ql_900, ql_896, ql_999, ql_1712, ql_1716, ql_1734, ql_1772, ql_1800, ql_1805, ql_1811, ql_1822, ql_2132, ql_2140, ql_3229, ql_9999, ql_11453, ql_65536, ql_100000, ql_1000000, nI_add, pk_mul, q_and, q_or, q_xor, nI_clamp, q_in, q_neg1, q_nno, q_nno', q_annN, q_sh1, q_tbN, nI_leI, nI_ltI, nI_eq, pk_sub, ↓reduceIte, if_pos, if_neg, q_zlt, q_bs, m5, Nat.reduceSub, f_X11_gives]
              · by_cases h6 : j = 6
                · subst h6
                  refine q_end (nI (C 0 0 6)) 0 (I := I) (J := J) ?_ ?_ hR
                  · simp (disch := omega) only [f_X10_told, ql_0, ql_1, ql_2, ql_3, ql_4, ql_5, ql_6, ql_7, ql_8, ql_9, ql_10, ql_11, ql_12, ql_13, ql_14, ql_15, ql_16, ql_17, ql_18, ql_19, ql_20, ql_21, ql_22, ql_23, ql_24, ql_27, ql_30, ql_31, ql_32, ql_40, ql_48, ql_51, ql_52, ql_57, ql_59, ql_60, ql_61, ql_62, ql_76, ql_84, ql_91, ql_97, ql_99, ql_100, ql_120, ql_122, ql_127, ql_128, ql_200, ql_255, ql_256, ql_300, ql_420, ql_428, ql_640, ql_900, ql_896, ql_999, ql_1712, ql_1716, ql_1734, ql_1772, ql_1800, ql_1805, ql_1811, ql_1822, ql_2132, ql_2140, ql_3229, ql_9999, ql_11453, ql_65536, ql_100000, ql_1000000, nI_add, pk_mul, q_and, q_or, q_xor, nI_clamp, q_in, q_neg1, q_nno, q_nno', q_annN, q_sh1, q_tbN, nI_leI, nI_ltI, nI_eq, pk_sub, ↓reduceIte, if_pos, if_neg, q_zlt, q_bs, x6, f_X10_give]
                  · simp (disch := omega) only [f_X11_told, ql_0, ql_1, ql_2, ql_3, ql_4, ql_5, ql_6, ql_7, ql_8, ql_9, ql_10, ql_11, ql_12, ql_13, ql_14, ql_15, ql_16, ql_17, ql_18, ql_19, ql_20, ql_21, ql_22, ql_23, ql_24, ql_27, ql_30, ql_31, ql_32, ql_40, ql_48, ql_51, ql_52, ql_57, ql_59, ql_60, ql_61, ql_62, ql_76, ql_84, ql_91, ql_97, ql_99, ql_100, ql_120, ql_122, ql_127, ql_128, ql_200, ql_255, ql_256, ql_300, ql_420, ql_428, ql_640, ql_900, ql_896, ql_999, ql_1712, ql_1716, ql_1734, ql_1772, ql_1800, ql_1805, ql_1811, ql_1822, ql_2132, ql_2140, ql_3229, ql_9999, ql_11453, ql_65536, ql_100000, ql_1000000, nI_add, pk_mul, q_and, q_or, q_xor, nI_clamp, q_in, q_neg1, q_nno, q_nno', q_annN, q_sh1, q_tbN, nI_leI, nI_ltI, nI_eq, pk_sub, ↓reduceIte, if_pos, if_neg, q_zlt, q_bs, m6, Nat.reduceSub, f_X11_gives]
                · by_cases h7 : j = 7
                  · subst h7
                    refine q_end (nI (q_sum (C 0 1) (C 0 0 0))) 0 (I := I) (J := J) ?_ ?_ hR
                    · simp (disch := omega) only [f_X10_told, ql_0, ql_1, ql_2, ql_3, ql_4, ql_5, ql_6, ql_7, ql_8, ql_9, ql_10, ql_11, ql_12, ql_13, ql_14, ql_15, ql_16, ql_17, ql_18, ql_19, ql_20, ql_21, ql_22, ql_23, ql_24, ql_27, ql_30, ql_31, ql_32, ql_40, ql_48, ql_51, ql_52, ql_57, ql_59, ql_60, ql_61, ql_62, ql_76, ql_84, ql_91, ql_97, ql_99, ql_100, ql_120, ql_122, ql_127, ql_128, ql_200, ql_255, ql_256, ql_300, ql_420, ql_428, ql_640, ql_900, ql_896, ql_999, ql_1712, ql_1716, ql_1734, ql_1772, ql_1800, ql_1805, ql_1811, ql_1822, ql_2132, ql_2140, ql_3229, ql_9999, ql_11453, ql_65536, ql_100000, ql_1000000, nI_add, pk_mul, q_and, q_or, q_xor, nI_clamp, q_in, q_neg1, q_nno, q_nno', q_annN, q_sh1, q_tbN, nI_leI, nI_ltI, nI_eq, pk_sub, ↓reduceIte, if_pos, if_neg, q_zlt, q_bs, t7, f_X10_give]
                    · simp (disch := omega) only [f_X11_told, ql_0, ql_1, ql_2, ql_3, ql_4, ql_5, ql_6, ql_7, ql_8, ql_9, ql_10, ql_11, ql_12, ql_13, ql_14, ql_15, ql_16, ql_17, ql_18, ql_19, ql_20, ql_21, ql_22, ql_23, ql_24, ql_27, ql_30, ql_31, ql_32, ql_40, ql_48, ql_51, ql_52, ql_57, ql_59, ql_60, ql_61, ql_62, ql_76, ql_84, ql_91, ql_97, ql_99, ql_100, ql_120, ql_122, ql_127, ql_128, ql_200, ql_255, ql_256, ql_300, ql_420, ql_428, ql_640, ql_900, ql_896, ql_999, ql_1712, ql_1716, ql_1734, ql_1772, ql_1800, ql_1805, ql_1811, ql_1822, ql_2132, ql_2140, ql_3229, ql_9999, ql_11453, ql_65536, ql_100000, ql_1000000, nI_add, pk_mul, q_and, q_or, q_xor, nI_clamp, q_in, q_neg1, q_nno, q_nno', q_annN, q_sh1, q_tbN, nI_leI, nI_ltI, nI_eq, pk_sub, ↓reduceIte, if_pos, if_neg, q_zlt, q_bs, u7, Nat.reduceSub, f_X11_gives]
                  · by_cases h8 : j = 8
                    · subst h8
                      refine q_end (nI (q_sum (C 0 2) (C 0 0 0))) 0 (I := I) (J := J) ?_ ?_ hR
                      · simp (disch := omega) only [f_X10_told, ql_0, ql_1, ql_2, ql_3, ql_4, ql_5, ql_6, ql_7, ql_8, ql_9, ql_10, ql_11, ql_12, ql_13, ql_14, ql_15, ql_16, ql_17, ql_18, ql_19, ql_20, ql_21, ql_22, ql_23, ql_24, ql_27, ql_30, ql_31, ql_32, ql_40, ql_48, ql_51, ql_52, ql_57, ql_59, ql_60, ql_61, ql_62, ql_76, ql_84, ql_91, ql_97, ql_99, ql_100, ql_120, ql_122, ql_127, ql_128, ql_200, ql_255, ql_256, ql_300, ql_420, ql_428, ql_640, ql_900, ql_896, ql_999, ql_1712, ql_1716, ql_1734, ql_1772, ql_1800, ql_1805, ql_1811, ql_1822, ql_2132, ql_2140, ql_3229, ql_9999, ql_11453, ql_65536, ql_100000, ql_1000000, nI_add, pk_mul, q_and, q_or, q_xor, nI_clamp, q_in, q_neg1, q_nno, q_nno', q_annN, q_sh1, q_tbN, nI_leI, nI_ltI, nI_eq, pk_sub, ↓reduceIte, if_pos, if_neg, q_zlt, q_bs, t8, f_X10_give]
                      · simp (disch := omega) only [f_X11_told, ql_0, ql_1, ql_2, ql_3, ql_4, ql_5, ql_6, ql_7, ql_8, ql_9, ql_10, ql_11, ql_12, ql_13, ql_14, ql_15, ql_16, ql_17, ql_18, ql_19, ql_20, ql_21, ql_22, ql_23, ql_24, ql_27, ql_30, ql_31, ql_32, ql_40, ql_48, ql_51, ql_52, ql_57, ql_59, ql_60, ql_61, ql_62, ql_76, ql_84, ql_91, ql_97, ql_99, ql_100, ql_120, ql_122, ql_127, ql_128, ql_200, ql_255, ql_256, ql_300, ql_420, ql_428, ql_640, ql_900, ql_896, ql_999, ql_1712, ql_1716, ql_1734, ql_1772, ql_1800, ql_1805, ql_1811, ql_1822, ql_2132, ql_2140, ql_3229, ql_9999, ql_11453, ql_65536, ql_100000, ql_1000000, nI_add, pk_mul, q_and, q_or, q_xor, nI_clamp, q_in, q_neg1, q_nno, q_nno', q_annN, q_sh1, q_tbN, nI_leI, nI_ltI, nI_eq, pk_sub, ↓reduceIte, if_pos, if_neg, q_zlt, q_bs, u8, Nat.reduceSub, f_X11_gives]
                    · by_cases h9 : j = 9
                      · subst h9
                        refine q_end (nI (q_sum (C 0 9) (C 0 0 3))) 0 (I := I) (J := J) ?_ ?_ hR
                        · simp (disch := omega) only [f_X10_told, ql_0, ql_1, ql_2, ql_3, ql_4, ql_5, ql_6, ql_7, ql_8, ql_9, ql_10, ql_11, ql_12, ql_13, ql_14, ql_15, ql_16, ql_17, ql_18, ql_19, ql_20, ql_21, ql_22, ql_23, ql_24, ql_27, ql_30, ql_31, ql_32, ql_40, ql_48, ql_51, ql_52, ql_57, ql_59, ql_60, ql_61, ql_62, ql_76, ql_84, ql_91, ql_97, ql_99, ql_100, ql_120, ql_122, ql_127, ql_128, ql_200, ql_255, ql_256, ql_300, ql_420, ql_428, ql_640, ql_900, ql_896, ql_999, ql_1712, ql_1716, ql_1734, ql_1772, ql_1800, ql_1805, ql_1811, ql_1822, ql_2132, ql_2140, ql_3229, ql_9999, ql_11453, ql_65536, ql_100000, ql_1000000, nI_add, pk_mul, q_and, q_or, q_xor, nI_clamp, q_in, q_neg1, q_nno, q_nno', q_annN, q_sh1, q_tbN, nI_leI, nI_ltI, nI_eq, pk_sub, ↓reduceIte, if_pos, if_neg, q_zlt, q_bs, t9, f_X10_give]
                        · simp (disch := omega) only [f_X11_told, ql_0, ql_1, ql_2, ql_3, ql_4, ql_5, ql_6, ql_7, ql_8, ql_9, ql_10, ql_11, ql_12, ql_13, ql_14, ql_15, ql_16, ql_17, ql_18, ql_19, ql_20, ql_21, ql_22, ql_23, ql_24, ql_27, ql_30, ql_31, ql_32, ql_40, ql_48, ql_51, ql_52, ql_57, ql_59, ql_60, ql_61, ql_62, ql_76, ql_84, ql_91, ql_97, ql_99, ql_100, ql_120, ql_122, ql_127, ql_128, ql_200, ql_255, ql_256, ql_300, ql_420, ql_428, ql_640, ql_900, ql_896, ql_999, ql_1712, ql_1716, ql_1734, ql_1772, ql_1800, ql_1805, ql_1811, ql_1822, ql_2132, ql_2140, ql_3229, ql_9999, ql_11453, ql_65536, ql_100000, ql_1000000, nI_add, pk_mul, q_and, q_or, q_xor, nI_clamp, q_in, q_neg1, q_nno, q_nno', q_annN, q_sh1, q_tbN, nI_leI, nI_ltI, nI_eq, pk_sub, ↓reduceIte, if_pos, if_neg, q_zlt, q_bs, u9, Nat.reduceSub, f_X11_gives]
                      · by_cases h10 : j = 10
                        · subst h10
                          refine q_end (nI (q_pn (C 0) (C 0 0 6) (C 0 0 1))) 0 (I := I) (J := J) ?_ ?_ hR
                          · simp (disch := omega) only [f_X10_told, ql_0, ql_1, ql_2, ql_3, ql_4, ql_5, ql_6, ql_7, ql_8, ql_9, ql_10, ql_11, ql_12, ql_13, ql_14, ql_15, ql_16, ql_17, ql_18, ql_19, ql_20, ql_21, ql_22, ql_23, ql_24, ql_27, ql_30, ql_31, ql_32, ql_40, ql_48, ql_51, ql_52, ql_57, ql_59, ql_60, ql_61, ql_62, ql_76, ql_84, ql_91, ql_97, ql_99, ql_100, ql_120, ql_122, ql_127, ql_128, ql_200, ql_255, ql_256, ql_300, ql_420, ql_428, ql_640, ql_900, ql_896, ql_999, ql_1712, ql_1716, ql_1734, ql_1772, ql_1800, ql_1805, ql_1811, ql_1822, ql_2132, ql_2140, ql_3229, ql_9999, ql_11453, ql_65536, ql_100000, ql_1000000, nI_add, pk_mul, q_and, q_or, q_xor, nI_clamp, q_in, q_neg1, q_nno, q_nno', q_annN, q_sh1, q_tbN, nI_leI, nI_ltI, nI_eq, pk_sub, ↓reduceIte, if_pos, if_neg, q_zlt, q_bs, t10, f_X10_give]
                          · simp (disch := omega) only [f_X11_told, ql_0, ql_1, ql_2, ql_3, ql_4, ql_5, ql_6, ql_7, ql_8, ql_9, ql_10, ql_11, ql_12, ql_13, ql_14, ql_15, ql_16, ql_17, ql_18, ql_19, ql_20, ql_21, ql_22, ql_23, ql_24, ql_27, ql_30, ql_31, ql_32, ql_40, ql_48, ql_51, ql_52, ql_57, ql_59, ql_60, ql_61, ql_62, ql_76, ql_84, ql_91, ql_97, ql_99, ql_100, ql_120, ql_122, ql_127, ql_128, ql_200, ql_255, ql_256, ql_300, ql_420, ql_428, ql_640, ql_900, ql_896, ql_999, ql_1712, ql_1716, ql_1734, ql_1772, ql_1800, ql_1805, ql_1811, ql_1822, ql_2132, ql_2140, ql_3229, ql_9999, ql_11453, ql_65536, ql_100000, ql_1000000, nI_add, pk_mul, q_and, q_or, q_xor, nI_clamp, q_in, q_neg1, q_nno, q_nno', q_annN, q_sh1, q_tbN, nI_leI, nI_ltI, nI_eq, pk_sub, ↓reduceIte, if_pos, if_neg, q_zlt, q_bs, u10, m6, Nat.reduceSub, f_X11_gives]
                        · refine q_end (-1) 1 (I := I) (J := J) ?_ ?_ hR
                          · simp (disch := omega) only [f_X10_told, ql_0, ql_1, ql_2, ql_3, ql_4, ql_5, ql_6, ql_7, ql_8, ql_9, ql_10, ql_11, ql_12, ql_13, ql_14, ql_15, ql_16, ql_17, ql_18, ql_19, ql_20, ql_21, ql_22, ql_23, ql_24, ql_27, ql_30, ql_31, ql_32, ql_40, ql_48, ql_51, ql_52, ql_57, ql_59, ql_60, ql_61, ql_62, ql_76, ql_84, ql_91, ql_97, ql_99, ql_100, ql_120, ql_122, ql_127, ql_128, ql_200, ql_255, ql_256, ql_300, ql_420, ql_428, ql_640, ql_900, ql_896, ql_999, ql_1712, ql_1716, ql_1734, ql_1772, ql_1800, ql_1805, ql_1811, ql_1822, ql_2132, ql_2140, ql_3229, ql_9999, ql_11453, ql_65536, ql_100000, ql_1000000, nI_add, pk_mul, q_and, q_or, q_xor, nI_clamp, q_in, q_neg1, q_nno, q_nno', q_annN, q_sh1, q_tbN, nI_leI, nI_ltI, nI_eq, pk_sub, ↓reduceIte, if_pos, if_neg, q_zlt, q_bs, f_X10_refuse]
                          · simp (disch := omega) only [f_X11_told, ql_0, ql_1, ql_2, ql_3, ql_4, ql_5, ql_6, ql_7, ql_8, ql_9, ql_10, ql_11, ql_12, ql_13, ql_14, ql_15, ql_16, ql_17, ql_18, ql_19, ql_20, ql_21, ql_22, ql_23, ql_24, ql_27, ql_30, ql_31, ql_32, ql_40, ql_48, ql_51, ql_52, ql_57, ql_59, ql_60, ql_61, ql_62, ql_76, ql_84, ql_91, ql_97, ql_99, ql_100, ql_120, ql_122, ql_127, ql_128, ql_200, ql_255, ql_256, ql_300, ql_420, ql_428, ql_640, ql_900, ql_896, ql_999, ql_1712, ql_1716, ql_1734, ql_1772, ql_1800, ql_1805, ql_1811, ql_1822, ql_2132, ql_2140, ql_3229, ql_9999, ql_11453, ql_65536, ql_100000, ql_1000000, nI_add, pk_mul, q_and, q_or, q_xor, nI_clamp, q_in, q_neg1, q_nno, q_nno', q_annN, q_sh1, q_tbN, nI_leI, nI_ltI, nI_eq, pk_sub, ↓reduceIte, if_pos, if_neg, q_zlt, q_bs, f_X11_refuse]
/-! a court with one number put is good -/
theorem q_ok.made {C : q_N} (ok : q_ok C) {v : Nat} (hv : v < 2 ^ C 0 2) : q_ok (z2 C 0 6 v) := by
  obtain ⟨a0, a1, a2, a3, a4, a5, a6, a7, a8, a9, a10⟩ := ok
  have e : ∀ r k, r ≠ 0 ∨ k ≠ 6 → z2 C 0 6 v r k = C r k := fun r k z => q_zo z
  refine ⟨by rw [e _ _ (by omega)]; exact a0, by rw [e _ _ (by omega)]; exact a1, by rw [e _ _ (by omega)]; exact a2, by rw [e _ _ (by omega)]; exact a3, by rw [e _ _ (by omega)]; exact a4, by rw [e _ _ (by omega)]; exact a5, by rw [q_zs, e _ _ (by omega)]; exact hv, ?_, ?_, ?_, ?_⟩
  · intro b hb; rw [e _ _ (by omega)] at hb; rw [e _ _ (by omega), e _ _ (by omega)]; exact a7 b hb
  · intro b hb; rw [e _ _ (by omega)] at hb; rw [e _ _ (by omega)]; exact a8 b hb
  · intro b hb; rw [e _ _ (by omega)] at hb; rw [e _ _ (by omega), e _ _ (by omega), e _ _ (by omega), e _ _ (by omega), e _ _ (by omega), e _ _ (by omega)]; exact a9 b hb
  · intro b hb; rw [e _ _ (by omega)] at hb; rw [e _ _ (by omega), e _ _ (by omega), e _ _ (by omega), e _ _ (by omega)]; exact a10 b hb
/-- the numbers ahead, and what may be put elsewhere -/
theorem q_ok.put {C : q_N} (ok : q_ok C) {r k v : Nat} (hr : r ≠ 0) (h1 : r = 1 → v ≤ 9999) (h2 : r = 2 → v ≤ 99) (h3 : r = 3 → 1 ≤ v ∧ v ≤ 20) (h4 : r = 4 → v < C 0 0) (h5 : r = 5 → 1 ≤ v ∧ v ≤ 9) (h6 : r = 6 → v < 2 ^ C 0 1) (h7 : r = 7 → v < 27 ^ 8) (h8 : r = 8 → v < C 0 0) (h9 : r = 9 → v ≤ 9999) (h10 : r = 10 → v < 27 ^ 8) : q_ok (z2 C r k v) := by
  obtain ⟨a0, a1, a2, a3, a4, a5, a6, a7, a8, a9, a10⟩ := ok
  have e : ∀ i, z2 C r k v 0 i = C 0 i := fun i => q_zo (Or.inl (Ne.symm hr))
  have p : ∀ (P : Nat → Prop) (s b : Nat), P (C s b) → (r = s → P v) → P (z2 C r k v s b) := by
    intro P s b hp hv
    by_cases z : s = r ∧ b = k
    · obtain ⟨z1, z2⟩ := z
      subst z1 z2
      rw [q_zs]; exact hv rfl
    · rw [q_zo (by omega)]; exact hp
  refine ⟨by rw [e]; exact a0, by rw [e]; exact a1, by rw [e]; exact a2, by rw [e]; exact a3, by rw [e]; exact a4, by rw [e]; exact a5, by rw [e, e]; exact a6, ?_, ?_, ?_, ?_⟩
  · intro b hb
    rw [e] at hb
    exact ⟨p (· ≤ 9999) 1 b (a7 b hb).1 h1, p (· ≤ 99) 2 b (a7 b hb).2 h2⟩
  · intro b hb
    rw [e] at hb
    exact p (fun x => 1 ≤ x ∧ x ≤ 20) 3 b (a8 b hb) h3
  · intro b hb
    rw [e] at hb
    rw [e, e]
    obtain ⟨q1, q2, q3, q4, q5⟩ := a9 b hb
    have q23 := p (fun x => 1 ≤ x ∧ x ≤ 9) 5 b ⟨q2, q3⟩ h5
    exact ⟨p (· < C 0 0) 4 b q1 h4, q23.1, q23.2, p (· < 2 ^ C 0 1) 6 b q4 h6, p (· < 27 ^ 8) 7 b q5 h7⟩
  · intro b hb
    rw [e] at hb
    rw [e]
    obtain ⟨q1, q2, q3⟩ := a10 b hb
    exact ⟨p (· < C 0 0) 8 b q1 h8, p (· ≤ 9999) 9 b q2 h9, p (· < 27 ^ 8) 10 b q3 h10⟩
theorem q_b2 {C : q_N} {r k : Nat} {n : Nat} (h : q_bd C r = n) (hk : k < n) : k < q_bd C r := by rw [h]; exact hk
/-- another number in the row of the court, made -/
theorem q_Q.made {C T : Nat → q_N} {mk : Nat} {I : z_I} {L : z_L} {J : z_I} {K : z_L} (h : q_Q C T mk I L J K) {v : Nat} (hv : v < 2 ^ C 0 0 2) : q_Q (z1 C 0 (z2 (C 0) 0 6 v)) T mk (z2 I 3 16 (nI v)) L (z2 J 1 6 (nI v)) K := h.put 0 6 v (by simp [q_bd]) (by omega) rfl rfl rfl (h.o.2.2.1.made hv)
theorem q_Q.odds {C T : Nat → q_N} {mk : Nat} {I : z_I} {L : z_L} {J : z_I} {K : z_L} (h : q_Q C T mk I L J K) {v : Nat} (hv : v ≤ 16) : q_Q (z1 C 0 (z2 (C 0) 0 4 v)) T mk (z2 I 3 14 (nI v)) L (z2 J 1 4 (nI v)) K := by
  refine h.put 0 4 v (by simp [q_bd]) (by omega) rfl rfl rfl ?_
  obtain ⟨a0, a1, a2, a3, a4, a5, a6, a7, a8, a9, a10⟩ := h.o.2.2.1
  have e : ∀ r k, r ≠ 0 ∨ k ≠ 4 → z2 (C 0) 0 4 v r k = C 0 r k := fun r k z => q_zo z
  refine ⟨by rw [e _ _ (by omega)]; exact a0, by rw [e _ _ (by omega)]; exact a1, by rw [e _ _ (by omega)]; exact a2, by rw [e _ _ (by omega)]; exact a3, by rw [q_zs]; exact hv, by rw [e _ _ (by omega)]; exact a5, by rw [e _ _ (by omega), e _ _ (by omega)]; exact a6, ?_, ?_, ?_, ?_⟩
  · intro b hb; rw [e _ _ (by omega)] at hb; rw [e _ _ (by omega), e _ _ (by omega)]; exact a7 b hb
  · intro b hb; rw [e _ _ (by omega)] at hb; rw [e _ _ (by omega)]; exact a8 b hb
  · intro b hb; rw [e _ _ (by omega)] at hb; rw [e _ _ (by omega), e _ _ (by omega), e _ _ (by omega), e _ _ (by omega), e _ _ (by omega), e _ _ (by omega)]; exact a9 b hb
  · intro b hb; rw [e _ _ (by omega)] at hb; rw [e _ _ (by omega), e _ _ (by omega), e _ _ (by omega), e _ _ (by omega)]; exact a10 b hb
theorem r_rule : s_rule q_R := by
  intro I L J K p0 hR
  obtain ⟨C, T, mk, h⟩ := id hR
  unfold f_X10_rule f_X11_rule
  rw [qL_0, qL_16, q_from (by decide) (by decide), ql_0, ql_16]
  cases hw : f_X10_isWithin p0 (nI 0) (nI 16) with
  | false =>
    exact ⟨rfl, hR.st 1⟩
  | true =>
    obtain ⟨j, h1, h2, rfl⟩ := q_wi_t hw (by decide) (by decide)
    exact ⟨rfl, (h.odds h2).r.st 0⟩
theorem r_forget : s_forget q_R := by
  intro I L J K hR
  obtain ⟨C, T, mk, h⟩ := id hR
  obtain ⟨hx, hm, ok, -⟩ := h.o
  obtain ⟨o0, o1, o2, o3, -⟩ := id ok
  have oM := q_okM ok
  have p8 := q_pc8 (x := C 0 0 6) (by omega)
  have hr := (h.made (v := 0) (Nat.two_pow_pos _)).r
  have eX : f_X10_forget I = if q_pc (C 0 0 6) = 0 then (-1, z2 I 0 15 7) else (nI (q_pc (C 0 0 6)), z2 (z2 I 3 16 (nI 0)) 0 15 0) := by
    simp (disch := omega) only [f_X10_forget, hx.f.2.2.2.2.2.2, q_bitCount0, ql_0, ql_1, ql_2, ql_3, ql_4, ql_5, ql_6, ql_7, ql_8, ql_9, ql_10, ql_11, ql_12, ql_13, ql_14, ql_15, ql_16, ql_17, ql_18, ql_19, ql_20, ql_21, ql_22, ql_23, ql_24, ql_27, ql_30, ql_31, ql_32, ql_40, ql_48, ql_51, ql_52, ql_57, ql_59, ql_60, ql_61, ql_62, ql_76, ql_84, ql_91, ql_97, ql_99, ql_100, ql_120, ql_122, ql_127, ql_128, ql_200, ql_255, ql_256, ql_300, ql_420, ql_428, ql_640, ql_900, ql_896, ql_999, ql_1712, ql_1716, ql_1734, ql_1772, ql_1800, ql_1805, ql_1811, ql_1822, ql_2132, ql_2140, ql_3229, ql_9999, ql_11453, ql_65536, ql_100000, ql_1000000, nI_add, pk_mul, q_and, q_or, q_xor, nI_clamp, q_in, q_neg1, q_nno, q_nno', q_annN, q_sh1, q_tbN, nI_leI, nI_ltI, nI_eq, pk_sub, ↓reduceIte, if_pos, if_neg, q_zlt, q_bs, f_X10_refuse, f_X10_give]
  have eM : f_X11_forget J = some (if q_pc (C 0 0 6) = 0 then (-1, z2 (z2 J 1 6 (nI 0)) 0 2 7) else (nI (q_pc (C 0 0 6)), z2 (z2 J 1 6 (nI 0)) 0 2 0)) := by
    simp (disch := omega) only [f_X11_forget, f_X11_forgets, hm.f.2.2.2.2.2.2, m_bits, ql_0, ql_1, ql_2, ql_3, ql_4, ql_5, ql_6, ql_7, ql_8, ql_9, ql_10, ql_11, ql_12, ql_13, ql_14, ql_15, ql_16, ql_17, ql_18, ql_19, ql_20, ql_21, ql_22, ql_23, ql_24, ql_27, ql_30, ql_31, ql_32, ql_40, ql_48, ql_51, ql_52, ql_57, ql_59, ql_60, ql_61, ql_62, ql_76, ql_84, ql_91, ql_97, ql_99, ql_100, ql_120, ql_122, ql_127, ql_128, ql_200, ql_255, ql_256, ql_300, ql_420, ql_428, ql_640, ql_900, ql_896, ql_999, ql_1712, ql_1716, ql_1734, ql_1772, ql_1800, ql_1805, ql_1811, ql_1822, ql_2132, ql_2140, ql_3229, ql_9999, ql_11453, ql_65536, ql_100000, ql_1000000, nI_add, pk_mul, q_and, q_or, q_xor, nI_clamp, q_in, q_neg1, q_nno, q_nno', q_annN, q_sh1, q_tbN, nI_leI, nI_ltI, nI_eq, pk_sub, ↓reduceIte, if_pos, if_neg, q_zlt, q_bs, f_X11_refuse, f_X11_gives]
    split <;> rfl
  rw [eX]
  refine ⟨_, eM, ?_⟩
  by_cases z : q_pc (C 0 0 6) = 0
  · rw [if_pos z, if_pos z]
    have z6 : C 0 0 6 = 0 := (q_pc0 _ (by omega)).2.1 z
    refine ⟨rfl, q_R.st ?_ 7⟩
    have e : z2 I 3 16 (nI 0) = I := by
      funext a b
      by_cases q : a = 3 ∧ b = 16
      · obtain ⟨q1, q2⟩ := q
        subst q1 q2
        rw [q_zs, hx.f.2.2.2.2.2.2, z6]
      · exact q_zo (by omega)
    rw [e] at hr
    exact hr
  · rw [if_neg z, if_neg z]
    exact ⟨rfl, hr.st 0⟩
theorem r_recant : s_recant q_R := by
  intro I L J K p0 hR
  obtain ⟨C, T, mk, h⟩ := id hR
  obtain ⟨hx, hm, ok, -⟩ := h.o
  obtain ⟨o0, o1, o2, o3, -⟩ := id ok
  have oM := q_okM ok
  cases hb : q_hs (C 0 0 2) p0 with
  | false =>
    have eX : f_X10_recant I p0 = (-1, z2 I 0 15 1) := by simp only [f_X10_recant, x0_hasClaim hx, hb]; rfl
    rw [eX]
    exact ⟨(-1, z2 J 0 2 1), by simp only [f_X11_recant, m_isClaim hm, hb]; rfl, rfl, hR.st 1⟩
  | true =>
    obtain ⟨b, hb', rfl⟩ := q_hs_t hb (by omega)
    cases hmd : (C 0 0 6).testBit b with
    | false =>
      have eX : f_X10_recant I (nI b) = (-1, z2 I 0 15 7) := by simp (disch := omega) only [f_X10_recant, x0_hasClaim hx, hb, x0_isMade hx, hmd, Bool.false_eq_true, ↓reduceIte, f_X10_refuse, q_zlt]
      rw [eX]
      exact ⟨(-1, z2 J 0 2 7), by simp (disch := omega) only [f_X11_recant, m_isClaim hm, hb, hm.f.2.2.2.2.2.2, q_isIn, hmd, Bool.false_eq_true, ↓reduceIte, f_X11_refuse, q_zlt], rfl, hR.st 7⟩
    | true =>
      have hl : C 0 0 6 ^^^ (C 0 0 6 &&& 2 ^ b) < 2 ^ C 0 0 2 := q_xa_lt ok.2.2.2.2.2.2.1
      have hl8 : C 0 0 6 ^^^ (C 0 0 6 &&& 2 ^ b) < 256 := q_xa_lt (n := 8) (by omega)
      have eX : f_X10_recant I (nI b) = (nI (q_pc (C 0 0 6 ^^^ (C 0 0 6 &&& 2 ^ b))), z2 (z2 I 3 16 (nI (C 0 0 6 ^^^ (C 0 0 6 &&& 2 ^ b)))) 0 15 0) := by
        simp (disch := omega) only [f_X10_recant, x0_hasClaim hx, hb, x0_isMade hx, hmd, hx.f.2.2.2.2.2.2, ql_0, ql_1, ql_2, ql_3, ql_4, ql_5, ql_6, ql_7, ql_8, ql_9, ql_10, ql_11, ql_12, ql_13, ql_14, ql_15, ql_16, ql_17, ql_18, ql_19, ql_20, ql_21, ql_22, ql_23, ql_24, ql_27, ql_30, ql_31, ql_32, ql_40, ql_48, ql_51, ql_52, ql_57, ql_59, ql_60, ql_61, ql_62, ql_76, ql_84, ql_91, ql_97, ql_99, ql_100, ql_120, ql_122, ql_127, ql_128, ql_200, ql_255, ql_256, ql_300, ql_420, ql_428, ql_640, ql_900, ql_896, ql_999, ql_1712, ql_1716, ql_1734, ql_1772, ql_1800, ql_1805, ql_1811, ql_1822, ql_2132, ql_2140, ql_3229, ql_9999, ql_11453, ql_65536, ql_100000, ql_1000000, nI_add, pk_mul, q_and, q_or, q_xor, nI_clamp, q_in, q_neg1, q_nno, q_nno', q_annN, q_sh1, q_tbN, nI_leI, nI_ltI, nI_eq, pk_sub, ↓reduceIte, if_pos, if_neg, q_zlt, q_bs, f_X10_give, q_bitCount0]
      rw [eX]
      refine ⟨(nI (q_pc (C 0 0 6 ^^^ (C 0 0 6 &&& 2 ^ b))), z2 (z2 J 1 6 (nI (C 0 0 6 ^^^ (C 0 0 6 &&& 2 ^ b)))) 0 2 0), ?_, rfl, (h.made hl).r.st 0⟩
      simp (disch := omega) only [f_X11_recant, m_isClaim hm, hb, hm.f.2.2.2.2.2.2, q_isIn, hmd, ql_0, ql_1, ql_2, ql_3, ql_4, ql_5, ql_6, ql_7, ql_8, ql_9, ql_10, ql_11, ql_12, ql_13, ql_14, ql_15, ql_16, ql_17, ql_18, ql_19, ql_20, ql_21, ql_22, ql_23, ql_24, ql_27, ql_30, ql_31, ql_32, ql_40, ql_48, ql_51, ql_52, ql_57, ql_59, ql_60, ql_61, ql_62, ql_76, ql_84, ql_91, ql_97, ql_99, ql_100, ql_120, ql_122, ql_127, ql_128, ql_200, ql_255, ql_256, ql_300, ql_420, ql_428, ql_640, ql_900, ql_896, ql_999, ql_1712, ql_1716, ql_1734, ql_1772, ql_1800, ql_1805, ql_1811, ql_1822, ql_2132, ql_2140, ql_3229, ql_9999, ql_11453, ql_65536, ql_100000, ql_1000000, nI_add, pk_mul, q_and, q_or, q_xor, nI_clamp, q_in, q_neg1, q_nno, q_nno', q_annN, q_sh1, q_tbN, nI_leI, nI_ltI, nI_eq, pk_sub, ↓reduceIte, if_pos, if_neg, q_zlt, q_bs, f_X11_gives, m_bits]
theorem q_orp {n m b : Nat} (h : n < 2 ^ m) (hb : b < m) : n ||| 2 ^ b < 2 ^ m := Nat.or_lt_two_pow h (Nat.pow_lt_pow_right (by decide) hb)
/-- a claim is made: the class's and the reference's -/
theorem x0_putForward {C : q_N} {c : Nat} {I : z_I} {L : z_L} (h : q_sx C c I L) (ok : q_ok C) {k : Nat} (hk : k < C 0 2) : f_X0_putForward I c (nI k) = some (nI (q_yd C (C 0 6) k), z2 (z2 I c 16 (nI (C 0 6 ||| 2 ^ k))) (c + 1) (C 4 k) (nI (min 9999 (C 1 (C 4 k) + q_yd C (C 0 6) k)))) := by
  obtain ⟨o0, o1, o2, o3, -⟩ := id ok
  have h4 := (ok.2.2.2.2.2.2.2.2.2.1 k hk).1
  have h1 := (ok.2.2.2.2.2.2.2.1 _ h4).1
  have hy := q_yd_le ok (C 0 6) k
  simp (disch := omega) only [f_X0_putForward, h.f.2.2.2.2.2.2, x0_yieldUnder h ok hk, h.a4 hk, h.a1 h4, ql_0, ql_1, ql_2, ql_3, ql_4, ql_5, ql_6, ql_7, ql_8, ql_9, ql_10, ql_11, ql_12, ql_13, ql_14, ql_15, ql_16, ql_17, ql_18, ql_19, ql_20, ql_21, ql_22, ql_23, ql_24, ql_27, ql_30, ql_31, ql_32, ql_40, ql_48, ql_51, ql_52, ql_57, ql_59, ql_60, ql_61, ql_62, ql_76, ql_84, ql_91, ql_97, ql_99, ql_100, ql_120, ql_122, ql_127, ql_128, ql_200, ql_255, ql_256, ql_300, ql_420, ql_428, ql_640, ql_900, ql_896, ql_999, ql_1712, ql_1716, ql_1734, ql_1772, ql_1800, ql_1805, ql_1811, ql_1822, ql_2132, ql_2140, ql_3229, ql_9999, ql_11453, ql_65536, ql_100000, ql_1000000, nI_add, pk_mul, q_and, q_or, q_xor, nI_clamp, q_in, q_neg1, q_nno, q_nno', q_annN, q_sh1, q_tbN, nI_leI, nI_ltI, nI_eq, pk_sub, ↓reduceIte, if_pos, if_neg, q_zlt, q_bs, q_min]
theorem m_makes {C : q_N} {m : Nat} {J : z_I} {K : z_L} (h : q_sm C 0 m J K) (ok : q_ok C) {k : Nat} (hk : k < C 0 2) : f_X11_makes J (nI k) = some (if (C 0 6).testBit k then (-1, J) else (nI (q_yd C (C 0 6) k), z2 (z2 J 1 6 (nI (C 0 6 ||| 2 ^ k))) 1 (10 + 2 * C 4 k) (nI (min 9999 (C 1 (C 4 k) + q_yd C (C 0 6) k))))) := by
  obtain ⟨o0, o1, o2, o3, -⟩ := id ok
  have oM := q_okM ok
  have h4 := (ok.2.2.2.2.2.2.2.2.2.1 k hk).1
  have h1 := (ok.2.2.2.2.2.2.2.1 _ h4).1
  have hy := q_yd_le ok (C 0 6) k
  have e : z2 J 1 6 (nI (C 0 6 ||| 2 ^ k)) 1 (10 + 2 * C 4 k) = nI (C 1 (C 4 k)) := by rw [q_zo (by omega), h.a1 h4]
  cases hb : (C 0 6).testBit k with
  | true => simp (disch := omega) only [f_X11_makes, h.f.2.2.2.2.2.2, q_isIn, hb, ↓reduceIte]
  | false => simp (disch := omega) only [f_X11_makes, f_X11_claimRow, f_X11_bedRow, h.f.2.2.2.2.2.2, q_isIn, hb, m_yieldBy h ok hk, h.a4 hk, ql_0, ql_1, ql_2, ql_3, ql_4, ql_5, ql_6, ql_7, ql_8, ql_9, ql_10, ql_11, ql_12, ql_13, ql_14, ql_15, ql_16, ql_17, ql_18, ql_19, ql_20, ql_21, ql_22, ql_23, ql_24, ql_27, ql_30, ql_31, ql_32, ql_40, ql_48, ql_51, ql_52, ql_57, ql_59, ql_60, ql_61, ql_62, ql_76, ql_84, ql_91, ql_97, ql_99, ql_100, ql_120, ql_122, ql_127, ql_128, ql_200, ql_255, ql_256, ql_300, ql_420, ql_428, ql_640, ql_900, ql_896, ql_999, ql_1712, ql_1716, ql_1734, ql_1772, ql_1800, ql_1805, ql_1811, ql_1822, ql_2132, ql_2140, ql_3229, ql_9999, ql_11453, ql_65536, ql_100000, ql_1000000, nI_add, pk_mul, q_and, q_or, q_xor, nI_clamp, q_in, q_neg1, q_nno, q_nno', q_annN, q_sh1, q_tbN, nI_leI, nI_ltI, nI_eq, pk_sub, ↓reduceIte, if_pos, if_neg, q_zlt, q_bs, q_min, e, Bool.false_eq_true]
theorem r_make : s_make q_R := by
  intro I L J K p0 hR
  obtain ⟨C, T, mk, h⟩ := id hR
  obtain ⟨hx, hm, ok, -⟩ := h.o
  obtain ⟨o0, o1, o2, o3, -⟩ := id ok
  cases hb : q_hs (C 0 0 2) p0 with
  | false => exact q_end (-1) 1 (by simp only [f_X10_make, x0_hasClaim hx, hb]; rfl) (by simp only [f_X11_make, m_isClaim hm, hb]; rfl) hR
  | true =>
    obtain ⟨b, hb', rfl⟩ := q_hs_t hb (by omega)
    have hy := q_yd_le ok (C 0 0 6) b
    cases hmd : (C 0 0 6).testBit b with
    | true =>
      refine q_end (-1) 7 (I := I) (J := J) ?_ ?_ hR
      · simp (disch := omega) only [f_X10_make, x0_hasClaim hx, hb, x0_isMade hx, hmd, ql_0, ql_1, ql_2, ql_3, ql_4, ql_5, ql_6, ql_7, ql_8, ql_9, ql_10, ql_11, ql_12, ql_13, ql_14, ql_15, ql_16, ql_17, ql_18, ql_19, ql_20, ql_21, ql_22, ql_23, ql_24, ql_27, ql_30, ql_31, ql_32, ql_40, ql_48, ql_51, ql_52, ql_57, ql_59, ql_60, ql_61, ql_62, ql_76, ql_84, ql_91, ql_97, ql_99, ql_100, ql_120, ql_122, ql_127, ql_128, ql_200, ql_255, ql_256, ql_300, ql_420, ql_428, ql_640, ql_900, ql_896, ql_999, ql_1712, ql_1716, ql_1734, ql_1772, ql_1800, ql_1805, ql_1811, ql_1822, ql_2132, ql_2140, ql_3229, ql_9999, ql_11453, ql_65536, ql_100000, ql_1000000, nI_add, pk_mul, q_and, q_or, q_xor, nI_clamp, q_in, q_neg1, q_nno, q_nno', q_annN, q_sh1, q_tbN, nI_leI, nI_ltI, nI_eq, pk_sub, ↓reduceIte, if_pos, if_neg, q_zlt, q_bs, f_X10_refuse]
      · simp (disch := omega) only [f_X11_make, m_isClaim hm, hb, m_makes hm ok hb', hmd, ql_0, ql_1, ql_2, ql_3, ql_4, ql_5, ql_6, ql_7, ql_8, ql_9, ql_10, ql_11, ql_12, ql_13, ql_14, ql_15, ql_16, ql_17, ql_18, ql_19, ql_20, ql_21, ql_22, ql_23, ql_24, ql_27, ql_30, ql_31, ql_32, ql_40, ql_48, ql_51, ql_52, ql_57, ql_59, ql_60, ql_61, ql_62, ql_76, ql_84, ql_91, ql_97, ql_99, ql_100, ql_120, ql_122, ql_127, ql_128, ql_200, ql_255, ql_256, ql_300, ql_420, ql_428, ql_640, ql_900, ql_896, ql_999, ql_1712, ql_1716, ql_1734, ql_1772, ql_1800, ql_1805, ql_1811, ql_1822, ql_2132, ql_2140, ql_3229, ql_9999, ql_11453, ql_65536, ql_100000, ql_1000000, nI_add, pk_mul, q_and, q_or, q_xor, nI_clamp, q_in, q_neg1, q_nno, q_nno', q_annN, q_sh1, q_tbN, nI_leI, nI_ltI, nI_eq, pk_sub, ↓reduceIte, if_pos, if_neg, q_zlt, q_bs, f_X11_refuse]
    | false =>
      have h4 := (ok.2.2.2.2.2.2.2.2.2.1 b hb').1
      have h1 := (h.made (v := C 0 0 6 ||| 2 ^ b) (q_orp ok.2.2.2.2.2.2.1 hb'))
      have ok1 := h1.o.2.2.1
      have e1 : (z1 C 0 (z2 (C 0) 0 6 (C 0 0 6 ||| 2 ^ b))) 0 = z2 (C 0) 0 6 (C 0 0 6 ||| 2 ^ b) := by unfold z1; rw [if_pos rfl]
      rw [e1] at ok1
      have h2 := h1.put 1 (C 0 4 b) (min 9999 (C 0 1 (C 0 4 b) + q_yd (C 0) (C 0 0 6) b)) (d := 4) (q := C 0 4 b) (p := 10 + 2 * C 0 4 b) (by rw [e1]; simp only [q_bd]; rw [q_zo (by omega)]; exact h4) (by omega) rfl rfl rfl (by rw [e1]; exact ok1.put (by omega) (by omega) (by omega) (by omega) (by omega) (by omega) (by omega) (by omega) (by omega) (by omega) (by omega))
      refine q_end (nI (q_yd (C 0) (C 0 0 6) b)) 0 ?_ ?_ h2.r
      · simp (disch := omega) only [f_X10_make, x0_hasClaim hx, hb, x0_isMade hx, hmd, x0_putForward hx ok hb', ql_0, ql_1, ql_2, ql_3, ql_4, ql_5, ql_6, ql_7, ql_8, ql_9, ql_10, ql_11, ql_12, ql_13, ql_14, ql_15, ql_16, ql_17, ql_18, ql_19, ql_20, ql_21, ql_22, ql_23, ql_24, ql_27, ql_30, ql_31, ql_32, ql_40, ql_48, ql_51, ql_52, ql_57, ql_59, ql_60, ql_61, ql_62, ql_76, ql_84, ql_91, ql_97, ql_99, ql_100, ql_120, ql_122, ql_127, ql_128, ql_200, ql_255, ql_256, ql_300, ql_420, ql_428, ql_640, ql_900, ql_896, ql_999, ql_1712, ql_1716, ql_1734, ql_1772, ql_1800, ql_1805, ql_1811, ql_1822, ql_2132, ql_2140, ql_3229, ql_9999, ql_11453, ql_65536, ql_100000, ql_1000000, nI_add, pk_mul, q_and, q_or, q_xor, nI_clamp, q_in, q_neg1, q_nno, q_nno', q_annN, q_sh1, q_tbN, nI_leI, nI_ltI, nI_eq, pk_sub, ↓reduceIte, if_pos, if_neg, q_zlt, q_bs, f_X10_give, Bool.false_eq_true, Nat.reduceAdd]
      · simp (disch := omega) only [f_X11_make, m_isClaim hm, hb, m_makes hm ok hb', hmd, ql_0, ql_1, ql_2, ql_3, ql_4, ql_5, ql_6, ql_7, ql_8, ql_9, ql_10, ql_11, ql_12, ql_13, ql_14, ql_15, ql_16, ql_17, ql_18, ql_19, ql_20, ql_21, ql_22, ql_23, ql_24, ql_27, ql_30, ql_31, ql_32, ql_40, ql_48, ql_51, ql_52, ql_57, ql_59, ql_60, ql_61, ql_62, ql_76, ql_84, ql_91, ql_97, ql_99, ql_100, ql_120, ql_122, ql_127, ql_128, ql_200, ql_255, ql_256, ql_300, ql_420, ql_428, ql_640, ql_900, ql_896, ql_999, ql_1712, ql_1716, ql_1734, ql_1772, ql_1800, ql_1805, ql_1811, ql_1822, ql_2132, ql_2140, ql_3229, ql_9999, ql_11453, ql_65536, ql_100000, ql_1000000, nI_add, pk_mul, q_and, q_or, q_xor, nI_clamp, q_in, q_neg1, q_nno, q_nno', q_annN, q_sh1, q_tbN, nI_leI, nI_ltI, nI_eq, pk_sub, ↓reduceIte, if_pos, if_neg, q_zlt, q_bs, f_X11_gives, Bool.false_eq_true]
