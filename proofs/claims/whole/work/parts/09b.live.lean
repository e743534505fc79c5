/-! terms that are lived: the walk -/
theorem q_lr.t {T : q_N} {c : Nat} {I0 : z_I} {L : z_L} {J0 : z_I} {K : z_L} {C : q_N} {dn : Nat} {ms : Int32} {I J : z_I} (h : q_lr T c I0 L J0 K C dn ms I J) (hc : c = 3 ∨ c = 22) (hT : q_tx T 14 I0) (hM : J0 1 7 = nI (T 0 1)) (hE : ∀ e, e < T 0 1 → q_te T e (60 + 6 * e) J0) : I 14 6 = nI (T 0 1) ∧ J 1 7 = nI (T 0 1) ∧ ∀ e, e < T 0 1 → I 15 e = nI (T 1 e) ∧ I 16 e = nI (T 2 e) ∧ I 17 e = nI (T 3 e) ∧ I 18 e = nI (T 4 e) ∧ I 19 e = nI (T 5 e) ∧ q_te T e (60 + 6 * e) J := by
  obtain ⟨-, -, -, -, fI, fJ⟩ := h
  obtain ⟨t1, t2, t3, t4⟩ := hT
  refine ⟨by rw [fI 14 6 (by omega) (by omega) (by omega), t2], by rw [fJ 1 7 (by omega) (by omega) (by omega) (by omega), hM], fun e he => ⟨?_, ?_, ?_, ?_, ?_, ?_⟩⟩
  · rw [fI 15 e (by omega) (by omega) (by omega)]; exact t4 1 e (by omega) (by omega) he
  · rw [fI 16 e (by omega) (by omega) (by omega)]; exact t4 2 e (by omega) (by omega) he
  · rw [fI 17 e (by omega) (by omega) (by omega)]; exact t4 3 e (by omega) (by omega) he
  · rw [fI 18 e (by omega) (by omega) (by omega)]; exact t4 4 e (by omega) (by omega) he
  · rw [fI 19 e (by omega) (by omega) (by omega)]; exact t4 5 e (by omega) (by omega) he
  · exact (hE e he).go (fun k hk => fJ 1 _ (by omega) (by omega) (by omega) (by omega))
theorem q_actE {T : q_N} {c : Nat} {I0 : z_I} {L : z_L} {J0 : z_I} {K : z_L} {C : q_N} {dn : Nat} {I J : z_I} (h : q_lr T c I0 L J0 K C dn (nI 0) I J) (hc : c = 3 ∨ c = 22) (hT : q_tx T 14 I0) (hM : J0 1 7 = nI (T 0 1)) (hE : ∀ e, e < T 0 1 → q_te T e (60 + 6 * e) J0) {e : Nat} (he : e < T 0 1) (h21 : T 1 e ≠ 21) (h22 : T 1 e ≠ 22) : q_ac T c I0 L J0 K dn I J (f_X4_act I (nI e)) (f_X11_does J (nI (60 + 6 * e))) := by
  obtain ⟨-, -, tt⟩ := h.t hc hT hM hE
  obtain ⟨i15, i16, i17, i18, i19, j0, j1, j1n, j2, j5, j4⟩ := tt e he
  obtain ⟨t1, t2, t3, t4, t5, t6⟩ := h.1.2.2.2
  obtain ⟨k0, k1, k2, k3, k4, k5, k6, k7⟩ := t5 e he
  have he60 : e < 60 := by omega
  rcases k0 with z | z | z | z | z | z | z | z | z | z | z | z
  · have j1 := j1 (by omega)
    rw [z] at i15 j0
    have j0 : J 1 (60 + 6 * e) = nI 12 := j0
    obtain ⟨C', I', b, J', p1, p2, p3⟩ := q_aClaim h hc (k := T 2 e) (k1 (by omega))
    refine ⟨C', I', b, J', ?_, ?_, p3⟩
    · simp (disch := omega) only [f_X4_act, ql_0, ql_1, ql_2, ql_3, ql_4, ql_5, ql_6, ql_7, ql_8, ql_9, ql_10, ql_11, ql_12, ql_13, ql_14, ql_15, ql_16, ql_17, ql_18, ql_19, ql_20, ql_21, ql_22, ql_23, ql_24, ql_27, ql_30, ql_31, ql_32, ql_40, ql_48, ql_51, ql_52, ql_57, ql_59, ql_60, ql_61, ql_62, ql_76, ql_84, ql_91, ql_97, ql_99, ql_100, ql_120, ql_122, ql_127, ql_128, ql_200, ql_255, ql_256, ql_300, ql_420, ql_428, ql_640, ql_900, ql_896, ql_999, ql_1712, ql_1716, ql_1734, ql_1772, ql_1800, ql_1805, ql_1811, ql_1822, ql_2132, ql_2140, ql_3229, ql_9999, ql_11453, ql_65536, ql_100000, ql_1000000, nI_add, pk_mul, q_and, q_or, q_xor, nI_clamp, q_in, q_neg1, q_nno, q_nno', q_annN, q_sh1, q_tbN, nI_leI, nI_ltI, nI_eq, pk_sub, ↓reduceIte, if_pos, if_neg, q_zlt, q_bs, i15, i16, q_bk p1]
    · simp (disch := omega) only [f_X11_does, ql_0, ql_1, ql_2, ql_3, ql_4, ql_5, ql_6, ql_7, ql_8, ql_9, ql_10, ql_11, ql_12, ql_13, ql_14, ql_15, ql_16, ql_17, ql_18, ql_19, ql_20, ql_21, ql_22, ql_23, ql_24, ql_27, ql_30, ql_31, ql_32, ql_40, ql_48, ql_51, ql_52, ql_57, ql_59, ql_60, ql_61, ql_62, ql_76, ql_84, ql_91, ql_97, ql_99, ql_100, ql_120, ql_122, ql_127, ql_128, ql_200, ql_255, ql_256, ql_300, ql_420, ql_428, ql_640, ql_900, ql_896, ql_999, ql_1712, ql_1716, ql_1734, ql_1772, ql_1800, ql_1805, ql_1811, ql_1822, ql_2132, ql_2140, ql_3229, ql_9999, ql_11453, ql_65536, ql_100000, ql_1000000, nI_add, pk_mul, q_and, q_or, q_xor, nI_clamp, q_in, q_neg1, q_nno, q_nno', q_annN, q_sh1, q_tbN, nI_leI, nI_ltI, nI_eq, pk_sub, ↓reduceIte, if_pos, if_neg, q_zlt, q_bs, j0, j1, q_bk p2]
  · have j1 := j1 (by omega)
    have j2 := j2 (by omega)
    rw [z] at i15 j0
    have j0 : J 1 (60 + 6 * e) = nI 13 := j0
    obtain ⟨C', I', b, J', p1, p2, p3⟩ := q_aWalk h hc (k := T 2 e) (b := T 4 e) (k2 (by omega)) (k4 (by omega))
    refine ⟨C', I', b, J', ?_, ?_, p3⟩
    · simp (disch := omega) only [f_X4_act, ql_0, ql_1, ql_2, ql_3, ql_4, ql_5, ql_6, ql_7, ql_8, ql_9, ql_10, ql_11, ql_12, ql_13, ql_14, ql_15, ql_16, ql_17, ql_18, ql_19, ql_20, ql_21, ql_22, ql_23, ql_24, ql_27, ql_30, ql_31, ql_32, ql_40, ql_48, ql_51, ql_52, ql_57, ql_59, ql_60, ql_61, ql_62, ql_76, ql_84, ql_91, ql_97, ql_99, ql_100, ql_120, ql_122, ql_127, ql_128, ql_200, ql_255, ql_256, ql_300, ql_420, ql_428, ql_640, ql_900, ql_896, ql_999, ql_1712, ql_1716, ql_1734, ql_1772, ql_1800, ql_1805, ql_1811, ql_1822, ql_2132, ql_2140, ql_3229, ql_9999, ql_11453, ql_65536, ql_100000, ql_1000000, nI_add, pk_mul, q_and, q_or, q_xor, nI_clamp, q_in, q_neg1, q_nno, q_nno', q_annN, q_sh1, q_tbN, nI_leI, nI_ltI, nI_eq, pk_sub, ↓reduceIte, if_pos, if_neg, q_zlt, q_bs, i15, i16, i18, q_bk p1]
    · simp (disch := omega) only [f_X11_does, ql_0, ql_1, ql_2, ql_3, ql_4, ql_5, ql_6, ql_7, ql_8, ql_9, ql_10, ql_11, ql_12, ql_13, ql_14, ql_15, ql_16, ql_17, ql_18, ql_19, ql_20, ql_21, ql_22, ql_23, ql_24, ql_27, ql_30, ql_31, ql_32, ql_40, ql_48, ql_51, ql_52, ql_57, ql_59, ql_60, ql_61, ql_62, ql_76, ql_84, ql_91, ql_97, ql_99, ql_100, ql_120, ql_122, ql_127, ql_128, ql_200, ql_255, ql_256, ql_300, ql_420, ql_428, ql_640, ql_900, ql_896, ql_999, ql_1712, ql_1716, ql_1734, ql_1772, ql_1800, ql_1805, ql_1811, ql_1822, ql_2132, ql_2140, ql_3229, ql_9999, ql_11453, ql_65536, ql_100000, ql_1000000, nI_add, pk_mul, q_and, q_or, q_xor, nI_clamp, q_in, q_neg1, q_nno, q_nno', q_annN, q_sh1, q_tbN, nI_leI, nI_ltI, nI_eq, pk_sub, ↓reduceIte, if_pos, if_neg, q_zlt, q_bs, j0, j1, j2, q_bk p2]
  · have j1 := j1 (by omega)
    rw [z] at i15 j0
    have j0 : J 1 (60 + 6 * e) = nI 14 := j0
    obtain ⟨C', I', b, J', p1, p2, p3⟩ := q_aPick h hc (k := T 2 e) (k2 (by omega))
    refine ⟨C', I', b, J', ?_, ?_, p3⟩
    · simp (disch := omega) only [f_X4_act, ql_0, ql_1, ql_2, ql_3, ql_4, ql_5, ql_6, ql_7, ql_8, ql_9, ql_10, ql_11, ql_12, ql_13, ql_14, ql_15, ql_16, ql_17, ql_18, ql_19, ql_20, ql_21, ql_22, ql_23, ql_24, ql_27, ql_30, ql_31, ql_32, ql_40, ql_48, ql_51, ql_52, ql_57, ql_59, ql_60, ql_61, ql_62, ql_76, ql_84, ql_91, ql_97, ql_99, ql_100, ql_120, ql_122, ql_127, ql_128, ql_200, ql_255, ql_256, ql_300, ql_420, ql_428, ql_640, ql_900, ql_896, ql_999, ql_1712, ql_1716, ql_1734, ql_1772, ql_1800, ql_1805, ql_1811, ql_1822, ql_2132, ql_2140, ql_3229, ql_9999, ql_11453, ql_65536, ql_100000, ql_1000000, nI_add, pk_mul, q_and, q_or, q_xor, nI_clamp, q_in, q_neg1, q_nno, q_nno', q_annN, q_sh1, q_tbN, nI_leI, nI_ltI, nI_eq, pk_sub, ↓reduceIte, if_pos, if_neg, q_zlt, q_bs, i15, i16, q_bk p1]
    · simp (disch := omega) only [f_X11_does, ql_0, ql_1, ql_2, ql_3, ql_4, ql_5, ql_6, ql_7, ql_8, ql_9, ql_10, ql_11, ql_12, ql_13, ql_14, ql_15, ql_16, ql_17, ql_18, ql_19, ql_20, ql_21, ql_22, ql_23, ql_24, ql_27, ql_30, ql_31, ql_32, ql_40, ql_48, ql_51, ql_52, ql_57, ql_59, ql_60, ql_61, ql_62, ql_76, ql_84, ql_91, ql_97, ql_99, ql_100, ql_120, ql_122, ql_127, ql_128, ql_200, ql_255, ql_256, ql_300, ql_420, ql_428, ql_640, ql_900, ql_896, ql_999, ql_1712, ql_1716, ql_1734, ql_1772, ql_1800, ql_1805, ql_1811, ql_1822, ql_2132, ql_2140, ql_3229, ql_9999, ql_11453, ql_65536, ql_100000, ql_1000000, nI_add, pk_mul, q_and, q_or, q_xor, nI_clamp, q_in, q_neg1, q_nno, q_nno', q_annN, q_sh1, q_tbN, nI_leI, nI_ltI, nI_eq, pk_sub, ↓reduceIte, if_pos, if_neg, q_zlt, q_bs, j0, j1, q_bk p2]
  · have j1 := j1n (by omega)
    rw [z] at i15 j0
    have j0 : J 1 (60 + 6 * e) = nI 15 := j0
    obtain ⟨C', I', b, J', p1, p2, p3⟩ := q_aNight h hc (p := T 4 e) (k5 (by omega)).2
    refine ⟨C', I', b, J', ?_, ?_, p3⟩
    · simp (disch := omega) only [f_X4_act, ql_0, ql_1, ql_2, ql_3, ql_4, ql_5, ql_6, ql_7, ql_8, ql_9, ql_10, ql_11, ql_12, ql_13, ql_14, ql_15, ql_16, ql_17, ql_18, ql_19, ql_20, ql_21, ql_22, ql_23, ql_24, ql_27, ql_30, ql_31, ql_32, ql_40, ql_48, ql_51, ql_52, ql_57, ql_59, ql_60, ql_61, ql_62, ql_76, ql_84, ql_91, ql_97, ql_99, ql_100, ql_120, ql_122, ql_127, ql_128, ql_200, ql_255, ql_256, ql_300, ql_420, ql_428, ql_640, ql_900, ql_896, ql_999, ql_1712, ql_1716, ql_1734, ql_1772, ql_1800, ql_1805, ql_1811, ql_1822, ql_2132, ql_2140, ql_3229, ql_9999, ql_11453, ql_65536, ql_100000, ql_1000000, nI_add, pk_mul, q_and, q_or, q_xor, nI_clamp, q_in, q_neg1, q_nno, q_nno', q_annN, q_sh1, q_tbN, nI_leI, nI_ltI, nI_eq, pk_sub, ↓reduceIte, if_pos, if_neg, q_zlt, q_bs, i15, i18, q_bk p1]
    · simp (disch := omega) only [f_X11_does, ql_0, ql_1, ql_2, ql_3, ql_4, ql_5, ql_6, ql_7, ql_8, ql_9, ql_10, ql_11, ql_12, ql_13, ql_14, ql_15, ql_16, ql_17, ql_18, ql_19, ql_20, ql_21, ql_22, ql_23, ql_24, ql_27, ql_30, ql_31, ql_32, ql_40, ql_48, ql_51, ql_52, ql_57, ql_59, ql_60, ql_61, ql_62, ql_76, ql_84, ql_91, ql_97, ql_99, ql_100, ql_120, ql_122, ql_127, ql_128, ql_200, ql_255, ql_256, ql_300, ql_420, ql_428, ql_640, ql_900, ql_896, ql_999, ql_1712, ql_1716, ql_1734, ql_1772, ql_1800, ql_1805, ql_1811, ql_1822, ql_2132, ql_2140, ql_3229, ql_9999, ql_11453, ql_65536, ql_100000, ql_1000000, nI_add, pk_mul, q_and, q_or, q_xor, nI_clamp, q_in, q_neg1, q_nno, q_nno', q_annN, q_sh1, q_tbN, nI_leI, nI_ltI, nI_eq, pk_sub, ↓reduceIte, if_pos, if_neg, q_zlt, q_bs, j0, j1, q_bk p2]
  · rw [z] at i15 j0
    have j0 : J 1 (60 + 6 * e) = nI 16 := j0
    obtain ⟨C', I', b, J', p1, p2, p3⟩ := q_aForget h hc
    refine ⟨C', I', b, J', ?_, ?_, p3⟩
    · simp (disch := omega) only [f_X4_act, ql_0, ql_1, ql_2, ql_3, ql_4, ql_5, ql_6, ql_7, ql_8, ql_9, ql_10, ql_11, ql_12, ql_13, ql_14, ql_15, ql_16, ql_17, ql_18, ql_19, ql_20, ql_21, ql_22, ql_23, ql_24, ql_27, ql_30, ql_31, ql_32, ql_40, ql_48, ql_51, ql_52, ql_57, ql_59, ql_60, ql_61, ql_62, ql_76, ql_84, ql_91, ql_97, ql_99, ql_100, ql_120, ql_122, ql_127, ql_128, ql_200, ql_255, ql_256, ql_300, ql_420, ql_428, ql_640, ql_900, ql_896, ql_999, ql_1712, ql_1716, ql_1734, ql_1772, ql_1800, ql_1805, ql_1811, ql_1822, ql_2132, ql_2140, ql_3229, ql_9999, ql_11453, ql_65536, ql_100000, ql_1000000, nI_add, pk_mul, q_and, q_or, q_xor, nI_clamp, q_in, q_neg1, q_nno, q_nno', q_annN, q_sh1, q_tbN, nI_leI, nI_ltI, nI_eq, pk_sub, ↓reduceIte, if_pos, if_neg, q_zlt, q_bs, i15, q_bk p1]
    · rw [← p2]
      simp (disch := omega) only [f_X11_does, ql_0, ql_1, ql_2, ql_3, ql_4, ql_5, ql_6, ql_7, ql_8, ql_9, ql_10, ql_11, ql_12, ql_13, ql_14, ql_15, ql_16, ql_17, ql_18, ql_19, ql_20, ql_21, ql_22, ql_23, ql_24, ql_27, ql_30, ql_31, ql_32, ql_40, ql_48, ql_51, ql_52, ql_57, ql_59, ql_60, ql_61, ql_62, ql_76, ql_84, ql_91, ql_97, ql_99, ql_100, ql_120, ql_122, ql_127, ql_128, ql_200, ql_255, ql_256, ql_300, ql_420, ql_428, ql_640, ql_900, ql_896, ql_999, ql_1712, ql_1716, ql_1734, ql_1772, ql_1800, ql_1805, ql_1811, ql_1822, ql_2132, ql_2140, ql_3229, ql_9999, ql_11453, ql_65536, ql_100000, ql_1000000, nI_add, pk_mul, q_and, q_or, q_xor, nI_clamp, q_in, q_neg1, q_nno, q_nno', q_annN, q_sh1, q_tbN, nI_leI, nI_ltI, nI_eq, pk_sub, ↓reduceIte, if_pos, if_neg, q_zlt, q_bs, j0]
  · rw [z] at i15 j0
    have j0 : J 1 (60 + 6 * e) = nI 17 := j0
    obtain ⟨C', I', b, J', p1, p2, p3⟩ := q_aAny h hc
    refine ⟨C', I', b, J', ?_, ?_, p3⟩
    · simp (disch := omega) only [f_X4_act, ql_0, ql_1, ql_2, ql_3, ql_4, ql_5, ql_6, ql_7, ql_8, ql_9, ql_10, ql_11, ql_12, ql_13, ql_14, ql_15, ql_16, ql_17, ql_18, ql_19, ql_20, ql_21, ql_22, ql_23, ql_24, ql_27, ql_30, ql_31, ql_32, ql_40, ql_48, ql_51, ql_52, ql_57, ql_59, ql_60, ql_61, ql_62, ql_76, ql_84, ql_91, ql_97, ql_99, ql_100, ql_120, ql_122, ql_127, ql_128, ql_200, ql_255, ql_256, ql_300, ql_420, ql_428, ql_640, ql_900, ql_896, ql_999, ql_1712, ql_1716, ql_1734, ql_1772, ql_1800, ql_1805, ql_1811, ql_1822, ql_2132, ql_2140, ql_3229, ql_9999, ql_11453, ql_65536, ql_100000, ql_1000000, nI_add, pk_mul, q_and, q_or, q_xor, nI_clamp, q_in, q_neg1, q_nno, q_nno', q_annN, q_sh1, q_tbN, nI_leI, nI_ltI, nI_eq, pk_sub, ↓reduceIte, if_pos, if_neg, q_zlt, q_bs, i15, q_bk p1]
    · simp (disch := omega) only [f_X11_does, ql_0, ql_1, ql_2, ql_3, ql_4, ql_5, ql_6, ql_7, ql_8, ql_9, ql_10, ql_11, ql_12, ql_13, ql_14, ql_15, ql_16, ql_17, ql_18, ql_19, ql_20, ql_21, ql_22, ql_23, ql_24, ql_27, ql_30, ql_31, ql_32, ql_40, ql_48, ql_51, ql_52, ql_57, ql_59, ql_60, ql_61, ql_62, ql_76, ql_84, ql_91, ql_97, ql_99, ql_100, ql_120, ql_122, ql_127, ql_128, ql_200, ql_255, ql_256, ql_300, ql_420, ql_428, ql_640, ql_900, ql_896, ql_999, ql_1712, ql_1716, ql_1734, ql_1772, ql_1800, ql_1805, ql_1811, ql_1822, ql_2132, ql_2140, ql_3229, ql_9999, ql_11453, ql_65536, ql_100000, ql_1000000, nI_add, pk_mul, q_and, q_or, q_xor, nI_clamp, q_in, q_neg1, q_nno, q_nno', q_annN, q_sh1, q_tbN, nI_leI, nI_ltI, nI_eq, pk_sub, ↓reduceIte, if_pos, if_neg, q_zlt, q_bs, j0, q_bk p2]
  · rw [z] at i15 j0
    have j0 : J 1 (60 + 6 * e) = nI 1822 := j0
    refine ⟨C, I, true, J, ?_, ?_, h, fun _ _ _ _ => rfl, fun _ _ _ _ _ => rfl⟩
    · simp (disch := omega) only [f_X4_act, ql_0, ql_1, ql_2, ql_3, ql_4, ql_5, ql_6, ql_7, ql_8, ql_9, ql_10, ql_11, ql_12, ql_13, ql_14, ql_15, ql_16, ql_17, ql_18, ql_19, ql_20, ql_21, ql_22, ql_23, ql_24, ql_27, ql_30, ql_31, ql_32, ql_40, ql_48, ql_51, ql_52, ql_57, ql_59, ql_60, ql_61, ql_62, ql_76, ql_84, ql_91, ql_97, ql_99, ql_100, ql_120, ql_122, ql_127, ql_128, ql_200, ql_255, ql_256, ql_300, ql_420, ql_428, ql_640, ql_900, ql_896, ql_999, ql_1712, ql_1716, ql_1734, ql_1772, ql_1800, ql_1805, ql_1811, ql_1822, ql_2132, ql_2140, ql_3229, ql_9999, ql_11453, ql_65536, ql_100000, ql_1000000, nI_add, pk_mul, q_and, q_or, q_xor, nI_clamp, q_in, q_neg1, q_nno, q_nno', q_annN, q_sh1, q_tbN, nI_leI, nI_ltI, nI_eq, pk_sub, ↓reduceIte, if_pos, if_neg, q_zlt, q_bs, i15]
    · simp (disch := omega) only [f_X11_does, ql_0, ql_1, ql_2, ql_3, ql_4, ql_5, ql_6, ql_7, ql_8, ql_9, ql_10, ql_11, ql_12, ql_13, ql_14, ql_15, ql_16, ql_17, ql_18, ql_19, ql_20, ql_21, ql_22, ql_23, ql_24, ql_27, ql_30, ql_31, ql_32, ql_40, ql_48, ql_51, ql_52, ql_57, ql_59, ql_60, ql_61, ql_62, ql_76, ql_84, ql_91, ql_97, ql_99, ql_100, ql_120, ql_122, ql_127, ql_128, ql_200, ql_255, ql_256, ql_300, ql_420, ql_428, ql_640, ql_900, ql_896, ql_999, ql_1712, ql_1716, ql_1734, ql_1772, ql_1800, ql_1805, ql_1811, ql_1822, ql_2132, ql_2140, ql_3229, ql_9999, ql_11453, ql_65536, ql_100000, ql_1000000, nI_add, pk_mul, q_and, q_or, q_xor, nI_clamp, q_in, q_neg1, q_nno, q_nno', q_annN, q_sh1, q_tbN, nI_leI, nI_ltI, nI_eq, pk_sub, ↓reduceIte, if_pos, if_neg, q_zlt, q_bs, j0]
  · rw [z] at i15 j0
    have j0 : J 1 (60 + 6 * e) = nI 1805 := j0
    refine ⟨C, I, true, J, ?_, ?_, h, fun _ _ _ _ => rfl, fun _ _ _ _ _ => rfl⟩
    · simp (disch := omega) only [f_X4_act, ql_0, ql_1, ql_2, ql_3, ql_4, ql_5, ql_6, ql_7, ql_8, ql_9, ql_10, ql_11, ql_12, ql_13, ql_14, ql_15, ql_16, ql_17, ql_18, ql_19, ql_20, ql_21, ql_22, ql_23, ql_24, ql_27, ql_30, ql_31, ql_32, ql_40, ql_48, ql_51, ql_52, ql_57, ql_59, ql_60, ql_61, ql_62, ql_76, ql_84, ql_91, ql_97, ql_99, ql_100, ql_120, ql_122, ql_127, ql_128, ql_200, ql_255, ql_256, ql_300, ql_420, ql_428, ql_640, ql_900, ql_896, ql_999, ql_1712, ql_1716, ql_1734, ql_1772, ql_1800, ql_1805, ql_1811, ql_1822, ql_2132, ql_2140, ql_3229, ql_9999, ql_11453, ql_65536, ql_100000, ql_1000000, nI_add, pk_mul, q_and, q_or, q_xor, nI_clamp, q_in, q_neg1, q_nno, q_nno', q_annN, q_sh1, q_tbN, nI_leI, nI_ltI, nI_eq, pk_sub, ↓reduceIte, if_pos, if_neg, q_zlt, q_bs, i15]
    · simp (disch := omega) only [f_X11_does, ql_0, ql_1, ql_2, ql_3, ql_4, ql_5, ql_6, ql_7, ql_8, ql_9, ql_10, ql_11, ql_12, ql_13, ql_14, ql_15, ql_16, ql_17, ql_18, ql_19, ql_20, ql_21, ql_22, ql_23, ql_24, ql_27, ql_30, ql_31, ql_32, ql_40, ql_48, ql_51, ql_52, ql_57, ql_59, ql_60, ql_61, ql_62, ql_76, ql_84, ql_91, ql_97, ql_99, ql_100, ql_120, ql_122, ql_127, ql_128, ql_200, ql_255, ql_256, ql_300, ql_420, ql_428, ql_640, ql_900, ql_896, ql_999, ql_1712, ql_1716, ql_1734, ql_1772, ql_1800, ql_1805, ql_1811, ql_1822, ql_2132, ql_2140, ql_3229, ql_9999, ql_11453, ql_65536, ql_100000, ql_1000000, nI_add, pk_mul, q_and, q_or, q_xor, nI_clamp, q_in, q_neg1, q_nno, q_nno', q_annN, q_sh1, q_tbN, nI_leI, nI_ltI, nI_eq, pk_sub, ↓reduceIte, if_pos, if_neg, q_zlt, q_bs, j0]
  · rw [z] at i15 j0
    have j0 : J 1 (60 + 6 * e) = nI 1811 := j0
    refine ⟨C, I, true, J, ?_, ?_, h, fun _ _ _ _ => rfl, fun _ _ _ _ _ => rfl⟩
    · simp (disch := omega) only [f_X4_act, ql_0, ql_1, ql_2, ql_3, ql_4, ql_5, ql_6, ql_7, ql_8, ql_9, ql_10, ql_11, ql_12, ql_13, ql_14, ql_15, ql_16, ql_17, ql_18, ql_19, ql_20, ql_21, ql_22, ql_23, ql_24, ql_27, ql_30, ql_31, ql_32, ql_40, ql_48, ql_51, ql_52, ql_57, ql_59, ql_60, ql_61, ql_62, ql_76, ql_84, ql_91, ql_97, ql_99, ql_100, ql_120, ql_122, ql_127, ql_128, ql_200, ql_255, ql_256, ql_300, ql_420, ql_428, ql_640, ql_900, ql_896, ql_999, ql_1712, ql_1716, ql_1734, ql_1772, ql_1800, ql_1805, ql_1811, ql_1822, ql_2132, ql_2140, ql_3229, ql_9999, ql_11453, ql_65536, ql_100000, ql_1000000, nI_add, pk_mul, q_and, q_or, q_xor, nI_clamp, q_in, q_neg1, q_nno, q_nno', q_annN, q_sh1, q_tbN, nI_leI, nI_ltI, nI_eq, pk_sub, ↓reduceIte, if_pos, if_neg, q_zlt, q_bs, i15]
    · simp (disch := omega) only [f_X11_does, ql_0, ql_1, ql_2, ql_3, ql_4, ql_5, ql_6, ql_7, ql_8, ql_9, ql_10, ql_11, ql_12, ql_13, ql_14, ql_15, ql_16, ql_17, ql_18, ql_19, ql_20, ql_21, ql_22, ql_23, ql_24, ql_27, ql_30, ql_31, ql_32, ql_40, ql_48, ql_51, ql_52, ql_57, ql_59, ql_60, ql_61, ql_62, ql_76, ql_84, ql_91, ql_97, ql_99, ql_100, ql_120, ql_122, ql_127, ql_128, ql_200, ql_255, ql_256, ql_300, ql_420, ql_428, ql_640, ql_900, ql_896, ql_999, ql_1712, ql_1716, ql_1734, ql_1772, ql_1800, ql_1805, ql_1811, ql_1822, ql_2132, ql_2140, ql_3229, ql_9999, ql_11453, ql_65536, ql_100000, ql_1000000, nI_add, pk_mul, q_and, q_or, q_xor, nI_clamp, q_in, q_neg1, q_nno, q_nno', q_annN, q_sh1, q_tbN, nI_leI, nI_ltI, nI_eq, pk_sub, ↓reduceIte, if_pos, if_neg, q_zlt, q_bs, j0]
  · rw [z] at i15 j0
    have j0 : J 1 (60 + 6 * e) = nI 19 := j0
    refine ⟨C, I, true, J, ?_, ?_, h, fun _ _ _ _ => rfl, fun _ _ _ _ _ => rfl⟩
    · simp (disch := omega) only [f_X4_act, ql_0, ql_1, ql_2, ql_3, ql_4, ql_5, ql_6, ql_7, ql_8, ql_9, ql_10, ql_11, ql_12, ql_13, ql_14, ql_15, ql_16, ql_17, ql_18, ql_19, ql_20, ql_21, ql_22, ql_23, ql_24, ql_27, ql_30, ql_31, ql_32, ql_40, ql_48, ql_51, ql_52, ql_57, ql_59, ql_60, ql_61, ql_62, ql_76, ql_84, ql_91, ql_97, ql_99, ql_100, ql_120, ql_122, ql_127, ql_128, ql_200, ql_255, ql_256, ql_300, ql_420, ql_428, ql_640, ql_900, ql_896, ql_999, ql_1712, ql_1716, ql_1734, ql_1772, ql_1800, ql_1805, ql_1811, ql_1822, ql_2132, ql_2140, ql_3229, ql_9999, ql_11453, ql_65536, ql_100000, ql_1000000, nI_add, pk_mul, q_and, q_or, q_xor, nI_clamp, q_in, q_neg1, q_nno, q_nno', q_annN, q_sh1, q_tbN, nI_leI, nI_ltI, nI_eq, pk_sub, ↓reduceIte, if_pos, if_neg, q_zlt, q_bs, i15]
    · simp (disch := omega) only [f_X11_does, ql_0, ql_1, ql_2, ql_3, ql_4, ql_5, ql_6, ql_7, ql_8, ql_9, ql_10, ql_11, ql_12, ql_13, ql_14, ql_15, ql_16, ql_17, ql_18, ql_19, ql_20, ql_21, ql_22, ql_23, ql_24, ql_27, ql_30, ql_31, ql_32, ql_40, ql_48, ql_51, ql_52, ql_57, ql_59, ql_60, ql_61, ql_62, ql_76, ql_84, ql_91, ql_97, ql_99, ql_100, ql_120, ql_122, ql_127, ql_128, ql_200, ql_255, ql_256, ql_300, ql_420, ql_428, ql_640, ql_900, ql_896, ql_999, ql_1712, ql_1716, ql_1734, ql_1772, ql_1800, ql_1805, ql_1811, ql_1822, ql_2132, ql_2140, ql_3229, ql_9999, ql_11453, ql_65536, ql_100000, ql_1000000, nI_add, pk_mul, q_and, q_or, q_xor, nI_clamp, q_in, q_neg1, q_nno, q_nno', q_annN, q_sh1, q_tbN, nI_leI, nI_ltI, nI_eq, pk_sub, ↓reduceIte, if_pos, if_neg, q_zlt, q_bs, j0]
  · exact absurd z h21
  · exact absurd z h22
theorem q_cmp {I : z_I} {e v s n : Nat} (he : e < 60) (h17 : I 17 e = nI s) (h18 : I 18 e = nI n) (hs : s ≤ 255) (hn : n ≤ 9999) (hv : v ≤ 9999) : f_X4_compares I (nI v) (nI e) = some (if s = 60 then decide (v < n) else if s = 62 then decide (n < v) else decide (v = n)) := by
  by_cases z1 : s = 60
  · rw [if_pos z1]
    subst z1
    by_cases y : n ≤ v
    · have : decide (v < n) = false := decide_eq_false (by omega)
      rw [this]
      simp (disch := omega) only [f_X4_compares, ql_0, ql_1, ql_2, ql_3, ql_4, ql_5, ql_6, ql_7, ql_8, ql_9, ql_10, ql_11, ql_12, ql_13, ql_14, ql_15, ql_16, ql_17, ql_18, ql_19, ql_20, ql_21, ql_22, ql_23, ql_24, ql_27, ql_30, ql_31, ql_32, ql_40, ql_48, ql_51, ql_52, ql_57, ql_59, ql_60, ql_61, ql_62, ql_76, ql_84, ql_91, ql_97, ql_99, ql_100, ql_120, ql_122, ql_127, ql_128, ql_200, ql_255, ql_256, ql_300, ql_420, ql_428, ql_640, ql_900, ql_896, ql_999, ql_1712, ql_1716, ql_1734, ql_1772, ql_1800, ql_1805, ql_1811, ql_1822, ql_2132, ql_2140, ql_3229, ql_9999, ql_11453, ql_65536, ql_100000, ql_1000000, nI_add, pk_mul, q_and, q_or, q_xor, nI_clamp, q_in, q_neg1, q_nno, q_nno', q_annN, q_sh1, q_tbN, nI_leI, nI_ltI, nI_eq, pk_sub, ↓reduceIte, if_pos, if_neg, q_zlt, q_bs, h17, h18, y]
    · have : decide (v < n) = true := decide_eq_true (by omega)
      rw [this]
      simp (disch := omega) only [f_X4_compares, ql_0, ql_1, ql_2, ql_3, ql_4, ql_5, ql_6, ql_7, ql_8, ql_9, ql_10, ql_11, ql_12, ql_13, ql_14, ql_15, ql_16, ql_17, ql_18, ql_19, ql_20, ql_21, ql_22, ql_23, ql_24, ql_27, ql_30, ql_31, ql_32, ql_40, ql_48, ql_51, ql_52, ql_57, ql_59, ql_60, ql_61, ql_62, ql_76, ql_84, ql_91, ql_97, ql_99, ql_100, ql_120, ql_122, ql_127, ql_128, ql_200, ql_255, ql_256, ql_300, ql_420, ql_428, ql_640, ql_900, ql_896, ql_999, ql_1712, ql_1716, ql_1734, ql_1772, ql_1800, ql_1805, ql_1811, ql_1822, ql_2132, ql_2140, ql_3229, ql_9999, ql_11453, ql_65536, ql_100000, ql_1000000, nI_add, pk_mul, q_and, q_or, q_xor, nI_clamp, q_in, q_neg1, q_nno, q_nno', q_annN, q_sh1, q_tbN, nI_leI, nI_ltI, nI_eq, pk_sub, ↓reduceIte, if_pos, if_neg, q_zlt, q_bs, h17, h18, y]
  · rw [if_neg z1]
    by_cases z2' : s = 62
    · rw [if_pos z2']
      subst z2'
      by_cases y : v ≤ n
      · have : decide (n < v) = false := decide_eq_false (by omega)
        rw [this]
        simp (disch := omega) only [f_X4_compares, ql_0, ql_1, ql_2, ql_3, ql_4, ql_5, ql_6, ql_7, ql_8, ql_9, ql_10, ql_11, ql_12, ql_13, ql_14, ql_15, ql_16, ql_17, ql_18, ql_19, ql_20, ql_21, ql_22, ql_23, ql_24, ql_27, ql_30, ql_31, ql_32, ql_40, ql_48, ql_51, ql_52, ql_57, ql_59, ql_60, ql_61, ql_62, ql_76, ql_84, ql_91, ql_97, ql_99, ql_100, ql_120, ql_122, ql_127, ql_128, ql_200, ql_255, ql_256, ql_300, ql_420, ql_428, ql_640, ql_900, ql_896, ql_999, ql_1712, ql_1716, ql_1734, ql_1772, ql_1800, ql_1805, ql_1811, ql_1822, ql_2132, ql_2140, ql_3229, ql_9999, ql_11453, ql_65536, ql_100000, ql_1000000, nI_add, pk_mul, q_and, q_or, q_xor, nI_clamp, q_in, q_neg1, q_nno, q_nno', q_annN, q_sh1, q_tbN, nI_leI, nI_ltI, nI_eq, pk_sub, ↓reduceIte, if_pos, if_neg, q_zlt, q_bs, h17, h18, y]
      · have : decide (n < v) = true := decide_eq_true (by omega)
        rw [this]
        simp (disch := omega) only [f_X4_compares, ql_0, ql_1, ql_2, ql_3, ql_4, ql_5, ql_6, ql_7, ql_8, ql_9, ql_10, ql_11, ql_12, ql_13, ql_14, ql_15, ql_16, ql_17, ql_18, ql_19, ql_20, ql_21, ql_22, ql_23, ql_24, ql_27, ql_30, ql_31, ql_32, ql_40, ql_48, ql_51, ql_52, ql_57, ql_59, ql_60, ql_61, ql_62, ql_76, ql_84, ql_91, ql_97, ql_99, ql_100, ql_120, ql_122, ql_127, ql_128, ql_200, ql_255, ql_256, ql_300, ql_420, ql_428, ql_640, ql_900, ql_896, ql_999, ql_1712, ql_1716, ql_1734, ql_1772, ql_1800, ql_1805, ql_1811, ql_1822, ql_2132, ql_2140, ql_3229, ql_9999, ql_11453, ql_65536, ql_100000, ql_1000000, nI_add, pk_mul, q_and, q_or, q_xor, nI_clamp, q_in, q_neg1, q_nno, q_nno', q_annN, q_sh1, q_tbN, nI_leI, nI_ltI, nI_eq, pk_sub, ↓reduceIte, if_pos, if_neg, q_zlt, q_bs, h17, h18, y]
    · rw [if_neg z2']
      by_cases y : v = n
      · rw [decide_eq_true y]
        simp (disch := omega) only [f_X4_compares, ql_0, ql_1, ql_2, ql_3, ql_4, ql_5, ql_6, ql_7, ql_8, ql_9, ql_10, ql_11, ql_12, ql_13, ql_14, ql_15, ql_16, ql_17, ql_18, ql_19, ql_20, ql_21, ql_22, ql_23, ql_24, ql_27, ql_30, ql_31, ql_32, ql_40, ql_48, ql_51, ql_52, ql_57, ql_59, ql_60, ql_61, ql_62, ql_76, ql_84, ql_91, ql_97, ql_99, ql_100, ql_120, ql_122, ql_127, ql_128, ql_200, ql_255, ql_256, ql_300, ql_420, ql_428, ql_640, ql_900, ql_896, ql_999, ql_1712, ql_1716, ql_1734, ql_1772, ql_1800, ql_1805, ql_1811, ql_1822, ql_2132, ql_2140, ql_3229, ql_9999, ql_11453, ql_65536, ql_100000, ql_1000000, nI_add, pk_mul, q_and, q_or, q_xor, nI_clamp, q_in, q_neg1, q_nno, q_nno', q_annN, q_sh1, q_tbN, nI_leI, nI_ltI, nI_eq, pk_sub, ↓reduceIte, if_pos, if_neg, q_zlt, q_bs, h17, h18, z1, z2', y]
      · rw [decide_eq_false y]
        simp (disch := omega) only [f_X4_compares, ql_0, ql_1, ql_2, ql_3, ql_4, ql_5, ql_6, ql_7, ql_8, ql_9, ql_10, ql_11, ql_12, ql_13, ql_14, ql_15, ql_16, ql_17, ql_18, ql_19, ql_20, ql_21, ql_22, ql_23, ql_24, ql_27, ql_30, ql_31, ql_32, ql_40, ql_48, ql_51, ql_52, ql_57, ql_59, ql_60, ql_61, ql_62, ql_76, ql_84, ql_91, ql_97, ql_99, ql_100, ql_120, ql_122, ql_127, ql_128, ql_200, ql_255, ql_256, ql_300, ql_420, ql_428, ql_640, ql_900, ql_896, ql_999, ql_1712, ql_1716, ql_1734, ql_1772, ql_1800, ql_1805, ql_1811, ql_1822, ql_2132, ql_2140, ql_3229, ql_9999, ql_11453, ql_65536, ql_100000, ql_1000000, nI_add, pk_mul, q_and, q_or, q_xor, nI_clamp, q_in, q_neg1, q_nno, q_nno', q_annN, q_sh1, q_tbN, nI_leI, nI_ltI, nI_eq, pk_sub, ↓reduceIte, if_pos, if_neg, q_zlt, q_bs, h17, h18, z1, z2', y]
theorem q_hold {T : q_N} {c : Nat} {I0 : z_I} {L : z_L} {J0 : z_I} {K : z_L} {C : q_N} {dn : Nat} {ms : Int32} {I J : z_I} (h : q_lr T c I0 L J0 K C dn ms I J) (hc : c = 3 ∨ c = 22) (hT : q_tx T 14 I0) (hM : J0 1 7 = nI (T 0 1)) (hE : ∀ e, e < T 0 1 → q_te T e (60 + 6 * e) J0) {e : Nat} (he : e < T 0 1) (hk : T 1 e = 19 ∨ T 1 e = 2 ∨ T 1 e = 11) : ∃ b, f_X4_holds I (nI e) = some b ∧ f_X11_holds J (nI (60 + 6 * e)) = some b := by
  obtain ⟨-, -, tt⟩ := h.t hc hT hM hE
  obtain ⟨i15, i16, i17, i18, i19, j0, j1, j1n, j2, j5, j4⟩ := tt e he
  obtain ⟨t1, t2, t3, t4, t5, t6⟩ := h.1.2.2.2
  obtain ⟨k0, k1, k2, k3, k4, k5, k6, k7⟩ := t5 e he
  obtain ⟨⟨hx, hm, ok, tk⟩, ⟨h5, -⟩, -⟩ := id h
  obtain ⟨o0, o1, o2, o3, -⟩ := id ok
  have hz := q_zc hc
  have hM7 := q_okM ok
  have he60 : e < 60 := by omega
  rcases hk with z | z | z
  · have j1 := j1 (by omega)
    have k1 := k1 (by omega)
    rw [z] at i15 j0
    have j0 : J 1 (60 + 6 * e) = nI 1822 := j0
    have him := x0_isMade hx (k := T 2 e) (by omega)
    have m6 := hm.f.2.2.2.2.2.2
    refine ⟨(C 0 6).testBit (T 2 e), ?_, ?_⟩
    · simp (disch := omega) only [f_X4_holds, ql_0, ql_1, ql_2, ql_3, ql_4, ql_5, ql_6, ql_7, ql_8, ql_9, ql_10, ql_11, ql_12, ql_13, ql_14, ql_15, ql_16, ql_17, ql_18, ql_19, ql_20, ql_21, ql_22, ql_23, ql_24, ql_27, ql_30, ql_31, ql_32, ql_40, ql_48, ql_51, ql_52, ql_57, ql_59, ql_60, ql_61, ql_62, ql_76, ql_84, ql_91, ql_97, ql_99, ql_100, ql_120, ql_122, ql_127, ql_128, ql_200, ql_255, ql_256, ql_300, ql_420, ql_428, ql_640, ql_900, ql_896, ql_999, ql_1712, ql_1716, ql_1734, ql_1772, ql_1800, ql_1805, ql_1811, ql_1822, ql_2132, ql_2140, ql_3229, ql_9999, ql_11453, ql_65536, ql_100000, ql_1000000, nI_add, pk_mul, q_and, q_or, q_xor, nI_clamp, q_in, q_neg1, q_nno, q_nno', q_annN, q_sh1, q_tbN, nI_leI, nI_ltI, nI_eq, pk_sub, ↓reduceIte, if_pos, if_neg, q_zlt, q_bs, i15, i16, h5, hz, him]
    · simp (disch := omega) only [f_X11_holds, ql_0, ql_1, ql_2, ql_3, ql_4, ql_5, ql_6, ql_7, ql_8, ql_9, ql_10, ql_11, ql_12, ql_13, ql_14, ql_15, ql_16, ql_17, ql_18, ql_19, ql_20, ql_21, ql_22, ql_23, ql_24, ql_27, ql_30, ql_31, ql_32, ql_40, ql_48, ql_51, ql_52, ql_57, ql_59, ql_60, ql_61, ql_62, ql_76, ql_84, ql_91, ql_97, ql_99, ql_100, ql_120, ql_122, ql_127, ql_128, ql_200, ql_255, ql_256, ql_300, ql_420, ql_428, ql_640, ql_900, ql_896, ql_999, ql_1712, ql_1716, ql_1734, ql_1772, ql_1800, ql_1805, ql_1811, ql_1822, ql_2132, ql_2140, ql_3229, ql_9999, ql_11453, ql_65536, ql_100000, ql_1000000, nI_add, pk_mul, q_and, q_or, q_xor, nI_clamp, q_in, q_neg1, q_nno, q_nno', q_annN, q_sh1, q_tbN, nI_leI, nI_ltI, nI_eq, pk_sub, ↓reduceIte, if_pos, if_neg, q_zlt, q_bs, j0, j1, m6, q_isIn]
  · have j1 := j1 (by omega)
    have j2 := j2 (by omega)
    have j5 := j5 (by omega)
    have k3 := k3 z
    obtain ⟨k7, k8⟩ := k7 (by omega)
    rw [z] at i15 j0
    have j0 : J 1 (60 + 6 * e) = nI 1805 := j0
    have a1 := hx.a1 k3
    have m1 := hm.a1 k3
    have hv := (ok.2.2.2.2.2.2.2.1 _ k3).1
    have hq := q_cmp he60 i17 i18 k8 k7 hv
    refine ⟨if T 3 e = 60 then decide (C 1 (T 2 e) < T 4 e) else if T 3 e = 62 then decide (T 4 e < C 1 (T 2 e)) else decide (C 1 (T 2 e) = T 4 e), ?_, ?_⟩
    · simp (disch := omega) only [f_X4_holds, ql_0, ql_1, ql_2, ql_3, ql_4, ql_5, ql_6, ql_7, ql_8, ql_9, ql_10, ql_11, ql_12, ql_13, ql_14, ql_15, ql_16, ql_17, ql_18, ql_19, ql_20, ql_21, ql_22, ql_23, ql_24, ql_27, ql_30, ql_31, ql_32, ql_40, ql_48, ql_51, ql_52, ql_57, ql_59, ql_60, ql_61, ql_62, ql_76, ql_84, ql_91, ql_97, ql_99, ql_100, ql_120, ql_122, ql_127, ql_128, ql_200, ql_255, ql_256, ql_300, ql_420, ql_428, ql_640, ql_900, ql_896, ql_999, ql_1712, ql_1716, ql_1734, ql_1772, ql_1800, ql_1805, ql_1811, ql_1822, ql_2132, ql_2140, ql_3229, ql_9999, ql_11453, ql_65536, ql_100000, ql_1000000, nI_add, pk_mul, q_and, q_or, q_xor, nI_clamp, q_in, q_neg1, q_nno, q_nno', q_annN, q_sh1, q_tbN, nI_leI, nI_ltI, nI_eq, pk_sub, ↓reduceIte, if_pos, if_neg, q_zlt, q_bs, i15, i16, h5, hz, a1, q_bk hq]
    · by_cases z1 : T 3 e = 60
      · rw [if_pos z1]
        rw [z1] at j5
        by_cases y : T 4 e ≤ C 1 (T 2 e)
        · have : decide (C 1 (T 2 e) < T 4 e) = false := decide_eq_false (by omega)
          rw [this]
          simp (disch := omega) only [f_X11_holds, f_X11_bedRow, ql_0, ql_1, ql_2, ql_3, ql_4, ql_5, ql_6, ql_7, ql_8, ql_9, ql_10, ql_11, ql_12, ql_13, ql_14, ql_15, ql_16, ql_17, ql_18, ql_19, ql_20, ql_21, ql_22, ql_23, ql_24, ql_27, ql_30, ql_31, ql_32, ql_40, ql_48, ql_51, ql_52, ql_57, ql_59, ql_60, ql_61, ql_62, ql_76, ql_84, ql_91, ql_97, ql_99, ql_100, ql_120, ql_122, ql_127, ql_128, ql_200, ql_255, ql_256, ql_300, ql_420, ql_428, ql_640, ql_900, ql_896, ql_999, ql_1712, ql_1716, ql_1734, ql_1772, ql_1800, ql_1805, ql_1811, ql_1822, ql_2132, ql_2140, ql_3229, ql_9999, ql_11453, ql_65536, ql_100000, ql_1000000, nI_add, pk_mul, q_and, q_or, q_xor, nI_clamp, q_in, q_neg1, q_nno, q_nno', q_annN, q_sh1, q_tbN, nI_leI, nI_ltI, nI_eq, pk_sub, ↓reduceIte, if_pos, if_neg, q_zlt, q_bs, j0, j1, m1, j5, j2, y]
        · have : decide (C 1 (T 2 e) < T 4 e) = true := decide_eq_true (by omega)
          rw [this]
          simp (disch := omega) only [f_X11_holds, f_X11_bedRow, ql_0, ql_1, ql_2, ql_3, ql_4, ql_5, ql_6, ql_7, ql_8, ql_9, ql_10, ql_11, ql_12, ql_13, ql_14, ql_15, ql_16, ql_17, ql_18, ql_19, ql_20, ql_21, ql_22, ql_23, ql_24, ql_27, ql_30, ql_31, ql_32, ql_40, ql_48, ql_51, ql_52, ql_57, ql_59, ql_60, ql_61, ql_62, ql_76, ql_84, ql_91, ql_97, ql_99, ql_100, ql_120, ql_122, ql_127, ql_128, ql_200, ql_255, ql_256, ql_300, ql_420, ql_428, ql_640, ql_900, ql_896, ql_999, ql_1712, ql_1716, ql_1734, ql_1772, ql_1800, ql_1805, ql_1811, ql_1822, ql_2132, ql_2140, ql_3229, ql_9999, ql_11453, ql_65536, ql_100000, ql_1000000, nI_add, pk_mul, q_and, q_or, q_xor, nI_clamp, q_in, q_neg1, q_nno, q_nno', q_annN, q_sh1, q_tbN, nI_leI, nI_ltI, nI_eq, pk_sub, ↓reduceIte, if_pos, if_neg, q_zlt, q_bs, j0, j1, m1, j5, j2, y]
      · rw [if_neg z1]
        by_cases z2' : T 3 e = 62
        · rw [if_pos z2']
          rw [z2'] at j5
          by_cases y : C 1 (T 2 e) ≤ T 4 e
          · have : decide (T 4 e < C 1 (T 2 e)) = false := decide_eq_false (by omega)
            rw [this]
            simp (disch := omega) only [f_X11_holds, f_X11_bedRow, ql_0, ql_1, ql_2, ql_3, ql_4, ql_5, ql_6, ql_7, ql_8, ql_9, ql_10, ql_11, ql_12, ql_13, ql_14, ql_15, ql_16, ql_17, ql_18, ql_19, ql_20, ql_21, ql_22, ql_23, ql_24, ql_27, ql_30, ql_31, ql_32, ql_40, ql_48, ql_51, ql_52, ql_57, ql_59, ql_60, ql_61, ql_62, ql_76, ql_84, ql_91, ql_97, ql_99, ql_100, ql_120, ql_122, ql_127, ql_128, ql_200, ql_255, ql_256, ql_300, ql_420, ql_428, ql_640, ql_900, ql_896, ql_999, ql_1712, ql_1716, ql_1734, ql_1772, ql_1800, ql_1805, ql_1811, ql_1822, ql_2132, ql_2140, ql_3229, ql_9999, ql_11453, ql_65536, ql_100000, ql_1000000, nI_add, pk_mul, q_and, q_or, q_xor, nI_clamp, q_in, q_neg1, q_nno, q_nno', q_annN, q_sh1, q_tbN, nI_leI, nI_ltI, nI_eq, pk_sub, ↓reduceIte, if_pos, if_neg, q_zlt, q_bs, j0, j1, m1, j5, j2, y]
          · have : decide (T 4 e < C 1 (T 2 e)) = true := decide_eq_true (by omega)
            rw [this]
            simp (disch := omega) only [f_X11_holds, f_X11_bedRow, ql_0, ql_1, ql_2, ql_3, ql_4, ql_5, ql_6, ql_7, ql_8, ql_9, ql_10, ql_11, ql_12, ql_13, ql_14, ql_15, ql_16, ql_17, ql_18, ql_19, ql_20, ql_21, ql_22, ql_23, ql_24, ql_27, ql_30, ql_31, ql_32, ql_40, ql_48, ql_51, ql_52, ql_57, ql_59, ql_60, ql_61, ql_62, ql_76, ql_84, ql_91, ql_97, ql_99, ql_100, ql_120, ql_122, ql_127, ql_128, ql_200, ql_255, ql_256, ql_300, ql_420, ql_428, ql_640, ql_900, ql_896, ql_999, ql_1712, ql_1716, ql_1734, ql_1772, ql_1800, ql_1805, ql_1811, ql_1822, ql_2132, ql_2140, ql_3229, ql_9999, ql_11453, ql_65536, ql_100000, ql_1000000, nI_add, pk_mul, q_and, q_or, q_xor, nI_clamp, q_in, q_neg1, q_nno, q_nno', q_annN, q_sh1, q_tbN, nI_leI, nI_ltI, nI_eq, pk_sub, ↓reduceIte, if_pos, if_neg, q_zlt, q_bs, j0, j1, m1, j5, j2, y]
        · rw [if_neg z2']
          by_cases y : C 1 (T 2 e) = T 4 e
          · rw [decide_eq_true y]
            simp (disch := omega) only [f_X11_holds, f_X11_bedRow, ql_0, ql_1, ql_2, ql_3, ql_4, ql_5, ql_6, ql_7, ql_8, ql_9, ql_10, ql_11, ql_12, ql_13, ql_14, ql_15, ql_16, ql_17, ql_18, ql_19, ql_20, ql_21, ql_22, ql_23, ql_24, ql_27, ql_30, ql_31, ql_32, ql_40, ql_48, ql_51, ql_52, ql_57, ql_59, ql_60, ql_61, ql_62, ql_76, ql_84, ql_91, ql_97, ql_99, ql_100, ql_120, ql_122, ql_127, ql_128, ql_200, ql_255, ql_256, ql_300, ql_420, ql_428, ql_640, ql_900, ql_896, ql_999, ql_1712, ql_1716, ql_1734, ql_1772, ql_1800, ql_1805, ql_1811, ql_1822, ql_2132, ql_2140, ql_3229, ql_9999, ql_11453, ql_65536, ql_100000, ql_1000000, nI_add, pk_mul, q_and, q_or, q_xor, nI_clamp, q_in, q_neg1, q_nno, q_nno', q_annN, q_sh1, q_tbN, nI_leI, nI_ltI, nI_eq, pk_sub, ↓reduceIte, if_pos, if_neg, q_zlt, q_bs, j0, j1, m1, j5, j2, z1, z2', y]
          · rw [decide_eq_false y]
            simp (disch := omega) only [f_X11_holds, f_X11_bedRow, ql_0, ql_1, ql_2, ql_3, ql_4, ql_5, ql_6, ql_7, ql_8, ql_9, ql_10, ql_11, ql_12, ql_13, ql_14, ql_15, ql_16, ql_17, ql_18, ql_19, ql_20, ql_21, ql_22, ql_23, ql_24, ql_27, ql_30, ql_31, ql_32, ql_40, ql_48, ql_51, ql_52, ql_57, ql_59, ql_60, ql_61, ql_62, ql_76, ql_84, ql_91, ql_97, ql_99, ql_100, ql_120, ql_122, ql_127, ql_128, ql_200, ql_255, ql_256, ql_300, ql_420, ql_428, ql_640, ql_900, ql_896, ql_999, ql_1712, ql_1716, ql_1734, ql_1772, ql_1800, ql_1805, ql_1811, ql_1822, ql_2132, ql_2140, ql_3229, ql_9999, ql_11453, ql_65536, ql_100000, ql_1000000, nI_add, pk_mul, q_and, q_or, q_xor, nI_clamp, q_in, q_neg1, q_nno, q_nno', q_annN, q_sh1, q_tbN, nI_leI, nI_ltI, nI_eq, pk_sub, ↓reduceIte, if_pos, if_neg, q_zlt, q_bs, j0, j1, m1, j5, j2, z1, z2', y]
  · have j1 := j1 (by omega)
    have j2 := j2 (by omega)
    have j5 := j5 (by omega)
    have k3 := k2 (by omega)
    obtain ⟨k7, k8⟩ := k7 (by omega)
    rw [z] at i15 j0
    have j0 : J 1 (60 + 6 * e) = nI 1811 := j0
    have a1 := hx.a9 k3
    have m1 := hm.a9 k3
    have hv := (ok.2.2.2.2.2.2.2.2.2.2 _ k3).2.1
    have hq := q_cmp he60 i17 i18 k8 k7 hv
    refine ⟨if T 3 e = 60 then decide (C 9 (T 2 e) < T 4 e) else if T 3 e = 62 then decide (T 4 e < C 9 (T 2 e)) else decide (C 9 (T 2 e) = T 4 e), ?_, ?_⟩
    · simp (disch := omega) only [f_X4_holds, ql_0, ql_1, ql_2, ql_3, ql_4, ql_5, ql_6, ql_7, ql_8, ql_9, ql_10, ql_11, ql_12, ql_13, ql_14, ql_15, ql_16, ql_17, ql_18, ql_19, ql_20, ql_21, ql_22, ql_23, ql_24, ql_27, ql_30, ql_31, ql_32, ql_40, ql_48, ql_51, ql_52, ql_57, ql_59, ql_60, ql_61, ql_62, ql_76, ql_84, ql_91, ql_97, ql_99, ql_100, ql_120, ql_122, ql_127, ql_128, ql_200, ql_255, ql_256, ql_300, ql_420, ql_428, ql_640, ql_900, ql_896, ql_999, ql_1712, ql_1716, ql_1734, ql_1772, ql_1800, ql_1805, ql_1811, ql_1822, ql_2132, ql_2140, ql_3229, ql_9999, ql_11453, ql_65536, ql_100000, ql_1000000, nI_add, pk_mul, q_and, q_or, q_xor, nI_clamp, q_in, q_neg1, q_nno, q_nno', q_annN, q_sh1, q_tbN, nI_leI, nI_ltI, nI_eq, pk_sub, ↓reduceIte, if_pos, if_neg, q_zlt, q_bs, i15, i16, h5, hz, a1, q_bk hq]
    · by_cases z1 : T 3 e = 60
      · rw [if_pos z1]
        rw [z1] at j5
        by_cases y : T 4 e ≤ C 9 (T 2 e)
        · have : decide (C 9 (T 2 e) < T 4 e) = false := decide_eq_false (by omega)
          rw [this]
          simp (disch := omega) only [f_X11_holds, f_X11_scholarRow, ql_0, ql_1, ql_2, ql_3, ql_4, ql_5, ql_6, ql_7, ql_8, ql_9, ql_10, ql_11, ql_12, ql_13, ql_14, ql_15, ql_16, ql_17, ql_18, ql_19, ql_20, ql_21, ql_22, ql_23, ql_24, ql_27, ql_30, ql_31, ql_32, ql_40, ql_48, ql_51, ql_52, ql_57, ql_59, ql_60, ql_61, ql_62, ql_76, ql_84, ql_91, ql_97, ql_99, ql_100, ql_120, ql_122, ql_127, ql_128, ql_200, ql_255, ql_256, ql_300, ql_420, ql_428, ql_640, ql_900, ql_896, ql_999, ql_1712, ql_1716, ql_1734, ql_1772, ql_1800, ql_1805, ql_1811, ql_1822, ql_2132, ql_2140, ql_3229, ql_9999, ql_11453, ql_65536, ql_100000, ql_1000000, nI_add, pk_mul, q_and, q_or, q_xor, nI_clamp, q_in, q_neg1, q_nno, q_nno', q_annN, q_sh1, q_tbN, nI_leI, nI_ltI, nI_eq, pk_sub, ↓reduceIte, if_pos, if_neg, q_zlt, q_bs, j0, j1, m1, j5, j2, y]
        · have : decide (C 9 (T 2 e) < T 4 e) = true := decide_eq_true (by omega)
          rw [this]
          simp (disch := omega) only [f_X11_holds, f_X11_scholarRow, ql_0, ql_1, ql_2, ql_3, ql_4, ql_5, ql_6, ql_7, ql_8, ql_9, ql_10, ql_11, ql_12, ql_13, ql_14, ql_15, ql_16, ql_17, ql_18, ql_19, ql_20, ql_21, ql_22, ql_23, ql_24, ql_27, ql_30, ql_31, ql_32, ql_40, ql_48, ql_51, ql_52, ql_57, ql_59, ql_60, ql_61, ql_62, ql_76, ql_84, ql_91, ql_97, ql_99, ql_100, ql_120, ql_122, ql_127, ql_128, ql_200, ql_255, ql_256, ql_300, ql_420, ql_428, ql_640, ql_900, ql_896, ql_999, ql_1712, ql_1716, ql_1734, ql_1772, ql_1800, ql_1805, ql_1811, ql_1822, ql_2132, ql_2140, ql_3229, ql_9999, ql_11453, ql_65536, ql_100000, ql_1000000, nI_add, pk_mul, q_and, q_or, q_xor, nI_clamp, q_in, q_neg1, q_nno, q_nno', q_annN, q_sh1, q_tbN, nI_leI, nI_ltI, nI_eq, pk_sub, ↓reduceIte, if_pos, if_neg, q_zlt, q_bs, j0, j1, m1, j5, j2, y]
      · rw [if_neg z1]
        by_cases z2' : T 3 e = 62
        · rw [if_pos z2']
          rw [z2'] at j5
          by_cases y : C 9 (T 2 e) ≤ T 4 e
          · have : decide (T 4 e < C 9 (T 2 e)) = false := decide_eq_false (by omega)
            rw [this]
            simp (disch := omega) only [f_X11_holds, f_X11_scholarRow, ql_0, ql_1, ql_2, ql_3, ql_4, ql_5, ql_6, ql_7, ql_8, ql_9, ql_10, ql_11, ql_12, ql_13, ql_14, ql_15, ql_16, ql_17, ql_18, ql_19, ql_20, ql_21, ql_22, ql_23, ql_24, ql_27, ql_30, ql_31, ql_32, ql_40, ql_48, ql_51, ql_52, ql_57, ql_59, ql_60, ql_61, ql_62, ql_76, ql_84, ql_91, ql_97, ql_99, ql_100, ql_120, ql_122, ql_127, ql_128, ql_200, ql_255, ql_256, ql_300, ql_420, ql_428, ql_640, ql_900, ql_896, ql_999, ql_1712, ql_1716, ql_1734, ql_1772, ql_1800, ql_1805, ql_1811, ql_1822, ql_2132, ql_2140, ql_3229, ql_9999, ql_11453, ql_65536, ql_100000, ql_1000000, nI_add, pk_mul, q_and, q_or, q_xor, nI_clamp, q_in, q_neg1, q_nno, q_nno', q_annN, q_sh1, q_tbN, nI_leI, nI_ltI, nI_eq, pk_sub, ↓reduceIte, if_pos, if_neg, q_zlt, q_bs, j0, j1, m1, j5, j2, y]
          · have : decide (T 4 e < C 9 (T 2 e)) = true := decide_eq_true (by omega)
            rw [this]
            simp (disch := omega) only [f_X11_holds, f_X11_scholarRow, ql_0, ql_1, ql_2, ql_3, ql_4, ql_5, ql_6, ql_7, ql_8, ql_9, ql_10, ql_11, ql_12, ql_13, ql_14, ql_15, ql_16, ql_17, ql_18, ql_19, ql_20, ql_21, ql_22, ql_23, ql_24, ql_27, ql_30, ql_31, ql_32, ql_40, ql_48, ql_51, ql_52, ql_57, ql_59, ql_60, ql_61, ql_62, ql_76, ql_84, ql_91, ql_97, ql_99, ql_100, ql_120, ql_122, ql_127, ql_128, ql_200, ql_255, ql_256, ql_300, ql_420, ql_428, ql_640, ql_900, ql_896, ql_999, ql_1712, ql_1716, ql_1734, ql_1772, ql_1800, ql_1805, ql_1811, ql_1822, ql_2132, ql_2140, ql_3229, ql_9999, ql_11453, ql_65536, ql_100000, ql_1000000, nI_add, pk_mul, q_and, q_or, q_xor, nI_clamp, q_in, q_neg1, q_nno, q_nno', q_annN, q_sh1, q_tbN, nI_leI, nI_ltI, nI_eq, pk_sub, ↓reduceIte, if_pos, if_neg, q_zlt, q_bs, j0, j1, m1, j5, j2, y]
        · rw [if_neg z2']
          by_cases y : C 9 (T 2 e) = T 4 e
          · rw [decide_eq_true y]
            simp (disch := omega) only [f_X11_holds, f_X11_scholarRow, ql_0, ql_1, ql_2, ql_3, ql_4, ql_5, ql_6, ql_7, ql_8, ql_9, ql_10, ql_11, ql_12, ql_13, ql_14, ql_15, ql_16, ql_17, ql_18, ql_19, ql_20, ql_21, ql_22, ql_23, ql_24, ql_27, ql_30, ql_31, ql_32, ql_40, ql_48, ql_51, ql_52, ql_57, ql_59, ql_60, ql_61, ql_62, ql_76, ql_84, ql_91, ql_97, ql_99, ql_100, ql_120, ql_122, ql_127, ql_128, ql_200, ql_255, ql_256, ql_300, ql_420, ql_428, ql_640, ql_900, ql_896, ql_999, ql_1712, ql_1716, ql_1734, ql_1772, ql_1800, ql_1805, ql_1811, ql_1822, ql_2132, ql_2140, ql_3229, ql_9999, ql_11453, ql_65536, ql_100000, ql_1000000, nI_add, pk_mul, q_and, q_or, q_xor, nI_clamp, q_in, q_neg1, q_nno, q_nno', q_annN, q_sh1, q_tbN, nI_leI, nI_ltI, nI_eq, pk_sub, ↓reduceIte, if_pos, if_neg, q_zlt, q_bs, j0, j1, m1, j5, j2, z1, z2', y]
          · rw [decide_eq_false y]
            simp (disch := omega) only [f_X11_holds, f_X11_scholarRow, ql_0, ql_1, ql_2, ql_3, ql_4, ql_5, ql_6, ql_7, ql_8, ql_9, ql_10, ql_11, ql_12, ql_13, ql_14, ql_15, ql_16, ql_17, ql_18, ql_19, ql_20, ql_21, ql_22, ql_23, ql_24, ql_27, ql_30, ql_31, ql_32, ql_40, ql_48, ql_51, ql_52, ql_57, ql_59, ql_60, ql_61, ql_62, ql_76, ql_84, ql_91, ql_97, ql_99, ql_100, ql_120, ql_122, ql_127, ql_128, ql_200, ql_255, ql_256, ql_300, ql_420, ql_428, ql_640, ql_900, ql_896, ql_999, ql_1712, ql_1716, ql_1734, ql_1772, ql_1800, ql_1805, ql_1811, ql_1822, ql_2132, ql_2140, ql_3229, ql_9999, ql_11453, ql_65536, ql_100000, ql_1000000, nI_add, pk_mul, q_and, q_or, q_xor, nI_clamp, q_in, q_neg1, q_nno, q_nno', q_annN, q_sh1, q_tbN, nI_leI, nI_ltI, nI_eq, pk_sub, ↓reduceIte, if_pos, if_neg, q_zlt, q_bs, j0, j1, m1, j5, j2, z1, z2', y]
/-! which loops a place is within, and how far it can go -/
def q_enb (T : q_N) (e b : Nat) : Prop := q_op (T 1 b) ∧ b < e ∧ e ≤ T 5 b
noncomputable def q_ph (T : q_N) (x : Nat → Nat) (e : Nat) : Nat := q_sum (fun b => @ite Nat (q_enb T e b) (Classical.propDecidable _) (1 + x b) 0) (T 0 1)
theorem q_sum_c {f g : Nat → Nat} {n b0 a c : Nat} (h : ∀ k, k < n → k ≠ b0 → f k ≤ g k) (hb : b0 < n) (h0 : f b0 + a ≤ g b0 + c) : q_sum f n + a ≤ q_sum g n + c := by
  have hle : ∀ m, m ≤ b0 → q_sum f m ≤ q_sum g m := by
    intro m
    induction m with
    | zero => intro _; exact Nat.le_refl _
    | succ m ih => intro hm; have := ih (by omega); have := h m (by omega) (by omega); rw [q_sum, q_sum]; omega
  have hgt : ∀ m, b0 < m → m ≤ n → q_sum f m + a ≤ q_sum g m + c := by
    intro m
    induction m with
    | zero => intro hm; omega
    | succ m ih =>
      intro hm hn
      rw [q_sum, q_sum]
      by_cases y : m = b0
      · subst y; have := hle m (Nat.le_refl _); omega
      · have := ih (by omega) (by omega); have := h m (by omega) y; omega
  exact hgt n hb (Nat.le_refl _)
theorem q_sum_mle {f g : Nat → Nat} {n : Nat} (h : ∀ k, k < n → f k ≤ g k) : q_sum f n ≤ q_sum g n := by
  induction n with
  | zero => exact Nat.le_refl _
  | succ n ih => have := ih (fun k hk => h k (by omega)); have := h n (by omega); rw [q_sum, q_sum]; omega
theorem q_iteM {p q : Prop} {dp : Decidable p} {dq : Decidable q} {a b : Nat} (hpq : p → q) (hab : p → a ≤ b) : @ite Nat p dp a 0 ≤ @ite Nat q dq b 0 := by
  by_cases hp : p
  · rw [if_pos hp, if_pos (hpq hp)]; exact hab hp
  · rw [if_neg hp]; exact Nat.zero_le _
theorem q_en2 {T : q_N} {e b : Nat} (h : q_enb T (e + 1) b) (hb : b ≠ e) : q_enb T e b := ⟨h.1, by have := h.2.1; omega, by have := h.2.2; omega⟩
theorem q_n21 : ¬ q_op 21 := by unfold q_op; omega
theorem q_en3 {T C : q_N} (tk : q_tok T C) {e b : Nat} (he : e < T 0 1) (ho : q_op (T 1 e)) (hb : b < T 0 1) (h : q_enb T (T 5 e + 1) b) : q_enb T e b := by
  obtain ⟨-, -, -, -, -, t6, t7, t8⟩ := tk
  obtain ⟨a1, a2, a3, a4⟩ := t6 e he ho
  obtain ⟨h1, h2, h3⟩ := h
  have n1 : b ≠ e := fun y => by subst y; omega
  have n2 : b ≠ T 5 e := fun y => by rw [y, a3] at h1; exact q_n21 h1
  have n3 : ¬ e < b := fun y => by
    have := t8 e b y (by omega) a2 ho h1
    omega
  exact ⟨h1, by omega, by omega⟩
theorem q_en4 {T C : q_N} (tk : q_tok T C) {e b : Nat} (he : e < T 0 1) (hE : T 1 e = 21) (hb : b < T 0 1) (hne : b ≠ T 5 e) (h : q_enb T (T 5 e + 1) b) : q_enb T e b := by
  obtain ⟨-, -, -, -, -, t6, t7, t8⟩ := tk
  obtain ⟨a1, a2, a3⟩ := t7 e he hE
  obtain ⟨h1, h2, h3⟩ := h
  obtain ⟨b1, b2, -⟩ := t6 b hb h1
  have := t8 b (T 5 e) (by omega) (by omega) b2 h1 a2
  exact ⟨h1, by omega, by omega⟩
theorem q_ph_a {T C : q_N} (tk : q_tok T C) {x : Nat → Nat} {e : Nat} (he : e < T 0 1) (hn : ¬ q_op (T 1 e)) : q_ph T x (e + 1) ≤ q_ph T x e := q_sum_mle (fun b hb => q_iteM (fun h => q_en2 h (fun y => by subst y; exact hn h.1)) (fun _ => Nat.le_refl _))
theorem q_ph_o {T C : q_N} (tk : q_tok T C) {x : Nat → Nat} {e n : Nat} (he : e < T 0 1) (hn : n ≤ 98) : q_ph T (z1 x e n) (e + 1) ≤ q_ph T x e + 99 := by
  have := q_sum_c (f := fun b => @ite Nat (q_enb T (e + 1) b) (Classical.propDecidable _) (1 + z1 x e n b) 0) (g := fun b => @ite Nat (q_enb T e b) (Classical.propDecidable _) (1 + x b) 0) (n := T 0 1) (b0 := e) (a := 0) (c := 99) (fun b hb hne => q_iteM (fun h => q_en2 h hne) (fun _ => by unfold z1; rw [if_neg hne]; exact Nat.le_refl _)) he (by
    have h1 : @ite Nat (q_enb T (e + 1) e) (Classical.propDecidable _) (1 + z1 x e n e) 0 ≤ 99 := by
      split
      · unfold z1; rw [if_pos rfl]; omega
      · omega
    show @ite Nat (q_enb T (e + 1) e) (Classical.propDecidable _) (1 + z1 x e n e) 0 + 0 ≤ _ + 99
    omega)
  exact this
theorem q_ph_j {T C : q_N} (tk : q_tok T C) {x : Nat → Nat} {e : Nat} (he : e < T 0 1) (ho : q_op (T 1 e)) : q_ph T x (T 5 e + 1) ≤ q_ph T x e := q_sum_mle (fun b hb => q_iteM (fun h => q_en3 tk he ho hb h) (fun _ => Nat.le_refl _))
theorem q_ph_e {T C : q_N} (tk : q_tok T C) {x x' : Nat → Nat} {e : Nat} (he : e < T 0 1) (hE : T 1 e = 21) (hx : ∀ b, b ≠ T 5 e → x' b = x b) : q_ph T x' (e + 1) + 1 ≤ q_ph T x e := by
  obtain ⟨-, -, -, -, -, t6, t7, t8⟩ := id tk
  obtain ⟨a1, a2, a3⟩ := t7 e he hE
  have := q_sum_c (f := fun b => @ite Nat (q_enb T (e + 1) b) (Classical.propDecidable _) (1 + x' b) 0) (g := fun b => @ite Nat (q_enb T e b) (Classical.propDecidable _) (1 + x b) 0) (n := T 0 1) (b0 := T 5 e) (a := 1) (c := 0) (fun b hb hne => q_iteM (fun h => q_en2 h (fun y => by have h1 := h.1; rw [y, hE] at h1; exact q_n21 h1)) (fun _ => by rw [hx b hne]; exact Nat.le_refl _)) (by omega) (by
    have h1 : ¬ q_enb T (e + 1) (T 5 e) := fun y => by have := y.2.2; omega
    have h2 : q_enb T e (T 5 e) := ⟨a2, a1, by omega⟩
    show @ite Nat (q_enb T (e + 1) (T 5 e)) (Classical.propDecidable _) (1 + x' (T 5 e)) 0 + 1 ≤ @ite Nat (q_enb T e (T 5 e)) (Classical.propDecidable _) (1 + x (T 5 e)) 0 + 0
    rw [if_neg h1, if_pos h2]
    omega)
  exact this
theorem q_ph_r {T C : q_N} (tk : q_tok T C) {x x' : Nat → Nat} {e : Nat} (he : e < T 0 1) (hE : T 1 e = 21) (hx : ∀ b, b ≠ T 5 e → x' b = x b) (h0 : x' (T 5 e) + 1 = x (T 5 e)) : q_ph T x' (T 5 e + 1) + 1 ≤ q_ph T x e := by
  obtain ⟨-, -, -, -, -, t6, t7, t8⟩ := id tk
  obtain ⟨a1, a2, a3⟩ := t7 e he hE
  have := q_sum_c (f := fun b => @ite Nat (q_enb T (T 5 e + 1) b) (Classical.propDecidable _) (1 + x' b) 0) (g := fun b => @ite Nat (q_enb T e b) (Classical.propDecidable _) (1 + x b) 0) (n := T 0 1) (b0 := T 5 e) (a := 1) (c := 0) (fun b hb hne => q_iteM (fun h => q_en4 tk he hE hb hne h) (fun _ => by rw [hx b hne]; exact Nat.le_refl _)) (by omega) (by
    have h2 : q_enb T e (T 5 e) := ⟨a2, a1, by omega⟩
    have h1 : @ite Nat (q_enb T (T 5 e + 1) (T 5 e)) (Classical.propDecidable _) (1 + x' (T 5 e)) 0 ≤ 1 + x' (T 5 e) := by split <;> omega
    show @ite Nat (q_enb T (T 5 e + 1) (T 5 e)) (Classical.propDecidable _) (1 + x' (T 5 e)) 0 + 1 ≤ @ite Nat (q_enb T e (T 5 e)) (Classical.propDecidable _) (1 + x (T 5 e)) 0 + 0
    rw [if_pos h2]
    omega)
  exact this
/-- loops that are within -/
def q_li (T : q_N) (x : Nat → Nat) (e : Nat) (I J : z_I) : Prop := ∀ b, b < T 0 1 → q_enb T e b → T 1 b = 20 → I 47 b = nI (x b + 1) ∧ J 20 b = nI (x b) ∧ x b ≤ 98
/-- how it ends -/
def q_lz (T : q_N) (c : Nat) (I0 : z_I) (L : z_L) (J0 : z_I) (K : z_L) (C : q_N) (I J : z_I) : Prop := (q_sx C c I L ∧ q_sm C 0 0 J K ∧ q_ok C ∧ q_tok T C) ∧ (I 45 7 = J 21 0 ∧ I 45 8 = J 21 1 ∧ I 45 9 = J 21 2 ∧ I 45 10 = J 21 3) ∧ I 45 2 = J 0 40 ∧ ((I 45 11 = nI 0 ∧ J 21 4 = nI 0) ∨ (I 45 11 = nI 1 ∧ J 21 4 = nI 1)) ∧ (∀ d k, d < c ∨ c + 10 < d → d ≠ 45 ∨ k < 2 → d ≠ 47 → I d k = I0 d k) ∧ (∀ d k, d ≠ 1 ∨ 60 ≤ k ∨ k = 7 → d ≠ 20 → d ≠ 21 → d ≠ 0 ∨ (k ≠ 39 ∧ k ≠ 40) → J d k = J0 d k)
theorem q_lr.z {T : q_N} {c : Nat} {I0 : z_I} {L : z_L} {J0 : z_I} {K : z_L} {C : q_N} {dn : Nat} {I J : z_I} (h : q_lr T c I0 L J0 K C dn (nI 0) I J) : q_lz T c I0 L J0 K C I J := by
  obtain ⟨h1, h2, ⟨h3, h4⟩, ⟨h5, h6, h7, h8⟩, h9, h10⟩ := h
  exact ⟨h1, ⟨by rw [h3, q_a0], h4⟩, by rw [h5, h6], Or.inl ⟨h7, h8⟩, h9, h10⟩
/-! one move -/
theorem x4_end {T : q_N} {x : Nat → Nat} {e v f p0 : Nat} {I : z_I} (he : e < T 0 1) (h60 : T 0 1 ≤ 60) (hv : v ≤ 40000) (i6 : I 14 6 = nI (T 0 1)) (i15 : I 15 e = nI 21) (i19 : I 19 e = nI (T 5 e)) (h5 : T 5 e < e) (k15 : I 15 (T 5 e) = nI (T 1 (T 5 e))) (hk : T 1 (T 5 e) ≤ 100) (hl : T 1 (T 5 e) = 20 → I 47 (T 5 e) = nI (x (T 5 e) + 1) ∧ x (T 5 e) ≤ 98) : g_X4_pass_45 p0 (f + 1) (nI e) (nI v) I = if T 1 (T 5 e) = 20 then (if x (T 5 e) = 0 then g_X4_pass_45 p0 f (nI (e + 1)) (nI (v + 1)) (z2 I 47 (T 5 e) (nI (x (T 5 e)))) else g_X4_pass_45 p0 f (nI (T 5 e + 1)) (nI (v + 1)) (z2 I 47 (T 5 e) (nI (x (T 5 e))))) else g_X4_pass_45 p0 f (nI (e + 1)) (nI (v + 1)) I := by
  by_cases z : T 1 (T 5 e) = 20
  · obtain ⟨l1, l2⟩ := hl z
    rw [if_pos z]
    rw [z] at k15
    by_cases y : x (T 5 e) = 0
    · have hb : f_X4_behindEnd I (nI e) = some (nI (e + 1), z2 I 47 (T 5 e) (nI (x (T 5 e)))) := by
        simp (disch := omega) only [f_X4_behindEnd, ql_0, ql_1, ql_2, ql_3, ql_4, ql_5, ql_6, ql_7, ql_8, ql_9, ql_10, ql_11, ql_12, ql_13, ql_14, ql_15, ql_16, ql_17, ql_18, ql_19, ql_20, ql_21, ql_22, ql_23, ql_24, ql_27, ql_30, ql_31, ql_32, ql_40, ql_48, ql_51, ql_52, ql_57, ql_59, ql_60, ql_61, ql_62, ql_76, ql_84, ql_91, ql_97, ql_99, ql_100, ql_120, ql_122, ql_127, ql_128, ql_200, ql_255, ql_256, ql_300, ql_420, ql_428, ql_640, ql_900, ql_896, ql_999, ql_1712, ql_1716, ql_1734, ql_1772, ql_1800, ql_1805, ql_1811, ql_1822, ql_2132, ql_2140, ql_3229, ql_9999, ql_11453, ql_65536, ql_100000, ql_1000000, nI_add, pk_mul, q_and, q_or, q_xor, nI_clamp, q_in, q_neg1, q_nno, q_nno', q_annN, q_sh1, q_tbN, nI_leI, nI_ltI, nI_eq, pk_sub, ↓reduceIte, if_pos, if_neg, q_zlt, q_bs, i19, k15, l1, Nat.add_sub_cancel, q_zs, y]
      rw [if_pos y]
      simp (disch := omega) only [g_X4_pass_45, ql_0, ql_1, ql_2, ql_3, ql_4, ql_5, ql_6, ql_7, ql_8, ql_9, ql_10, ql_11, ql_12, ql_13, ql_14, ql_15, ql_16, ql_17, ql_18, ql_19, ql_20, ql_21, ql_22, ql_23, ql_24, ql_27, ql_30, ql_31, ql_32, ql_40, ql_48, ql_51, ql_52, ql_57, ql_59, ql_60, ql_61, ql_62, ql_76, ql_84, ql_91, ql_97, ql_99, ql_100, ql_120, ql_122, ql_127, ql_128, ql_200, ql_255, ql_256, ql_300, ql_420, ql_428, ql_640, ql_900, ql_896, ql_999, ql_1712, ql_1716, ql_1734, ql_1772, ql_1800, ql_1805, ql_1811, ql_1822, ql_2132, ql_2140, ql_3229, ql_9999, ql_11453, ql_65536, ql_100000, ql_1000000, nI_add, pk_mul, q_and, q_or, q_xor, nI_clamp, q_in, q_neg1, q_nno, q_nno', q_annN, q_sh1, q_tbN, nI_leI, nI_ltI, nI_eq, pk_sub, ↓reduceIte, if_pos, if_neg, q_zlt, q_bs, i6, i15, q_bk hb]
    · have hb : f_X4_behindEnd I (nI e) = some (nI (T 5 e + 1), z2 I 47 (T 5 e) (nI (x (T 5 e)))) := by
        have y' : ¬ x (T 5 e) ≤ 0 := by omega
        simp (disch := omega) only [f_X4_behindEnd, ql_0, ql_1, ql_2, ql_3, ql_4, ql_5, ql_6, ql_7, ql_8, ql_9, ql_10, ql_11, ql_12, ql_13, ql_14, ql_15, ql_16, ql_17, ql_18, ql_19, ql_20, ql_21, ql_22, ql_23, ql_24, ql_27, ql_30, ql_31, ql_32, ql_40, ql_48, ql_51, ql_52, ql_57, ql_59, ql_60, ql_61, ql_62, ql_76, ql_84, ql_91, ql_97, ql_99, ql_100, ql_120, ql_122, ql_127, ql_128, ql_200, ql_255, ql_256, ql_300, ql_420, ql_428, ql_640, ql_900, ql_896, ql_999, ql_1712, ql_1716, ql_1734, ql_1772, ql_1800, ql_1805, ql_1811, ql_1822, ql_2132, ql_2140, ql_3229, ql_9999, ql_11453, ql_65536, ql_100000, ql_1000000, nI_add, pk_mul, q_and, q_or, q_xor, nI_clamp, q_in, q_neg1, q_nno, q_nno', q_annN, q_sh1, q_tbN, nI_leI, nI_ltI, nI_eq, pk_sub, ↓reduceIte, if_pos, if_neg, q_zlt, q_bs, i19, k15, l1, Nat.add_sub_cancel, q_zs, y']
      rw [if_neg y]
      simp (disch := omega) only [g_X4_pass_45, ql_0, ql_1, ql_2, ql_3, ql_4, ql_5, ql_6, ql_7, ql_8, ql_9, ql_10, ql_11, ql_12, ql_13, ql_14, ql_15, ql_16, ql_17, ql_18, ql_19, ql_20, ql_21, ql_22, ql_23, ql_24, ql_27, ql_30, ql_31, ql_32, ql_40, ql_48, ql_51, ql_52, ql_57, ql_59, ql_60, ql_61, ql_62, ql_76, ql_84, ql_91, ql_97, ql_99, ql_100, ql_120, ql_122, ql_127, ql_128, ql_200, ql_255, ql_256, ql_300, ql_420, ql_428, ql_640, ql_900, ql_896, ql_999, ql_1712, ql_1716, ql_1734, ql_1772, ql_1800, ql_1805, ql_1811, ql_1822, ql_2132, ql_2140, ql_3229, ql_9999, ql_11453, ql_65536, ql_100000, ql_1000000, nI_add, pk_mul, q_and, q_or, q_xor, nI_clamp, q_in, q_neg1, q_nno, q_nno', q_annN, q_sh1, q_tbN, nI_leI, nI_ltI, nI_eq, pk_sub, ↓reduceIte, if_pos, if_neg, q_zlt, q_bs, i6, i15, q_bk hb]
  · have hb : f_X4_behindEnd I (nI e) = some (nI (e + 1), I) := by
      simp (disch := omega) only [f_X4_behindEnd, ql_0, ql_1, ql_2, ql_3, ql_4, ql_5, ql_6, ql_7, ql_8, ql_9, ql_10, ql_11, ql_12, ql_13, ql_14, ql_15, ql_16, ql_17, ql_18, ql_19, ql_20, ql_21, ql_22, ql_23, ql_24, ql_27, ql_30, ql_31, ql_32, ql_40, ql_48, ql_51, ql_52, ql_57, ql_59, ql_60, ql_61, ql_62, ql_76, ql_84, ql_91, ql_97, ql_99, ql_100, ql_120, ql_122, ql_127, ql_128, ql_200, ql_255, ql_256, ql_300, ql_420, ql_428, ql_640, ql_900, ql_896, ql_999, ql_1712, ql_1716, ql_1734, ql_1772, ql_1800, ql_1805, ql_1811, ql_1822, ql_2132, ql_2140, ql_3229, ql_9999, ql_11453, ql_65536, ql_100000, ql_1000000, nI_add, pk_mul, q_and, q_or, q_xor, nI_clamp, q_in, q_neg1, q_nno, q_nno', q_annN, q_sh1, q_tbN, nI_leI, nI_ltI, nI_eq, pk_sub, ↓reduceIte, if_pos, if_neg, q_zlt, q_bs, i19, k15, z]
    rw [if_neg z]
    simp (disch := omega) only [g_X4_pass_45, ql_0, ql_1, ql_2, ql_3, ql_4, ql_5, ql_6, ql_7, ql_8, ql_9, ql_10, ql_11, ql_12, ql_13, ql_14, ql_15, ql_16, ql_17, ql_18, ql_19, ql_20, ql_21, ql_22, ql_23, ql_24, ql_27, ql_30, ql_31, ql_32, ql_40, ql_48, ql_51, ql_52, ql_57, ql_59, ql_60, ql_61, ql_62, ql_76, ql_84, ql_91, ql_97, ql_99, ql_100, ql_120, ql_122, ql_127, ql_128, ql_200, ql_255, ql_256, ql_300, ql_420, ql_428, ql_640, ql_900, ql_896, ql_999, ql_1712, ql_1716, ql_1734, ql_1772, ql_1800, ql_1805, ql_1811, ql_1822, ql_2132, ql_2140, ql_3229, ql_9999, ql_11453, ql_65536, ql_100000, ql_1000000, nI_add, pk_mul, q_and, q_or, q_xor, nI_clamp, q_in, q_neg1, q_nno, q_nno', q_annN, q_sh1, q_tbN, nI_leI, nI_ltI, nI_eq, pk_sub, ↓reduceIte, if_pos, if_neg, q_zlt, q_bs, i6, i15, q_bk hb]
theorem m_end {T : q_N} {x : Nat → Nat} {e f : Nat} {J : z_I} (he : e < T 0 1) (h60 : T 0 1 ≤ 60) (j7 : J 1 7 = nI (T 0 1)) (j0 : J 1 (60 + 6 * e) = nI 20) (j4 : J 1 (60 + 6 * e + 4) = nI (T 5 e)) (h5 : T 5 e < e) (k0 : J 1 (60 + 6 * T 5 e) = nI (q_kd (T 1 (T 5 e)))) (hk : q_op (T 1 (T 5 e))) (hl : T 1 (T 5 e) = 20 → J 20 (T 5 e) = nI (x (T 5 e)) ∧ x (T 5 e) ≤ 98) : ∃ J', (∀ d k, d ≠ 20 ∨ k ≠ T 5 e → J' d k = J d k) ∧ (T 1 (T 5 e) = 20 → J' 20 (T 5 e) = nI (x (T 5 e) - 1)) ∧ g_X11_behindEnds_2 (f + 1) (nI e) J = if T 1 (T 5 e) = 20 ∧ x (T 5 e) ≠ 0 then g_X11_behindEnds_2 f (nI (T 5 e + 1)) J' else g_X11_behindEnds_2 f (nI (e + 1)) J' := by
  have hs0 : ∀ w : Int32, w - nI 0 = w := fun w => by rw [show nI 0 = (0 : Int32) from rfl, Int32.sub_zero]
  by_cases z : T 1 (T 5 e) = 20
  · obtain ⟨l1, l2⟩ := hl z
    rw [z] at k0
    have k0 : J 1 (60 + 6 * T 5 e) = nI 19 := k0
    by_cases y : x (T 5 e) = 0
    · rw [y] at l1
      refine ⟨z2 J 20 (T 5 e) (nI 0), fun d k hd => q_zo (by omega), fun _ => by rw [q_zs, y], ?_⟩
      rw [if_neg (show ¬ (T 1 (T 5 e) = 20 ∧ x (T 5 e) ≠ 0) from fun w => w.2 y)]
      simp (disch := omega) only [g_X11_behindEnds_2, ql_0, ql_1, ql_2, ql_3, ql_4, ql_5, ql_6, ql_7, ql_8, ql_9, ql_10, ql_11, ql_12, ql_13, ql_14, ql_15, ql_16, ql_17, ql_18, ql_19, ql_20, ql_21, ql_22, ql_23, ql_24, ql_27, ql_30, ql_31, ql_32, ql_40, ql_48, ql_51, ql_52, ql_57, ql_59, ql_60, ql_61, ql_62, ql_76, ql_84, ql_91, ql_97, ql_99, ql_100, ql_120, ql_122, ql_127, ql_128, ql_200, ql_255, ql_256, ql_300, ql_420, ql_428, ql_640, ql_900, ql_896, ql_999, ql_1712, ql_1716, ql_1734, ql_1772, ql_1800, ql_1805, ql_1811, ql_1822, ql_2132, ql_2140, ql_3229, ql_9999, ql_11453, ql_65536, ql_100000, ql_1000000, nI_add, pk_mul, q_and, q_or, q_xor, nI_clamp, q_in, q_neg1, q_nno, q_nno', q_annN, q_sh1, q_tbN, nI_leI, nI_ltI, nI_eq, pk_sub, ↓reduceIte, if_pos, if_neg, q_zlt, q_bs, j7, j0, j4, k0, l1, hs0]
    · have y' : ¬ x (T 5 e) ≤ 0 := by omega
      refine ⟨z2 J 20 (T 5 e) (nI (x (T 5 e) - 1)), fun d k hd => q_zo (by omega), fun _ => q_zs, ?_⟩
      rw [if_pos (show T 1 (T 5 e) = 20 ∧ x (T 5 e) ≠ 0 from ⟨z, y⟩)]
      simp (disch := omega) only [g_X11_behindEnds_2, ql_0, ql_1, ql_2, ql_3, ql_4, ql_5, ql_6, ql_7, ql_8, ql_9, ql_10, ql_11, ql_12, ql_13, ql_14, ql_15, ql_16, ql_17, ql_18, ql_19, ql_20, ql_21, ql_22, ql_23, ql_24, ql_27, ql_30, ql_31, ql_32, ql_40, ql_48, ql_51, ql_52, ql_57, ql_59, ql_60, ql_61, ql_62, ql_76, ql_84, ql_91, ql_97, ql_99, ql_100, ql_120, ql_122, ql_127, ql_128, ql_200, ql_255, ql_256, ql_300, ql_420, ql_428, ql_640, ql_900, ql_896, ql_999, ql_1712, ql_1716, ql_1734, ql_1772, ql_1800, ql_1805, ql_1811, ql_1822, ql_2132, ql_2140, ql_3229, ql_9999, ql_11453, ql_65536, ql_100000, ql_1000000, nI_add, pk_mul, q_and, q_or, q_xor, nI_clamp, q_in, q_neg1, q_nno, q_nno', q_annN, q_sh1, q_tbN, nI_leI, nI_ltI, nI_eq, pk_sub, ↓reduceIte, if_pos, if_neg, q_zlt, q_bs, j7, j0, j4, k0, l1, y']
  · have kk : ∃ w, w < 2000 ∧ w ≠ 19 ∧ J 1 (60 + 6 * T 5 e) = nI w := by
      rcases hk with w | w | w | w
      · exact ⟨1822, by omega, by omega, by rw [k0, w]; rfl⟩
      · exact ⟨1805, by omega, by omega, by rw [k0, w]; rfl⟩
      · exact ⟨1811, by omega, by omega, by rw [k0, w]; rfl⟩
      · exact absurd w z
    obtain ⟨w, w1, w2, k0⟩ := kk
    refine ⟨z2 J 20 (T 5 e) (J 20 (T 5 e)), fun d k hd => q_zo (by omega), fun y => absurd y z, ?_⟩
    rw [if_neg (show ¬ (T 1 (T 5 e) = 20 ∧ x (T 5 e) ≠ 0) from fun w => z w.1)]
    simp (disch := omega) only [g_X11_behindEnds_2, ql_0, ql_1, ql_2, ql_3, ql_4, ql_5, ql_6, ql_7, ql_8, ql_9, ql_10, ql_11, ql_12, ql_13, ql_14, ql_15, ql_16, ql_17, ql_18, ql_19, ql_20, ql_21, ql_22, ql_23, ql_24, ql_27, ql_30, ql_31, ql_32, ql_40, ql_48, ql_51, ql_52, ql_57, ql_59, ql_60, ql_61, ql_62, ql_76, ql_84, ql_91, ql_97, ql_99, ql_100, ql_120, ql_122, ql_127, ql_128, ql_200, ql_255, ql_256, ql_300, ql_420, ql_428, ql_640, ql_900, ql_896, ql_999, ql_1712, ql_1716, ql_1734, ql_1772, ql_1800, ql_1805, ql_1811, ql_1822, ql_2132, ql_2140, ql_3229, ql_9999, ql_11453, ql_65536, ql_100000, ql_1000000, nI_add, pk_mul, q_and, q_or, q_xor, nI_clamp, q_in, q_neg1, q_nno, q_nno', q_annN, q_sh1, q_tbN, nI_leI, nI_ltI, nI_eq, pk_sub, ↓reduceIte, if_pos, if_neg, q_zlt, q_bs, j7, j0, j4, k0, hs0, w2]
theorem m_noend {T : q_N} {e f w : Nat} {J : z_I} (he : e < T 0 1) (h60 : T 0 1 ≤ 60) (j7 : J 1 7 = nI (T 0 1)) (j0 : J 1 (60 + 6 * e) = nI w) (hw : w < 2000) (h20 : w ≠ 20) : g_X11_behindEnds_2 (f + 1) (nI e) J = some (nI e, J) := by
  simp (disch := omega) only [g_X11_behindEnds_2, ql_0, ql_1, ql_2, ql_3, ql_4, ql_5, ql_6, ql_7, ql_8, ql_9, ql_10, ql_11, ql_12, ql_13, ql_14, ql_15, ql_16, ql_17, ql_18, ql_19, ql_20, ql_21, ql_22, ql_23, ql_24, ql_27, ql_30, ql_31, ql_32, ql_40, ql_48, ql_51, ql_52, ql_57, ql_59, ql_60, ql_61, ql_62, ql_76, ql_84, ql_91, ql_97, ql_99, ql_100, ql_120, ql_122, ql_127, ql_128, ql_200, ql_255, ql_256, ql_300, ql_420, ql_428, ql_640, ql_900, ql_896, ql_999, ql_1712, ql_1716, ql_1734, ql_1772, ql_1800, ql_1805, ql_1811, ql_1822, ql_2132, ql_2140, ql_3229, ql_9999, ql_11453, ql_65536, ql_100000, ql_1000000, nI_add, pk_mul, q_and, q_or, q_xor, nI_clamp, q_in, q_neg1, q_nno, q_nno', q_annN, q_sh1, q_tbN, nI_leI, nI_ltI, nI_eq, pk_sub, ↓reduceIte, if_pos, if_neg, q_zlt, q_bs, j7, j0, h20]
theorem m_over {T : q_N} {f : Nat} {J : z_I} (h60 : T 0 1 ≤ 60) (j7 : J 1 7 = nI (T 0 1)) : g_X11_behindEnds_2 (f + 1) (nI (T 0 1)) J = some (nI (T 0 1), J) := by
  simp (disch := omega) only [g_X11_behindEnds_2, ql_0, ql_1, ql_2, ql_3, ql_4, ql_5, ql_6, ql_7, ql_8, ql_9, ql_10, ql_11, ql_12, ql_13, ql_14, ql_15, ql_16, ql_17, ql_18, ql_19, ql_20, ql_21, ql_22, ql_23, ql_24, ql_27, ql_30, ql_31, ql_32, ql_40, ql_48, ql_51, ql_52, ql_57, ql_59, ql_60, ql_61, ql_62, ql_76, ql_84, ql_91, ql_97, ql_99, ql_100, ql_120, ql_122, ql_127, ql_128, ql_200, ql_255, ql_256, ql_300, ql_420, ql_428, ql_640, ql_900, ql_896, ql_999, ql_1712, ql_1716, ql_1734, ql_1772, ql_1800, ql_1805, ql_1811, ql_1822, ql_2132, ql_2140, ql_3229, ql_9999, ql_11453, ql_65536, ql_100000, ql_1000000, nI_add, pk_mul, q_and, q_or, q_xor, nI_clamp, q_in, q_neg1, q_nno, q_nno', q_annN, q_sh1, q_tbN, nI_leI, nI_ltI, nI_eq, pk_sub, ↓reduceIte, if_pos, if_neg, q_zlt, q_bs, j7]
