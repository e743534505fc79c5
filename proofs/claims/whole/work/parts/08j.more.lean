/-! walk, pick, weed, teach, weigh, night, couples, parting, barren -/
theorem q_abs8 : ∀ a, a < 8 → ∀ b, b < 8 → z_abs (nI a - nI b) = nI (max a b - min a b) := by decide +kernel
theorem q_max8 : ∀ a, a < 8 → ∀ b, b < 8 → z_max (nI b - nI a) (-(nI b - nI a)) = nI (max a b - min a b) := by decide +kernel
theorem q_zid {α : Type} {f : Nat → Nat → α} {a b : Nat} {x : α} (h : f a b = x) : z2 f a b x = f := by
  funext c k
  by_cases q : c = a ∧ k = b
  · obtain ⟨q1, q2⟩ := q
    subst q1 q2
    rw [q_zs, h]
  · exact q_zo (by omega)
theorem r_walk : s_walk q_R := by
  intro I L J K p0 p1 hR
  obtain ⟨C, T, mk, h⟩ := id hR
  obtain ⟨hx, hm, ok, -⟩ := h.o
  obtain ⟨o0, o1, o2, o3, -⟩ := id ok
  cases hb : q_hs (C 0 0 3) p0 with
  | false => exact q_end (-1) 1 (by simp only [f_X10_walk, x0_hasScholar hx, hb]; rfl) (by simp only [f_X11_walk, m_isScholar hm, hb]; rfl) hR
  | true =>
    obtain ⟨s, hs, rfl⟩ := q_hs_t hb (by omega)
    cases hc : q_hs (C 0 0 0) p1 with
    | false => exact q_end (-1) 1 (by simp only [f_X10_walk, x0_hasScholar hx, hb, x0_hasBed hx, hc]; rfl) (by simp only [f_X11_walk, m_isScholar hm, hb, m_isBed hm, hc]; rfl) hR
    | true =>
      obtain ⟨b, hb', rfl⟩ := q_hs_t hc (by omega)
      have a8 : I 11 s = nI (C 0 8 s) := hx.a8 hs
      have m8 := hm.a8 hs
      have l8 := (ok.2.2.2.2.2.2.2.2.2.2 s hs).1
      have e1 := q_abs8 (C 0 8 s) (by omega) b (by omega)
      have e2 := q_max8 (C 0 8 s) (by omega) b (by omega)
      have h1 := h.put 8 s b (d := 11) (q := s) (p := 51 + 2 * s) (by simpa only [q_bd] using hs) (by omega) rfl rfl rfl (ok.put (by omega) (by omega) (by omega) (by omega) (by omega) (by omega) (by omega) (by omega) (by omega) (by omega) (by omega))
      by_cases z : C 0 8 s = b
      · rw [q_zid (f := I) (by rw [a8, z]), q_zid (f := J) (by rw [m8, z])] at h1
        refine q_end (-1) 7 (I := I) (J := J) ?_ ?_ hR
        · unfold f_X10_walk
          rw [x0_hasScholar hx, hb, x0_hasBed hx, hc, nI_clamp (by omega), a8, e1, z]
          simp (disch := omega) only [ql_0, ql_1, ql_2, ql_3, ql_4, ql_5, ql_6, ql_7, ql_8, ql_9, ql_10, ql_11, ql_12, ql_13, ql_14, ql_15, ql_16, ql_17, ql_18, ql_19, ql_20, ql_21, ql_22, ql_23, ql_24, ql_27, ql_30, ql_31, ql_32, ql_40, ql_48, ql_51, ql_52, ql_57, ql_59, ql_60, ql_61, ql_62, ql_76, ql_84, ql_91, ql_97, ql_99, ql_100, ql_120, ql_122, ql_127, ql_128, ql_200, ql_255, ql_256, ql_300, ql_420, ql_428, ql_640, ql_900, ql_896, ql_999, ql_1712, ql_1716, ql_1734, ql_1772, ql_1800, ql_1805, ql_1811, ql_1822, ql_2132, ql_2140, ql_3229, ql_9999, ql_11453, ql_65536, ql_100000, ql_1000000, nI_add, pk_mul, q_and, q_or, q_xor, nI_clamp, q_in, q_neg1, q_nno, q_nno', q_annN, q_sh1, q_tbN, nI_leI, nI_ltI, nI_eq, pk_sub, ↓reduceIte, if_pos, if_neg, q_zlt, q_bs, f_X10_refuse, Nat.max_self, Nat.min_self, Nat.sub_self]
        · simp (disch := omega) only [f_X11_walk, f_X11_walks, f_X11_scholarRow, m_isScholar hm, hb, m_isBed hm, hc, ql_0, ql_1, ql_2, ql_3, ql_4, ql_5, ql_6, ql_7, ql_8, ql_9, ql_10, ql_11, ql_12, ql_13, ql_14, ql_15, ql_16, ql_17, ql_18, ql_19, ql_20, ql_21, ql_22, ql_23, ql_24, ql_27, ql_30, ql_31, ql_32, ql_40, ql_48, ql_51, ql_52, ql_57, ql_59, ql_60, ql_61, ql_62, ql_76, ql_84, ql_91, ql_97, ql_99, ql_100, ql_120, ql_122, ql_127, ql_128, ql_200, ql_255, ql_256, ql_300, ql_420, ql_428, ql_640, ql_900, ql_896, ql_999, ql_1712, ql_1716, ql_1734, ql_1772, ql_1800, ql_1805, ql_1811, ql_1822, ql_2132, ql_2140, ql_3229, ql_9999, ql_11453, ql_65536, ql_100000, ql_1000000, nI_add, pk_mul, q_and, q_or, q_xor, nI_clamp, q_in, q_neg1, q_nno, q_nno', q_annN, q_sh1, q_tbN, nI_leI, nI_ltI, nI_eq, pk_sub, ↓reduceIte, if_pos, if_neg, q_zlt, q_bs, m8, f_X11_refuse]
          rw [q_zid (f := J) (by rw [m8, z])]
          rfl
      · have hz : max (C 0 8 s) b - min (C 0 8 s) b ≠ 0 := by omega
        refine q_end (nI (max (C 0 8 s) b - min (C 0 8 s) b)) 0 ?_ ?_ h1.r
        · unfold f_X10_walk
          rw [x0_hasScholar hx, hb, x0_hasBed hx, hc, nI_clamp (by omega), a8, e1]
          simp (disch := omega) only [ql_0, ql_1, ql_2, ql_3, ql_4, ql_5, ql_6, ql_7, ql_8, ql_9, ql_10, ql_11, ql_12, ql_13, ql_14, ql_15, ql_16, ql_17, ql_18, ql_19, ql_20, ql_21, ql_22, ql_23, ql_24, ql_27, ql_30, ql_31, ql_32, ql_40, ql_48, ql_51, ql_52, ql_57, ql_59, ql_60, ql_61, ql_62, ql_76, ql_84, ql_91, ql_97, ql_99, ql_100, ql_120, ql_122, ql_127, ql_128, ql_200, ql_255, ql_256, ql_300, ql_420, ql_428, ql_640, ql_900, ql_896, ql_999, ql_1712, ql_1716, ql_1734, ql_1772, ql_1800, ql_1805, ql_1811, ql_1822, ql_2132, ql_2140, ql_3229, ql_9999, ql_11453, ql_65536, ql_100000, ql_1000000, nI_add, pk_mul, q_and, q_or, q_xor, nI_clamp, q_in, q_neg1, q_nno, q_nno', q_annN, q_sh1, q_tbN, nI_leI, nI_ltI, nI_eq, pk_sub, ↓reduceIte, if_pos, if_neg, q_zlt, q_bs, f_X10_give]
        · unfold f_X11_walk f_X11_walks
          simp (disch := omega) only [f_X11_scholarRow, m_isScholar hm, hb, m_isBed hm, hc, ql_51, ql_2, pk_mul, nI_add, nI_clamp, q_in, m8, nI_eq, if_neg, ↓reduceIte, q_zlt, q_bs, e2, f_X11_gives]
theorem x0_harvest {C : q_N} {c : Nat} {I : z_I} {L : z_L} (h : q_sx C c I L) (ok : q_ok C) {s : Nat} (hs : s < C 0 3) : f_X0_harvest I c (nI s) = some (nI (C 1 (C 8 s)), z2 (z2 I (c + 1) (C 8 s) (nI 0)) (c + 9) s (nI (min 9999 (C 9 s + C 1 (C 8 s))))) := by
  obtain ⟨o0, o1, o2, o3, -⟩ := id ok
  have l8 := (ok.2.2.2.2.2.2.2.2.2.2 s hs)
  have h1 := (ok.2.2.2.2.2.2.2.1 _ l8.1).1
  simp (disch := omega) only [f_X0_harvest, h.a8 hs, h.a1 l8.1, h.a9 hs, ql_0, ql_1, ql_2, ql_3, ql_4, ql_5, ql_6, ql_7, ql_8, ql_9, ql_10, ql_11, ql_12, ql_13, ql_14, ql_15, ql_16, ql_17, ql_18, ql_19, ql_20, ql_21, ql_22, ql_23, ql_24, ql_27, ql_30, ql_31, ql_32, ql_40, ql_48, ql_51, ql_52, ql_57, ql_59, ql_60, ql_61, ql_62, ql_76, ql_84, ql_91, ql_97, ql_99, ql_100, ql_120, ql_122, ql_127, ql_128, ql_200, ql_255, ql_256, ql_300, ql_420, ql_428, ql_640, ql_900, ql_896, ql_999, ql_1712, ql_1716, ql_1734, ql_1772, ql_1800, ql_1805, ql_1811, ql_1822, ql_2132, ql_2140, ql_3229, ql_9999, ql_11453, ql_65536, ql_100000, ql_1000000, nI_add, pk_mul, q_and, q_or, q_xor, nI_clamp, q_in, q_neg1, q_nno, q_nno', q_annN, q_sh1, q_tbN, nI_leI, nI_ltI, nI_eq, pk_sub, ↓reduceIte, if_pos, if_neg, q_zlt, q_bs, q_min]
theorem m_picks {C : q_N} {m : Nat} {J : z_I} {K : z_L} (h : q_sm C 0 m J K) (ok : q_ok C) {s : Nat} (hs : s < C 0 3) : f_X11_picks J (nI s) = some (nI (C 1 (C 8 s)), z2 (z2 J 1 (10 + 2 * C 8 s) (nI 0)) 1 (51 + 2 * s + 1) (nI (min 9999 (C 9 s + C 1 (C 8 s))))) := by
  obtain ⟨o0, o1, o2, o3, -⟩ := id ok
  have l8 := (ok.2.2.2.2.2.2.2.2.2.2 s hs)
  have h1 := (ok.2.2.2.2.2.2.2.1 _ l8.1).1
  have e : z2 J 1 (10 + 2 * C 8 s) (nI 0) 1 (51 + 2 * s + 1) = nI (C 9 s) := by rw [q_zo (by omega), h.a9 hs]
  simp (disch := omega) only [f_X11_picks, f_X11_scholarRow, f_X11_bedRow, h.a8 hs, h.a1 l8.1, ql_0, ql_1, ql_2, ql_3, ql_4, ql_5, ql_6, ql_7, ql_8, ql_9, ql_10, ql_11, ql_12, ql_13, ql_14, ql_15, ql_16, ql_17, ql_18, ql_19, ql_20, ql_21, ql_22, ql_23, ql_24, ql_27, ql_30, ql_31, ql_32, ql_40, ql_48, ql_51, ql_52, ql_57, ql_59, ql_60, ql_61, ql_62, ql_76, ql_84, ql_91, ql_97, ql_99, ql_100, ql_120, ql_122, ql_127, ql_128, ql_200, ql_255, ql_256, ql_300, ql_420, ql_428, ql_640, ql_900, ql_896, ql_999, ql_1712, ql_1716, ql_1734, ql_1772, ql_1800, ql_1805, ql_1811, ql_1822, ql_2132, ql_2140, ql_3229, ql_9999, ql_11453, ql_65536, ql_100000, ql_1000000, nI_add, pk_mul, q_and, q_or, q_xor, nI_clamp, q_in, q_neg1, q_nno, q_nno', q_annN, q_sh1, q_tbN, nI_leI, nI_ltI, nI_eq, pk_sub, ↓reduceIte, if_pos, if_neg, q_zlt, q_bs, e, q_min]
/-- what picking makes of the court -/
theorem q_Q.pick {C T : Nat → q_N} {mk : Nat} {I : z_I} {L : z_L} {J : z_I} {K : z_L} (h : q_Q C T mk I L J K) {s : Nat} (hs : s < C 0 0 3) : q_R (z2 (z2 I 4 (C 0 8 s) (nI 0)) 12 s (nI (min 9999 (C 0 9 s + C 0 1 (C 0 8 s))))) L (z2 (z2 J 1 (10 + 2 * C 0 8 s) (nI 0)) 1 (51 + 2 * s + 1) (nI (min 9999 (C 0 9 s + C 0 1 (C 0 8 s))))) K := by
  have ok := h.o.2.2.1
  have l8 := (ok.2.2.2.2.2.2.2.2.2.2 s hs)
  have h1 := h.put 1 (C 0 8 s) 0 (d := 4) (q := C 0 8 s) (p := 10 + 2 * C 0 8 s) (by simpa only [q_bd] using l8.1) (by omega) rfl rfl rfl (ok.put (by omega) (by omega) (by omega) (by omega) (by omega) (by omega) (by omega) (by omega) (by omega) (by omega) (by omega))
  have e1 : (z1 C 0 (z2 (C 0) 1 (C 0 8 s) 0)) 0 = z2 (C 0) 1 (C 0 8 s) 0 := by unfold z1; rw [if_pos rfl]
  have ok1 := h1.o.2.2.1
  rw [e1] at ok1
  exact (h1.put 9 s (min 9999 (C 0 9 s + C 0 1 (C 0 8 s))) (d := 12) (q := s) (p := 51 + 2 * s + 1) (by rw [e1]; simp only [q_bd]; rw [q_zo (by omega)]; exact hs) (by omega) rfl rfl (by simp only [q_pm]; omega) (by rw [e1]; exact ok1.put (by omega) (by omega) (by omega) (by omega) (by omega) (by omega) (by omega) (by omega) (by omega) (by omega) (by omega))).r
theorem r_pick : s_pick q_R := by
  intro I L J K p0 hR
  obtain ⟨C, T, mk, h⟩ := id hR
  obtain ⟨hx, hm, ok, -⟩ := h.o
  obtain ⟨o0, o1, o2, o3, -⟩ := id ok
  cases hb : q_hs (C 0 0 3) p0 with
  | false => exact q_end (-1) 1 (by simp only [f_X10_pick, x0_hasScholar hx, hb]; rfl) (by simp only [f_X11_pick, m_isScholar hm, hb]; rfl) hR
  | true =>
    obtain ⟨s, hs, rfl⟩ := q_hs_t hb (by omega)
    have l8 := (ok.2.2.2.2.2.2.2.2.2.2 s hs)
    have h1 := (ok.2.2.2.2.2.2.2.1 _ l8.1).1
    by_cases z : C 0 1 (C 0 8 s) = 0
    · refine q_end (-1) 7 ?_ ?_ (h.pick hs)
      · simp (disch := omega) only [f_X10_pick, x0_hasScholar hx, hb, x0_harvest hx ok hs, ql_0, ql_1, ql_2, ql_3, ql_4, ql_5, ql_6, ql_7, ql_8, ql_9, ql_10, ql_11, ql_12, ql_13, ql_14, ql_15, ql_16, ql_17, ql_18, ql_19, ql_20, ql_21, ql_22, ql_23, ql_24, ql_27, ql_30, ql_31, ql_32, ql_40, ql_48, ql_51, ql_52, ql_57, ql_59, ql_60, ql_61, ql_62, ql_76, ql_84, ql_91, ql_97, ql_99, ql_100, ql_120, ql_122, ql_127, ql_128, ql_200, ql_255, ql_256, ql_300, ql_420, ql_428, ql_640, ql_900, ql_896, ql_999, ql_1712, ql_1716, ql_1734, ql_1772, ql_1800, ql_1805, ql_1811, ql_1822, ql_2132, ql_2140, ql_3229, ql_9999, ql_11453, ql_65536, ql_100000, ql_1000000, nI_add, pk_mul, q_and, q_or, q_xor, nI_clamp, q_in, q_neg1, q_nno, q_nno', q_annN, q_sh1, q_tbN, nI_leI, nI_ltI, nI_eq, pk_sub, ↓reduceIte, if_pos, if_neg, q_zlt, q_bs, f_X10_refuse, Nat.reduceAdd]
      · simp (disch := omega) only [f_X11_pick, m_isScholar hm, hb, m_picks hm ok hs, ql_0, ql_1, ql_2, ql_3, ql_4, ql_5, ql_6, ql_7, ql_8, ql_9, ql_10, ql_11, ql_12, ql_13, ql_14, ql_15, ql_16, ql_17, ql_18, ql_19, ql_20, ql_21, ql_22, ql_23, ql_24, ql_27, ql_30, ql_31, ql_32, ql_40, ql_48, ql_51, ql_52, ql_57, ql_59, ql_60, ql_61, ql_62, ql_76, ql_84, ql_91, ql_97, ql_99, ql_100, ql_120, ql_122, ql_127, ql_128, ql_200, ql_255, ql_256, ql_300, ql_420, ql_428, ql_640, ql_900, ql_896, ql_999, ql_1712, ql_1716, ql_1734, ql_1772, ql_1800, ql_1805, ql_1811, ql_1822, ql_2132, ql_2140, ql_3229, ql_9999, ql_11453, ql_65536, ql_100000, ql_1000000, nI_add, pk_mul, q_and, q_or, q_xor, nI_clamp, q_in, q_neg1, q_nno, q_nno', q_annN, q_sh1, q_tbN, nI_leI, nI_ltI, nI_eq, pk_sub, ↓reduceIte, if_pos, if_neg, q_zlt, q_bs, f_X11_refuse]
    · refine q_end (nI (C 0 1 (C 0 8 s))) 0 ?_ ?_ (h.pick hs)
      · simp (disch := omega) only [f_X10_pick, x0_hasScholar hx, hb, x0_harvest hx ok hs, ql_0, ql_1, ql_2, ql_3, ql_4, ql_5, ql_6, ql_7, ql_8, ql_9, ql_10, ql_11, ql_12, ql_13, ql_14, ql_15, ql_16, ql_17, ql_18, ql_19, ql_20, ql_21, ql_22, ql_23, ql_24, ql_27, ql_30, ql_31, ql_32, ql_40, ql_48, ql_51, ql_52, ql_57, ql_59, ql_60, ql_61, ql_62, ql_76, ql_84, ql_91, ql_97, ql_99, ql_100, ql_120, ql_122, ql_127, ql_128, ql_200, ql_255, ql_256, ql_300, ql_420, ql_428, ql_640, ql_900, ql_896, ql_999, ql_1712, ql_1716, ql_1734, ql_1772, ql_1800, ql_1805, ql_1811, ql_1822, ql_2132, ql_2140, ql_3229, ql_9999, ql_11453, ql_65536, ql_100000, ql_1000000, nI_add, pk_mul, q_and, q_or, q_xor, nI_clamp, q_in, q_neg1, q_nno, q_nno', q_annN, q_sh1, q_tbN, nI_leI, nI_ltI, nI_eq, pk_sub, ↓reduceIte, if_pos, if_neg, q_zlt, q_bs, f_X10_give, Nat.reduceAdd]
      · simp (disch := omega) only [f_X11_pick, m_isScholar hm, hb, m_picks hm ok hs, ql_0, ql_1, ql_2, ql_3, ql_4, ql_5, ql_6, ql_7, ql_8, ql_9, ql_10, ql_11, ql_12, ql_13, ql_14, ql_15, ql_16, ql_17, ql_18, ql_19, ql_20, ql_21, ql_22, ql_23, ql_24, ql_27, ql_30, ql_31, ql_32, ql_40, ql_48, ql_51, ql_52, ql_57, ql_59, ql_60, ql_61, ql_62, ql_76, ql_84, ql_91, ql_97, ql_99, ql_100, ql_120, ql_122, ql_127, ql_128, ql_200, ql_255, ql_256, ql_300, ql_420, ql_428, ql_640, ql_900, ql_896, ql_999, ql_1712, ql_1716, ql_1734, ql_1772, ql_1800, ql_1805, ql_1811, ql_1822, ql_2132, ql_2140, ql_3229, ql_9999, ql_11453, ql_65536, ql_100000, ql_1000000, nI_add, pk_mul, q_and, q_or, q_xor, nI_clamp, q_in, q_neg1, q_nno, q_nno', q_annN, q_sh1, q_tbN, nI_leI, nI_ltI, nI_eq, pk_sub, ↓reduceIte, if_pos, if_neg, q_zlt, q_bs, f_X11_gives]
theorem r_weed : s_weed q_R := by
  intro I L J K p0 hR
  obtain ⟨C, T, mk, h⟩ := id hR
  obtain ⟨hx, hm, ok, -⟩ := h.o
  obtain ⟨o0, o1, o2, o3, -⟩ := id ok
  cases hb : q_hs (C 0 0 0) p0 with
  | false => exact q_end (-1) 1 (by simp only [f_X10_weed, x0_hasBed hx, hb]; rfl) (by simp only [f_X11_weed, m_isBed hm, hb]; rfl) hR
  | true =>
    obtain ⟨s, hs, rfl⟩ := q_hs_t hb (by omega)
    have h1 := (ok.2.2.2.2.2.2.2.1 _ hs).2
    have a2 : I 5 s = nI (C 0 2 s) := hx.a2 hs
    have m2 := hm.a2 hs
    have h2 := h.put 2 s 0 (d := 5) (q := s) (p := 10 + 2 * s + 1) (by simpa only [q_bd] using hs) (by omega) rfl rfl (by simp only [q_pm]; omega) (ok.put (by omega) (by omega) (by omega) (by omega) (by omega) (by omega) (by omega) (by omega) (by omega) (by omega) (by omega))
    by_cases z : C 0 2 s = 0
    · rw [q_zid (f := I) (by rw [a2, z])] at h2
      refine q_end (-1) 7 ?_ ?_ h2.r
      · simp (disch := omega) only [f_X10_weed, x0_hasBed hx, hb, a2, ql_0, ql_1, ql_2, ql_3, ql_4, ql_5, ql_6, ql_7, ql_8, ql_9, ql_10, ql_11, ql_12, ql_13, ql_14, ql_15, ql_16, ql_17, ql_18, ql_19, ql_20, ql_21, ql_22, ql_23, ql_24, ql_27, ql_30, ql_31, ql_32, ql_40, ql_48, ql_51, ql_52, ql_57, ql_59, ql_60, ql_61, ql_62, ql_76, ql_84, ql_91, ql_97, ql_99, ql_100, ql_120, ql_122, ql_127, ql_128, ql_200, ql_255, ql_256, ql_300, ql_420, ql_428, ql_640, ql_900, ql_896, ql_999, ql_1712, ql_1716, ql_1734, ql_1772, ql_1800, ql_1805, ql_1811, ql_1822, ql_2132, ql_2140, ql_3229, ql_9999, ql_11453, ql_65536, ql_100000, ql_1000000, nI_add, pk_mul, q_and, q_or, q_xor, nI_clamp, q_in, q_neg1, q_nno, q_nno', q_annN, q_sh1, q_tbN, nI_leI, nI_ltI, nI_eq, pk_sub, ↓reduceIte, if_pos, if_neg, q_zlt, q_bs, f_X10_refuse]
      · simp (disch := omega) only [f_X11_weed, f_X11_bedRow, m_isBed hm, hb, m2, ql_0, ql_1, ql_2, ql_3, ql_4, ql_5, ql_6, ql_7, ql_8, ql_9, ql_10, ql_11, ql_12, ql_13, ql_14, ql_15, ql_16, ql_17, ql_18, ql_19, ql_20, ql_21, ql_22, ql_23, ql_24, ql_27, ql_30, ql_31, ql_32, ql_40, ql_48, ql_51, ql_52, ql_57, ql_59, ql_60, ql_61, ql_62, ql_76, ql_84, ql_91, ql_97, ql_99, ql_100, ql_120, ql_122, ql_127, ql_128, ql_200, ql_255, ql_256, ql_300, ql_420, ql_428, ql_640, ql_900, ql_896, ql_999, ql_1712, ql_1716, ql_1734, ql_1772, ql_1800, ql_1805, ql_1811, ql_1822, ql_2132, ql_2140, ql_3229, ql_9999, ql_11453, ql_65536, ql_100000, ql_1000000, nI_add, pk_mul, q_and, q_or, q_xor, nI_clamp, q_in, q_neg1, q_nno, q_nno', q_annN, q_sh1, q_tbN, nI_leI, nI_ltI, nI_eq, pk_sub, ↓reduceIte, if_pos, if_neg, q_zlt, q_bs, f_X11_refuse]
    · refine q_end (nI (C 0 2 s)) 0 ?_ ?_ h2.r
      · simp (disch := omega) only [f_X10_weed, x0_hasBed hx, hb, a2, ql_0, ql_1, ql_2, ql_3, ql_4, ql_5, ql_6, ql_7, ql_8, ql_9, ql_10, ql_11, ql_12, ql_13, ql_14, ql_15, ql_16, ql_17, ql_18, ql_19, ql_20, ql_21, ql_22, ql_23, ql_24, ql_27, ql_30, ql_31, ql_32, ql_40, ql_48, ql_51, ql_52, ql_57, ql_59, ql_60, ql_61, ql_62, ql_76, ql_84, ql_91, ql_97, ql_99, ql_100, ql_120, ql_122, ql_127, ql_128, ql_200, ql_255, ql_256, ql_300, ql_420, ql_428, ql_640, ql_900, ql_896, ql_999, ql_1712, ql_1716, ql_1734, ql_1772, ql_1800, ql_1805, ql_1811, ql_1822, ql_2132, ql_2140, ql_3229, ql_9999, ql_11453, ql_65536, ql_100000, ql_1000000, nI_add, pk_mul, q_and, q_or, q_xor, nI_clamp, q_in, q_neg1, q_nno, q_nno', q_annN, q_sh1, q_tbN, nI_leI, nI_ltI, nI_eq, pk_sub, ↓reduceIte, if_pos, if_neg, q_zlt, q_bs, f_X10_give]
      · simp (disch := omega) only [f_X11_weed, f_X11_bedRow, m_isBed hm, hb, m2, ql_0, ql_1, ql_2, ql_3, ql_4, ql_5, ql_6, ql_7, ql_8, ql_9, ql_10, ql_11, ql_12, ql_13, ql_14, ql_15, ql_16, ql_17, ql_18, ql_19, ql_20, ql_21, ql_22, ql_23, ql_24, ql_27, ql_30, ql_31, ql_32, ql_40, ql_48, ql_51, ql_52, ql_57, ql_59, ql_60, ql_61, ql_62, ql_76, ql_84, ql_91, ql_97, ql_99, ql_100, ql_120, ql_122, ql_127, ql_128, ql_200, ql_255, ql_256, ql_300, ql_420, ql_428, ql_640, ql_900, ql_896, ql_999, ql_1712, ql_1716, ql_1734, ql_1772, ql_1800, ql_1805, ql_1811, ql_1822, ql_2132, ql_2140, ql_3229, ql_9999, ql_11453, ql_65536, ql_100000, ql_1000000, nI_add, pk_mul, q_and, q_or, q_xor, nI_clamp, q_in, q_neg1, q_nno, q_nno', q_annN, q_sh1, q_tbN, nI_leI, nI_ltI, nI_eq, pk_sub, ↓reduceIte, if_pos, if_neg, q_zlt, q_bs, f_X11_gives]
theorem r_weigh : s_weigh q_R := by
  intro I L J K p0 p1 hR
  obtain ⟨C, T, mk, h⟩ := id hR
  obtain ⟨hx, hm, ok, -⟩ := h.o
  obtain ⟨o0, o1, o2, o3, -⟩ := id ok
  cases hb : q_hs (C 0 0 1) p0 with
  | false => exact q_end (-1) 1 (by simp only [f_X10_weigh, x0_hasCase hx, hb]; rfl) (by simp only [f_X11_weigh, m_isCase hm, hb]; rfl) hR
  | true =>
    obtain ⟨s, hs, rfl⟩ := q_hs_t hb (by omega)
    cases hw : f_X10_isWithin p1 (nI 1) (nI 20) with
    | false => exact q_end (-1) 1 (by simp only [f_X10_weigh, x0_hasCase hx, hb, ql_1, ql_20, hw]; rfl) (by simp (disch := decide) only [f_X11_weigh, m_isCase hm, hb, qL_1, qL_20, q_from, hw]; rfl) hR
    | true =>
      obtain ⟨v, v1, v2, rfl⟩ := q_wi_t hw (by decide) (by decide)
      have a2 : I 6 s = nI (C 0 3 s) := hx.a3 hs
      have h2 := h.put 3 s v (d := 6) (q := s) (p := 22 + s) (by simpa only [q_bd] using hs) (by omega) rfl rfl rfl (ok.put (by omega) (by omega) (by omega) (by omega) (by omega) (by omega) (by omega) (by omega) (by omega) (by omega) (by omega))
      refine q_end (nI (C 0 3 s)) 0 ?_ ?_ h2.r
      · simp (disch := omega) only [f_X10_weigh, x0_hasCase hx, hb, a2, ql_0, ql_1, ql_2, ql_3, ql_4, ql_5, ql_6, ql_7, ql_8, ql_9, ql_10, ql_11, ql_12, ql_13, ql_14, ql_15, ql_16, ql_17, ql_18, ql_19, ql_20, ql_21, ql_22, ql_23, ql_24, ql_27, ql_30, ql_31, ql_32, ql_40, ql_48, ql_51, ql_52, ql_57, ql_59, ql_60, ql_61, ql_62, ql_76, ql_84, ql_91, ql_97, ql_99, ql_100, ql_120, ql_122, ql_127, ql_128, ql_200, ql_255, ql_256, ql_300, ql_420, ql_428, ql_640, ql_900, ql_896, ql_999, ql_1712, ql_1716, ql_1734, ql_1772, ql_1800, ql_1805, ql_1811, ql_1822, ql_2132, ql_2140, ql_3229, ql_9999, ql_11453, ql_65536, ql_100000, ql_1000000, nI_add, pk_mul, q_and, q_or, q_xor, nI_clamp, q_in, q_neg1, q_nno, q_nno', q_annN, q_sh1, q_tbN, nI_leI, nI_ltI, nI_eq, pk_sub, ↓reduceIte, if_pos, if_neg, q_zlt, q_bs, hw, f_X10_give]
      · simp (disch := omega) only [f_X11_weigh, m_isCase hm, hb, qL_1, qL_20, q_from, hm.a3 hs, ql_0, ql_1, ql_2, ql_3, ql_4, ql_5, ql_6, ql_7, ql_8, ql_9, ql_10, ql_11, ql_12, ql_13, ql_14, ql_15, ql_16, ql_17, ql_18, ql_19, ql_20, ql_21, ql_22, ql_23, ql_24, ql_27, ql_30, ql_31, ql_32, ql_40, ql_48, ql_51, ql_52, ql_57, ql_59, ql_60, ql_61, ql_62, ql_76, ql_84, ql_91, ql_97, ql_99, ql_100, ql_120, ql_122, ql_127, ql_128, ql_200, ql_255, ql_256, ql_300, ql_420, ql_428, ql_640, ql_900, ql_896, ql_999, ql_1712, ql_1716, ql_1734, ql_1772, ql_1800, ql_1805, ql_1811, ql_1822, ql_2132, ql_2140, ql_3229, ql_9999, ql_11453, ql_65536, ql_100000, ql_1000000, nI_add, pk_mul, q_and, q_or, q_xor, nI_clamp, q_in, q_neg1, q_nno, q_nno', q_annN, q_sh1, q_tbN, nI_leI, nI_ltI, nI_eq, pk_sub, ↓reduceIte, if_pos, if_neg, q_zlt, q_bs, hw, f_X11_gives]
theorem r_teach : s_teach q_R := by
  intro I L J K p0 p1 p2 hR
  obtain ⟨C, T, mk, h⟩ := id hR
  obtain ⟨hx, hm, ok, -⟩ := h.o
  obtain ⟨o0, o1, o2, o3, -⟩ := id ok
  cases hb : q_hs (C 0 0 2) p0 with
  | false => exact q_end false 1 (by simp only [f_X10_teach, x0_hasClaim hx, hb]; rfl) (by simp only [f_X11_teach, m_isClaim hm, hb]; rfl) hR
  | true =>
    obtain ⟨s, hs, rfl⟩ := q_hs_t hb (by omega)
    cases hc : q_hs (C 0 0 1) p1 with
    | false => exact q_end false 1 (by simp only [f_X10_teach, x0_hasClaim hx, hb, x0_hasCase hx, hc]; rfl) (by simp only [f_X11_teach, m_isClaim hm, hb, m_isCase hm, hc]; rfl) hR
    | true =>
      obtain ⟨w, hw, rfl⟩ := q_hs_t hc (by omega)
      have a2 : I 9 s = nI (C 0 6 s) := hx.a6 hs
      have m2 := hm.a6 hs
      have l6 := q_ok6 ok hs
      have lx : C 0 6 s ^^^ 2 ^ w < 2 ^ C 0 0 1 := Nat.xor_lt_two_pow l6.2 (Nat.pow_lt_pow_right (by decide) hw)
      have h2 := h.put 6 s (C 0 6 s ^^^ 2 ^ w) (d := 9) (q := s) (p := 30 + 3 * s + 2) (by simpa only [q_bd] using hs) (by omega) rfl rfl (by simp only [q_pm]; omega) (ok.put (by omega) (by omega) (by omega) (by omega) (by omega) (by omega) (fun _ => lx) (by omega) (by omega) (by omega) (by omega))
      have z01 : (nI 0 = nI 1) ↔ False := by rw [nI_eq (by decide) (by decide)]; decide
      have z10 : (nI 1 = nI 0) ↔ False := by rw [nI_eq (by decide) (by decide)]; decide
      have zb1 : zb true = nI 1 := rfl
      have zb0 : zb false = nI 0 := rfl
      cases hbit : (C 0 6 s).testBit w <;> cases p2
      · refine q_end false 7 ?_ ?_ hR
        · simp (disch := omega) only [f_X10_teach, x0_hasClaim hx, hb, x0_hasCase hx, hc, a2, ql_0, ql_1, ql_2, ql_3, ql_4, ql_5, ql_6, ql_7, ql_8, ql_9, ql_10, ql_11, ql_12, ql_13, ql_14, ql_15, ql_16, ql_17, ql_18, ql_19, ql_20, ql_21, ql_22, ql_23, ql_24, ql_27, ql_30, ql_31, ql_32, ql_40, ql_48, ql_51, ql_52, ql_57, ql_59, ql_60, ql_61, ql_62, ql_76, ql_84, ql_91, ql_97, ql_99, ql_100, ql_120, ql_122, ql_127, ql_128, ql_200, ql_255, ql_256, ql_300, ql_420, ql_428, ql_640, ql_900, ql_896, ql_999, ql_1712, ql_1716, ql_1734, ql_1772, ql_1800, ql_1805, ql_1811, ql_1822, ql_2132, ql_2140, ql_3229, ql_9999, ql_11453, ql_65536, ql_100000, ql_1000000, nI_add, pk_mul, q_and, q_or, q_xor, nI_clamp, q_in, q_neg1, q_nno, q_nno', q_annN, q_sh1, q_tbN, nI_leI, nI_ltI, nI_eq, pk_sub, ↓reduceIte, if_pos, if_neg, q_zlt, q_bs, hbit, zb0, f_X10_deny]
        · simp (disch := omega) only [f_X11_teach, m_isClaim hm, hb, m_isCase hm, hc, m_truthOf hm ok hs, q_isIn, ql_0, ql_1, ql_2, ql_3, ql_4, ql_5, ql_6, ql_7, ql_8, ql_9, ql_10, ql_11, ql_12, ql_13, ql_14, ql_15, ql_16, ql_17, ql_18, ql_19, ql_20, ql_21, ql_22, ql_23, ql_24, ql_27, ql_30, ql_31, ql_32, ql_40, ql_48, ql_51, ql_52, ql_57, ql_59, ql_60, ql_61, ql_62, ql_76, ql_84, ql_91, ql_97, ql_99, ql_100, ql_120, ql_122, ql_127, ql_128, ql_200, ql_255, ql_256, ql_300, ql_420, ql_428, ql_640, ql_900, ql_896, ql_999, ql_1712, ql_1716, ql_1734, ql_1772, ql_1800, ql_1805, ql_1811, ql_1822, ql_2132, ql_2140, ql_3229, ql_9999, ql_11453, ql_65536, ql_100000, ql_1000000, nI_add, pk_mul, q_and, q_or, q_xor, nI_clamp, q_in, q_neg1, q_nno, q_nno', q_annN, q_sh1, q_tbN, nI_leI, nI_ltI, nI_eq, pk_sub, ↓reduceIte, if_pos, if_neg, q_zlt, q_bs, hbit, zb0, f_X11_is]
      · refine q_end true 0 ?_ ?_ h2.r
        · simp (disch := omega) only [f_X10_teach, x0_hasClaim hx, hb, x0_hasCase hx, hc, a2, ql_0, ql_1, ql_2, ql_3, ql_4, ql_5, ql_6, ql_7, ql_8, ql_9, ql_10, ql_11, ql_12, ql_13, ql_14, ql_15, ql_16, ql_17, ql_18, ql_19, ql_20, ql_21, ql_22, ql_23, ql_24, ql_27, ql_30, ql_31, ql_32, ql_40, ql_48, ql_51, ql_52, ql_57, ql_59, ql_60, ql_61, ql_62, ql_76, ql_84, ql_91, ql_97, ql_99, ql_100, ql_120, ql_122, ql_127, ql_128, ql_200, ql_255, ql_256, ql_300, ql_420, ql_428, ql_640, ql_900, ql_896, ql_999, ql_1712, ql_1716, ql_1734, ql_1772, ql_1800, ql_1805, ql_1811, ql_1822, ql_2132, ql_2140, ql_3229, ql_9999, ql_11453, ql_65536, ql_100000, ql_1000000, nI_add, pk_mul, q_and, q_or, q_xor, nI_clamp, q_in, q_neg1, q_nno, q_nno', q_annN, q_sh1, q_tbN, nI_leI, nI_ltI, nI_eq, pk_sub, ↓reduceIte, if_pos, if_neg, q_zlt, q_bs, hbit, zb1, f_X10_grant, z01]
        · simp (disch := omega) only [f_X11_teach, f_X11_claimRow, m_isClaim hm, hb, m_isCase hm, hc, m_truthOf hm ok hs, m2, q_isIn, ql_0, ql_1, ql_2, ql_3, ql_4, ql_5, ql_6, ql_7, ql_8, ql_9, ql_10, ql_11, ql_12, ql_13, ql_14, ql_15, ql_16, ql_17, ql_18, ql_19, ql_20, ql_21, ql_22, ql_23, ql_24, ql_27, ql_30, ql_31, ql_32, ql_40, ql_48, ql_51, ql_52, ql_57, ql_59, ql_60, ql_61, ql_62, ql_76, ql_84, ql_91, ql_97, ql_99, ql_100, ql_120, ql_122, ql_127, ql_128, ql_200, ql_255, ql_256, ql_300, ql_420, ql_428, ql_640, ql_900, ql_896, ql_999, ql_1712, ql_1716, ql_1734, ql_1772, ql_1800, ql_1805, ql_1811, ql_1822, ql_2132, ql_2140, ql_3229, ql_9999, ql_11453, ql_65536, ql_100000, ql_1000000, nI_add, pk_mul, q_and, q_or, q_xor, nI_clamp, q_in, q_neg1, q_nno, q_nno', q_annN, q_sh1, q_tbN, nI_leI, nI_ltI, nI_eq, pk_sub, ↓reduceIte, if_pos, if_neg, q_zlt, q_bs, hbit, zb0, zb1, f_X11_is, z01]
      · refine q_end true 0 ?_ ?_ h2.r
        · simp (disch := omega) only [f_X10_teach, x0_hasClaim hx, hb, x0_hasCase hx, hc, a2, ql_0, ql_1, ql_2, ql_3, ql_4, ql_5, ql_6, ql_7, ql_8, ql_9, ql_10, ql_11, ql_12, ql_13, ql_14, ql_15, ql_16, ql_17, ql_18, ql_19, ql_20, ql_21, ql_22, ql_23, ql_24, ql_27, ql_30, ql_31, ql_32, ql_40, ql_48, ql_51, ql_52, ql_57, ql_59, ql_60, ql_61, ql_62, ql_76, ql_84, ql_91, ql_97, ql_99, ql_100, ql_120, ql_122, ql_127, ql_128, ql_200, ql_255, ql_256, ql_300, ql_420, ql_428, ql_640, ql_900, ql_896, ql_999, ql_1712, ql_1716, ql_1734, ql_1772, ql_1800, ql_1805, ql_1811, ql_1822, ql_2132, ql_2140, ql_3229, ql_9999, ql_11453, ql_65536, ql_100000, ql_1000000, nI_add, pk_mul, q_and, q_or, q_xor, nI_clamp, q_in, q_neg1, q_nno, q_nno', q_annN, q_sh1, q_tbN, nI_leI, nI_ltI, nI_eq, pk_sub, ↓reduceIte, if_pos, if_neg, q_zlt, q_bs, hbit, zb0, f_X10_grant, z10, reduceCtorEq]
        · simp (disch := omega) only [f_X11_teach, f_X11_claimRow, m_isClaim hm, hb, m_isCase hm, hc, m_truthOf hm ok hs, m2, q_isIn, ql_0, ql_1, ql_2, ql_3, ql_4, ql_5, ql_6, ql_7, ql_8, ql_9, ql_10, ql_11, ql_12, ql_13, ql_14, ql_15, ql_16, ql_17, ql_18, ql_19, ql_20, ql_21, ql_22, ql_23, ql_24, ql_27, ql_30, ql_31, ql_32, ql_40, ql_48, ql_51, ql_52, ql_57, ql_59, ql_60, ql_61, ql_62, ql_76, ql_84, ql_91, ql_97, ql_99, ql_100, ql_120, ql_122, ql_127, ql_128, ql_200, ql_255, ql_256, ql_300, ql_420, ql_428, ql_640, ql_900, ql_896, ql_999, ql_1712, ql_1716, ql_1734, ql_1772, ql_1800, ql_1805, ql_1811, ql_1822, ql_2132, ql_2140, ql_3229, ql_9999, ql_11453, ql_65536, ql_100000, ql_1000000, nI_add, pk_mul, q_and, q_or, q_xor, nI_clamp, q_in, q_neg1, q_nno, q_nno', q_annN, q_sh1, q_tbN, nI_leI, nI_ltI, nI_eq, pk_sub, ↓reduceIte, if_pos, if_neg, q_zlt, q_bs, hbit, zb0, zb1, f_X11_is, z10]
      · refine q_end false 7 ?_ ?_ hR
        · simp (disch := omega) only [f_X10_teach, x0_hasClaim hx, hb, x0_hasCase hx, hc, a2, ql_0, ql_1, ql_2, ql_3, ql_4, ql_5, ql_6, ql_7, ql_8, ql_9, ql_10, ql_11, ql_12, ql_13, ql_14, ql_15, ql_16, ql_17, ql_18, ql_19, ql_20, ql_21, ql_22, ql_23, ql_24, ql_27, ql_30, ql_31, ql_32, ql_40, ql_48, ql_51, ql_52, ql_57, ql_59, ql_60, ql_61, ql_62, ql_76, ql_84, ql_91, ql_97, ql_99, ql_100, ql_120, ql_122, ql_127, ql_128, ql_200, ql_255, ql_256, ql_300, ql_420, ql_428, ql_640, ql_900, ql_896, ql_999, ql_1712, ql_1716, ql_1734, ql_1772, ql_1800, ql_1805, ql_1811, ql_1822, ql_2132, ql_2140, ql_3229, ql_9999, ql_11453, ql_65536, ql_100000, ql_1000000, nI_add, pk_mul, q_and, q_or, q_xor, nI_clamp, q_in, q_neg1, q_nno, q_nno', q_annN, q_sh1, q_tbN, nI_leI, nI_ltI, nI_eq, pk_sub, ↓reduceIte, if_pos, if_neg, q_zlt, q_bs, hbit, zb1, f_X10_deny, reduceCtorEq]
        · simp (disch := omega) only [f_X11_teach, m_isClaim hm, hb, m_isCase hm, hc, m_truthOf hm ok hs, q_isIn, ql_0, ql_1, ql_2, ql_3, ql_4, ql_5, ql_6, ql_7, ql_8, ql_9, ql_10, ql_11, ql_12, ql_13, ql_14, ql_15, ql_16, ql_17, ql_18, ql_19, ql_20, ql_21, ql_22, ql_23, ql_24, ql_27, ql_30, ql_31, ql_32, ql_40, ql_48, ql_51, ql_52, ql_57, ql_59, ql_60, ql_61, ql_62, ql_76, ql_84, ql_91, ql_97, ql_99, ql_100, ql_120, ql_122, ql_127, ql_128, ql_200, ql_255, ql_256, ql_300, ql_420, ql_428, ql_640, ql_900, ql_896, ql_999, ql_1712, ql_1716, ql_1734, ql_1772, ql_1800, ql_1805, ql_1811, ql_1822, ql_2132, ql_2140, ql_3229, ql_9999, ql_11453, ql_65536, ql_100000, ql_1000000, nI_add, pk_mul, q_and, q_or, q_xor, nI_clamp, q_in, q_neg1, q_nno, q_nno', q_annN, q_sh1, q_tbN, nI_leI, nI_ltI, nI_eq, pk_sub, ↓reduceIte, if_pos, if_neg, q_zlt, q_bs, hbit, zb1, f_X11_is]
