/-! pour, feed, copyBeds -/
theorem q_spans {I : z_I} {y m : Nat} (hm : m ≤ 60) (h : I y 3 = nI m) {a n : Nat} (ha : a < 2 ^ 31) (hn : n < 2 ^ 31) : f_X8_spans I y (nI a) (nI n) = decide (a + n ≤ m) := by
  have t : (nI m - nI n).toInt = (m : Int) - n := by
    rw [Int32.toInt_sub, nI_toInt (by omega), nI_toInt hn]
    apply Int.bmod_eq_of_le <;> omega
  have e : (nI m - nI n < nI a) ↔ m < a + n := by
    rw [Int32.lt_iff_toInt_lt, t, nI_toInt ha]
    omega
  unfold f_X8_spans
  rw [if_neg (nI_pos ha), if_neg (nI_pos hn), h]
  by_cases z : m < a + n
  · rw [if_pos (e.2 z), decide_eq_false (by omega)]
  · rw [if_neg (fun y => z (e.1 y)), decide_eq_true (by omega)]
theorem q_subR {m a n : Nat} (hm : m ≤ 60) (ha : a < 2 ^ 31) (hn : n < 2 ^ 31) : (nI m - nI a < nI n ↔ m < a + n) ∧ (nI n ≤ nI m - nI a ↔ a + n ≤ m) := by
  have t : (nI m - nI a).toInt = (m : Int) - a := by
    rw [Int32.toInt_sub, nI_toInt (by omega), nI_toInt ha]
    apply Int.bmod_eq_of_le <;> omega
  rw [Int32.lt_iff_toInt_lt, Int32.le_iff_toInt_le, t, nI_toInt hn]
  omega
/-- row 5 with a stretch copied -/
def q_cpR (K : z_L) (s t lo hi : Nat) : z_L := zr K 5 (fun j => if t + lo ≤ j ∧ j < t + hi then K 5 (s + (j - t)) else K 5 j)
theorem q_cpR_5 (K : z_L) (s t lo hi : Nat) (j : Nat) : q_cpR K s t lo hi 5 j = if t + lo ≤ j ∧ j < t + hi then K 5 (s + (j - t)) else K 5 j := by unfold q_cpR; rw [q_zrs]
theorem q_cpR_0 (K : z_L) (s t a : Nat) : q_cpR K s t a a = K := by
  funext d j
  unfold q_cpR
  by_cases z : d = 5
  · subst z; rw [q_zrs, if_neg (by omega)]
  · exact q_zro z
theorem q_cpR_f {K : z_L} {s t n k : Nat} (h : s + k < t ∨ t + k ≤ s + k) : z2 (q_cpR K s t 0 k) 5 (t + k) (q_cpR K s t 0 k 5 (s + k)) = q_cpR K s t 0 (k + 1) := by
  funext d j
  rw [q_cpR_5, if_neg (by omega)]
  by_cases z : d = 5 ∧ j = t + k
  · obtain ⟨z1, z2⟩ := z
    subst z1 z2
    rw [q_zs, q_cpR_5, if_pos (by omega)]
    congr 1; omega
  · rw [q_zo (by omega)]
    by_cases z1 : d = 5
    · subst z1
      rw [q_cpR_5, q_cpR_5]
      by_cases z3 : t + 0 ≤ j ∧ j < t + k
      · rw [if_pos z3, if_pos (by omega)]
      · rw [if_neg z3, if_neg (by omega)]
    · unfold q_cpR
      rw [q_zro z1, q_zro z1]
theorem q_cpR_b {K : z_L} {s t n k : Nat} (hk : k < n) (h : s + (n - 1 - k) < t + (n - k) ∨ t + n ≤ s + (n - 1 - k)) : z2 (q_cpR K s t (n - k) n) 5 (t + (n - 1 - k)) (q_cpR K s t (n - k) n 5 (s + (n - 1 - k))) = q_cpR K s t (n - (k + 1)) n := by
  funext d j
  rw [q_cpR_5, if_neg (by omega)]
  by_cases z : d = 5 ∧ j = t + (n - 1 - k)
  · obtain ⟨z1, z2⟩ := z
    subst z1 z2
    rw [q_zs, q_cpR_5, if_pos (by omega)]
    congr 1; omega
  · rw [q_zo (by omega)]
    by_cases z1 : d = 5
    · subst z1
      rw [q_cpR_5, q_cpR_5]
      by_cases z3 : t + (n - k) ≤ j ∧ j < t + n
      · rw [if_pos z3, if_pos (by omega)]
      · rw [if_neg z3, if_neg (by omega)]
    · unfold q_cpR
      rw [q_zro z1, q_zro z1]
theorem m_pour {J : z_I} {K : z_L} {a p b t n : Nat} (ha : a < 4) (hb : b < 4) (hp : p + n ≤ 60) (ht : t + n ≤ 60) : g_X11_pour_118 (nI a) (nI p) (nI b) (nI t) (nI n) J z_fuel 0 K = some (true, z2 J 0 2 0, q_cpR K (60 * a + p) (60 * b + t) 0 n) := by
  by_cases z : t ≤ p
  · have e := q_lp (G := fun m k (x : z_L) => g_X11_pour_118 (nI a) (nI p) (nI b) (nI t) (nI n) J m (nI k) x) (N := n) (k0 := 0) (r := some (true, z2 J 0 2 0, q_cpR K (60 * a + p) (60 * b + t) 0 n)) (n := z_fuel) (fun k => q_cpR K (60 * a + p) (60 * b + t) 0 k) (fun m k _ hk => by
      simp (disch := omega) only [g_X11_pour_118, ql_0, ql_1, ql_2, ql_3, ql_4, ql_5, ql_6, ql_7, ql_8, ql_9, ql_10, ql_11, ql_12, ql_13, ql_14, ql_15, ql_16, ql_17, ql_18, ql_19, ql_20, ql_21, ql_22, ql_23, ql_24, ql_27, ql_30, ql_31, ql_32, ql_40, ql_48, ql_51, ql_52, ql_57, ql_59, ql_60, ql_61, ql_62, ql_76, ql_84, ql_91, ql_97, ql_99, ql_100, ql_120, ql_122, ql_127, ql_128, ql_200, ql_255, ql_256, ql_300, ql_420, ql_428, ql_640, ql_900, ql_896, ql_999, ql_1712, ql_1716, ql_1734, ql_1772, ql_1800, ql_1805, ql_1811, ql_1822, ql_2132, ql_2140, ql_3229, ql_9999, ql_11453, ql_65536, ql_100000, ql_1000000, nI_add, pk_mul, q_and, q_or, q_xor, nI_clamp, q_in, q_neg1, q_nno, q_nno', q_annN, q_sh1, q_tbN, nI_leI, nI_ltI, nI_eq, pk_sub, ↓reduceIte, if_pos, if_neg, q_zlt, q_bs]
      rw [q_cpR_f (n := n) (by omega)]) (fun m => by simp (disch := omega) only [g_X11_pour_118, ql_0, ql_1, ql_2, ql_3, ql_4, ql_5, ql_6, ql_7, ql_8, ql_9, ql_10, ql_11, ql_12, ql_13, ql_14, ql_15, ql_16, ql_17, ql_18, ql_19, ql_20, ql_21, ql_22, ql_23, ql_24, ql_27, ql_30, ql_31, ql_32, ql_40, ql_48, ql_51, ql_52, ql_57, ql_59, ql_60, ql_61, ql_62, ql_76, ql_84, ql_91, ql_97, ql_99, ql_100, ql_120, ql_122, ql_127, ql_128, ql_200, ql_255, ql_256, ql_300, ql_420, ql_428, ql_640, ql_900, ql_896, ql_999, ql_1712, ql_1716, ql_1734, ql_1772, ql_1800, ql_1805, ql_1811, ql_1822, ql_2132, ql_2140, ql_3229, ql_9999, ql_11453, ql_65536, ql_100000, ql_1000000, nI_add, pk_mul, q_and, q_or, q_xor, nI_clamp, q_in, q_neg1, q_nno, q_nno', q_annN, q_sh1, q_tbN, nI_leI, nI_ltI, nI_eq, pk_sub, ↓reduceIte, if_pos, if_neg, q_zlt, q_bs, f_X11_is]) (Nat.zero_le _) (q_fu (by omega))
    simp only [q_cpR_0] at e
    exact e
  · have e := q_lp (G := fun m k (x : z_L) => g_X11_pour_118 (nI a) (nI p) (nI b) (nI t) (nI n) J m (nI k) x) (N := n) (k0 := 0) (r := some (true, z2 J 0 2 0, q_cpR K (60 * a + p) (60 * b + t) 0 n)) (n := z_fuel) (fun k => q_cpR K (60 * a + p) (60 * b + t) (n - k) n) (fun m k _ hk => by
      simp (disch := omega) only [g_X11_pour_118, ql_0, ql_1, ql_2, ql_3, ql_4, ql_5, ql_6, ql_7, ql_8, ql_9, ql_10, ql_11, ql_12, ql_13, ql_14, ql_15, ql_16, ql_17, ql_18, ql_19, ql_20, ql_21, ql_22, ql_23, ql_24, ql_27, ql_30, ql_31, ql_32, ql_40, ql_48, ql_51, ql_52, ql_57, ql_59, ql_60, ql_61, ql_62, ql_76, ql_84, ql_91, ql_97, ql_99, ql_100, ql_120, ql_122, ql_127, ql_128, ql_200, ql_255, ql_256, ql_300, ql_420, ql_428, ql_640, ql_900, ql_896, ql_999, ql_1712, ql_1716, ql_1734, ql_1772, ql_1800, ql_1805, ql_1811, ql_1822, ql_2132, ql_2140, ql_3229, ql_9999, ql_11453, ql_65536, ql_100000, ql_1000000, nI_add, pk_mul, q_and, q_or, q_xor, nI_clamp, q_in, q_neg1, q_nno, q_nno', q_annN, q_sh1, q_tbN, nI_leI, nI_ltI, nI_eq, pk_sub, ↓reduceIte, if_pos, if_neg, q_zlt, q_bs]
      rw [q_cpR_b hk (by omega)]) (fun m => by simp (disch := omega) only [g_X11_pour_118, ql_0, ql_1, ql_2, ql_3, ql_4, ql_5, ql_6, ql_7, ql_8, ql_9, ql_10, ql_11, ql_12, ql_13, ql_14, ql_15, ql_16, ql_17, ql_18, ql_19, ql_20, ql_21, ql_22, ql_23, ql_24, ql_27, ql_30, ql_31, ql_32, ql_40, ql_48, ql_51, ql_52, ql_57, ql_59, ql_60, ql_61, ql_62, ql_76, ql_84, ql_91, ql_97, ql_99, ql_100, ql_120, ql_122, ql_127, ql_128, ql_200, ql_255, ql_256, ql_300, ql_420, ql_428, ql_640, ql_900, ql_896, ql_999, ql_1712, ql_1716, ql_1734, ql_1772, ql_1800, ql_1805, ql_1811, ql_1822, ql_2132, ql_2140, ql_3229, ql_9999, ql_11453, ql_65536, ql_100000, ql_1000000, nI_add, pk_mul, q_and, q_or, q_xor, nI_clamp, q_in, q_neg1, q_nno, q_nno', q_annN, q_sh1, q_tbN, nI_leI, nI_ltI, nI_eq, pk_sub, ↓reduceIte, if_pos, if_neg, q_zlt, q_bs, f_X11_is, Nat.sub_self]) (Nat.zero_le _) (q_fu (by omega))
    simp only [Nat.sub_zero, q_cpR_0] at e
    exact e
theorem r_pour : s_pour q_R := by
  intro I L J K p0 p1 p2 p3 p4 hR
  obtain ⟨C, T, mk, h⟩ := id hR
  have hT := h.2.2.2.2.1
  unfold f_X10_pour f_X11_pour
  rw [q_trX, q_trM, q_trX, q_trM]
  cases hb : q_hs 4 p0 with
  | false => exact q_end2 false 1 rfl rfl hR
  | true =>
    obtain ⟨i, hi, rfl⟩ := q_hs_t hb (by decide)
    cases hc : q_hs 4 p2 with
    | false => exact q_end2 false 1 rfl rfl hR
    | true =>
      obtain ⟨j, hj, rfl⟩ := q_hs_t hc (by decide)
      rcases q_sgn p1 with z | ⟨a, ha, rfl⟩
      · refine q_end2 false 1 (I := I) (J := J) ?_ ?_ hR
        · simp (disch := omega) only [ql_0, ql_1, ql_2, ql_3, ql_4, ql_5, ql_6, ql_7, ql_8, ql_9, ql_10, ql_11, ql_12, ql_13, ql_14, ql_15, ql_16, ql_17, ql_18, ql_19, ql_20, ql_21, ql_22, ql_23, ql_24, ql_27, ql_30, ql_31, ql_32, ql_40, ql_48, ql_51, ql_52, ql_57, ql_59, ql_60, ql_61, ql_62, ql_76, ql_84, ql_91, ql_97, ql_99, ql_100, ql_120, ql_122, ql_127, ql_128, ql_200, ql_255, ql_256, ql_300, ql_420, ql_428, ql_640, ql_900, ql_896, ql_999, ql_1712, ql_1716, ql_1734, ql_1772, ql_1800, ql_1805, ql_1811, ql_1822, ql_2132, ql_2140, ql_3229, ql_9999, ql_11453, ql_65536, ql_100000, ql_1000000, nI_add, pk_mul, q_and, q_or, q_xor, nI_clamp, q_in, q_neg1, q_nno, q_nno', q_annN, q_sh1, q_tbN, nI_leI, nI_ltI, nI_eq, pk_sub, ↓reduceIte, if_pos, if_neg, q_zlt, q_bs, z, f_X10_deny]
        · simp (disch := omega) only [ql_0, ql_1, ql_2, ql_3, ql_4, ql_5, ql_6, ql_7, ql_8, ql_9, ql_10, ql_11, ql_12, ql_13, ql_14, ql_15, ql_16, ql_17, ql_18, ql_19, ql_20, ql_21, ql_22, ql_23, ql_24, ql_27, ql_30, ql_31, ql_32, ql_40, ql_48, ql_51, ql_52, ql_57, ql_59, ql_60, ql_61, ql_62, ql_76, ql_84, ql_91, ql_97, ql_99, ql_100, ql_120, ql_122, ql_127, ql_128, ql_200, ql_255, ql_256, ql_300, ql_420, ql_428, ql_640, ql_900, ql_896, ql_999, ql_1712, ql_1716, ql_1734, ql_1772, ql_1800, ql_1805, ql_1811, ql_1822, ql_2132, ql_2140, ql_3229, ql_9999, ql_11453, ql_65536, ql_100000, ql_1000000, nI_add, pk_mul, q_and, q_or, q_xor, nI_clamp, q_in, q_neg1, q_nno, q_nno', q_annN, q_sh1, q_tbN, nI_leI, nI_ltI, nI_eq, pk_sub, ↓reduceIte, if_pos, if_neg, q_zlt, q_bs, z, f_X11_is]
      rcases q_sgn p3 with z | ⟨b, hb', rfl⟩
      · refine q_end2 false 1 (I := I) (J := J) ?_ ?_ hR
        · simp (disch := omega) only [ql_0, ql_1, ql_2, ql_3, ql_4, ql_5, ql_6, ql_7, ql_8, ql_9, ql_10, ql_11, ql_12, ql_13, ql_14, ql_15, ql_16, ql_17, ql_18, ql_19, ql_20, ql_21, ql_22, ql_23, ql_24, ql_27, ql_30, ql_31, ql_32, ql_40, ql_48, ql_51, ql_52, ql_57, ql_59, ql_60, ql_61, ql_62, ql_76, ql_84, ql_91, ql_97, ql_99, ql_100, ql_120, ql_122, ql_127, ql_128, ql_200, ql_255, ql_256, ql_300, ql_420, ql_428, ql_640, ql_900, ql_896, ql_999, ql_1712, ql_1716, ql_1734, ql_1772, ql_1800, ql_1805, ql_1811, ql_1822, ql_2132, ql_2140, ql_3229, ql_9999, ql_11453, ql_65536, ql_100000, ql_1000000, nI_add, pk_mul, q_and, q_or, q_xor, nI_clamp, q_in, q_neg1, q_nno, q_nno', q_annN, q_sh1, q_tbN, nI_leI, nI_ltI, nI_eq, pk_sub, ↓reduceIte, if_pos, if_neg, q_zlt, q_bs, z, f_X10_deny]
        · simp (disch := omega) only [ql_0, ql_1, ql_2, ql_3, ql_4, ql_5, ql_6, ql_7, ql_8, ql_9, ql_10, ql_11, ql_12, ql_13, ql_14, ql_15, ql_16, ql_17, ql_18, ql_19, ql_20, ql_21, ql_22, ql_23, ql_24, ql_27, ql_30, ql_31, ql_32, ql_40, ql_48, ql_51, ql_52, ql_57, ql_59, ql_60, ql_61, ql_62, ql_76, ql_84, ql_91, ql_97, ql_99, ql_100, ql_120, ql_122, ql_127, ql_128, ql_200, ql_255, ql_256, ql_300, ql_420, ql_428, ql_640, ql_900, ql_896, ql_999, ql_1712, ql_1716, ql_1734, ql_1772, ql_1800, ql_1805, ql_1811, ql_1822, ql_2132, ql_2140, ql_3229, ql_9999, ql_11453, ql_65536, ql_100000, ql_1000000, nI_add, pk_mul, q_and, q_or, q_xor, nI_clamp, q_in, q_neg1, q_nno, q_nno', q_annN, q_sh1, q_tbN, nI_leI, nI_ltI, nI_eq, pk_sub, ↓reduceIte, if_pos, if_neg, q_zlt, q_bs, z, f_X11_is]
      rcases q_sgn p4 with z | ⟨n, hn, rfl⟩
      · refine q_end2 false 1 (I := I) (J := J) ?_ ?_ hR
        · simp (disch := omega) only [ql_0, ql_1, ql_2, ql_3, ql_4, ql_5, ql_6, ql_7, ql_8, ql_9, ql_10, ql_11, ql_12, ql_13, ql_14, ql_15, ql_16, ql_17, ql_18, ql_19, ql_20, ql_21, ql_22, ql_23, ql_24, ql_27, ql_30, ql_31, ql_32, ql_40, ql_48, ql_51, ql_52, ql_57, ql_59, ql_60, ql_61, ql_62, ql_76, ql_84, ql_91, ql_97, ql_99, ql_100, ql_120, ql_122, ql_127, ql_128, ql_200, ql_255, ql_256, ql_300, ql_420, ql_428, ql_640, ql_900, ql_896, ql_999, ql_1712, ql_1716, ql_1734, ql_1772, ql_1800, ql_1805, ql_1811, ql_1822, ql_2132, ql_2140, ql_3229, ql_9999, ql_11453, ql_65536, ql_100000, ql_1000000, nI_add, pk_mul, q_and, q_or, q_xor, nI_clamp, q_in, q_neg1, q_nno, q_nno', q_annN, q_sh1, q_tbN, nI_leI, nI_ltI, nI_eq, pk_sub, ↓reduceIte, if_pos, if_neg, q_zlt, q_bs, q_ngL z, f_X10_deny]
        · simp (disch := omega) only [ql_0, ql_1, ql_2, ql_3, ql_4, ql_5, ql_6, ql_7, ql_8, ql_9, ql_10, ql_11, ql_12, ql_13, ql_14, ql_15, ql_16, ql_17, ql_18, ql_19, ql_20, ql_21, ql_22, ql_23, ql_24, ql_27, ql_30, ql_31, ql_32, ql_40, ql_48, ql_51, ql_52, ql_57, ql_59, ql_60, ql_61, ql_62, ql_76, ql_84, ql_91, ql_97, ql_99, ql_100, ql_120, ql_122, ql_127, ql_128, ql_200, ql_255, ql_256, ql_300, ql_420, ql_428, ql_640, ql_900, ql_896, ql_999, ql_1712, ql_1716, ql_1734, ql_1772, ql_1800, ql_1805, ql_1811, ql_1822, ql_2132, ql_2140, ql_3229, ql_9999, ql_11453, ql_65536, ql_100000, ql_1000000, nI_add, pk_mul, q_and, q_or, q_xor, nI_clamp, q_in, q_neg1, q_nno, q_nno', q_annN, q_sh1, q_tbN, nI_leI, nI_ltI, nI_eq, pk_sub, ↓reduceIte, if_pos, if_neg, q_zlt, q_bs, q_ngL z, f_X11_is]
      rcases hT i hi with ⟨a1, a2⟩ | ⟨a1, m, s, hm, hs, a2, a3, a4, a5, a6⟩
      · refine q_end2 false 2 (I := I) (J := J) ?_ ?_ hR
        · simp (disch := omega) only [ql_0, ql_1, ql_2, ql_3, ql_4, ql_5, ql_6, ql_7, ql_8, ql_9, ql_10, ql_11, ql_12, ql_13, ql_14, ql_15, ql_16, ql_17, ql_18, ql_19, ql_20, ql_21, ql_22, ql_23, ql_24, ql_27, ql_30, ql_31, ql_32, ql_40, ql_48, ql_51, ql_52, ql_57, ql_59, ql_60, ql_61, ql_62, ql_76, ql_84, ql_91, ql_97, ql_99, ql_100, ql_120, ql_122, ql_127, ql_128, ql_200, ql_255, ql_256, ql_300, ql_420, ql_428, ql_640, ql_900, ql_896, ql_999, ql_1712, ql_1716, ql_1734, ql_1772, ql_1800, ql_1805, ql_1811, ql_1822, ql_2132, ql_2140, ql_3229, ql_9999, ql_11453, ql_65536, ql_100000, ql_1000000, nI_add, pk_mul, q_and, q_or, q_xor, nI_clamp, q_in, q_neg1, q_nno, q_nno', q_annN, q_sh1, q_tbN, nI_leI, nI_ltI, nI_eq, pk_sub, ↓reduceIte, if_pos, if_neg, q_zlt, q_bs, q_gd, a1, f_X10_deny]
          rfl
        · simp (disch := omega) only [ql_0, ql_1, ql_2, ql_3, ql_4, ql_5, ql_6, ql_7, ql_8, ql_9, ql_10, ql_11, ql_12, ql_13, ql_14, ql_15, ql_16, ql_17, ql_18, ql_19, ql_20, ql_21, ql_22, ql_23, ql_24, ql_27, ql_30, ql_31, ql_32, ql_40, ql_48, ql_51, ql_52, ql_57, ql_59, ql_60, ql_61, ql_62, ql_76, ql_84, ql_91, ql_97, ql_99, ql_100, ql_120, ql_122, ql_127, ql_128, ql_200, ql_255, ql_256, ql_300, ql_420, ql_428, ql_640, ql_900, ql_896, ql_999, ql_1712, ql_1716, ql_1734, ql_1772, ql_1800, ql_1805, ql_1811, ql_1822, ql_2132, ql_2140, ql_3229, ql_9999, ql_11453, ql_65536, ql_100000, ql_1000000, nI_add, pk_mul, q_and, q_or, q_xor, nI_clamp, q_in, q_neg1, q_nno, q_nno', q_annN, q_sh1, q_tbN, nI_leI, nI_ltI, nI_eq, pk_sub, ↓reduceIte, if_pos, if_neg, q_zlt, q_bs, a2, f_X11_is]
      rcases hT j hj with ⟨b1, b2⟩ | ⟨b1, m', s', hm', hs', b2, b3, b4, b5, b6⟩
      · refine q_end2 false 2 (I := I) (J := J) ?_ ?_ hR
        · simp (disch := omega) only [q_in, nI_clamp, q_gd, a1, b1, q_znT, q_znF, ↓reduceIte, ql_0, nI_ltI, nI_leI, if_neg, if_pos, f_X10_deny, q_zlt, Bool.false_eq_true]
          rfl
        · simp (disch := omega) only [ql_0, ql_1, ql_2, ql_3, ql_4, ql_5, ql_6, ql_7, ql_8, ql_9, ql_10, ql_11, ql_12, ql_13, ql_14, ql_15, ql_16, ql_17, ql_18, ql_19, ql_20, ql_21, ql_22, ql_23, ql_24, ql_27, ql_30, ql_31, ql_32, ql_40, ql_48, ql_51, ql_52, ql_57, ql_59, ql_60, ql_61, ql_62, ql_76, ql_84, ql_91, ql_97, ql_99, ql_100, ql_120, ql_122, ql_127, ql_128, ql_200, ql_255, ql_256, ql_300, ql_420, ql_428, ql_640, ql_900, ql_896, ql_999, ql_1712, ql_1716, ql_1734, ql_1772, ql_1800, ql_1805, ql_1811, ql_1822, ql_2132, ql_2140, ql_3229, ql_9999, ql_11453, ql_65536, ql_100000, ql_1000000, nI_add, pk_mul, q_and, q_or, q_xor, nI_clamp, q_in, q_neg1, q_nno, q_nno', q_annN, q_sh1, q_tbN, nI_leI, nI_ltI, nI_eq, pk_sub, ↓reduceIte, if_pos, if_neg, q_zlt, q_bs, a3, b2, f_X11_is]
      by_cases es : s = s'
      · subst es
        obtain ⟨c1, c2⟩ := q_subR (m := m) (a := a) (n := n) hm ha hn
        obtain ⟨c3, c4⟩ := q_subR (m := m') (a := b) (n := n) hm' hb' hn
        by_cases g1 : a + n ≤ m
        · by_cases g2 : b + n ≤ m'
          · have hq := h.ty hj (I' := I) (J' := J) (L' := zr L (56 + 2 * j) (va_cpy (L (56 + 2 * i)) (L (56 + 2 * j)) a b n)) (K' := q_cpR K (60 * i + a) (60 * j + b) 0 n) (Or.inr ⟨b1, m', s, hm', hs', b2, b3, b4, b5, fun k hk => by
              rw [q_zrs, q_cpR_5]
              by_cases y : b ≤ k ∧ k < b + n
              · rw [pk_cpy_in y.1 y.2, if_pos (by omega), a6 _ (by omega)]
                congr 1; omega
              · rw [pk_cpy_out (by omega), if_neg (by omega), b6 k hk]⟩) (fun _ _ _ => rfl) (fun d k y => q_zro y) (fun _ _ _ => rfl) (fun d k y => by
              by_cases y5 : d = 5
              · subst y5; rw [q_cpR_5, if_neg (by omega)]
              · exact q_zro y5)
            refine q_end2 true 0 ?_ ?_ hq.r
            · simp (disch := omega) only [q_in, nI_clamp, q_gd, a1, b1, a4, b4, q_znT, ↓reduceIte, ql_0, nI_ltI, nI_leI, if_neg, if_pos, q_spans hm a2, q_spans hm' b2, g1, g2, decide_true, f_X10_grant, q_zlt]
              rw [show 55 + 2 * j + 1 = 56 + 2 * j by omega, show 55 + 2 * i + 1 = 56 + 2 * i by omega]
            · simp (disch := omega) only [q_in, nI_clamp, a3, b3, a5, b5, ↓reduceIte, ql_0, ql_1, q_neg1, q_nno, nI_ltI, nI_leI, if_neg, if_pos, c1, c4]
              rw [← ql_0]
              exact m_pour hi hj (by omega) (by omega)
          · refine q_end2 false 3 (I := I) (J := J) ?_ ?_ hR
            · simp (disch := omega) only [q_in, nI_clamp, q_gd, a1, b1, a4, b4, q_znT, ↓reduceIte, ql_0, nI_ltI, nI_leI, if_neg, if_pos, q_spans hm a2, q_spans hm' b2, g1, g2, decide_true, decide_false, Bool.false_eq_true, f_X10_deny, q_zlt]
            · simp (disch := omega) only [q_in, nI_clamp, a3, b3, a5, b5, ↓reduceIte, ql_0, ql_1, ql_3, q_neg1, q_nno, nI_ltI, nI_leI, nI_eq, if_neg, if_pos, c1, c4, f_X11_is, q_zlt]
        · refine q_end2 false 3 (I := I) (J := J) ?_ ?_ hR
          · simp (disch := omega) only [q_in, nI_clamp, q_gd, a1, b1, a4, b4, q_znT, ↓reduceIte, ql_0, nI_ltI, nI_leI, if_neg, if_pos, q_spans hm a2, g1, decide_false, Bool.false_eq_true, f_X10_deny, q_zlt]
          · simp (disch := omega) only [q_in, nI_clamp, a3, b3, a5, b5, ↓reduceIte, ql_0, ql_1, ql_3, q_neg1, q_nno, nI_ltI, nI_leI, nI_eq, if_neg, if_pos, c1, f_X11_is, q_zlt]
      · refine q_end2 false 8 (I := I) (J := J) ?_ ?_ hR
        · simp (disch := omega) only [q_in, nI_clamp, q_gd, a1, b1, a4, b4, q_znT, ↓reduceIte, ql_0, ql_8, nI_ltI, nI_leI, nI_eq, if_neg, if_pos, f_X10_deny, q_zlt]
        · simp (disch := omega) only [q_in, nI_clamp, a3, b3, a5, b5, ↓reduceIte, ql_0, ql_1, ql_8, q_neg1, q_nno, nI_ltI, nI_leI, nI_eq, if_neg, if_pos, f_X11_is, q_zlt]
/-! copyBeds -/
theorem r_copyBeds : s_copyBeds q_R := by
  intro I L J K p0 hR
  obtain ⟨C, T, mk, h⟩ := id hR
  obtain ⟨hx, hm, ok, -⟩ := h.o
  obtain ⟨o0, o1, o2, o3, -⟩ := id ok
  have hT := h.2.2.2.2.1
  unfold f_X10_copyBeds f_X11_copyBeds
  rw [q_trX, q_trM]
  cases hb : q_hs 4 p0 with
  | false => exact q_end2 (-1) 1 rfl rfl hR
  | true =>
    obtain ⟨i, hi, rfl⟩ := q_hs_t hb (by decide)
    rcases hT i hi with ⟨a1, a2⟩ | ⟨a1, m, s, hm', hs, a2, a3, a4, a5, a6⟩
    · refine q_end2 (-1) 2 (I := I) (J := J) ?_ ?_ hR
      · simp (disch := omega) only [q_in, nI_clamp, q_gd, a1, q_znF, ↓reduceIte, f_X10_refuse, q_zlt, Bool.false_eq_true]
      · simp (disch := omega) only [q_in, nI_clamp, a2, ↓reduceIte, f_X11_refuse, q_zlt]
    · by_cases g : C 0 0 0 ≤ m
      · -- both loops, side by side
        have key : ∀ n k L' K', C 0 0 0 - k < n → k ≤ C 0 0 0 → q_tp i m s I L' J K' → (∀ d j, d ≠ 56 + 2 * i → L' d j = L d j) → (∀ d j, d ≠ 5 ∨ j < 60 * i ∨ 60 * i + 60 ≤ j → K' d j = K d j) → ∃ L2 K2, g_X10_copyBeds_59 (nI i) I n (nI k) L' = some (nI (C 0 0 0), z2 I 0 15 0, L2) ∧ g_X11_copyBeds_52 (nI i) J n (nI k) K' = some (nI (C 0 0 0), z2 J 0 2 0, K2) ∧ q_R I L2 J K2 := by
          intro n
          induction n with
          | zero => intro k L' K' h1; omega
          | succ n ih =>
            intro k L' K' h1 h2 ht fL fK
            by_cases hk : k = C 0 0 0
            · refine ⟨L', K', ?_, ?_, ?_⟩
              · subst hk
                simp (disch := omega) only [g_X10_copyBeds_59, hx.f.1, ql_0, ql_1, ql_2, ql_3, ql_4, ql_5, ql_6, ql_7, ql_8, ql_9, ql_10, ql_11, ql_12, ql_13, ql_14, ql_15, ql_16, ql_17, ql_18, ql_19, ql_20, ql_21, ql_22, ql_23, ql_24, ql_27, ql_30, ql_31, ql_32, ql_40, ql_48, ql_51, ql_52, ql_57, ql_59, ql_60, ql_61, ql_62, ql_76, ql_84, ql_91, ql_97, ql_99, ql_100, ql_120, ql_122, ql_127, ql_128, ql_200, ql_255, ql_256, ql_300, ql_420, ql_428, ql_640, ql_900, ql_896, ql_999, ql_1712, ql_1716, ql_1734, ql_1772, ql_1800, ql_1805, ql_1811, ql_1822, ql_2132, ql_2140, ql_3229, ql_9999, ql_11453, ql_65536, ql_100000, ql_1000000, nI_add, pk_mul, q_and, q_or, q_xor, nI_clamp, q_in, q_neg1, q_nno, q_nno', q_annN, q_sh1, q_tbN, nI_leI, nI_ltI, nI_eq, pk_sub, ↓reduceIte, if_pos, if_neg, q_zlt, q_bs, f_X10_give]
              · subst hk
                simp (disch := omega) only [g_X11_copyBeds_52, hm.f.1, ql_0, ql_1, ql_2, ql_3, ql_4, ql_5, ql_6, ql_7, ql_8, ql_9, ql_10, ql_11, ql_12, ql_13, ql_14, ql_15, ql_16, ql_17, ql_18, ql_19, ql_20, ql_21, ql_22, ql_23, ql_24, ql_27, ql_30, ql_31, ql_32, ql_40, ql_48, ql_51, ql_52, ql_57, ql_59, ql_60, ql_61, ql_62, ql_76, ql_84, ql_91, ql_97, ql_99, ql_100, ql_120, ql_122, ql_127, ql_128, ql_200, ql_255, ql_256, ql_300, ql_420, ql_428, ql_640, ql_900, ql_896, ql_999, ql_1712, ql_1716, ql_1734, ql_1772, ql_1800, ql_1805, ql_1811, ql_1822, ql_2132, ql_2140, ql_3229, ql_9999, ql_11453, ql_65536, ql_100000, ql_1000000, nI_add, pk_mul, q_and, q_or, q_xor, nI_clamp, q_in, q_neg1, q_nno, q_nno', q_annN, q_sh1, q_tbN, nI_leI, nI_ltI, nI_eq, pk_sub, ↓reduceIte, if_pos, if_neg, q_zlt, q_bs, f_X11_gives]
              · exact (h.ty hi ht.ty (fun _ _ _ => rfl) fL (fun _ _ _ => rfl) fK).r
            · have hk' : k < C 0 0 0 := by omega
              have b1 : I 4 k = nI (C 0 1 k) := hx.a1 hk'
              have b2 := hm.a1 hk'
              obtain ⟨L2, K2, e1, e2, e3⟩ := ih (k + 1) (z2 L' (56 + 2 * i) k (f_X11_cut (nI (C 0 1 k)).toInt64 (nI s))) (z2 K' 5 (60 * i + k) (f_X11_cut (nI (C 0 1 k)).toInt64 (nI s))) (by omega) (by omega) (ht.put _ (by omega)) (fun d j z => by rw [q_zo (by omega)]; exact fL d j z) (fun d j z => by rw [q_zo (by omega)]; exact fK d j z)
              refine ⟨L2, K2, ?_, ?_, e3⟩
              · rw [← e1]
                simp (disch := omega) only [g_X10_copyBeds_59, hx.f.1, b1, q_gd, x8_put hs a4, ql_0, ql_1, ql_2, ql_3, ql_4, ql_5, ql_6, ql_7, ql_8, ql_9, ql_10, ql_11, ql_12, ql_13, ql_14, ql_15, ql_16, ql_17, ql_18, ql_19, ql_20, ql_21, ql_22, ql_23, ql_24, ql_27, ql_30, ql_31, ql_32, ql_40, ql_48, ql_51, ql_52, ql_57, ql_59, ql_60, ql_61, ql_62, ql_76, ql_84, ql_91, ql_97, ql_99, ql_100, ql_120, ql_122, ql_127, ql_128, ql_200, ql_255, ql_256, ql_300, ql_420, ql_428, ql_640, ql_900, ql_896, ql_999, ql_1712, ql_1716, ql_1734, ql_1772, ql_1800, ql_1805, ql_1811, ql_1822, ql_2132, ql_2140, ql_3229, ql_9999, ql_11453, ql_65536, ql_100000, ql_1000000, nI_add, pk_mul, q_and, q_or, q_xor, nI_clamp, q_in, q_neg1, q_nno, q_nno', q_annN, q_sh1, q_tbN, nI_leI, nI_ltI, nI_eq, pk_sub, ↓reduceIte, if_pos, if_neg, q_zlt, q_bs]
                rw [show 55 + 2 * i + 1 = 56 + 2 * i by omega]
              · rw [← e2]
                simp (disch := omega) only [g_X11_copyBeds_52, f_X11_bedRow, hm.f.1, b2, a5, ql_0, ql_1, ql_2, ql_3, ql_4, ql_5, ql_6, ql_7, ql_8, ql_9, ql_10, ql_11, ql_12, ql_13, ql_14, ql_15, ql_16, ql_17, ql_18, ql_19, ql_20, ql_21, ql_22, ql_23, ql_24, ql_27, ql_30, ql_31, ql_32, ql_40, ql_48, ql_51, ql_52, ql_57, ql_59, ql_60, ql_61, ql_62, ql_76, ql_84, ql_91, ql_97, ql_99, ql_100, ql_120, ql_122, ql_127, ql_128, ql_200, ql_255, ql_256, ql_300, ql_420, ql_428, ql_640, ql_900, ql_896, ql_999, ql_1712, ql_1716, ql_1734, ql_1772, ql_1800, ql_1805, ql_1811, ql_1822, ql_2132, ql_2140, ql_3229, ql_9999, ql_11453, ql_65536, ql_100000, ql_1000000, nI_add, pk_mul, q_and, q_or, q_xor, nI_clamp, q_in, q_neg1, q_nno, q_nno', q_annN, q_sh1, q_tbN, nI_leI, nI_ltI, nI_eq, pk_sub, ↓reduceIte, if_pos, if_neg, q_zlt, q_bs]
        obtain ⟨L2, K2, e1, e2, e3⟩ := key z_fuel 0 L K (q_fu (by omega)) (Nat.zero_le _) ⟨a1, hm', hs, a2, a3, a4, a5, a6⟩ (fun _ _ _ => rfl) (fun _ _ _ => rfl)
        refine q_end2 (nI (C 0 0 0)) 0 ?_ ?_ e3
        · simp (disch := omega) only [q_in, nI_clamp, q_gd, a1, q_znT, ↓reduceIte, ql_0, hx.f.1, q_spans hm' a2, Nat.zero_add, g, decide_true]
          exact e1
        · simp (disch := omega) only [q_in, nI_clamp, a3, ↓reduceIte, ql_0, ql_1, q_neg1, q_nno, hm.f.1, nI_leI, if_pos]
          exact e2
      · refine q_end2 (-1) 3 (I := I) (J := J) ?_ ?_ hR
        · simp (disch := omega) only [q_in, nI_clamp, q_gd, a1, q_znT, ↓reduceIte, ql_0, hx.f.1, q_spans hm' a2, Nat.zero_add, g, decide_false, Bool.false_eq_true, f_X10_refuse, q_zlt]
        · simp (disch := omega) only [q_in, nI_clamp, a3, ↓reduceIte, ql_0, ql_1, ql_3, q_neg1, q_nno, hm.f.1, nI_leI, if_neg, f_X11_refuse, q_zlt]
/-! feed -/
theorem q_su : ∀ n, n < 32 → (((nI n).toUInt32 &&& Int32.toUInt32 31).toBitVec % 32).toNat = n := by decide +kernel
theorem q_byt (v : Int32) {s : Nat} (hs : s < 25) : ((v.toUInt32 >>> ((nI s).toUInt32 &&& Int32.toUInt32 31)).toInt32).toInt8 = (v >>> (nI s &&& 31)).toInt8 := by
  apply Int8.toBitVec_inj.1
  apply BitVec.eq_of_getLsbD_eq
  intro i hi
  have e1 : ((v.toUInt32 >>> ((nI s).toUInt32 &&& Int32.toUInt32 31)).toInt32).toBitVec.getLsbD i = v.toBitVec.getLsbD (s + i) := by
    show (v.toUInt32 >>> ((nI s).toUInt32 &&& Int32.toUInt32 31)).toBitVec.getLsbD i = v.toUInt32.toBitVec.getLsbD (s + i)
    rw [UInt32.toBitVec_shiftRight]
    show (v.toUInt32.toBitVec >>> (((nI s).toUInt32 &&& Int32.toUInt32 31).toBitVec % 32).toNat).getLsbD i = _
    rw [q_su s (by omega), BitVec.getLsbD_ushiftRight]
  have e2 : (v >>> (nI s &&& 31)).toBitVec.getLsbD i = v.toBitVec.getLsbD (s + i) := by
    rw [Int32.toBitVec_shiftRight]
    show (v.toBitVec.sshiftRight ((nI s &&& 31).toBitVec.smod 32).toNat).getLsbD i = _
    rw [q_sl s (by omega), BitVec.getLsbD_sshiftRight]
    simp [show i < 32 by omega, show s + i < 32 by omega]
  rw [Int32.toBitVec_toInt8, Int32.toBitVec_toInt8, BitVec.getLsbD_signExtend, BitVec.getLsbD_signExtend, if_pos (by omega), if_pos (by omega), e1, e2]
theorem q_Q.byte {C T : Nat → q_N} {mk : Nat} {I : z_I} {L : z_L} {J : z_I} {K : z_L} (h : q_Q C T mk I L J K) {t : Nat} (ht : t < 900) (h0 : I 0 18 = nI t) (x : Int32) (hx : x.toInt8.toInt32 = x) : J 0 10 = nI t ∧ q_Q C T mk (z2 (z2 I 2 t x) 0 18 (nI (t + 1))) L (z2 (z2 J 6 t x) 0 10 (nI (t + 1))) K := by
  obtain ⟨⟨h1, h2, h3, h4, h5⟩, h6, h7, h8, h10, h11, h12, h13⟩ := h
  obtain ⟨t', k1, k2, k3, k4⟩ := h7
  rw [h0, nI_eq (by omega) (by omega)] at k2
  subst k2
  refine ⟨k3, ?_⟩
  have fI : ∀ d k, (d ≠ 0 ∨ k ≠ 18) → (d ≠ 2 ∨ k ≠ t) → z2 (z2 I 2 t x) 0 18 (nI (t + 1)) d k = I d k := fun d k z y => by rw [q_zo z, q_zo y]
  have fJ : ∀ d k, (d ≠ 0 ∨ k ≠ 10) → (d ≠ 6 ∨ k ≠ t) → z2 (z2 J 6 t x) 0 10 (nI (t + 1)) d k = J d k := fun d k z y => by rw [q_zo z, q_zo y]
  refine ⟨⟨h1, ?_, ?_, ?_, ?_⟩, ?_, ?_, h8, ?_, ?_, h12, ?_⟩
  · rw [fI _ _ (by omega) (by omega), h2]
  · rw [fJ _ _ (by omega) (by omega), h3]
  · rw [fI _ _ (by omega) (by omega), fJ _ _ (by omega) (by omega), h4]
  · rw [fI _ _ (by omega) (by omega), fJ _ _ (by omega) (by omega), h5]
  · rw [fI _ _ (by omega) (by omega), fJ _ _ (by omega) (by omega), h6]
  · refine ⟨t + 1, by omega, q_zs, q_zs, fun k hk => ?_⟩
    by_cases z : k = t
    · subst z
      rw [q_zo (f := z2 I 2 k x) (by omega), q_zo (f := z2 J 6 k x) (by omega), q_zs, q_zs]
      exact ⟨rfl, hx⟩
    · rw [fI _ _ (by omega) (by omega), fJ _ _ (by omega) (by omega)]
      exact k4 k (by omega)
  · exact fun i hi => (h10 i hi).go (fun k => fI _ _ (by omega) (by omega)) (fun k => rfl) (fJ _ _ (by omega) (by omega)) (fJ _ _ (by omega) (by omega)) (fun k _ => rfl)
  · exact h11.go (fI _ _ (by omega) (by omega)) (fun k => fI _ _ (by omega) (by omega)) (fJ _ _ (by omega) (by omega)) (fun k => fJ _ _ (by omega) (by omega))
  · intro i hi
    have hb := q_cc_b (i := i) (by omega)
    exact (h13 i hi).go (fun e k a b => fI _ _ (by omega) (by omega)) (fun e k a b => rfl) (fun e k a b => fI _ _ (by omega) (by omega)) (fun k a b => fJ _ _ (by omega) (by omega)) (fun k a b => rfl)
theorem q_tape1 {C T : Nat → q_N} {mk : Nat} {I : z_I} {L : z_L} {J : z_I} {K : z_L} (h : q_Q C T mk I L J K) {t : Nat} (ht : t < 900) (h0 : I 0 18 = nI t) (p : Int32) {s : Nat} (hs : s < 25) (n : Nat) : ∃ I' J', g_X10_putOnTape_3 p (n + 1) (nI s) I = g_X10_putOnTape_3 p n (nI s + (-8)) I' ∧ g_X11_four_3 p (n + 1) (nI s) J = g_X11_four_3 p n (nI s + (-8)) J' ∧ q_Q C T mk I' L J' K ∧ I' 0 18 = nI (t + 1) := by
  obtain ⟨j0, hq⟩ := h.byte ht h0 ((p >>> (nI s &&& 31)).toInt8.toInt32) (by rw [Int8.toInt8_toInt32])
  refine ⟨_, _, ?_, ?_, hq, q_zs⟩
  · rw [g_X10_putOnTape_3, if_neg (nI_pos (by omega)), h0, q_in ht (by decide), if_pos rfl, q_zlt, q_zlt, pk_vb, q_byt p hs, nI_clamp (by omega), nI_1]
  · rw [g_X11_four_3, if_neg (nI_pos (by omega)), j0, q_in ht (by decide), if_pos rfl, q_zlt, q_zlt, pk_vb, nI_clamp (by omega), nI_1]
theorem q_tape {C T : Nat → q_N} {mk : Nat} {I : z_I} {L : z_L} {J : z_I} {K : z_L} (h : q_Q C T mk I L J K) {t : Nat} (ht : t + 4 ≤ 900) (h0 : I 0 18 = nI t) (p : Int32) : ∃ I' J', f_X10_putOnTape I p = some I' ∧ f_X11_four J p = some J' ∧ q_Q C T mk I' L J' K ∧ I' 0 18 = nI (t + 4) := by
  have e : z_fuel = 999995 + 1 + 1 + 1 + 1 + 1 := rfl
  obtain ⟨I1, J1, a1, b1, c1, d1⟩ := q_tape1 h (by omega) h0 p (s := 24) (by omega) (999995 + 1 + 1 + 1 + 1)
  obtain ⟨I2, J2, a2, b2, c2, d2⟩ := q_tape1 c1 (by omega) d1 p (s := 16) (by omega) (999995 + 1 + 1 + 1)
  obtain ⟨I3, J3, a3, b3, c3, d3⟩ := q_tape1 c2 (by omega) d2 p (s := 8) (by omega) (999995 + 1 + 1)
  obtain ⟨I4, J4, a4, b4, c4, d4⟩ := q_tape1 c3 (by omega) d3 p (s := 0) (by omega) (999995 + 1)
  have e1 : nI 24 + (-8) = nI 16 := by decide
  have e2 : nI 16 + (-8) = nI 8 := by decide
  have e3 : nI 8 + (-8) = nI 0 := by decide
  have e4 : nI 0 + (-8) < 0 := by decide
  refine ⟨I4, J4, ?_, ?_, c4, d4⟩
  · unfold f_X10_putOnTape
    rw [e, ql_24, a1, e1, a2, e2, a3, e3, a4, g_X10_putOnTape_3, if_pos e4]
  · unfold f_X11_four
    rw [e, ql_24, b1, e1, b2, e2, b3, e3, b4, g_X11_four_3, if_pos e4]
theorem r_feed : s_feed q_R := by
  intro I L J K p0 p1 p2 p3 p4 hR
  obtain ⟨C, T, mk, h⟩ := id hR
  obtain ⟨t, k1, k2, k3, k4⟩ := h.2.2.1
  by_cases ht : t + 20 ≤ 900
  · obtain ⟨I1, J1, a1, b1, c1, d1⟩ := q_tape h (by omega) k2 p0
    obtain ⟨I2, J2, a2, b2, c2, d2⟩ := q_tape c1 (by omega) d1 p1
    obtain ⟨I3, J3, a3, b3, c3, d3⟩ := q_tape c2 (by omega) d2 p2
    obtain ⟨I4, J4, a4, b4, c4, d4⟩ := q_tape c3 (by omega) d3 p3
    obtain ⟨I5, J5, a5, b5, c5, d5⟩ := q_tape c4 (by omega) d4 p4
    obtain ⟨u, u1, u2, u3, u4⟩ := c5.2.2.1
    refine ⟨(I5 0 18, I5), (J5 0 10, J5), ?_, ?_, by rw [u2, u3], c5.r⟩
    · simp (disch := omega) only [f_X10_feed, k2, ql_0, ql_1, ql_2, ql_3, ql_4, ql_5, ql_6, ql_7, ql_8, ql_9, ql_10, ql_11, ql_12, ql_13, ql_14, ql_15, ql_16, ql_17, ql_18, ql_19, ql_20, ql_21, ql_22, ql_23, ql_24, ql_27, ql_30, ql_31, ql_32, ql_40, ql_48, ql_51, ql_52, ql_57, ql_59, ql_60, ql_61, ql_62, ql_76, ql_84, ql_91, ql_97, ql_99, ql_100, ql_120, ql_122, ql_127, ql_128, ql_200, ql_255, ql_256, ql_300, ql_420, ql_428, ql_640, ql_900, ql_896, ql_999, ql_1712, ql_1716, ql_1734, ql_1772, ql_1800, ql_1805, ql_1811, ql_1822, ql_2132, ql_2140, ql_3229, ql_9999, ql_11453, ql_65536, ql_100000, ql_1000000, nI_add, pk_mul, q_and, q_or, q_xor, nI_clamp, q_in, q_neg1, q_nno, q_nno', q_annN, q_sh1, q_tbN, nI_leI, nI_ltI, nI_eq, pk_sub, ↓reduceIte, if_pos, if_neg, q_zlt, q_bs, a1, a2, a3, a4, a5]
    · simp (disch := omega) only [f_X11_feed, k3, ql_0, ql_1, ql_2, ql_3, ql_4, ql_5, ql_6, ql_7, ql_8, ql_9, ql_10, ql_11, ql_12, ql_13, ql_14, ql_15, ql_16, ql_17, ql_18, ql_19, ql_20, ql_21, ql_22, ql_23, ql_24, ql_27, ql_30, ql_31, ql_32, ql_40, ql_48, ql_51, ql_52, ql_57, ql_59, ql_60, ql_61, ql_62, ql_76, ql_84, ql_91, ql_97, ql_99, ql_100, ql_120, ql_122, ql_127, ql_128, ql_200, ql_255, ql_256, ql_300, ql_420, ql_428, ql_640, ql_900, ql_896, ql_999, ql_1712, ql_1716, ql_1734, ql_1772, ql_1800, ql_1805, ql_1811, ql_1822, ql_2132, ql_2140, ql_3229, ql_9999, ql_11453, ql_65536, ql_100000, ql_1000000, nI_add, pk_mul, q_and, q_or, q_xor, nI_clamp, q_in, q_neg1, q_nno, q_nno', q_annN, q_sh1, q_tbN, nI_leI, nI_ltI, nI_eq, pk_sub, ↓reduceIte, if_pos, if_neg, q_zlt, q_bs, b1, b2, b3, b4, b5]
  · refine ⟨(-1, I), (-1, J), ?_, ?_, rfl, hR⟩
    · simp (disch := omega) only [f_X10_feed, k2, ql_0, ql_1, ql_2, ql_3, ql_4, ql_5, ql_6, ql_7, ql_8, ql_9, ql_10, ql_11, ql_12, ql_13, ql_14, ql_15, ql_16, ql_17, ql_18, ql_19, ql_20, ql_21, ql_22, ql_23, ql_24, ql_27, ql_30, ql_31, ql_32, ql_40, ql_48, ql_51, ql_52, ql_57, ql_59, ql_60, ql_61, ql_62, ql_76, ql_84, ql_91, ql_97, ql_99, ql_100, ql_120, ql_122, ql_127, ql_128, ql_200, ql_255, ql_256, ql_300, ql_420, ql_428, ql_640, ql_900, ql_896, ql_999, ql_1712, ql_1716, ql_1734, ql_1772, ql_1800, ql_1805, ql_1811, ql_1822, ql_2132, ql_2140, ql_3229, ql_9999, ql_11453, ql_65536, ql_100000, ql_1000000, nI_add, pk_mul, q_and, q_or, q_xor, nI_clamp, q_in, q_neg1, q_nno, q_nno', q_annN, q_sh1, q_tbN, nI_leI, nI_ltI, nI_eq, pk_sub, ↓reduceIte, if_pos, if_neg, q_zlt, q_bs]
    · simp (disch := omega) only [f_X11_feed, k3, ql_0, ql_1, ql_2, ql_3, ql_4, ql_5, ql_6, ql_7, ql_8, ql_9, ql_10, ql_11, ql_12, ql_13, ql_14, ql_15, ql_16, ql_17, ql_18, ql_19, ql_20, ql_21, ql_22, ql_23, ql_24, ql_27, ql_30, ql_31, ql_32, ql_40, ql_48, ql_51, ql_52, ql_57, ql_59, ql_60, ql_61, ql_62, ql_76, ql_84, ql_91, ql_97, ql_99, ql_100, ql_120, ql_122, ql_127, ql_128, ql_200, ql_255, ql_256, ql_300, ql_420, ql_428, ql_640, ql_900, ql_896, ql_999, ql_1712, ql_1716, ql_1734, ql_1772, ql_1800, ql_1805, ql_1811, ql_1822, ql_2132, ql_2140, ql_3229, ql_9999, ql_11453, ql_65536, ql_100000, ql_1000000, nI_add, pk_mul, q_and, q_or, q_xor, nI_clamp, q_in, q_neg1, q_nno, q_nno', q_annN, q_sh1, q_tbN, nI_leI, nI_ltI, nI_eq, pk_sub, ↓reduceIte, if_pos, if_neg, q_zlt, q_bs]
