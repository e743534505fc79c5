/-! fractions -/
theorem q_gcd0 (a : Nat) : Nat.gcd a 0 = a := Nat.gcd_zero_right a
theorem q_gcds {a b : Nat} : Nat.gcd b (a % b) = Nat.gcd a b := by
  rw [Nat.gcd_comm b (a % b), ← Nat.gcd_rec, Nat.gcd_comm]
theorem q_l00 : lN 0 = (0 : Int64) := rfl
theorem q_lne {b : Nat} (h0 : 0 < b) (hb : b < 2 ^ 63) : ¬ (lN b = (0 : Int64)) := by
  rw [show (0 : Int64) = lN 0 from rfl, pk_lEQ hb (by decide)]; omega
theorem x3_cd1 {a b i n : Nat} (ha : a < 2 ^ 63) (h0 : 0 < b) (hb : b < 2 ^ 63) (hi : i < 200) : g_X3_commonDivisor_9 (n + 1) (lN a) (lN b) (nI i) = g_X3_commonDivisor_9 n (lN b) (lN (a % b)) (nI (i + 1)) := by
  rw [g_X3_commonDivisor_9, ql_200, if_neg (nI_ge hi (by decide)), if_neg (q_lne h0 hb), if_pos (q_lne h0 hb), pk_lRem ha h0 hb, nI_1]
theorem x3_cd0 {a i n : Nat} (hi : i ≤ 200) : g_X3_commonDivisor_9 (n + 1) (lN a) (lN 0) (nI i) = some (lN a) := by
  rw [g_X3_commonDivisor_9]
  by_cases z : i = 200
  · rw [if_pos (by rw [z]; decide)]
  · rw [if_neg (by rw [ql_200]; exact nI_ge (by omega) (by decide)), if_pos q_l00]
theorem q_half {a b : Nat} (h : 0 < a % b) (m : Nat) (hb : b < 2 ^ (m + 1)) : b % (a % b) < 2 ^ m := by
  by_cases hz : b = 0
  · subst hz; rw [Nat.zero_mod]; exact Nat.two_pow_pos m
  have hb0 : 0 < b := by omega
  have h1 : b % (a % b) < a % b := Nat.mod_lt _ h
  have h2 : a % b < b := Nat.mod_lt _ hb0
  have h3 : b = (a % b) * (b / (a % b)) + b % (a % b) := (Nat.div_add_mod b (a % b)).symm
  have h4 : 1 ≤ b / (a % b) := Nat.div_pos (by omega) h
  have h5 : (a % b) * 1 ≤ (a % b) * (b / (a % b)) := Nat.mul_le_mul_left _ h4
  rw [Nat.pow_succ] at hb
  omega
theorem x3_cd {m : Nat} : ∀ (a b i n : Nat), a < 2 ^ 63 → b < 2 ^ m → m ≤ 63 → i + 2 * m ≤ 199 → 2 * m < n → g_X3_commonDivisor_9 n (lN a) (lN b) (nI i) = some (lN (Nat.gcd a b)) := by
  induction m with
  | zero =>
    intro a b i n ha hb hm hi hn
    have : b = 0 := by omega
    subst this
    cases n with
    | zero => omega
    | succ n => rw [x3_cd0 (by omega), q_gcd0]
  | succ m ih =>
    intro a b i n ha hb hm hi hn
    have hb63 : b < 2 ^ 63 := Nat.lt_of_lt_of_le hb (Nat.pow_le_pow_right (by decide) hm)
    cases n with
    | zero => omega
    | succ n =>
      by_cases z : b = 0
      · subst z; rw [x3_cd0 (by omega), q_gcd0]
      · have h0 : 0 < b := by omega
        have hr : a % b < b := Nat.mod_lt _ h0
        rw [x3_cd1 ha h0 hb63 (by omega), ← q_gcds]
        cases n with
        | zero => omega
        | succ n =>
          by_cases y : a % b = 0
          · rw [y, x3_cd0 (by omega), q_gcd0]
          · have hy : 0 < a % b := by omega
            rw [x3_cd1 hb63 hy (by omega) (by omega), ← q_gcds]
            exact ih (a % b) (b % (a % b)) (i + 1 + 1) n (by omega) (q_half hy m hb) (by omega) (by omega) (by omega)
theorem m_tb {J : z_I} {K : z_L} {p d : Int64} {k31 : Int64 → Option (Bool × z_I × z_L)} {m : Nat} : ∀ (a b n : Nat), a < 2 ^ 63 → b < 2 ^ m → m ≤ 63 → 2 * m < n → g_X11_tellsBy_6 p d J K k31 n (lN a) (lN b) = k31 (lN (Nat.gcd a b)) := by
  induction m with
  | zero =>
    intro a b n ha hb hm hn
    have : b = 0 := by omega
    subst this
    cases n with
    | zero => omega
    | succ n => rw [g_X11_tellsBy_6, if_pos q_l00, q_gcd0]
  | succ m ih =>
    intro a b n ha hb hm hn
    have hb63 : b < 2 ^ 63 := Nat.lt_of_lt_of_le hb (Nat.pow_le_pow_right (by decide) hm)
    cases n with
    | zero => omega
    | succ n =>
      by_cases z : b = 0
      · subst z; rw [g_X11_tellsBy_6, if_pos q_l00, q_gcd0]
      · have h0 : 0 < b := by omega
        have hr : a % b < b := Nat.mod_lt _ h0
        rw [g_X11_tellsBy_6, if_neg (q_lne h0 hb63), if_pos (q_lne h0 hb63), pk_lRem ha h0 hb63, ← q_gcds]
        cases n with
        | zero => omega
        | succ n =>
          by_cases y : a % b = 0
          · rw [y, g_X11_tellsBy_6, if_pos q_l00, q_gcd0]
          · have hy : 0 < a % b := by omega
            rw [g_X11_tellsBy_6, if_neg (q_lne hy (by omega)), if_pos (q_lne hy (by omega)), pk_lRem hb63 hy (by omega), ← q_gcds]
            exact ih (a % b) (b % (a % b)) n (by omega) (q_half hy m hb) (by omega) (by omega)
theorem q_gp {a b : Nat} (h : 0 < b) : 0 < Nat.gcd a b ∧ Nat.gcd a b ≤ b := ⟨Nat.gcd_pos_of_pos_right a h, Nat.gcd_le_right a h⟩
theorem x3_tell (L : z_L) {a b : Nat} (ha : a < 2 ^ 63) (h0 : 0 < b) (hb : b < 2 ^ 63) : f_X3_tell L (lN a) (lN b) = some (z2 (z2 L 54 0 (lN (a / Nat.gcd a b))) 54 1 (lN (b / Nat.gcd a b))) := by
  obtain ⟨g0, g1⟩ := q_gp (a := a) h0
  have hg : Nat.gcd a b < 2 ^ 63 := by omega
  have hle : ¬ (lN (Nat.gcd a b) ≤ (0 : Int64)) := by
    rw [show (0 : Int64) = lN 0 from rfl, pk_lLE hg (by decide)]; omega
  unfold f_X3_tell f_X3_commonDivisor
  rw [ql_0, x3_cd (m := 63) a b 0 z_fuel ha hb (by omega) (by omega) (q_fu (by omega)), q_bs, if_neg hle, if_pos (q_lne g0 hg), q_zlt, if_pos (q_lne g0 hg), q_zlt, pk_lDiv ha g0 hg, pk_lDiv hb g0 hg]
theorem m_tells (J : z_I) (K : z_L) {a b : Nat} (ha : a < 2 ^ 63) (h0 : 0 < b) (hb : b < 2 ^ 63) : f_X11_tellsBy J K (lN a) (lN b) = some (true, z2 J 0 2 0, z2 (z2 K 0 3 (lN (a / Nat.gcd a b))) 0 4 (lN (b / Nat.gcd a b))) := by
  obtain ⟨g0, g1⟩ := q_gp (a := a) h0
  have hg : Nat.gcd a b < 2 ^ 63 := by omega
  unfold f_X11_tellsBy
  rw [m_tb (m := 63) a b z_fuel ha hb (by omega) (q_fu (by omega)), if_pos (q_lne g0 hg), q_zlt, if_pos (q_lne g0 hg), q_zlt, pk_lDiv ha g0 hg, pk_lDiv hb g0 hg]
  rfl
theorem q_Q.frac {C T : Nat → q_N} {mk : Nat} {I : z_I} {L : z_L} {J : z_I} {K : z_L} (h : q_Q C T mk I L J K) (x y : Int64) : q_Q C T mk I (z2 (z2 L 54 0 x) 54 1 y) J (z2 (z2 K 0 3 x) 0 4 y) := by
  obtain ⟨h1, h6, h7, h8, h10, h11, h12, h13⟩ := h
  have fL : ∀ d k, d ≠ 54 → z2 (z2 L 54 0 x) 54 1 y d k = L d k := fun d k z => by rw [q_zo (by omega), q_zo (by omega)]
  have fK : ∀ d k, d ≠ 0 → z2 (z2 K 0 3 x) 0 4 y d k = K d k := fun d k z => by rw [q_zo (by omega), q_zo (by omega)]
  refine ⟨h1, h6, h7, ⟨by rw [q_zo (a := 54) (b := 1) (by omega), q_zs, q_zo (a := 0) (b := 4) (by omega), q_zs], by rw [q_zs, q_zs]⟩, ?_, h11, ?_, ?_⟩
  · exact fun i hi => (h10 i hi).go (fun k => rfl) (fun k => fL _ _ (by omega)) rfl rfl (fun k _ => fK _ _ (by omega))
  · exact h12.go (fun k => fL _ _ (by omega))
  · intro i hi
    have hb := q_cc_b (i := i) (by have := h1.1; omega)
    exact (h13 i hi).go (fun e k a b => rfl) (fun e k a b => fL _ _ (by omega)) (fun e k a b => rfl) (fun k a b => rfl) (fun k a b => fK _ _ (by omega))
theorem r_share : s_share q_R := by
  intro I L J K p0 hR
  obtain ⟨C, T, mk, h⟩ := id hR
  obtain ⟨hx, hm, ok, -⟩ := h.o
  obtain ⟨o0, o1, o2, o3, -⟩ := id ok
  cases hb : q_hs (C 0 0 3) p0 with
  | false => exact q_end2 false 1 (by simp only [f_X10_share, x0_hasScholar hx, hb]; rfl) (by simp only [f_X11_share, m_isScholar hm, hb]; rfl) hR
  | true =>
    obtain ⟨s, hs, rfl⟩ := q_hs_t hb (by omega)
    have a9 : I 12 s = nI (C 0 9 s) := hx.a9 hs
    have m9 := hm.a9 hs
    have t1 := (x0_all 3 hx ok).2.2
    have t2 := m_together2 hm ok
    rw [ql_2] at t2
    have hle : q_sum (C 0 9) (C 0 0 3) ≤ C 0 0 3 * 9999 := q_sum_le (fun k hk => (ok.2.2.2.2.2.2.2.2.2.2 k hk).2.1)
    have h9 := (ok.2.2.2.2.2.2.2.2.2.2 s hs).2.1
    by_cases z : q_sum (C 0 9) (C 0 0 3) = 0
    · refine q_end2 false 6 (I := I) (J := J) ?_ ?_ hR
      · simp (disch := omega) only [f_X10_share, x0_hasScholar hx, hb, t1, ql_0, ql_1, ql_2, ql_3, ql_4, ql_5, ql_6, ql_7, ql_8, ql_9, ql_10, ql_11, ql_12, ql_13, ql_14, ql_15, ql_16, ql_17, ql_18, ql_19, ql_20, ql_21, ql_22, ql_23, ql_24, ql_27, ql_30, ql_31, ql_32, ql_40, ql_48, ql_51, ql_52, ql_57, ql_59, ql_60, ql_61, ql_62, ql_76, ql_84, ql_91, ql_97, ql_99, ql_100, ql_120, ql_122, ql_127, ql_128, ql_200, ql_255, ql_256, ql_300, ql_420, ql_428, ql_640, ql_900, ql_896, ql_999, ql_1712, ql_1716, ql_1734, ql_1772, ql_1800, ql_1805, ql_1811, ql_1822, ql_2132, ql_2140, ql_3229, ql_9999, ql_11453, ql_65536, ql_100000, ql_1000000, nI_add, pk_mul, q_and, q_or, q_xor, nI_clamp, q_in, q_neg1, q_nno, q_nno', q_annN, q_sh1, q_tbN, nI_leI, nI_ltI, nI_eq, pk_sub, ↓reduceIte, if_pos, if_neg, q_zlt, q_bs, f_X10_deny]
      · simp (disch := omega) only [f_X11_share, m_isScholar hm, hb, t2, ql_0, ql_1, ql_2, ql_3, ql_4, ql_5, ql_6, ql_7, ql_8, ql_9, ql_10, ql_11, ql_12, ql_13, ql_14, ql_15, ql_16, ql_17, ql_18, ql_19, ql_20, ql_21, ql_22, ql_23, ql_24, ql_27, ql_30, ql_31, ql_32, ql_40, ql_48, ql_51, ql_52, ql_57, ql_59, ql_60, ql_61, ql_62, ql_76, ql_84, ql_91, ql_97, ql_99, ql_100, ql_120, ql_122, ql_127, ql_128, ql_200, ql_255, ql_256, ql_300, ql_420, ql_428, ql_640, ql_900, ql_896, ql_999, ql_1712, ql_1716, ql_1734, ql_1772, ql_1800, ql_1805, ql_1811, ql_1822, ql_2132, ql_2140, ql_3229, ql_9999, ql_11453, ql_65536, ql_100000, ql_1000000, nI_add, pk_mul, q_and, q_or, q_xor, nI_clamp, q_in, q_neg1, q_nno, q_nno', q_annN, q_sh1, q_tbN, nI_leI, nI_ltI, nI_eq, pk_sub, ↓reduceIte, if_pos, if_neg, q_zlt, q_bs, f_X11_is]
    · have hq := (h.frac (lN (C 0 9 s / Nat.gcd (C 0 9 s) (q_sum (C 0 9) (C 0 0 3)))) (lN (q_sum (C 0 9) (C 0 0 3) / Nat.gcd (C 0 9 s) (q_sum (C 0 9) (C 0 0 3))))).r
      refine q_end2 true 0 ?_ ?_ hq
      · simp (disch := omega) only [f_X10_share, x0_hasScholar hx, hb, t1, ql_0, ql_1, ql_2, ql_3, ql_4, ql_5, ql_6, ql_7, ql_8, ql_9, ql_10, ql_11, ql_12, ql_13, ql_14, ql_15, ql_16, ql_17, ql_18, ql_19, ql_20, ql_21, ql_22, ql_23, ql_24, ql_27, ql_30, ql_31, ql_32, ql_40, ql_48, ql_51, ql_52, ql_57, ql_59, ql_60, ql_61, ql_62, ql_76, ql_84, ql_91, ql_97, ql_99, ql_100, ql_120, ql_122, ql_127, ql_128, ql_200, ql_255, ql_256, ql_300, ql_420, ql_428, ql_640, ql_900, ql_896, ql_999, ql_1712, ql_1716, ql_1734, ql_1772, ql_1800, ql_1805, ql_1811, ql_1822, ql_2132, ql_2140, ql_3229, ql_9999, ql_11453, ql_65536, ql_100000, ql_1000000, nI_add, pk_mul, q_and, q_or, q_xor, nI_clamp, q_in, q_neg1, q_nno, q_nno', q_annN, q_sh1, q_tbN, nI_leI, nI_ltI, nI_eq, pk_sub, ↓reduceIte, if_pos, if_neg, q_zlt, q_bs, a9, nI_l, x3_tell, f_X10_grant]
      · simp (disch := omega) only [f_X11_share, f_X11_scholarRow, m_isScholar hm, hb, t2, ql_0, ql_1, ql_2, ql_3, ql_4, ql_5, ql_6, ql_7, ql_8, ql_9, ql_10, ql_11, ql_12, ql_13, ql_14, ql_15, ql_16, ql_17, ql_18, ql_19, ql_20, ql_21, ql_22, ql_23, ql_24, ql_27, ql_30, ql_31, ql_32, ql_40, ql_48, ql_51, ql_52, ql_57, ql_59, ql_60, ql_61, ql_62, ql_76, ql_84, ql_91, ql_97, ql_99, ql_100, ql_120, ql_122, ql_127, ql_128, ql_200, ql_255, ql_256, ql_300, ql_420, ql_428, ql_640, ql_900, ql_896, ql_999, ql_1712, ql_1716, ql_1734, ql_1772, ql_1800, ql_1805, ql_1811, ql_1822, ql_2132, ql_2140, ql_3229, ql_9999, ql_11453, ql_65536, ql_100000, ql_1000000, nI_add, pk_mul, q_and, q_or, q_xor, nI_clamp, q_in, q_neg1, q_nno, q_nno', q_annN, q_sh1, q_tbN, nI_leI, nI_ltI, nI_eq, pk_sub, ↓reduceIte, if_pos, if_neg, q_zlt, q_bs, m9, nI_l, m_tells]
