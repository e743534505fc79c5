/-! odds of shams -/
def q_ch : Nat → Nat → Nat
  | _, 0 => 1
  | 0, _ + 1 => 0
  | a + 1, k + 1 => q_ch a k + q_ch a (k + 1)
theorem q_ch_z (k : Nat) : q_ch 0 (k + 1) = 0 := rfl
theorem q_ch_o (a : Nat) : q_ch a 0 = 1 := by cases a <;> rfl
theorem q_ch_s (a k : Nat) : q_ch (a + 1) (k + 1) = q_ch a k + q_ch a (k + 1) := rfl
theorem q_ch_m : ∀ a k, (a + 1) * q_ch a k = q_ch (a + 1) (k + 1) * (k + 1) := by
  intro a
  induction a with
  | zero =>
    intro k
    cases k with
    | zero => rfl
    | succ k => rw [q_ch_z, q_ch_s, q_ch_z, q_ch_z]; omega
  | succ a ih =>
    intro k
    cases k with
    | zero =>
      have := ih 0
      rw [q_ch_o] at this
      rw [q_ch_s, q_ch_o]
      omega
    | succ k =>
      have h1 := ih k
      have h2 := ih (k + 1)
      have e1 := q_ch_s (a + 1) (k + 1)
      have e2 := q_ch_s a k
      have e3 : q_ch (a + 1) (k + 1) * (k + 1 + 1) = q_ch (a + 1) (k + 1) * (k + 1) + q_ch (a + 1) (k + 1) := Nat.mul_succ _ _
      have e4 : (a + 1 + 1) * q_ch (a + 1) (k + 1) = (a + 1) * q_ch (a + 1) (k + 1) + q_ch (a + 1) (k + 1) := Nat.succ_mul _ _
      have e5 : (a + 1) * q_ch (a + 1) (k + 1) = (a + 1) * q_ch a k + (a + 1) * q_ch a (k + 1) := by rw [e2, Nat.mul_add]
      rw [e1, Nat.add_mul (q_ch (a + 1) (k + 1))]
      omega
theorem q_ch_r (a k : Nat) : q_ch a (k + 1) * (k + 1) = q_ch a k * (a - k) := by
  have h1 := q_ch_m a k
  rw [q_ch_s, Nat.add_mul (q_ch a k)] at h1
  rw [Nat.mul_sub]
  have e1 : (a + 1) * q_ch a k = q_ch a k * a + q_ch a k := by rw [Nat.succ_mul, Nat.mul_comm]
  have e2 : q_ch a k * (k + 1) = q_ch a k * k + q_ch a k := Nat.mul_succ _ _
  omega
theorem q_ch_p : ∀ {a k : Nat}, k ≤ a → 0 < q_ch a k := by
  intro a
  induction a with
  | zero => intro k h; have : k = 0 := by omega
            subst this; decide
  | succ a ih =>
    intro k h
    cases k with
    | zero => rw [q_ch_o]; omega
    | succ k => have := ih (k := k) (by omega); rw [q_ch_s]; omega
theorem q_ch_0 {a k : Nat} (h : a < k) : q_ch a k = 0 := by
  induction a generalizing k with
  | zero =>
    cases k with
    | zero => omega
    | succ k => rfl
  | succ a ih =>
    cases k with
    | zero => omega
    | succ k => rw [q_ch_s, ih (by omega), ih (by omega)]
theorem q_ch_b {a : Nat} (h : a ≤ 10098) (k : Nat) : q_ch a k ≤ 10098 ^ k := by
  induction k with
  | zero => rw [q_ch_o]; decide
  | succ k ih =>
    have h1 := q_ch_r a k
    have h2 : q_ch a (k + 1) * 1 ≤ q_ch a (k + 1) * (k + 1) := Nat.mul_le_mul_left _ (by omega)
    have h3 : q_ch a k * (a - k) ≤ 10098 ^ k * 10098 := Nat.mul_le_mul ih (by omega)
    rw [Nat.pow_succ]
    omega
/-- so many taken one behind the other -/
def q_ff (a : Nat) : Nat → Nat
  | 0 => 1
  | n + 1 => q_ff a n * (a - n)
def q_fa : Nat → Nat
  | 0 => 1
  | n + 1 => q_fa n * (n + 1)
theorem q_ff_e (a k : Nat) : q_ff a k = q_fa k * q_ch a k := by
  induction k with
  | zero => rw [q_ch_o]; rfl
  | succ k ih => rw [q_ff, q_fa, ih, Nat.mul_assoc, ← q_ch_r, Nat.mul_assoc, Nat.mul_comm (k + 1)]
theorem q_mx0 : ∀ a, a < 5 → ∀ k, k < 5 → z_maxl (0 : Int64) (lN a - lN k) = lN (a - k) := by decide
theorem q_mx {a k : Nat} (ha : a < 2 ^ 31) (hk : k < 5) : z_maxl (0 : Int64) (lN a - lN k) = lN (a - k) := by
  by_cases h : a < 5
  · exact q_mx0 a h k hk
  · rw [lN_sub (by omega)]
    unfold z_maxl
    rw [if_neg]
    rw [qL_0, pk_lLT (by omega) (by omega)]
    omega
theorem m_orders {a n : Nat} (ha : a < 2 ^ 31) (hn : n ≤ 4) : f_X11_ordersOf (lN a) (nI n) = some (lN (q_ff a n)) := by
  refine q_lp (G := fun f k (x : Nat) => g_X11_ordersOf_5 (lN a) (nI n) f (lN x) (nI k)) (N := n) (k0 := 0) (fun k => q_ff a k) (fun f k _ hk => ?_) (fun f => ?_) (Nat.zero_le _) (q_fu (by omega))
  · show g_X11_ordersOf_5 (lN a) (nI n) (f + 1) (lN (q_ff a k)) (nI k) = _
    have e := q_mx ha (k := k) (by omega)
    simp (disch := omega) only [g_X11_ordersOf_5, ql_0, ql_1, ql_2, ql_3, ql_4, ql_5, ql_6, ql_7, ql_8, ql_9, ql_10, ql_11, ql_12, ql_13, ql_14, ql_15, ql_16, ql_17, ql_18, ql_19, ql_20, ql_21, ql_22, ql_23, ql_24, ql_27, ql_30, ql_31, ql_32, ql_40, ql_48, ql_51, ql_52, ql_57, ql_59, ql_60, ql_61, ql_62, ql_76, ql_84, ql_91, ql_97, ql_99, ql_100, ql_120, ql_122, ql_127, ql_128, ql_200, ql_255, ql_256, ql_300, ql_420, ql_428, ql_640, ql_900, ql_896, ql_999, ql_1712, ql_1716, ql_1734, ql_1772, ql_1800, ql_1805, ql_1811, ql_1822, ql_2132, ql_2140, ql_3229, ql_9999, ql_11453, ql_65536, ql_100000, ql_1000000, nI_add, pk_mul, q_and, q_or, q_xor, nI_clamp, q_in, q_neg1, q_nno, q_nno', q_annN, q_sh1, q_tbN, nI_leI, nI_ltI, nI_eq, pk_sub, ↓reduceIte, if_pos, if_neg, q_zlt, q_bs, nI_l, e, lN_mul]
    rfl
  · show g_X11_ordersOf_5 (lN a) (nI n) (f + 1) (lN (q_ff a n)) (nI n) = _
    simp (disch := omega) only [g_X11_ordersOf_5, ql_0, ql_1, ql_2, ql_3, ql_4, ql_5, ql_6, ql_7, ql_8, ql_9, ql_10, ql_11, ql_12, ql_13, ql_14, ql_15, ql_16, ql_17, ql_18, ql_19, ql_20, ql_21, ql_22, ql_23, ql_24, ql_27, ql_30, ql_31, ql_32, ql_40, ql_48, ql_51, ql_52, ql_57, ql_59, ql_60, ql_61, ql_62, ql_76, ql_84, ql_91, ql_97, ql_99, ql_100, ql_120, ql_122, ql_127, ql_128, ql_200, ql_255, ql_256, ql_300, ql_420, ql_428, ql_640, ql_900, ql_896, ql_999, ql_1712, ql_1716, ql_1734, ql_1772, ql_1800, ql_1805, ql_1811, ql_1822, ql_2132, ql_2140, ql_3229, ql_9999, ql_11453, ql_65536, ql_100000, ql_1000000, nI_add, pk_mul, q_and, q_or, q_xor, nI_clamp, q_in, q_neg1, q_nno, q_nno', q_annN, q_sh1, q_tbN, nI_leI, nI_ltI, nI_eq, pk_sub, ↓reduceIte, if_pos, if_neg, q_zlt, q_bs]
theorem x_ways {a n : Nat} (ha : a ≤ 10098) (hn : n ≤ 4) : f_X10_waysToTake (nI a) (nI n) = some (lN (q_ch a n)) := by
  have h0 : q_ch a 0 = 1 := q_ch_o a
  have key := q_lp (G := fun f k (x : Nat) => g_X10_waysToTake_5 (nI a) (nI n) f (lN x) (nI k)) (N := n) (k0 := 0) (r := some (lN (q_ch a n))) (n := z_fuel) (fun k => q_ch a k) (fun f k _ hk => ?_) (fun f => ?_) (Nat.zero_le _) (q_fu (by omega))
  · rw [h0] at key
    exact key
  · show g_X10_waysToTake_5 (nI a) (nI n) (f + 1) (lN (q_ch a k)) (nI k) = _
    have hr := q_ch_r a k
    have hb := q_ch_b ha k
    have hb4 : 10098 ^ k ≤ 10098 ^ 3 := Nat.pow_le_pow_right (by decide) (by omega)
    have hb5 : q_ch a k * (a - k) ≤ 10098 ^ 3 * 10098 := Nat.mul_le_mul (Nat.le_trans hb hb4) (by omega)
    have hne : ¬ (lN (k + 1) = (0 : Int64)) := q_lne (by omega) (by omega)
    have hdiv : q_ch a k * (a - k) / (k + 1) = q_ch a (k + 1) := by rw [← hr]; exact Nat.mul_div_cancel _ (by omega)
    have hd : lN (q_ch a k) * (nI a - nI k).toInt64 / lN (k + 1) = lN (q_ch a (k + 1)) := by
      by_cases z : k ≤ a
      · rw [pk_sub z, nI_l (by omega), lN_mul, pk_lDiv (by omega) (by omega) (by omega), hdiv]
      · have z0 := q_ch_0 (a := a) (k := k) (by omega)
        have z1 := q_ch_0 (a := a) (k := k + 1) (by omega)
        rw [z0, z1, show lN 0 = (0 : Int64) from rfl, Int64.zero_mul, Int64.zero_div]
    simp (disch := omega) only [g_X10_waysToTake_5, ql_0, ql_1, ql_2, ql_3, ql_4, ql_5, ql_6, ql_7, ql_8, ql_9, ql_10, ql_11, ql_12, ql_13, ql_14, ql_15, ql_16, ql_17, ql_18, ql_19, ql_20, ql_21, ql_22, ql_23, ql_24, ql_27, ql_30, ql_31, ql_32, ql_40, ql_48, ql_51, ql_52, ql_57, ql_59, ql_60, ql_61, ql_62, ql_76, ql_84, ql_91, ql_97, ql_99, ql_100, ql_120, ql_122, ql_127, ql_128, ql_200, ql_255, ql_256, ql_300, ql_420, ql_428, ql_640, ql_900, ql_896, ql_999, ql_1712, ql_1716, ql_1734, ql_1772, ql_1800, ql_1805, ql_1811, ql_1822, ql_2132, ql_2140, ql_3229, ql_9999, ql_11453, ql_65536, ql_100000, ql_1000000, nI_add, pk_mul, q_and, q_or, q_xor, nI_clamp, q_in, q_neg1, q_nno, q_nno', q_annN, q_sh1, q_tbN, nI_leI, nI_ltI, nI_eq, pk_sub, ↓reduceIte, if_pos, if_neg, q_zlt, q_bs, nI_l, hne, not_false_eq_true]
    rw [hd]
  · show g_X10_waysToTake_5 (nI a) (nI n) (f + 1) (lN (q_ch a n)) (nI n) = _
    simp (disch := omega) only [g_X10_waysToTake_5, ql_0, ql_1, ql_2, ql_3, ql_4, ql_5, ql_6, ql_7, ql_8, ql_9, ql_10, ql_11, ql_12, ql_13, ql_14, ql_15, ql_16, ql_17, ql_18, ql_19, ql_20, ql_21, ql_22, ql_23, ql_24, ql_27, ql_30, ql_31, ql_32, ql_40, ql_48, ql_51, ql_52, ql_57, ql_59, ql_60, ql_61, ql_62, ql_76, ql_84, ql_91, ql_97, ql_99, ql_100, ql_120, ql_122, ql_127, ql_128, ql_200, ql_255, ql_256, ql_300, ql_420, ql_428, ql_640, ql_900, ql_896, ql_999, ql_1712, ql_1716, ql_1734, ql_1772, ql_1800, ql_1805, ql_1811, ql_1822, ql_2132, ql_2140, ql_3229, ql_9999, ql_11453, ql_65536, ql_100000, ql_1000000, nI_add, pk_mul, q_and, q_or, q_xor, nI_clamp, q_in, q_neg1, q_nno, q_nno', q_annN, q_sh1, q_tbN, nI_leI, nI_ltI, nI_eq, pk_sub, ↓reduceIte, if_pos, if_neg, q_zlt, q_bs]
/-- the ways by which k or more are good -/
def q_bw (g b n k i : Nat) : Nat := if k ≤ i then q_ch g i * q_ch b (n - i) else 0
theorem q_bw_0 (g b n k : Nat) : ∀ j, j ≤ k → q_sum (q_bw g b n k) j = 0 := by
  intro j
  induction j with
  | zero => intro _; rfl
  | succ j ih => intro h; rw [q_sum, ih (by omega), q_bw, if_neg (by omega)]
theorem q_fin : ∀ n, n < 5 → ∀ i, i < n + 1 → q_ff n i / q_ff i i * q_fa i * q_fa (n - i) = q_fa n ∧ 0 < q_ff i i ∧ q_ff i i < 100 ∧ q_ff n i < 100 := by decide
theorem q_bw_b {g b n k : Nat} (hg : g ≤ 10098) (hb : b ≤ 10098) (hn : n ≤ 4) (i : Nat) (hi : i < n + 1) : q_bw g b n k i ≤ 10098 ^ 4 := by
  unfold q_bw
  split
  · have h1 := q_ch_b hg i
    have h2 := q_ch_b hb (n - i)
    have h3 := Nat.mul_le_mul h1 h2
    rw [← Nat.pow_add] at h3
    exact Nat.le_trans h3 (Nat.pow_le_pow_right (by decide) (by omega))
  · omega
theorem r_blind : s_blind q_R := by
  intro I L J K p0 p1 p2 hR
  obtain ⟨C, T, mk, h⟩ := id hR
  obtain ⟨hx, hm, ok, -⟩ := h.o
  obtain ⟨o0, o1, o2, o3, -⟩ := id ok
  have hfr := q_from (p := p1) (a := 0) (b := 4) (by decide) (by decide)
  have hfr2 := q_from (p := p2) (a := 0) (b := 4) (by decide) (by decide)
  cases hb : q_hs (C 0 0 0) p0 with
  | false => exact q_end2 false 1 (by simp only [f_X10_blind, x0_hasBed hx, hb]; rfl) (by simp only [f_X11_blind, m_isBed hm, hb]; rfl) hR
  | true =>
  cases hb1 : f_X10_isWithin p1 (nI 0) (nI 4) with
  | false =>
    rw [hb1] at hfr
    exact q_end2 false 1 (by simp only [f_X10_blind, x0_hasBed hx, hb, ql_0, ql_4, hb1]; rfl) (by simp only [f_X11_blind, m_isBed hm, hb, qL_0, qL_4, hfr]; rfl) hR
  | true =>
  rw [hb1] at hfr
  cases hb2 : f_X10_isWithin p2 (nI 0) (nI 4) with
  | false =>
    rw [hb2] at hfr2
    exact q_end2 false 1 (by simp only [f_X10_blind, x0_hasBed hx, hb, ql_0, ql_4, hb1, hb2]; rfl) (by simp only [f_X11_blind, m_isBed hm, hb, qL_0, qL_4, hfr, hfr2]; rfl) hR
  | true =>
    rw [hb2] at hfr2
    obtain ⟨bd, hbd, rfl⟩ := q_hs_t hb (by omega)
    obtain ⟨n, -, hn, rfl⟩ := q_wi_t hb1 (by decide) (by decide)
    obtain ⟨k, -, hk, rfl⟩ := q_wi_t hb2 (by decide) (by decide)
    rw [nI_l (by omega)] at hfr hfr2
    have a1 : I 4 bd = nI (C 0 1 bd) := hx.a1 hbd
    have a2 : I 5 bd = nI (C 0 2 bd) := hx.a2 hbd
    have m1 := hm.a1 hbd
    have m2 := hm.a2 hbd
    obtain ⟨c1, c2⟩ := ok.2.2.2.2.2.2.2.1 bd hbd
    generalize hg : C 0 1 bd = g at a1 m1 c1
    generalize hs : C 0 2 bd = b at a2 m2 c2
    by_cases z : n ≤ g + b
    · -- the sums
      have hAb : q_sum (q_bw g b n k) (n + 1) ≤ (n + 1) * 10098 ^ 4 := q_sum_le (fun i hi => q_bw_b (by omega) (by omega) hn i hi)
      have hAb : q_sum (q_bw g b n k) (n + 1) ≤ 5 * 10098 ^ 4 := Nat.le_trans hAb (Nat.mul_le_mul_right _ (by omega))
      have hB0 := q_ch_p z
      have hBb := q_ch_b (a := g + b) (by omega) n
      have hBb : q_ch (g + b) n ≤ 10098 ^ 4 := Nat.le_trans hBb (Nat.pow_le_pow_right (by decide) (by omega))
      have hf : 0 < q_fa n ∧ q_fa n ≤ 24 := by
        have : ∀ n, n < 5 → 0 < q_fa n ∧ q_fa n ≤ 24 := by decide
        exact this n (by omega)
      -- the class
      have lX : ∀ k113 : Int64 → Option (Bool × z_I × z_L), g_X10_blind_79 (nI n) (nI g) (nI b) I L k113 z_fuel 0 (nI k) = k113 (lN (q_sum (q_bw g b n k) (n + 1))) := fun k113 => by
        by_cases y : k ≤ n
        · have key := q_lp (G := fun f i (x : Nat) => g_X10_blind_79 (nI n) (nI g) (nI b) I L k113 f (lN x) (nI i)) (N := n + 1) (k0 := k) (r := k113 (lN (q_sum (q_bw g b n k) (n + 1)))) (n := z_fuel) (fun i => q_sum (q_bw g b n k) i) (fun f i hi0 hi => ?_) (fun f => ?_) (by omega) (q_fu (by omega))
          · rw [q_bw_0 g b n k k (Nat.le_refl _)] at key
            exact key
          · show g_X10_blind_79 (nI n) (nI g) (nI b) I L k113 (f + 1) (lN (q_sum (q_bw g b n k) i)) (nI i) = _
            have w1 := x_ways (a := g) (n := i) (by omega) (by omega)
            have w2 := x_ways (a := b) (n := n - i) (by omega) (by omega)
            have e : q_sum (q_bw g b n k) (i + 1) = q_sum (q_bw g b n k) i + q_ch g i * q_ch b (n - i) := by rw [q_sum, q_bw, if_pos hi0]
            rw [e]
            simp (disch := omega) only [g_X10_blind_79, ql_0, ql_1, ql_2, ql_3, ql_4, ql_5, ql_6, ql_7, ql_8, ql_9, ql_10, ql_11, ql_12, ql_13, ql_14, ql_15, ql_16, ql_17, ql_18, ql_19, ql_20, ql_21, ql_22, ql_23, ql_24, ql_27, ql_30, ql_31, ql_32, ql_40, ql_48, ql_51, ql_52, ql_57, ql_59, ql_60, ql_61, ql_62, ql_76, ql_84, ql_91, ql_97, ql_99, ql_100, ql_120, ql_122, ql_127, ql_128, ql_200, ql_255, ql_256, ql_300, ql_420, ql_428, ql_640, ql_900, ql_896, ql_999, ql_1712, ql_1716, ql_1734, ql_1772, ql_1800, ql_1805, ql_1811, ql_1822, ql_2132, ql_2140, ql_3229, ql_9999, ql_11453, ql_65536, ql_100000, ql_1000000, nI_add, pk_mul, q_and, q_or, q_xor, nI_clamp, q_in, q_neg1, q_nno, q_nno', q_annN, q_sh1, q_tbN, nI_leI, nI_ltI, nI_eq, pk_sub, ↓reduceIte, if_pos, if_neg, q_zlt, q_bs, w1, w2, lN_mul, lN_add]
          · show g_X10_blind_79 (nI n) (nI g) (nI b) I L k113 (f + 1) (lN (q_sum (q_bw g b n k) (n + 1))) (nI (n + 1)) = _
            simp (disch := omega) only [g_X10_blind_79, ql_0, ql_1, ql_2, ql_3, ql_4, ql_5, ql_6, ql_7, ql_8, ql_9, ql_10, ql_11, ql_12, ql_13, ql_14, ql_15, ql_16, ql_17, ql_18, ql_19, ql_20, ql_21, ql_22, ql_23, ql_24, ql_27, ql_30, ql_31, ql_32, ql_40, ql_48, ql_51, ql_52, ql_57, ql_59, ql_60, ql_61, ql_62, ql_76, ql_84, ql_91, ql_97, ql_99, ql_100, ql_120, ql_122, ql_127, ql_128, ql_200, ql_255, ql_256, ql_300, ql_420, ql_428, ql_640, ql_900, ql_896, ql_999, ql_1712, ql_1716, ql_1734, ql_1772, ql_1800, ql_1805, ql_1811, ql_1822, ql_2132, ql_2140, ql_3229, ql_9999, ql_11453, ql_65536, ql_100000, ql_1000000, nI_add, pk_mul, q_and, q_or, q_xor, nI_clamp, q_in, q_neg1, q_nno, q_nno', q_annN, q_sh1, q_tbN, nI_leI, nI_ltI, nI_eq, pk_sub, ↓reduceIte, if_pos, if_neg, q_zlt, q_bs]
        · rw [q_bw_0 g b n k (n + 1) (by omega)]
          show g_X10_blind_79 (nI n) (nI g) (nI b) I L k113 (999999 + 1) (lN 0) (nI k) = _
          rw [g_X10_blind_79, if_pos (nI_lt (by omega) (by omega))]
      -- the reference
      have lM : ∀ k139 : Int64 → Option (Bool × z_I × z_L), g_X11_blind_88 (nI n) (lN g) (lN b) J K k139 z_fuel (lN 0) (nI k) = k139 (lN (q_fa n * q_sum (q_bw g b n k) (n + 1))) := fun k139 => by
        by_cases y : k ≤ n
        · have key := q_lp (G := fun f i (x : Nat) => g_X11_blind_88 (nI n) (lN g) (lN b) J K k139 f (lN x) (nI i)) (N := n + 1) (k0 := k) (r := k139 (lN (q_fa n * q_sum (q_bw g b n k) (n + 1)))) (n := z_fuel) (fun i => q_fa n * q_sum (q_bw g b n k) i) (fun f i hi0 hi => ?_) (fun f => ?_) (by omega) (q_fu (by omega))
          · rw [q_bw_0 g b n k k (Nat.le_refl _), Nat.mul_zero] at key
            exact key
          · show g_X11_blind_88 (nI n) (lN g) (lN b) J K k139 (f + 1) (lN (q_fa n * q_sum (q_bw g b n k) i)) (nI i) = _
            obtain ⟨t1, t2, t3, t4⟩ := q_fin n (by omega) i hi
            have w1 := m_orders (a := n) (n := i) (by omega) (by omega)
            have w2 := m_orders (a := i) (n := i) (by omega) (by omega)
            have w3 := m_orders (a := g) (n := i) (by omega) (by omega)
            have w4 := m_orders (a := b) (n := n - i) (by omega) (by omega)
            have hne : ¬ (lN (q_ff i i) = (0 : Int64)) := q_lne t2 (by omega)
            have e : q_fa n * q_sum (q_bw g b n k) (i + 1) = q_fa n * q_sum (q_bw g b n k) i + q_ff n i / q_ff i i * q_ff g i * q_ff b (n - i) := by
              rw [q_sum, q_bw, if_pos hi0, Nat.mul_add, q_ff_e g i, q_ff_e b (n - i), ← t1]
              congr 1
              simp only [Nat.mul_assoc, Nat.mul_left_comm, Nat.mul_comm]
            have hdv : lN (q_ff n i) / lN (q_ff i i) = lN (q_ff n i / q_ff i i) := pk_lDiv (by omega) t2 (by omega)
            rw [e]
            simp (disch := omega) only [g_X11_blind_88, nI_ltI, if_neg, if_pos, nI_l, w1, w2, w3, w4, q_bs, hne, not_false_eq_true, ↓reduceIte, pk_sub, hdv, lN_mul, lN_add, ql_1, nI_add]
          · show g_X11_blind_88 (nI n) (lN g) (lN b) J K k139 (f + 1) (lN (q_fa n * q_sum (q_bw g b n k) (n + 1))) (nI (n + 1)) = _
            rw [g_X11_blind_88, if_pos (nI_lt (by omega) (by omega))]
        · rw [q_bw_0 g b n k (n + 1) (by omega), Nat.mul_zero]
          show g_X11_blind_88 (nI n) (lN g) (lN b) J K k139 (999999 + 1) (lN 0) (nI k) = _
          rw [g_X11_blind_88, if_pos (nI_lt (by omega) (by omega))]
      generalize q_sum (q_bw g b n k) (n + 1) = A at lX lM hAb
      have w1 := x_ways (a := g + b) (n := n) (by omega) hn
      have w2 := m_orders (a := g + b) (n := n) (by omega) hn
      rw [q_ff_e] at w2
      generalize q_ch (g + b) n = B at w1 w2 hB0 hBb
      generalize q_fa n = F at lM w2 hf
      have hFA : F * A < 2 ^ 63 := Nat.lt_of_le_of_lt (Nat.mul_le_mul hf.2 hAb) (by decide)
      have hFB : F * B < 2 ^ 63 := Nat.lt_of_le_of_lt (Nat.mul_le_mul hf.2 hBb) (by decide)
      have hFB0 : 0 < F * B := Nat.mul_pos hf.1 hB0
      have tX := x3_tell L (a := A) (b := B) (by omega) hB0 (by omega)
      have tM := m_tells J K hFA hFB0 hFB
      rw [Nat.gcd_mul_left, Nat.mul_div_mul_left _ _ hf.1, Nat.mul_div_mul_left _ _ hf.1] at tM
      have hq := (h.frac (lN (A / Nat.gcd A B)) (lN (B / Nat.gcd A B))).r
      refine q_end2 true 0 ?_ ?_ hq
      · simp (disch := omega) only [f_X10_blind, x0_hasBed hx, hb, ql_0, ql_1, ql_2, ql_3, ql_4, ql_5, ql_6, ql_7, ql_8, ql_9, ql_10, ql_11, ql_12, ql_13, ql_14, ql_15, ql_16, ql_17, ql_18, ql_19, ql_20, ql_21, ql_22, ql_23, ql_24, ql_27, ql_30, ql_31, ql_32, ql_40, ql_48, ql_51, ql_52, ql_57, ql_59, ql_60, ql_61, ql_62, ql_76, ql_84, ql_91, ql_97, ql_99, ql_100, ql_120, ql_122, ql_127, ql_128, ql_200, ql_255, ql_256, ql_300, ql_420, ql_428, ql_640, ql_900, ql_896, ql_999, ql_1712, ql_1716, ql_1734, ql_1772, ql_1800, ql_1805, ql_1811, ql_1822, ql_2132, ql_2140, ql_3229, ql_9999, ql_11453, ql_65536, ql_100000, ql_1000000, nI_add, pk_mul, q_and, q_or, q_xor, nI_clamp, q_in, q_neg1, q_nno, q_nno', q_annN, q_sh1, q_tbN, nI_leI, nI_ltI, nI_eq, pk_sub, ↓reduceIte, if_pos, if_neg, q_zlt, q_bs, hb1, hb2, a1, a2]
        have lX := lX (fun v6_7 => (f_X10_waysToTake (nI (g + b)) (nI n)).bind fun q8 => (f_X3_tell L v6_7 q8).bind fun q10 => some ((f_X10_grant I).1, (f_X10_grant I).2, q10))
        refine lX.trans ?_
        rw [w1, q_bs, tX, q_bs]
        rfl
      · have y1 : 10 + 2 * bd + 1 = 11 + 2 * bd := by omega
        rw [y1] at m2
        simp (disch := omega) only [f_X11_blind, f_X11_bedRow, m_isBed hm, hb, qL_0, qL_4, hfr, hfr2, ql_0, ql_1, ql_2, ql_3, ql_4, ql_5, ql_6, ql_7, ql_8, ql_9, ql_10, ql_11, ql_12, ql_13, ql_14, ql_15, ql_16, ql_17, ql_18, ql_19, ql_20, ql_21, ql_22, ql_23, ql_24, ql_27, ql_30, ql_31, ql_32, ql_40, ql_48, ql_51, ql_52, ql_57, ql_59, ql_60, ql_61, ql_62, ql_76, ql_84, ql_91, ql_97, ql_99, ql_100, ql_120, ql_122, ql_127, ql_128, ql_200, ql_255, ql_256, ql_300, ql_420, ql_428, ql_640, ql_900, ql_896, ql_999, ql_1712, ql_1716, ql_1734, ql_1772, ql_1800, ql_1805, ql_1811, ql_1822, ql_2132, ql_2140, ql_3229, ql_9999, ql_11453, ql_65536, ql_100000, ql_1000000, nI_add, pk_mul, q_and, q_or, q_xor, nI_clamp, q_in, q_neg1, q_nno, q_nno', q_annN, q_sh1, q_tbN, nI_leI, nI_ltI, nI_eq, pk_sub, ↓reduceIte, if_pos, if_neg, q_zlt, q_bs, y1, m1, m2, nI_l, lN_add, pk_lLE]
        have lM := lM (fun v8_14 => (f_X11_ordersOf (lN (g + b)) (nI n)).bind fun q15 => (f_X11_tellsBy J K v8_14 q15).bind fun q17 => some (q17.1, q17.2.1, q17.2.2))
        refine lM.trans ?_
        rw [w2, q_bs, tM, q_bs]
        rfl
    · refine q_end2 false 6 (I := I) (J := J) ?_ ?_ hR
      · simp (disch := omega) only [f_X10_blind, x0_hasBed hx, hb, ql_0, ql_1, ql_2, ql_3, ql_4, ql_5, ql_6, ql_7, ql_8, ql_9, ql_10, ql_11, ql_12, ql_13, ql_14, ql_15, ql_16, ql_17, ql_18, ql_19, ql_20, ql_21, ql_22, ql_23, ql_24, ql_27, ql_30, ql_31, ql_32, ql_40, ql_48, ql_51, ql_52, ql_57, ql_59, ql_60, ql_61, ql_62, ql_76, ql_84, ql_91, ql_97, ql_99, ql_100, ql_120, ql_122, ql_127, ql_128, ql_200, ql_255, ql_256, ql_300, ql_420, ql_428, ql_640, ql_900, ql_896, ql_999, ql_1712, ql_1716, ql_1734, ql_1772, ql_1800, ql_1805, ql_1811, ql_1822, ql_2132, ql_2140, ql_3229, ql_9999, ql_11453, ql_65536, ql_100000, ql_1000000, nI_add, pk_mul, q_and, q_or, q_xor, nI_clamp, q_in, q_neg1, q_nno, q_nno', q_annN, q_sh1, q_tbN, nI_leI, nI_ltI, nI_eq, pk_sub, ↓reduceIte, if_pos, if_neg, q_zlt, q_bs, hb1, hb2, a1, a2, f_X10_deny]
      · have y1 : 10 + 2 * bd + 1 = 11 + 2 * bd := by omega
        rw [y1] at m2
        simp (disch := omega) only [f_X11_blind, f_X11_bedRow, m_isBed hm, hb, qL_0, qL_4, hfr, hfr2, ql_0, ql_1, ql_2, ql_3, ql_4, ql_5, ql_6, ql_7, ql_8, ql_9, ql_10, ql_11, ql_12, ql_13, ql_14, ql_15, ql_16, ql_17, ql_18, ql_19, ql_20, ql_21, ql_22, ql_23, ql_24, ql_27, ql_30, ql_31, ql_32, ql_40, ql_48, ql_51, ql_52, ql_57, ql_59, ql_60, ql_61, ql_62, ql_76, ql_84, ql_91, ql_97, ql_99, ql_100, ql_120, ql_122, ql_127, ql_128, ql_200, ql_255, ql_256, ql_300, ql_420, ql_428, ql_640, ql_900, ql_896, ql_999, ql_1712, ql_1716, ql_1734, ql_1772, ql_1800, ql_1805, ql_1811, ql_1822, ql_2132, ql_2140, ql_3229, ql_9999, ql_11453, ql_65536, ql_100000, ql_1000000, nI_add, pk_mul, q_and, q_or, q_xor, nI_clamp, q_in, q_neg1, q_nno, q_nno', q_annN, q_sh1, q_tbN, nI_leI, nI_ltI, nI_eq, pk_sub, ↓reduceIte, if_pos, if_neg, q_zlt, q_bs, y1, m1, m2, nI_l, lN_add, pk_lLE, f_X11_is]
