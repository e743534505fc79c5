/-! parts, yields -/
theorem q_pcT : ∀ x, x < 256 → q_pc x = q_sum (fun k => (x.testBit k).toNat) 8 := by decide +kernel
theorem q_and_lt {x y n : Nat} (h : x < n) : x &&& y < n := Nat.lt_of_le_of_lt Nat.and_le_left h
theorem q_xa_lt {x y n : Nat} (h : x < 2 ^ n) : x ^^^ (x &&& y) < 2 ^ n := Nat.xor_lt_two_pow h (q_and_lt h)
theorem q_sum_add (f g : Nat → Nat) (n : Nat) : q_sum f n + q_sum g n = q_sum (fun k => f k + g k) n := by
  induction n with
  | zero => rfl
  | succ n ih => simp only [q_sum]; omega
theorem q_sum_mul (a : Nat) (f : Nat → Nat) (n : Nat) : a * q_sum f n = q_sum (fun k => a * f k) n := by
  induction n with
  | zero => rfl
  | succ n ih => simp only [q_sum]; rw [Nat.mul_add, ih]
theorem q_pc_split {x : Nat} (y : Nat) (hx : x < 256) : q_pc (x &&& y) + q_pc (x ^^^ (x &&& y)) = q_pc x := by
  rw [q_pcT _ (q_and_lt hx), q_pcT _ (q_xa_lt (n := 8) hx), q_pcT _ hx, q_sum_add]
  apply q_sum_eq
  intro k _
  rw [Nat.testBit_xor, Nat.testBit_and]
  cases x.testBit k <;> cases y.testBit k <;> rfl
/-- the part of a case -/
def q_pt (C : q_N) (m w : Nat) : Nat := q_prt C m w (C 0 2)
theorem q_pt_b (C : q_N) (m w j : Nat) : (q_pt C m w).testBit j = true ↔ j < C 0 1 ∧ ∀ c, c < C 0 2 → m.testBit c = true → (C 6 c).testBit j = (C 6 c).testBit w := q_prt_b C m w _ j
theorem q_pt_sym {C : q_N} {m w j : Nat} (hw : w < C 0 1) (h : (q_pt C m w).testBit j = true) : (q_pt C m j).testBit w = true := by
  rw [q_pt_b] at h ⊢
  exact ⟨hw, fun c a b => (h.2 c a b).symm⟩
theorem q_pt_trans {C : q_N} {m w i j : Nat} (h : (q_pt C m w).testBit i = true) (h2 : (q_pt C m i).testBit j = true) : (q_pt C m w).testBit j = true := by
  rw [q_pt_b] at h h2 ⊢
  exact ⟨h2.1, fun c a b => (h2.2 c a b).trans (h.2 c a b)⟩
theorem q_pt_self {C : q_N} {m w : Nat} (hw : w < C 0 1) : (q_pt C m w).testBit w = true := by
  rw [q_pt_b]; exact ⟨hw, fun c _ _ => rfl⟩
theorem q_pt_lt (C : q_N) (m w : Nat) : q_pt C m w < 2 ^ C 0 1 := q_prt_lt C m w _
theorem q_pt8 {C : q_N} (ok : q_ok C) (m w : Nat) : q_pt C m w < 256 := q_p8 ok.2.1 (q_pt_lt C m w)
def q_fst (C : q_N) (m w : Nat) : Bool := decide (q_pt C m w &&& (2 ^ w - 1) = 0)
theorem q_fst_t {C : q_N} {m w : Nat} : q_fst C m w = true ↔ ∀ i, i < w → (q_pt C m w).testBit i = false := by
  unfold q_fst
  rw [decide_eq_true_iff]
  constructor
  · intro h i hi
    have := congrArg (fun z => z.testBit i) h
    simp only [Nat.testBit_and, Nat.testBit_two_pow_sub_one, Nat.zero_testBit] at this
    simpa [hi] using this
  · intro h
    apply Nat.eq_of_testBit_eq
    intro i
    rw [Nat.testBit_and, Nat.testBit_two_pow_sub_one, Nat.zero_testBit]
    by_cases hi : i < w
    · rw [h i hi]; rfl
    · simp [hi]
/-- what was seen ahead of a case -/
def q_seen (C : q_N) (m : Nat) : Nat → Nat := q_it (fun w s => if s.testBit w then s else s ||| q_pt C m w) 0
theorem q_seen_b {C : q_N} {m n : Nat} (hn : n ≤ C 0 1) (j : Nat) : (q_seen C m n).testBit j = true ↔ ∃ i, i < n ∧ (q_pt C m i).testBit j = true := by
  induction n generalizing j with
  | zero =>
    show (0 : Nat).testBit j = true ↔ _
    rw [Nat.zero_testBit]
    exact ⟨fun h => (by cases h), fun ⟨i, h, _⟩ => absurd h (Nat.not_lt_zero _)⟩
  | succ n ih =>
    have ih := ih (by omega)
    have e : q_seen C m (n + 1) = if (q_seen C m n).testBit n then q_seen C m n else q_seen C m n ||| q_pt C m n := rfl
    rw [e]
    by_cases h : (q_seen C m n).testBit n = true
    · rw [if_pos h, ih]
      constructor
      · rintro ⟨i, a, b⟩; exact ⟨i, by omega, b⟩
      · rintro ⟨i, a, b⟩
        by_cases hi : i = n
        · subst hi
          obtain ⟨i2, a2, b2⟩ := (ih i).1 h
          exact ⟨i2, a2, q_pt_trans b2 b⟩
        · exact ⟨i, by omega, b⟩
    · rw [if_neg h, Nat.testBit_or, Bool.or_eq_true, ih]
      constructor
      · rintro (⟨i, a, b⟩ | b)
        · exact ⟨i, by omega, b⟩
        · exact ⟨n, by omega, b⟩
      · rintro ⟨i, a, b⟩
        by_cases hi : i = n
        · subst hi; exact Or.inr b
        · exact Or.inl ⟨i, by omega, b⟩
theorem q_seen_f {C : q_N} {m w : Nat} (hw : w < C 0 1) : (q_seen C m w).testBit w = !q_fst C m w := by
  have h1 := q_seen_b (C := C) (m := m) (n := w) (by omega) w
  have h2 := q_fst_t (C := C) (m := m) (w := w)
  cases hf : q_fst C m w with
  | true =>
    have h3 := h2.1 hf
    cases hs : (q_seen C m w).testBit w with
    | false => rfl
    | true =>
      obtain ⟨i, a, b⟩ := h1.1 hs
      have := q_pt_sym (w := i) (by omega) b
      rw [h3 i a] at this; cases this
  | false =>
    cases hs : (q_seen C m w).testBit w with
    | true => rfl
    | false =>
      have : q_fst C m w = true := h2.2 (fun i hi => by
        cases hb : (q_pt C m w).testBit i with
        | false => rfl
        | true =>
          have := h1.2 ⟨i, hi, q_pt_sym hw hb⟩
          rw [hs] at this; cases this)
      rw [hf] at this; cases this
def q_pn (C : q_N) (m n : Nat) : Nat := q_sum (fun w => if q_fst C m w then 1 else 0) n
def q_ys (C : q_N) (m k n : Nat) : Nat := q_sum (fun w => if q_fst C m w then min (q_pc (q_pt C m w &&& C 6 k)) (q_pc (q_pt C m w ^^^ (q_pt C m w &&& C 6 k))) else 0) n
/-- the yield of a claim -/
def q_yd (C : q_N) (m k : Nat) : Nat := if m.testBit k then 0 else 3 * q_ys C m k (C 0 1)
theorem q_pc8 {x : Nat} (h : x < 256) : q_pc x ≤ 8 := (q_pc0 x h).1
theorem q_ys_le {C : q_N} (ok : q_ok C) (m k n : Nat) : q_ys C m k n ≤ n * 8 := by
  refine q_sum_le (fun w _ => ?_)
  by_cases h : q_fst C m w = true
  · simp only [h, ↓reduceIte]
    exact Nat.le_trans (Nat.min_le_left _ _) (q_pc8 (q_and_lt (q_pt8 ok m w)))
  · simp only [h, Bool.false_eq_true, ↓reduceIte]; exact Nat.zero_le _
theorem q_yd_le {C : q_N} (ok : q_ok C) (m k : Nat) : q_yd C m k ≤ 192 := by
  unfold q_yd
  have := q_ys_le ok m k (C 0 1)
  have := ok.2.1
  split <;> omega
theorem q_seen_n {C : q_N} {m w : Nat} (hw : w < C 0 1) : q_seen C m (w + 1) = if q_fst C m w then q_seen C m w ||| q_pt C m w else q_seen C m w := by
  have e : q_seen C m (w + 1) = if (q_seen C m w).testBit w then q_seen C m w else q_seen C m w ||| q_pt C m w := rfl
  rw [e, q_seen_f hw]
  cases q_fst C m w <;> rfl
section
variable {C : q_N} {c : Nat} {I : z_I} {L : z_L}
theorem x0_countParts (h : q_sx C c I L) (ok : q_ok C) : f_X0_countParts I c = some (nI (q_pn C (C 0 6) (C 0 1))) := by
  obtain ⟨o0, o1, o2, o3, -⟩ := id ok
  unfold f_X0_countParts
  refine q_lp (G := fun n k (a : Nat × Nat) => g_X0_countParts_6 c I n (nI a.1) (nI a.2) (nI k)) (fun k => (q_pn C (C 0 6) k, q_seen C (C 0 6) k)) (fun n k _ hk => ?_) (fun n => ?_) (Nat.zero_le (C 0 1)) (q_fu (by omega))
  · have e := q_seen_f (m := C 0 6) hk
    cases hb : q_fst C (C 0 6) k <;> rw [hb] at e <;> simp (disch := omega) only [g_X0_countParts_6, h.f.2.1, h.f.2.2.2.2.2.2, x0_partUnder h ok, ql_0, ql_1, ql_2, ql_3, ql_4, ql_5, ql_6, ql_7, ql_8, ql_9, ql_10, ql_11, ql_12, ql_13, ql_14, ql_15, ql_16, ql_17, ql_18, ql_19, ql_20, ql_21, ql_22, ql_23, ql_24, ql_27, ql_30, ql_31, ql_32, ql_40, ql_48, ql_51, ql_52, ql_57, ql_59, ql_60, ql_61, ql_62, ql_76, ql_84, ql_91, ql_97, ql_99, ql_100, ql_120, ql_122, ql_127, ql_128, ql_200, ql_255, ql_256, ql_300, ql_420, ql_428, ql_640, ql_900, ql_896, ql_999, ql_1712, ql_1716, ql_1734, ql_1772, ql_1800, ql_1805, ql_1811, ql_1822, ql_2132, ql_2140, ql_3229, ql_9999, ql_11453, ql_65536, ql_100000, ql_1000000, nI_add, pk_mul, q_and, q_or, q_xor, nI_clamp, q_in, q_neg1, q_nno, q_nno', q_annN, q_sh1, q_tbN, nI_leI, nI_ltI, nI_eq, pk_sub, ↓reduceIte, if_pos, if_neg, q_zlt, q_bs, e, Bool.not_true, Bool.not_false, q_seen_n hk, hb, q_pn, q_sum, Nat.add_zero, Bool.false_eq_true, reduceCtorEq, q_pt]
  · simp (disch := omega) only [g_X0_countParts_6, h.f.2.1, ql_0, ql_1, ql_2, ql_3, ql_4, ql_5, ql_6, ql_7, ql_8, ql_9, ql_10, ql_11, ql_12, ql_13, ql_14, ql_15, ql_16, ql_17, ql_18, ql_19, ql_20, ql_21, ql_22, ql_23, ql_24, ql_27, ql_30, ql_31, ql_32, ql_40, ql_48, ql_51, ql_52, ql_57, ql_59, ql_60, ql_61, ql_62, ql_76, ql_84, ql_91, ql_97, ql_99, ql_100, ql_120, ql_122, ql_127, ql_128, ql_200, ql_255, ql_256, ql_300, ql_420, ql_428, ql_640, ql_900, ql_896, ql_999, ql_1712, ql_1716, ql_1734, ql_1772, ql_1800, ql_1805, ql_1811, ql_1822, ql_2132, ql_2140, ql_3229, ql_9999, ql_11453, ql_65536, ql_100000, ql_1000000, nI_add, pk_mul, q_and, q_or, q_xor, nI_clamp, q_in, q_neg1, q_nno, q_nno', q_annN, q_sh1, q_tbN, nI_leI, nI_ltI, nI_eq, pk_sub, ↓reduceIte, if_pos, if_neg, q_zlt, q_bs]
theorem x0_yieldUnder (h : q_sx C c I L) (ok : q_ok C) {m k : Nat} (hk : k < C 0 2) : f_X0_yieldUnder I c (nI m) (nI k) = some (nI (q_yd C m k)) := by
  obtain ⟨o0, o1, o2, o3, -⟩ := id ok
  unfold f_X0_yieldUnder q_yd
  cases hb : m.testBit k with
  | true => simp (disch := omega) only [ql_0, ql_1, ql_2, ql_3, ql_4, ql_5, ql_6, ql_7, ql_8, ql_9, ql_10, ql_11, ql_12, ql_13, ql_14, ql_15, ql_16, ql_17, ql_18, ql_19, ql_20, ql_21, ql_22, ql_23, ql_24, ql_27, ql_30, ql_31, ql_32, ql_40, ql_48, ql_51, ql_52, ql_57, ql_59, ql_60, ql_61, ql_62, ql_76, ql_84, ql_91, ql_97, ql_99, ql_100, ql_120, ql_122, ql_127, ql_128, ql_200, ql_255, ql_256, ql_300, ql_420, ql_428, ql_640, ql_900, ql_896, ql_999, ql_1712, ql_1716, ql_1734, ql_1772, ql_1800, ql_1805, ql_1811, ql_1822, ql_2132, ql_2140, ql_3229, ql_9999, ql_11453, ql_65536, ql_100000, ql_1000000, nI_add, pk_mul, q_and, q_or, q_xor, nI_clamp, q_in, q_neg1, q_nno, q_nno', q_annN, q_sh1, q_tbN, nI_leI, nI_ltI, nI_eq, pk_sub, ↓reduceIte, if_pos, if_neg, q_zlt, q_bs, hb, reduceCtorEq]
  | false =>
    simp (disch := omega) only [ql_0, ql_1, ql_2, ql_3, ql_4, ql_5, ql_6, ql_7, ql_8, ql_9, ql_10, ql_11, ql_12, ql_13, ql_14, ql_15, ql_16, ql_17, ql_18, ql_19, ql_20, ql_21, ql_22, ql_23, ql_24, ql_27, ql_30, ql_31, ql_32, ql_40, ql_48, ql_51, ql_52, ql_57, ql_59, ql_60, ql_61, ql_62, ql_76, ql_84, ql_91, ql_97, ql_99, ql_100, ql_120, ql_122, ql_127, ql_128, ql_200, ql_255, ql_256, ql_300, ql_420, ql_428, ql_640, ql_900, ql_896, ql_999, ql_1712, ql_1716, ql_1734, ql_1772, ql_1800, ql_1805, ql_1811, ql_1822, ql_2132, ql_2140, ql_3229, ql_9999, ql_11453, ql_65536, ql_100000, ql_1000000, nI_add, pk_mul, q_and, q_or, q_xor, nI_clamp, q_in, q_neg1, q_nno, q_nno', q_annN, q_sh1, q_tbN, nI_leI, nI_ltI, nI_eq, pk_sub, ↓reduceIte, if_pos, if_neg, q_zlt, q_bs, hb, Bool.false_eq_true]
    refine q_lp (G := fun n w (a : Nat × Nat) => g_X0_yieldUnder_18 c (nI m) (nI k) I n (nI a.1) (nI a.2) (nI w)) (fun w => (q_ys C m k w, q_seen C m w)) (fun n w _ hw => ?_) (fun n => ?_) (Nat.zero_le (C 0 1)) (q_fu (by omega))
    · have e := q_seen_f (m := m) hw
      have h8 := q_pt8 ok m w
      have h9 : q_pt C m w &&& C 6 k < 256 := q_and_lt h8
      have hs := q_pc_split (C 6 k) h8
      have hp := q_pc8 h8
      cases hf : q_fst C m w with
      | false =>
        rw [hf] at e
        simp (disch := omega) only [g_X0_yieldUnder_18, h.f.2.1, ql_0, ql_1, ql_2, ql_3, ql_4, ql_5, ql_6, ql_7, ql_8, ql_9, ql_10, ql_11, ql_12, ql_13, ql_14, ql_15, ql_16, ql_17, ql_18, ql_19, ql_20, ql_21, ql_22, ql_23, ql_24, ql_27, ql_30, ql_31, ql_32, ql_40, ql_48, ql_51, ql_52, ql_57, ql_59, ql_60, ql_61, ql_62, ql_76, ql_84, ql_91, ql_97, ql_99, ql_100, ql_120, ql_122, ql_127, ql_128, ql_200, ql_255, ql_256, ql_300, ql_420, ql_428, ql_640, ql_900, ql_896, ql_999, ql_1712, ql_1716, ql_1734, ql_1772, ql_1800, ql_1805, ql_1811, ql_1822, ql_2132, ql_2140, ql_3229, ql_9999, ql_11453, ql_65536, ql_100000, ql_1000000, nI_add, pk_mul, q_and, q_or, q_xor, nI_clamp, q_in, q_neg1, q_nno, q_nno', q_annN, q_sh1, q_tbN, nI_leI, nI_ltI, nI_eq, pk_sub, ↓reduceIte, if_pos, if_neg, q_zlt, q_bs, e, Bool.not_false, q_seen_n hw, hf, q_ys, q_sum, Nat.add_zero, Bool.false_eq_true, reduceCtorEq]
      | true =>
        rw [hf] at e
        have hx : f_X0_partUnder I c (nI m) (nI w) = some (nI (q_pt C m w)) := x0_partUnder h ok (by omega)
        simp (disch := omega) only [g_X0_yieldUnder_18, h.f.2.1, hx, h.a6 hk, ql_0, ql_1, ql_2, ql_3, ql_4, ql_5, ql_6, ql_7, ql_8, ql_9, ql_10, ql_11, ql_12, ql_13, ql_14, ql_15, ql_16, ql_17, ql_18, ql_19, ql_20, ql_21, ql_22, ql_23, ql_24, ql_27, ql_30, ql_31, ql_32, ql_40, ql_48, ql_51, ql_52, ql_57, ql_59, ql_60, ql_61, ql_62, ql_76, ql_84, ql_91, ql_97, ql_99, ql_100, ql_120, ql_122, ql_127, ql_128, ql_200, ql_255, ql_256, ql_300, ql_420, ql_428, ql_640, ql_900, ql_896, ql_999, ql_1712, ql_1716, ql_1734, ql_1772, ql_1800, ql_1805, ql_1811, ql_1822, ql_2132, ql_2140, ql_3229, ql_9999, ql_11453, ql_65536, ql_100000, ql_1000000, nI_add, pk_mul, q_and, q_or, q_xor, nI_clamp, q_in, q_neg1, q_nno, q_nno', q_annN, q_sh1, q_tbN, nI_leI, nI_ltI, nI_eq, pk_sub, ↓reduceIte, if_pos, if_neg, q_zlt, q_bs, e, Bool.not_true, q_seen_n hw, hf, q_ys, q_sum, q_bitCount0, q_min]
        rw [show q_pc (q_pt C m w) - q_pc (q_pt C m w &&& C 6 k) = q_pc (q_pt C m w ^^^ (q_pt C m w &&& C 6 k)) by omega]
    · simp (disch := omega) only [g_X0_yieldUnder_18, h.f.2.1, ql_0, ql_1, ql_2, ql_3, ql_4, ql_5, ql_6, ql_7, ql_8, ql_9, ql_10, ql_11, ql_12, ql_13, ql_14, ql_15, ql_16, ql_17, ql_18, ql_19, ql_20, ql_21, ql_22, ql_23, ql_24, ql_27, ql_30, ql_31, ql_32, ql_40, ql_48, ql_51, ql_52, ql_57, ql_59, ql_60, ql_61, ql_62, ql_76, ql_84, ql_91, ql_97, ql_99, ql_100, ql_120, ql_122, ql_127, ql_128, ql_200, ql_255, ql_256, ql_300, ql_420, ql_428, ql_640, ql_900, ql_896, ql_999, ql_1712, ql_1716, ql_1734, ql_1772, ql_1800, ql_1805, ql_1811, ql_1822, ql_2132, ql_2140, ql_3229, ql_9999, ql_11453, ql_65536, ql_100000, ql_1000000, nI_add, pk_mul, q_and, q_or, q_xor, nI_clamp, q_in, q_neg1, q_nno, q_nno', q_annN, q_sh1, q_tbN, nI_leI, nI_ltI, nI_eq, pk_sub, ↓reduceIte, if_pos, if_neg, q_zlt, q_bs]
end
section
variable {C : q_N} {m : Nat} {J : z_I} {K : z_L}
theorem m_isFirst (h : q_sm C 0 m J K) (ok : q_ok C) {d w : Nat} (hw : w < 31) (hd : d < 2 ^ 31) : f_X11_isFirst J (nI w) (nI d) = some (q_fst C d w) := by
  have hb : f_X11_partBy J (nI w) (nI d) = some (nI (q_pt C d w)) := m_partBy h ok hw hd
  have h2 : q_pt C d w &&& (2 ^ w - 1) < 2 ^ 31 := by
    have := q_and_lt (y := 2 ^ w - 1) (q_pt8 ok d w)
    omega
  simp (disch := omega) only [f_X11_isFirst, hb, ql_0, ql_1, ql_2, ql_3, ql_4, ql_5, ql_6, ql_7, ql_8, ql_9, ql_10, ql_11, ql_12, ql_13, ql_14, ql_15, ql_16, ql_17, ql_18, ql_19, ql_20, ql_21, ql_22, ql_23, ql_24, ql_27, ql_30, ql_31, ql_32, ql_40, ql_48, ql_51, ql_52, ql_57, ql_59, ql_60, ql_61, ql_62, ql_76, ql_84, ql_91, ql_97, ql_99, ql_100, ql_120, ql_122, ql_127, ql_128, ql_200, ql_255, ql_256, ql_300, ql_420, ql_428, ql_640, ql_900, ql_896, ql_999, ql_1712, ql_1716, ql_1734, ql_1772, ql_1800, ql_1805, ql_1811, ql_1822, ql_2132, ql_2140, ql_3229, ql_9999, ql_11453, ql_65536, ql_100000, ql_1000000, nI_add, pk_mul, q_and, q_or, q_xor, nI_clamp, q_in, q_neg1, q_nno, q_nno', q_annN, q_sh1, q_tbN, nI_leI, nI_ltI, nI_eq, pk_sub, ↓reduceIte, if_pos, if_neg, q_zlt, q_bs, q_ones]
  unfold q_fst
  show (if q_pt C d w &&& (2 ^ w - 1) = 0 then some true else some false) = _
  by_cases z : q_pt C d w &&& (2 ^ w - 1) = 0
  · rw [if_pos z, decide_eq_true z]
  · rw [if_neg z, decide_eq_false z]
theorem m_partsBy (h : q_sm C 0 m J K) (ok : q_ok C) {d : Nat} (hd : d < 2 ^ 31) : f_X11_partsBy J (nI d) = some (nI (q_pn C d (C 0 1))) := by
  obtain ⟨o0, o1, o2, o3, -⟩ := id ok
  unfold f_X11_partsBy
  refine q_lp (G := fun n k (a : Nat) => g_X11_partsBy_4 (nI d) J n (nI a) (nI k)) (fun k => q_pn C d k) (fun n k _ hk => ?_) (fun n => ?_) (Nat.zero_le (C 0 1)) (q_fu (by omega))
  · cases hb : q_fst C d k <;> simp (disch := omega) only [g_X11_partsBy_4, h.f.2.1, m_isFirst h ok, ql_0, ql_1, ql_2, ql_3, ql_4, ql_5, ql_6, ql_7, ql_8, ql_9, ql_10, ql_11, ql_12, ql_13, ql_14, ql_15, ql_16, ql_17, ql_18, ql_19, ql_20, ql_21, ql_22, ql_23, ql_24, ql_27, ql_30, ql_31, ql_32, ql_40, ql_48, ql_51, ql_52, ql_57, ql_59, ql_60, ql_61, ql_62, ql_76, ql_84, ql_91, ql_97, ql_99, ql_100, ql_120, ql_122, ql_127, ql_128, ql_200, ql_255, ql_256, ql_300, ql_420, ql_428, ql_640, ql_900, ql_896, ql_999, ql_1712, ql_1716, ql_1734, ql_1772, ql_1800, ql_1805, ql_1811, ql_1822, ql_2132, ql_2140, ql_3229, ql_9999, ql_11453, ql_65536, ql_100000, ql_1000000, nI_add, pk_mul, q_and, q_or, q_xor, nI_clamp, q_in, q_neg1, q_nno, q_nno', q_annN, q_sh1, q_tbN, nI_leI, nI_ltI, nI_eq, pk_sub, ↓reduceIte, if_pos, if_neg, q_zlt, q_bs, hb, q_pn, q_sum, Nat.add_zero, Bool.false_eq_true, reduceCtorEq]
  · simp (disch := omega) only [g_X11_partsBy_4, h.f.2.1, ql_0, ql_1, ql_2, ql_3, ql_4, ql_5, ql_6, ql_7, ql_8, ql_9, ql_10, ql_11, ql_12, ql_13, ql_14, ql_15, ql_16, ql_17, ql_18, ql_19, ql_20, ql_21, ql_22, ql_23, ql_24, ql_27, ql_30, ql_31, ql_32, ql_40, ql_48, ql_51, ql_52, ql_57, ql_59, ql_60, ql_61, ql_62, ql_76, ql_84, ql_91, ql_97, ql_99, ql_100, ql_120, ql_122, ql_127, ql_128, ql_200, ql_255, ql_256, ql_300, ql_420, ql_428, ql_640, ql_900, ql_896, ql_999, ql_1712, ql_1716, ql_1734, ql_1772, ql_1800, ql_1805, ql_1811, ql_1822, ql_2132, ql_2140, ql_3229, ql_9999, ql_11453, ql_65536, ql_100000, ql_1000000, nI_add, pk_mul, q_and, q_or, q_xor, nI_clamp, q_in, q_neg1, q_nno, q_nno', q_annN, q_sh1, q_tbN, nI_leI, nI_ltI, nI_eq, pk_sub, ↓reduceIte, if_pos, if_neg, q_zlt, q_bs]
theorem m_yieldBy (h : q_sm C 0 m J K) (ok : q_ok C) {d k : Nat} (hk : k < C 0 2) (hd : d < 2 ^ 31) : f_X11_yieldBy J (nI k) (nI d) = some (nI (q_yd C d k)) := by
  obtain ⟨o0, o1, o2, o3, -⟩ := id ok
  unfold f_X11_yieldBy q_yd
  rw [q_isIn hd (by omega)]
  cases hb : d.testBit k with
  | true => rfl
  | false =>
    simp only [Bool.false_eq_true, ↓reduceIte]
    refine q_lp (G := fun n w (a : Nat) => g_X11_yieldBy_16 (nI k) (nI d) J n (nI a) (nI w)) (fun w => 3 * q_ys C d k w) (fun n w _ hw => ?_) (fun n => ?_) (Nat.zero_le (C 0 1)) (q_fu (by omega))
    · have h8 := q_pt8 ok d w
      have h9 : q_pt C d w &&& C 6 k < 256 := q_and_lt h8
      have h10 : q_pt C d w ^^^ (q_pt C d w &&& C 6 k) < 256 := q_xa_lt (n := 8) h8
      have p1 := q_pc8 h9
      have p2 := q_pc8 h10
      have hx : f_X11_partBy J (nI w) (nI d) = some (nI (q_pt C d w)) := m_partBy h ok (by omega) hd
      cases hf : q_fst C d w with
      | true =>
        simp (disch := omega) only [g_X11_yieldBy_16, h.f.2.1, m_isFirst h ok, hx, m_truthOf h ok hk, m_bits, ql_0, ql_1, ql_2, ql_3, ql_4, ql_5, ql_6, ql_7, ql_8, ql_9, ql_10, ql_11, ql_12, ql_13, ql_14, ql_15, ql_16, ql_17, ql_18, ql_19, ql_20, ql_21, ql_22, ql_23, ql_24, ql_27, ql_30, ql_31, ql_32, ql_40, ql_48, ql_51, ql_52, ql_57, ql_59, ql_60, ql_61, ql_62, ql_76, ql_84, ql_91, ql_97, ql_99, ql_100, ql_120, ql_122, ql_127, ql_128, ql_200, ql_255, ql_256, ql_300, ql_420, ql_428, ql_640, ql_900, ql_896, ql_999, ql_1712, ql_1716, ql_1734, ql_1772, ql_1800, ql_1805, ql_1811, ql_1822, ql_2132, ql_2140, ql_3229, ql_9999, ql_11453, ql_65536, ql_100000, ql_1000000, nI_add, pk_mul, q_and, q_or, q_xor, nI_clamp, q_in, q_neg1, q_nno, q_nno', q_annN, q_sh1, q_tbN, nI_leI, nI_ltI, nI_eq, pk_sub, ↓reduceIte, if_pos, if_neg, q_zlt, q_bs, hf, q_ys, q_sum, q_min, Nat.mul_add]
      | false =>
        simp (disch := omega) only [g_X11_yieldBy_16, h.f.2.1, m_isFirst h ok, m_truthOf h ok hk, m_bits, ql_0, ql_1, ql_2, ql_3, ql_4, ql_5, ql_6, ql_7, ql_8, ql_9, ql_10, ql_11, ql_12, ql_13, ql_14, ql_15, ql_16, ql_17, ql_18, ql_19, ql_20, ql_21, ql_22, ql_23, ql_24, ql_27, ql_30, ql_31, ql_32, ql_40, ql_48, ql_51, ql_52, ql_57, ql_59, ql_60, ql_61, ql_62, ql_76, ql_84, ql_91, ql_97, ql_99, ql_100, ql_120, ql_122, ql_127, ql_128, ql_200, ql_255, ql_256, ql_300, ql_420, ql_428, ql_640, ql_900, ql_896, ql_999, ql_1712, ql_1716, ql_1734, ql_1772, ql_1800, ql_1805, ql_1811, ql_1822, ql_2132, ql_2140, ql_3229, ql_9999, ql_11453, ql_65536, ql_100000, ql_1000000, nI_add, pk_mul, q_and, q_or, q_xor, nI_clamp, q_in, q_neg1, q_nno, q_nno', q_annN, q_sh1, q_tbN, nI_leI, nI_ltI, nI_eq, pk_sub, ↓reduceIte, if_pos, if_neg, q_zlt, q_bs, hf, q_ys, q_sum, q_min, Nat.zero_and, Nat.xor_zero, Nat.min_self, (q_pc0 0 (by omega)).2.2, Nat.mul_zero, Nat.add_zero, Bool.false_eq_true]
    · simp (disch := omega) only [g_X11_yieldBy_16, h.f.2.1, ql_0, ql_1, ql_2, ql_3, ql_4, ql_5, ql_6, ql_7, ql_8, ql_9, ql_10, ql_11, ql_12, ql_13, ql_14, ql_15, ql_16, ql_17, ql_18, ql_19, ql_20, ql_21, ql_22, ql_23, ql_24, ql_27, ql_30, ql_31, ql_32, ql_40, ql_48, ql_51, ql_52, ql_57, ql_59, ql_60, ql_61, ql_62, ql_76, ql_84, ql_91, ql_97, ql_99, ql_100, ql_120, ql_122, ql_127, ql_128, ql_200, ql_255, ql_256, ql_300, ql_420, ql_428, ql_640, ql_900, ql_896, ql_999, ql_1712, ql_1716, ql_1734, ql_1772, ql_1800, ql_1805, ql_1811, ql_1822, ql_2132, ql_2140, ql_3229, ql_9999, ql_11453, ql_65536, ql_100000, ql_1000000, nI_add, pk_mul, q_and, q_or, q_xor, nI_clamp, q_in, q_neg1, q_nno, q_nno', q_annN, q_sh1, q_tbN, nI_leI, nI_ltI, nI_eq, pk_sub, ↓reduceIte, if_pos, if_neg, q_zlt, q_bs]
end
