/-! a court's own functions, on both sides -/
def q_wt (C : q_N) (s n : Nat) : Nat := q_sum (fun k => if s.testBit k then C 3 k else 0) n
def q_prt (C : q_N) (made w : Nat) : Nat → Nat := q_it (fun c s => if made.testBit c then (if (C 6 c).testBit w then s &&& C 6 c else s ^^^ (s &&& C 6 c)) else s) (2 ^ C 0 1 - 1)
theorem q_prt_b (C : q_N) (made w : Nat) (n j : Nat) : (q_prt C made w n).testBit j = true ↔ j < C 0 1 ∧ ∀ c, c < n → made.testBit c = true → (C 6 c).testBit j = (C 6 c).testBit w := by
  induction n with
  | zero =>
    show (2 ^ C 0 1 - 1).testBit j = true ↔ _
    rw [Nat.testBit_two_pow_sub_one, decide_eq_true_iff]
    exact ⟨fun h => ⟨h, fun c hc => absurd hc (Nat.not_lt_zero _)⟩, fun h => h.1⟩
  | succ n ih =>
    have key : (q_prt C made w (n + 1)).testBit j = true ↔ (q_prt C made w n).testBit j = true ∧ (made.testBit n = true → (C 6 n).testBit j = (C 6 n).testBit w) := by
      show (if made.testBit n then (if (C 6 n).testBit w then q_prt C made w n &&& C 6 n else q_prt C made w n ^^^ (q_prt C made w n &&& C 6 n)) else q_prt C made w n).testBit j = true ↔ _
      by_cases h1 : made.testBit n = true
      · by_cases h2 : (C 6 n).testBit w = true
        · rw [if_pos h1, if_pos h2, Nat.testBit_and, h2]
          simp [h1]
        · rw [if_pos h1, if_neg h2, Nat.testBit_xor, Nat.testBit_and]
          have h2 : (C 6 n).testBit w = false := by simpa using h2
          rw [h2]
          cases (q_prt C made w n).testBit j <;> cases (C 6 n).testBit j <;> simp [h1]
      · rw [if_neg h1]
        simp [h1]
    rw [key, ih]
    constructor
    · rintro ⟨⟨a, b⟩, c⟩
      refine ⟨a, fun i hi hm => ?_⟩
      rcases Nat.lt_succ_iff_lt_or_eq.mp hi with z | z
      · exact b i z hm
      · subst z; exact c hm
    · rintro ⟨a, b⟩
      exact ⟨⟨a, fun i hi => b i (by omega)⟩, b n (by omega)⟩
theorem q_prt_lt (C : q_N) (made w n : Nat) : q_prt C made w n < 2 ^ C 0 1 := by
  apply Nat.lt_pow_two_of_testBit
  intro i hi
  cases h : (q_prt C made w n).testBit i with
  | false => rfl
  | true => exact absurd ((q_prt_b C made w n i).1 h).1 (by omega)
theorem q_p8 {n x : Nat} (hn : n ≤ 8) (h : x < 2 ^ n) : x < 256 := Nat.lt_of_lt_of_le h (Nat.pow_le_pow_right (by decide) hn)
theorem q_p7 {n x : Nat} (hn : n ≤ 7) (h : x < 2 ^ n) : x < 128 := Nat.lt_of_lt_of_le h (Nat.pow_le_pow_right (by decide) hn)
section
variable {C : q_N} {c : Nat} {I : z_I} {L : z_L}
theorem x0_hasBed (h : q_sx C c I L) (p : Int32) : f_X0_hasBed I c p = q_hs (C 0 0) p := by
  unfold f_X0_hasBed q_hs; rw [h.f.1]
theorem x0_hasCase (h : q_sx C c I L) (p : Int32) : f_X0_hasCase I c p = q_hs (C 0 1) p := by
  unfold f_X0_hasCase q_hs; rw [h.f.2.1]
theorem x0_hasClaim (h : q_sx C c I L) (p : Int32) : f_X0_hasClaim I c p = q_hs (C 0 2) p := by
  unfold f_X0_hasClaim q_hs; rw [h.f.2.2.1]
theorem x0_hasScholar (h : q_sx C c I L) (p : Int32) : f_X0_hasScholar I c p = q_hs (C 0 3) p := by
  unfold f_X0_hasScholar q_hs; rw [h.f.2.2.2.1]
theorem x0_setOfAll (h : q_sx C c I L) (ok : q_ok C) : f_X0_setOfAll I c = nI (2 ^ C 0 1 - 1) := by
  obtain ⟨o0, o1, o2, o3, -⟩ := id ok
  unfold f_X0_setOfAll
  rw [h.f.2.1, q_shl _ (by omega), ql_1, q_ones (by omega)]
theorem x0_isMade (h : q_sx C c I L) {k : Nat} (hk : k < 31) : f_X0_isMade I c (nI k) = (C 0 6).testBit k := by
  unfold f_X0_isMade
  rw [h.f.2.2.2.2.2.2]
  cases hb : (C 0 6).testBit k with
  | false => rw [if_pos ((q_tb hk).2 hb)]
  | true => rw [if_neg (fun z => by rw [(q_tb hk).1 z] at hb; cases hb)]
theorem x0_sumOf {d N M : Nat} {f : Nat → Nat} (hM : M ≤ N) (hN : N ≤ 100) (hf : ∀ k, k < M → I d k = nI (f k)) : f_X0_sumOf I d N (nI M) = some (nI (q_sum f M)) := by
  unfold f_X0_sumOf
  refine q_lp (G := fun n k (a : Nat) => g_X0_sumOf_4 d N (nI M) I n (nI a) (nI k)) (fun k => q_sum f k) (fun n k _ hk => ?_) (fun n => ?_) (Nat.zero_le M) (q_fu (by omega))
  · simp (disch := omega) only [g_X0_sumOf_4, hf k hk, ql_0, ql_1, ql_2, ql_3, ql_4, ql_5, ql_6, ql_7, ql_8, ql_9, ql_10, ql_11, ql_12, ql_13, ql_14, ql_15, ql_16, ql_17, ql_18, ql_19, ql_20, ql_21, ql_22, ql_23, ql_24, ql_27, ql_30, ql_31, ql_32, ql_40, ql_48, ql_51, ql_52, ql_57, ql_59, ql_60, ql_61, ql_62, ql_76, ql_84, ql_91, ql_97, ql_99, ql_100, ql_120, ql_122, ql_127, ql_128, ql_200, ql_255, ql_256, ql_300, ql_420, ql_428, ql_640, ql_900, ql_896, ql_999, ql_1712, ql_1716, ql_1734, ql_1772, ql_1800, ql_1805, ql_1811, ql_1822, ql_2132, ql_2140, ql_3229, ql_9999, ql_11453, ql_65536, ql_100000, ql_1000000, nI_add, pk_mul, q_and, q_or, q_xor, nI_clamp, q_in, q_neg1, q_nno, q_nno', q_annN, q_sh1, q_tbN, nI_leI, nI_ltI, nI_eq, pk_sub, ↓reduceIte, if_pos, if_neg, q_zlt, q_bs, q_sum]
  · simp (disch := omega) only [g_X0_sumOf_4, ql_0, ql_1, ql_2, ql_3, ql_4, ql_5, ql_6, ql_7, ql_8, ql_9, ql_10, ql_11, ql_12, ql_13, ql_14, ql_15, ql_16, ql_17, ql_18, ql_19, ql_20, ql_21, ql_22, ql_23, ql_24, ql_27, ql_30, ql_31, ql_32, ql_40, ql_48, ql_51, ql_52, ql_57, ql_59, ql_60, ql_61, ql_62, ql_76, ql_84, ql_91, ql_97, ql_99, ql_100, ql_120, ql_122, ql_127, ql_128, ql_200, ql_255, ql_256, ql_300, ql_420, ql_428, ql_640, ql_900, ql_896, ql_999, ql_1712, ql_1716, ql_1734, ql_1772, ql_1800, ql_1805, ql_1811, ql_1822, ql_2132, ql_2140, ql_3229, ql_9999, ql_11453, ql_65536, ql_100000, ql_1000000, nI_add, pk_mul, q_and, q_or, q_xor, nI_clamp, q_in, q_neg1, q_nno, q_nno', q_annN, q_sh1, q_tbN, nI_leI, nI_ltI, nI_eq, pk_sub, ↓reduceIte, if_pos, if_neg, q_zlt, q_bs]
theorem x0_weightOf (h : q_sx C c I L) (ok : q_ok C) (s : Nat) : f_X0_weightOf I c (nI s) = some (nI (q_wt C s (C 0 1))) := by
  obtain ⟨o0, o1, o2, o3, -⟩ := id ok
  unfold f_X0_weightOf
  refine q_lp (G := fun n k (a : Nat) => g_X0_weightOf_4 c (nI s) I n (nI a) (nI k)) (fun k => q_wt C s k) (fun n k _ hk => ?_) (fun n => ?_) (Nat.zero_le (C 0 1)) (q_fu (by omega))
  · cases hb : s.testBit k <;> simp (disch := omega) only [g_X0_weightOf_4, h.f.2.1, h.a3 hk, ql_0, ql_1, ql_2, ql_3, ql_4, ql_5, ql_6, ql_7, ql_8, ql_9, ql_10, ql_11, ql_12, ql_13, ql_14, ql_15, ql_16, ql_17, ql_18, ql_19, ql_20, ql_21, ql_22, ql_23, ql_24, ql_27, ql_30, ql_31, ql_32, ql_40, ql_48, ql_51, ql_52, ql_57, ql_59, ql_60, ql_61, ql_62, ql_76, ql_84, ql_91, ql_97, ql_99, ql_100, ql_120, ql_122, ql_127, ql_128, ql_200, ql_255, ql_256, ql_300, ql_420, ql_428, ql_640, ql_900, ql_896, ql_999, ql_1712, ql_1716, ql_1734, ql_1772, ql_1800, ql_1805, ql_1811, ql_1822, ql_2132, ql_2140, ql_3229, ql_9999, ql_11453, ql_65536, ql_100000, ql_1000000, nI_add, pk_mul, q_and, q_or, q_xor, nI_clamp, q_in, q_neg1, q_nno, q_nno', q_annN, q_sh1, q_tbN, nI_leI, nI_ltI, nI_eq, pk_sub, ↓reduceIte, if_pos, if_neg, q_zlt, q_bs, q_wt, q_sum, hb, Nat.add_zero, Bool.false_eq_true, reduceCtorEq]
  · simp (disch := omega) only [g_X0_weightOf_4, h.f.2.1, ql_0, ql_1, ql_2, ql_3, ql_4, ql_5, ql_6, ql_7, ql_8, ql_9, ql_10, ql_11, ql_12, ql_13, ql_14, ql_15, ql_16, ql_17, ql_18, ql_19, ql_20, ql_21, ql_22, ql_23, ql_24, ql_27, ql_30, ql_31, ql_32, ql_40, ql_48, ql_51, ql_52, ql_57, ql_59, ql_60, ql_61, ql_62, ql_76, ql_84, ql_91, ql_97, ql_99, ql_100, ql_120, ql_122, ql_127, ql_128, ql_200, ql_255, ql_256, ql_300, ql_420, ql_428, ql_640, ql_900, ql_896, ql_999, ql_1712, ql_1716, ql_1734, ql_1772, ql_1800, ql_1805, ql_1811, ql_1822, ql_2132, ql_2140, ql_3229, ql_9999, ql_11453, ql_65536, ql_100000, ql_1000000, nI_add, pk_mul, q_and, q_or, q_xor, nI_clamp, q_in, q_neg1, q_nno, q_nno', q_annN, q_sh1, q_tbN, nI_leI, nI_ltI, nI_eq, pk_sub, ↓reduceIte, if_pos, if_neg, q_zlt, q_bs]
theorem x0_partUnder (h : q_sx C c I L) (ok : q_ok C) {m w : Nat} (hw : w < 31) : f_X0_partUnder I c (nI m) (nI w) = some (nI (q_prt C m w (C 0 2))) := by
  obtain ⟨o0, o1, o2, o3, -⟩ := id ok
  unfold f_X0_partUnder
  simp (disch := omega) only [h.f.2.1, ql_0, ql_1, ql_2, ql_3, ql_4, ql_5, ql_6, ql_7, ql_8, ql_9, ql_10, ql_11, ql_12, ql_13, ql_14, ql_15, ql_16, ql_17, ql_18, ql_19, ql_20, ql_21, ql_22, ql_23, ql_24, ql_27, ql_30, ql_31, ql_32, ql_40, ql_48, ql_51, ql_52, ql_57, ql_59, ql_60, ql_61, ql_62, ql_76, ql_84, ql_91, ql_97, ql_99, ql_100, ql_120, ql_122, ql_127, ql_128, ql_200, ql_255, ql_256, ql_300, ql_420, ql_428, ql_640, ql_900, ql_896, ql_999, ql_1712, ql_1716, ql_1734, ql_1772, ql_1800, ql_1805, ql_1811, ql_1822, ql_2132, ql_2140, ql_3229, ql_9999, ql_11453, ql_65536, ql_100000, ql_1000000, nI_add, pk_mul, q_and, q_or, q_xor, nI_clamp, q_in, q_neg1, q_nno, q_nno', q_annN, q_sh1, q_tbN, nI_leI, nI_ltI, nI_eq, pk_sub, ↓reduceIte, if_pos, if_neg, q_zlt, q_bs, q_ones]
  rw [show 2 ^ C 0 1 - 1 = q_prt C m w 0 from rfl]
  refine q_lp (G := fun n k (a : Nat) => g_X0_partUnder_12 c (nI m) (nI w) I n (nI a) (nI k)) (fun k => q_prt C m w k) (fun n k _ hk => ?_) (fun n => ?_) (Nat.zero_le (C 0 2)) (q_fu (by omega))
  · have e : q_prt C m w (k + 1) = if m.testBit k then (if (C 6 k).testBit w then q_prt C m w k &&& C 6 k else q_prt C m w k ^^^ (q_prt C m w k &&& C 6 k)) else q_prt C m w k := rfl
    cases hb : m.testBit k <;> cases hc : (C 6 k).testBit w <;> simp (disch := omega) only [g_X0_partUnder_12, h.f.2.2.1, h.a6 hk, ql_0, ql_1, ql_2, ql_3, ql_4, ql_5, ql_6, ql_7, ql_8, ql_9, ql_10, ql_11, ql_12, ql_13, ql_14, ql_15, ql_16, ql_17, ql_18, ql_19, ql_20, ql_21, ql_22, ql_23, ql_24, ql_27, ql_30, ql_31, ql_32, ql_40, ql_48, ql_51, ql_52, ql_57, ql_59, ql_60, ql_61, ql_62, ql_76, ql_84, ql_91, ql_97, ql_99, ql_100, ql_120, ql_122, ql_127, ql_128, ql_200, ql_255, ql_256, ql_300, ql_420, ql_428, ql_640, ql_900, ql_896, ql_999, ql_1712, ql_1716, ql_1734, ql_1772, ql_1800, ql_1805, ql_1811, ql_1822, ql_2132, ql_2140, ql_3229, ql_9999, ql_11453, ql_65536, ql_100000, ql_1000000, nI_add, pk_mul, q_and, q_or, q_xor, nI_clamp, q_in, q_neg1, q_nno, q_nno', q_annN, q_sh1, q_tbN, nI_leI, nI_ltI, nI_eq, pk_sub, ↓reduceIte, if_pos, if_neg, q_zlt, q_bs, e, hb, hc, Bool.false_eq_true, reduceCtorEq]
  · simp (disch := omega) only [g_X0_partUnder_12, h.f.2.2.1, ql_0, ql_1, ql_2, ql_3, ql_4, ql_5, ql_6, ql_7, ql_8, ql_9, ql_10, ql_11, ql_12, ql_13, ql_14, ql_15, ql_16, ql_17, ql_18, ql_19, ql_20, ql_21, ql_22, ql_23, ql_24, ql_27, ql_30, ql_31, ql_32, ql_40, ql_48, ql_51, ql_52, ql_57, ql_59, ql_60, ql_61, ql_62, ql_76, ql_84, ql_91, ql_97, ql_99, ql_100, ql_120, ql_122, ql_127, ql_128, ql_200, ql_255, ql_256, ql_300, ql_420, ql_428, ql_640, ql_900, ql_896, ql_999, ql_1712, ql_1716, ql_1734, ql_1772, ql_1800, ql_1805, ql_1811, ql_1822, ql_2132, ql_2140, ql_3229, ql_9999, ql_11453, ql_65536, ql_100000, ql_1000000, nI_add, pk_mul, q_and, q_or, q_xor, nI_clamp, q_in, q_neg1, q_nno, q_nno', q_annN, q_sh1, q_tbN, nI_leI, nI_ltI, nI_eq, pk_sub, ↓reduceIte, if_pos, if_neg, q_zlt, q_bs]
end
