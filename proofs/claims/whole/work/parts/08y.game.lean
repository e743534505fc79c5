/-! the game -/
def q_sg (l : Nat) : Int := if l % 2 = 0 then 1 else -1
theorem q_sg_s (l : Nat) : q_sg (l + 1) = -q_sg l := by
  unfold q_sg
  by_cases h : l % 2 = 0
  · rw [if_pos h, if_neg (by omega)]
  · rw [if_neg h, if_pos (by omega)]; rfl
theorem q_par : ∀ l, l < 5 → nI l - nI l / nI 2 * nI 2 = nI (l % 2) := by decide
def q_gt (st : Option (Int × Nat)) (v : Int) (c : Nat) : Option (Int × Nat) := match st with
  | none => some (v, c)
  | some (w, d) => if w < v then some (v, c) else some (w, d)
def q_gv (C : q_N) (u : Nat → Int) (m k : Nat) : Int := if k < C 0 2 then q_Uw C false u m k else -(u m)
def q_gs (C : q_N) (u : Nat → Int) (m k : Nat) : Option (Int × Nat) := q_it (fun c st => if m.testBit c = true then st else q_gt st (q_gv C u m c) c) none k
theorem q_gs_s (C : q_N) (u : Nat → Int) (m k : Nat) : q_gs C u m (k + 1) = if m.testBit k = true then q_gs C u m k else q_gt (q_gs C u m k) (q_gv C u m k) k := rfl
def q_gi (C : q_N) (u : Nat → Int) (m k : Nat) : Option (Int × Nat) → Prop
  | none => ∀ c, c < k → m.testBit c = true
  | some (v, d) => d < k ∧ m.testBit d = false ∧ q_gv C u m d = v ∧ (∀ c, c < k → m.testBit c = false → q_gv C u m c ≤ v) ∧ (∀ c, c < d → m.testBit c = false → q_gv C u m c < v)
theorem q_gs_i (C : q_N) (u : Nat → Int) (m k : Nat) : q_gi C u m k (q_gs C u m k) := by
  induction k with
  | zero => exact fun c hc => by omega
  | succ k ih =>
    rw [q_gs_s]
    cases hb : m.testBit k with
    | true =>
      rw [if_pos rfl]
      cases hs : q_gs C u m k with
      | none =>
        rw [hs] at ih
        intro c hc
        by_cases y : c = k
        · subst y; exact hb
        · exact ih c (by omega)
      | some p =>
        obtain ⟨v, d⟩ := p
        rw [hs] at ih
        obtain ⟨i1, i2, i3, i4, i5⟩ := ih
        refine ⟨by omega, i2, i3, fun c hc hbc => ?_, i5⟩
        by_cases y : c = k
        · subst y; rw [hb] at hbc; cases hbc
        · exact i4 c (by omega) hbc
    | false =>
      rw [if_neg (by decide)]
      cases hs : q_gs C u m k with
      | none =>
        rw [hs] at ih
        refine ⟨by omega, hb, rfl, fun c hc hbc => ?_, fun c hc hbc => ?_⟩
        · by_cases y : c = k
          · subst y; exact Int.le_refl _
          · have := ih c (by omega); rw [hbc] at this; cases this
        · have := ih c (by omega); rw [hbc] at this; cases this
      | some p =>
        obtain ⟨v, d⟩ := p
        rw [hs] at ih
        obtain ⟨i1, i2, i3, i4, i5⟩ := ih
        show q_gi C u m (k + 1) (if v < q_gv C u m k then some (q_gv C u m k, k) else some (v, d))
        by_cases z : v < q_gv C u m k
        · rw [if_pos z]
          refine ⟨by omega, hb, rfl, fun c hc hbc => ?_, fun c hc hbc => ?_⟩
          · by_cases y : c = k
            · subst y; exact Int.le_refl _
            · have := i4 c (by omega) hbc; omega
          · have := i4 c (by omega) hbc; omega
        · rw [if_neg z]
          refine ⟨by omega, i2, i3, fun c hc hbc => ?_, i5⟩
          by_cases y : c = k
          · subst y; omega
          · exact i4 c (by omega) hbc
theorem q_Uk_m (C : q_N) (b : Bool) (u : Nat → Int) (m : Nat) (a0 : Int) (k : Nat) : a0 ≤ q_Uk C b u m a0 k ∧ (∀ c, c < k → m.testBit c = false → q_Uw C b u m c ≤ q_Uk C b u m a0 k) ∧ (q_Uk C b u m a0 k = a0 ∨ ∃ c, c < k ∧ m.testBit c = false ∧ q_Uw C b u m c = q_Uk C b u m a0 k) := by
  induction k with
  | zero => exact ⟨Int.le_refl _, fun c hc => by omega, Or.inl rfl⟩
  | succ k ih =>
    obtain ⟨i1, i2, i3⟩ := ih
    rw [q_Uk_s]
    cases hb : m.testBit k with
    | true =>
      rw [if_pos rfl]
      refine ⟨i1, fun c hc hbc => ?_, ?_⟩
      · by_cases y : c = k
        · subst y; rw [hb] at hbc; cases hbc
        · exact i2 c (by omega) hbc
      · rcases i3 with i3 | ⟨c, h1, h2⟩
        · exact Or.inl i3
        · exact Or.inr ⟨c, by omega, h2⟩
    | false =>
      rw [if_neg (by decide)]
      refine ⟨by omega, fun c hc hbc => ?_, ?_⟩
      · by_cases y : c = k
        · subst y; omega
        · have := i2 c (by omega) hbc; omega
      · by_cases z : q_Uk C b u m a0 k ≤ q_Uw C b u m k
        · exact Or.inr ⟨k, by omega, hb, by omega⟩
        · rcases i3 with i3 | ⟨c, h1, h2, h3⟩
          · left; omega
          · exact Or.inr ⟨c, by omega, h2, by omega⟩
theorem q_gs_v {C : q_N} {l m : Nat} (hm : m < 2 ^ C 0 2) : ∃ d, q_gs C (q_U C false l) m (C 0 2 + 1) = some (q_U C false (l + 1) m, d) ∧ d ≤ C 0 2 ∧ q_find (fun c => !m.testBit c && decide (q_Uw C false (q_U C false l) m c = q_U C false (l + 1) m)) (C 0 2) = (if d < C 0 2 then some d else none) := by
  have hz : m.testBit (C 0 2) = false := Nat.testBit_lt_two_pow hm
  have hi := q_gs_i C (q_U C false l) m (C 0 2 + 1)
  obtain ⟨u1, u2, u3⟩ := q_Uk_m C false (q_U C false l) m (-(q_U C false l m)) (C 0 2)
  have hUe : q_Uk C false (q_U C false l) m (-(q_U C false l m)) (C 0 2) = q_U C false (l + 1) m := rfl
  rw [hUe] at u1 u2 u3
  cases hs : q_gs C (q_U C false l) m (C 0 2 + 1) with
  | none =>
    rw [hs] at hi
    have := hi (C 0 2) (by omega)
    rw [hz] at this; cases this
  | some p =>
    obtain ⟨v, d⟩ := p
    rw [hs] at hi
    obtain ⟨i1, i2, i3, i4, i5⟩ := hi
    have gl : ∀ c, c < C 0 2 → q_gv C (q_U C false l) m c = q_Uw C false (q_U C false l) m c := fun c hc => by unfold q_gv; rw [if_pos hc]
    have gz : q_gv C (q_U C false l) m (C 0 2) = -(q_U C false l m) := by unfold q_gv; rw [if_neg (by omega)]
    have hv : v = q_U C false (l + 1) m := by
      have a1 : v ≤ q_U C false (l + 1) m := by
        by_cases y : d = C 0 2
        · subst y; rw [gz] at i3; omega
        · have := u2 d (by omega) i2; rw [gl d (by omega)] at i3; omega
      have a2 : q_U C false (l + 1) m ≤ v := by
        rcases u3 with u3 | ⟨c, c1, c2, c3⟩
        · have := i4 (C 0 2) (by omega) hz; rw [gz] at this; omega
        · have := i4 c (by omega) c2; rw [gl c c1] at this; omega
      omega
    subst hv
    refine ⟨d, rfl, by omega, ?_⟩
    by_cases y : d < C 0 2
    · rw [if_pos y]
      apply q_find_s _ _ y
      · rw [gl d y] at i3
        simp only [i2, Bool.not_false, Bool.true_and, decide_eq_true_iff]
        exact i3
      · intro c hc
        cases hb : m.testBit c with
        | true => rfl
        | false =>
          have := i5 c hc hb
          rw [gl c (by omega)] at this
          simp only [Bool.not_false, Bool.true_and, decide_eq_false_iff_not]
          omega
    · rw [if_neg y]
      have hd : d = C 0 2 := by omega
      subst hd
      have h0 : ∀ k, k ≤ C 0 2 → q_find (fun c => !m.testBit c && decide (q_Uw C false (q_U C false l) m c = q_U C false (l + 1) m)) k = none := by
        intro k
        induction k with
        | zero => intro _; rfl
        | succ k ih =>
          intro hk
          rw [q_find, ih (by omega)]
          cases hb : m.testBit k with
          | true => rfl
          | false =>
            have := i5 k (by omega) hb
            rw [gl k (by omega)] at this
            rw [if_neg]
            simp only [Bool.not_false, Bool.true_and, decide_eq_true_iff]
            omega
      exact h0 _ (Nat.le_refl _)
/-- the best so far, in the reference's memory -/
def q_gq (M : z_I) (l : Nat) (u : Int) : Option (Int × Nat) → Prop
  | none => M 19 l = q_no
  | some (v, d) => M 19 l = nI d ∧ M 18 l = q_zi (u + q_sg l * v) ∧ d ≤ 7 ∧ -1000 ≤ v ∧ v ≤ 1000
def q_gF (J M : z_I) : Prop := ∀ d k, d < 15 ∨ 19 < d → M d k = J d k
theorem m_settle {M : z_I} {l k : Nat} {u v : Int} {st : Option (Int × Nat)} (hl : l < 5) (hk : k ≤ 7) (h17 : M 17 l = nI k) (hq : q_gq M l u st) (hu : -1000 ≤ u ∧ u ≤ 1000) (hv : -1000 ≤ v ∧ v ≤ 1000) : ∃ M2, f_X11_settles M (nI l) (q_zi (u + q_sg l * v)) = some M2 ∧ (∀ d i, (d ≠ 18 ∧ d ≠ 19) ∨ i ≠ l → M2 d i = M d i) ∧ q_gq M2 l u (q_gt st v k) := by
  have hset : (∀ d i, (d ≠ 18 ∧ d ≠ 19) ∨ i ≠ l → z2 (z2 M 18 l (q_zi (u + q_sg l * v))) 19 l (nI k) d i = M d i) ∧ q_gq (z2 (z2 M 18 l (q_zi (u + q_sg l * v))) 19 l (nI k)) l u (some (v, k)) := ⟨fun d i hd => by rw [q_zo (by omega), q_zo (by omega)], q_zs, by rw [q_zo (by omega), q_zs], hk, hv.1, hv.2⟩
  have h17' : z2 M 18 l (q_zi (u + q_sg l * v)) 17 l = nI k := by rw [q_zo (by omega), h17]
  have hpar := q_par l hl
  cases st with
  | none =>
    have hq : M 19 l = q_no := hq
    refine ⟨z2 (z2 M 18 l (q_zi (u + q_sg l * v))) 19 l (nI k), ?_, hset⟩
    simp (disch := omega) only [f_X11_settles, ql_0, ql_1, ql_2, ql_3, ql_4, ql_5, ql_6, ql_7, ql_8, ql_9, ql_10, ql_11, ql_12, ql_13, ql_14, ql_15, ql_16, ql_17, ql_18, ql_19, ql_20, ql_21, ql_22, ql_23, ql_24, ql_27, ql_30, ql_31, ql_32, ql_40, ql_48, ql_51, ql_52, ql_57, ql_59, ql_60, ql_61, ql_62, ql_76, ql_84, ql_91, ql_97, ql_99, ql_100, ql_120, ql_122, ql_127, ql_128, ql_200, ql_255, ql_256, ql_300, ql_420, ql_428, ql_640, ql_900, ql_896, ql_999, ql_1712, ql_1716, ql_1734, ql_1772, ql_1800, ql_1805, ql_1811, ql_1822, ql_2132, ql_2140, ql_3229, ql_9999, ql_11453, ql_65536, ql_100000, ql_1000000, nI_add, pk_mul, q_and, q_or, q_xor, nI_clamp, q_in, q_neg1, q_nno, q_nno', q_annN, q_sh1, q_tbN, nI_leI, nI_ltI, nI_eq, pk_sub, ↓reduceIte, if_pos, if_neg, q_zlt, q_bs, hq, h17', h17]
  | some p =>
    obtain ⟨w, d⟩ := p
    obtain ⟨q1, q2, q3, q4, q5⟩ := hq
    by_cases hp : l % 2 = 0
    · have hs : q_sg l = 1 := by unfold q_sg; rw [if_pos hp]
      rw [hs, Int.one_mul] at q2
      have hlt := q_zi_lt (a := u + w) (b := u + v) (by omega) (by omega) (by omega) (by omega)
      by_cases z : w < v
      · refine ⟨z2 (z2 M 18 l (q_zi (u + q_sg l * v))) 19 l (nI k), ?_, ?_⟩
        · rw [hs, Int.one_mul] at h17' ⊢
          have z' : u + w < u + v := by omega
          simp (disch := omega) only [f_X11_settles, ql_0, ql_1, ql_2, ql_3, ql_4, ql_5, ql_6, ql_7, ql_8, ql_9, ql_10, ql_11, ql_12, ql_13, ql_14, ql_15, ql_16, ql_17, ql_18, ql_19, ql_20, ql_21, ql_22, ql_23, ql_24, ql_27, ql_30, ql_31, ql_32, ql_40, ql_48, ql_51, ql_52, ql_57, ql_59, ql_60, ql_61, ql_62, ql_76, ql_84, ql_91, ql_97, ql_99, ql_100, ql_120, ql_122, ql_127, ql_128, ql_200, ql_255, ql_256, ql_300, ql_420, ql_428, ql_640, ql_900, ql_896, ql_999, ql_1712, ql_1716, ql_1734, ql_1772, ql_1800, ql_1805, ql_1811, ql_1822, ql_2132, ql_2140, ql_3229, ql_9999, ql_11453, ql_65536, ql_100000, ql_1000000, nI_add, pk_mul, q_and, q_or, q_xor, nI_clamp, q_in, q_neg1, q_nno, q_nno', q_annN, q_sh1, q_tbN, nI_leI, nI_ltI, nI_eq, pk_sub, ↓reduceIte, if_pos, if_neg, q_zlt, q_bs, q1, q2, hpar, hp, hlt, z', h17', h17]
        · show _ ∧ q_gq _ l u (if w < v then some (v, k) else some (w, d))
          rw [if_pos z]; exact hset
      · refine ⟨M, ?_, fun _ _ _ => rfl, ?_⟩
        · rw [hs, Int.one_mul]
          have z' : ¬ u + w < u + v := by omega
          simp (disch := omega) only [f_X11_settles, ql_0, ql_1, ql_2, ql_3, ql_4, ql_5, ql_6, ql_7, ql_8, ql_9, ql_10, ql_11, ql_12, ql_13, ql_14, ql_15, ql_16, ql_17, ql_18, ql_19, ql_20, ql_21, ql_22, ql_23, ql_24, ql_27, ql_30, ql_31, ql_32, ql_40, ql_48, ql_51, ql_52, ql_57, ql_59, ql_60, ql_61, ql_62, ql_76, ql_84, ql_91, ql_97, ql_99, ql_100, ql_120, ql_122, ql_127, ql_128, ql_200, ql_255, ql_256, ql_300, ql_420, ql_428, ql_640, ql_900, ql_896, ql_999, ql_1712, ql_1716, ql_1734, ql_1772, ql_1800, ql_1805, ql_1811, ql_1822, ql_2132, ql_2140, ql_3229, ql_9999, ql_11453, ql_65536, ql_100000, ql_1000000, nI_add, pk_mul, q_and, q_or, q_xor, nI_clamp, q_in, q_neg1, q_nno, q_nno', q_annN, q_sh1, q_tbN, nI_leI, nI_ltI, nI_eq, pk_sub, ↓reduceIte, if_pos, if_neg, q_zlt, q_bs, q1, q2, hpar, hp, hlt, z']
        · show q_gq _ l u (if w < v then some (v, k) else some (w, d))
          rw [if_neg z]
          exact ⟨q1, by rw [q2, hs, Int.one_mul], q3, q4, q5⟩
    · have hs : q_sg l = -1 := by unfold q_sg; rw [if_neg hp]
      rw [hs, Int.neg_mul, Int.one_mul] at q2
      have hlt := q_zi_lt (a := u + -v) (b := u + -w) (by omega) (by omega) (by omega) (by omega)
      by_cases z : w < v
      · refine ⟨z2 (z2 M 18 l (q_zi (u + q_sg l * v))) 19 l (nI k), ?_, ?_⟩
        · rw [hs, Int.neg_mul, Int.one_mul] at h17' ⊢
          have z' : u + -v < u + -w := by omega
          simp (disch := omega) only [f_X11_settles, ql_0, ql_1, ql_2, ql_3, ql_4, ql_5, ql_6, ql_7, ql_8, ql_9, ql_10, ql_11, ql_12, ql_13, ql_14, ql_15, ql_16, ql_17, ql_18, ql_19, ql_20, ql_21, ql_22, ql_23, ql_24, ql_27, ql_30, ql_31, ql_32, ql_40, ql_48, ql_51, ql_52, ql_57, ql_59, ql_60, ql_61, ql_62, ql_76, ql_84, ql_91, ql_97, ql_99, ql_100, ql_120, ql_122, ql_127, ql_128, ql_200, ql_255, ql_256, ql_300, ql_420, ql_428, ql_640, ql_900, ql_896, ql_999, ql_1712, ql_1716, ql_1734, ql_1772, ql_1800, ql_1805, ql_1811, ql_1822, ql_2132, ql_2140, ql_3229, ql_9999, ql_11453, ql_65536, ql_100000, ql_1000000, nI_add, pk_mul, q_and, q_or, q_xor, nI_clamp, q_in, q_neg1, q_nno, q_nno', q_annN, q_sh1, q_tbN, nI_leI, nI_ltI, nI_eq, pk_sub, ↓reduceIte, if_pos, if_neg, q_zlt, q_bs, q1, q2, hpar, hp, hlt, z', h17', h17]
        · show _ ∧ q_gq _ l u (if w < v then some (v, k) else some (w, d))
          rw [if_pos z]; exact hset
      · refine ⟨M, ?_, fun _ _ _ => rfl, ?_⟩
        · rw [hs, Int.neg_mul, Int.one_mul]
          have z' : ¬ u + -v < u + -w := by omega
          simp (disch := omega) only [f_X11_settles, ql_0, ql_1, ql_2, ql_3, ql_4, ql_5, ql_6, ql_7, ql_8, ql_9, ql_10, ql_11, ql_12, ql_13, ql_14, ql_15, ql_16, ql_17, ql_18, ql_19, ql_20, ql_21, ql_22, ql_23, ql_24, ql_27, ql_30, ql_31, ql_32, ql_40, ql_48, ql_51, ql_52, ql_57, ql_59, ql_60, ql_61, ql_62, ql_76, ql_84, ql_91, ql_97, ql_99, ql_100, ql_120, ql_122, ql_127, ql_128, ql_200, ql_255, ql_256, ql_300, ql_420, ql_428, ql_640, ql_900, ql_896, ql_999, ql_1712, ql_1716, ql_1734, ql_1772, ql_1800, ql_1805, ql_1811, ql_1822, ql_2132, ql_2140, ql_3229, ql_9999, ql_11453, ql_65536, ql_100000, ql_1000000, nI_add, pk_mul, q_and, q_or, q_xor, nI_clamp, q_in, q_neg1, q_nno, q_nno', q_annN, q_sh1, q_tbN, nI_leI, nI_ltI, nI_eq, pk_sub, ↓reduceIte, if_pos, if_neg, q_zlt, q_bs, q1, q2, hpar, hp, hlt, z']
        · show q_gq _ l u (if w < v then some (v, k) else some (w, d))
          rw [if_neg z]
          exact ⟨q1, by rw [q2, hs, Int.neg_mul, Int.one_mul], q3, q4, q5⟩
def q_gy (C : q_N) (m k : Nat) : Int := if k < C 0 2 then (q_yd C m k : Int) else 0
def q_gm (C : q_N) (m k : Nat) : Nat := if k < C 0 2 then m ||| 2 ^ k else m
theorem q_n00 : -nI 0 = nI 0 := by decide
theorem q_zi0 (u : Int) : q_zi u + nI 0 = q_zi u := by rw [q_zi_n, q_zi_add]; congr 1; show u + 0 = u; omega
theorem m_gi {C : q_N} {m0 : Nat} {J : z_I} {K : z_L} (h : q_sm C 0 m0 J K) (ok : q_ok C) {n l k m f : Nat} {M : z_I} {u : Int} (hn : n ≤ 4) (hl : l + 1 ≤ n) (hM : q_gF J M) (e17 : M 17 l + nI 1 = nI k) (hk : k ≤ C 0 2) (e15 : M 15 l = nI m) (e16 : M 16 l = q_zi u) (hm : m < 2 ^ C 0 2) (hb : m.testBit k = false) : g_X11_playing_42 (nI n) (f + 1) (nI l) M = if l + 1 = n then (f_X11_settles (z2 M 17 l (nI k)) (nI l) (q_zi (u + q_sg l * q_gy C m k))).bind (fun q => g_X11_playing_42 (nI n) f (nI l) q) else g_X11_playing_42 (nI n) f (nI (l + 1)) (z2 (z2 (z2 (z2 (z2 M 17 l (nI k)) 15 (l + 1) (nI (q_gm C m k))) 16 (l + 1) (q_zi (u + q_sg l * q_gy C m k))) 17 (l + 1) q_no) 19 (l + 1) q_no) := by
  obtain ⟨o0, o1, o2, o3, -⟩ := id ok
  have hm7 := q_p7 o2 hm
  have h2 : M 1 2 = nI (C 0 2) := by rw [hM 1 2 (by omega)]; exact h.f.2.2.1
  have hpar := q_par l (by omega)
  by_cases z : k < C 0 2
  · have h1 : q_sm C 0 m0 (z2 M 17 l (nI k)) K := h.go ok (fun i _ _ => by rw [q_zo (by omega)]; exact hM 1 i (by omega)) (fun _ _ _ => rfl)
    have hy := m_yieldBy h1 ok (d := m) (k := k) z (by omega)
    rw [q_zi_n (q_yd C m k)] at hy
    have ey : q_gy C m k = (q_yd C m k : Int) := by unfold q_gy; rw [if_pos z]
    have em : q_gm C m k = m ||| 2 ^ k := by unfold q_gm; rw [if_pos z]
    rw [ey, em]
    by_cases hp : l % 2 = 0
    · have hs : q_sg l = 1 := by unfold q_sg; rw [if_pos hp]
      rw [hs, Int.one_mul]
      simp (disch := omega) only [g_X11_playing_42, ql_0, ql_1, ql_2, ql_3, ql_4, ql_5, ql_6, ql_7, ql_8, ql_9, ql_10, ql_11, ql_12, ql_13, ql_14, ql_15, ql_16, ql_17, ql_18, ql_19, ql_20, ql_21, ql_22, ql_23, ql_24, ql_27, ql_30, ql_31, ql_32, ql_40, ql_48, ql_51, ql_52, ql_57, ql_59, ql_60, ql_61, ql_62, ql_76, ql_84, ql_91, ql_97, ql_99, ql_100, ql_120, ql_122, ql_127, ql_128, ql_200, ql_255, ql_256, ql_300, ql_420, ql_428, ql_640, ql_900, ql_896, ql_999, ql_1712, ql_1716, ql_1734, ql_1772, ql_1800, ql_1805, ql_1811, ql_1822, ql_2132, ql_2140, ql_3229, ql_9999, ql_11453, ql_65536, ql_100000, ql_1000000, nI_add, pk_mul, q_and, q_or, q_xor, nI_clamp, q_in, q_neg1, q_nno, q_nno', q_annN, q_sh1, q_tbN, nI_leI, nI_ltI, nI_eq, pk_sub, ↓reduceIte, if_pos, if_neg, q_zlt, q_bs, e17, q_zs, h2, e15, q_isIn, hb, hy, hpar, hp, e16, q_zi_add, Nat.add_sub_cancel]
      simp only [Bool.false_eq_true, if_false, ↓reduceIte]
    · have hs : q_sg l = -1 := by unfold q_sg; rw [if_neg hp]
      rw [hs, Int.neg_mul, Int.one_mul]
      simp (disch := omega) only [g_X11_playing_42, ql_0, ql_1, ql_2, ql_3, ql_4, ql_5, ql_6, ql_7, ql_8, ql_9, ql_10, ql_11, ql_12, ql_13, ql_14, ql_15, ql_16, ql_17, ql_18, ql_19, ql_20, ql_21, ql_22, ql_23, ql_24, ql_27, ql_30, ql_31, ql_32, ql_40, ql_48, ql_51, ql_52, ql_57, ql_59, ql_60, ql_61, ql_62, ql_76, ql_84, ql_91, ql_97, ql_99, ql_100, ql_120, ql_122, ql_127, ql_128, ql_200, ql_255, ql_256, ql_300, ql_420, ql_428, ql_640, ql_900, ql_896, ql_999, ql_1712, ql_1716, ql_1734, ql_1772, ql_1800, ql_1805, ql_1811, ql_1822, ql_2132, ql_2140, ql_3229, ql_9999, ql_11453, ql_65536, ql_100000, ql_1000000, nI_add, pk_mul, q_and, q_or, q_xor, nI_clamp, q_in, q_neg1, q_nno, q_nno', q_annN, q_sh1, q_tbN, nI_leI, nI_ltI, nI_eq, pk_sub, ↓reduceIte, if_pos, if_neg, q_zlt, q_bs, e17, q_zs, h2, e15, q_isIn, hb, hy, hpar, hp, e16, q_zi_neg, q_zi_add, Nat.add_sub_cancel]
      simp only [Bool.false_eq_true, if_false, ↓reduceIte]
  · have hk : k = C 0 2 := by omega
    have ey : q_gy C m k = 0 := by unfold q_gy; rw [if_neg z]
    have em : q_gm C m k = m := by unfold q_gm; rw [if_neg z]
    rw [ey, em, Int.mul_zero, Int.add_zero]
    by_cases hp : l % 2 = 0
    · simp (disch := omega) only [g_X11_playing_42, ql_0, ql_1, ql_2, ql_3, ql_4, ql_5, ql_6, ql_7, ql_8, ql_9, ql_10, ql_11, ql_12, ql_13, ql_14, ql_15, ql_16, ql_17, ql_18, ql_19, ql_20, ql_21, ql_22, ql_23, ql_24, ql_27, ql_30, ql_31, ql_32, ql_40, ql_48, ql_51, ql_52, ql_57, ql_59, ql_60, ql_61, ql_62, ql_76, ql_84, ql_91, ql_97, ql_99, ql_100, ql_120, ql_122, ql_127, ql_128, ql_200, ql_255, ql_256, ql_300, ql_420, ql_428, ql_640, ql_900, ql_896, ql_999, ql_1712, ql_1716, ql_1734, ql_1772, ql_1800, ql_1805, ql_1811, ql_1822, ql_2132, ql_2140, ql_3229, ql_9999, ql_11453, ql_65536, ql_100000, ql_1000000, nI_add, pk_mul, q_and, q_or, q_xor, nI_clamp, q_in, q_neg1, q_nno, q_nno', q_annN, q_sh1, q_tbN, nI_leI, nI_ltI, nI_eq, pk_sub, ↓reduceIte, if_pos, if_neg, q_zlt, q_bs, e17, q_zs, h2, e15, hpar, hp, e16, q_zi0, Nat.add_sub_cancel, Nat.or_zero]
    · simp (disch := omega) only [g_X11_playing_42, ql_0, ql_1, ql_2, ql_3, ql_4, ql_5, ql_6, ql_7, ql_8, ql_9, ql_10, ql_11, ql_12, ql_13, ql_14, ql_15, ql_16, ql_17, ql_18, ql_19, ql_20, ql_21, ql_22, ql_23, ql_24, ql_27, ql_30, ql_31, ql_32, ql_40, ql_48, ql_51, ql_52, ql_57, ql_59, ql_60, ql_61, ql_62, ql_76, ql_84, ql_91, ql_97, ql_99, ql_100, ql_120, ql_122, ql_127, ql_128, ql_200, ql_255, ql_256, ql_300, ql_420, ql_428, ql_640, ql_900, ql_896, ql_999, ql_1712, ql_1716, ql_1734, ql_1772, ql_1800, ql_1805, ql_1811, ql_1822, ql_2132, ql_2140, ql_3229, ql_9999, ql_11453, ql_65536, ql_100000, ql_1000000, nI_add, pk_mul, q_and, q_or, q_xor, nI_clamp, q_in, q_neg1, q_nno, q_nno', q_annN, q_sh1, q_tbN, nI_leI, nI_ltI, nI_eq, pk_sub, ↓reduceIte, if_pos, if_neg, q_zlt, q_bs, e17, q_zs, h2, e15, hpar, hp, e16, q_n00, q_zi0, Nat.add_sub_cancel, Nat.or_zero]
theorem m_gpop {C : q_N} {n l f : Nat} {M : z_I} (hl : l + 1 ≤ 4) (h7 : C 0 2 ≤ 7) (h2 : M 1 2 = nI (C 0 2)) (e17 : M 17 (l + 1) + nI 1 = nI (C 0 2 + 1)) : g_X11_playing_42 (nI n) (f + 1) (nI (l + 1)) M = (f_X11_settles (z2 M 17 (l + 1) (nI (C 0 2 + 1))) (nI l) (M 18 (l + 1))).bind (fun q => g_X11_playing_42 (nI n) f (nI l) q) := by
  simp (disch := omega) only [g_X11_playing_42, ql_0, ql_1, ql_2, ql_3, ql_4, ql_5, ql_6, ql_7, ql_8, ql_9, ql_10, ql_11, ql_12, ql_13, ql_14, ql_15, ql_16, ql_17, ql_18, ql_19, ql_20, ql_21, ql_22, ql_23, ql_24, ql_27, ql_30, ql_31, ql_32, ql_40, ql_48, ql_51, ql_52, ql_57, ql_59, ql_60, ql_61, ql_62, ql_76, ql_84, ql_91, ql_97, ql_99, ql_100, ql_120, ql_122, ql_127, ql_128, ql_200, ql_255, ql_256, ql_300, ql_420, ql_428, ql_640, ql_900, ql_896, ql_999, ql_1712, ql_1716, ql_1734, ql_1772, ql_1800, ql_1805, ql_1811, ql_1822, ql_2132, ql_2140, ql_3229, ql_9999, ql_11453, ql_65536, ql_100000, ql_1000000, nI_add, pk_mul, q_and, q_or, q_xor, nI_clamp, q_in, q_neg1, q_nno, q_nno', q_annN, q_sh1, q_tbN, nI_leI, nI_ltI, nI_eq, pk_sub, ↓reduceIte, if_pos, if_neg, q_zlt, q_bs, e17, q_zs, h2, q_dec]
def q_H : Nat → Nat
  | 0 => 1
  | l + 1 => 8 * q_H l + 2
theorem m_gdfs {C : q_N} {m0 : Nat} {J : z_I} {K : z_L} (h : q_sm C 0 m0 J K) (ok : q_ok C) {n : Nat} (hn : n ≤ 4) : ∀ l ℓ, ℓ + l + 1 = n → ∀ j k, k + j = C 0 2 + 1 → ∀ (f : Nat) (M : z_I) (m : Nat) (u : Int), j * q_H l + 1 ≤ f → q_gF J M → M 17 ℓ + nI 1 = nI k → M 15 ℓ = nI m → M 16 ℓ = q_zi u → m < 2 ^ C 0 2 → (-(192 * (ℓ : Int)) ≤ u ∧ u ≤ 192 * (ℓ : Int)) → q_gq M ℓ u (q_gs C (q_U C false l) m k) → ∃ f' M', f ≤ f' + j * q_H l ∧ g_X11_playing_42 (nI n) f (nI ℓ) M = g_X11_playing_42 (nI n) f' (nI ℓ) M' ∧ q_gF J M' ∧ M' 17 ℓ + nI 1 = nI (C 0 2 + 1) ∧ q_gq M' ℓ u (q_gs C (q_U C false l) m (C 0 2 + 1)) ∧ (∀ d i, i < ℓ → M' d i = M d i) := by
  obtain ⟨o0, o1, o2, o3, -⟩ := id ok
  intro l
  induction l with
  | zero =>
    intro ℓ hl j
    induction j with
    | zero =>
      intro k hk f M m u hf hM e17 e15 e16 hm hu hq
      have hk : k = C 0 2 + 1 := hk
      subst hk
      exact ⟨f, M, by omega, rfl, hM, e17, hq, fun _ _ _ => rfl⟩
    | succ j ih =>
      intro k hk f M m u hf hM e17 e15 e16 hm hu hq
      have hm7 := q_p7 o2 hm
      have hcost : (j + 1) * q_H 0 = j * q_H 0 + q_H 0 := Nat.succ_mul _ _
      have hH : q_H 0 = 1 := rfl
      have h2 : M 1 2 = nI (C 0 2) := by rw [hM 1 2 (by omega)]; exact h.f.2.2.1
      cases f with
      | zero => omega
      | succ f =>
        cases hbt : m.testBit k with
        | true =>
          have hkC : k < C 0 2 := Nat.lt_of_not_le (fun y => by
            have : m.testBit k = false := Nat.testBit_lt_two_pow (Nat.lt_of_lt_of_le hm (Nat.pow_le_pow_right (by decide) y))
            rw [hbt] at this; cases this)
          obtain ⟨f', M', q1, q2, q3, q4, q5, q6⟩ := ih (k + 1) (by omega) f (z2 M 17 ℓ (nI k)) m u (by omega) (fun d i hd => by rw [q_zo (by omega)]; exact hM d i hd) (by rw [q_zs, nI_add]) (by rw [q_zo (by omega), e15]) (by rw [q_zo (by omega), e16]) hm hu (by
            rw [q_gs_s, hbt, if_pos rfl]
            revert hq
            cases q_gs C (q_U C false 0) m k with
            | none => intro hq; show z2 M 17 ℓ (nI k) 19 ℓ = q_no; rw [q_zo (by omega)]; exact hq
            | some p => intro hq; exact ⟨by rw [q_zo (by omega)]; exact hq.1, by rw [q_zo (by omega)]; exact hq.2.1, hq.2.2⟩)
          refine ⟨f', M', by omega, ?_, q3, q4, q5, fun d i hi => by rw [q6 d i hi, q_zo (by omega)]⟩
          rw [← q2]
          simp (disch := omega) only [g_X11_playing_42, ql_0, ql_1, ql_2, ql_3, ql_4, ql_5, ql_6, ql_7, ql_8, ql_9, ql_10, ql_11, ql_12, ql_13, ql_14, ql_15, ql_16, ql_17, ql_18, ql_19, ql_20, ql_21, ql_22, ql_23, ql_24, ql_27, ql_30, ql_31, ql_32, ql_40, ql_48, ql_51, ql_52, ql_57, ql_59, ql_60, ql_61, ql_62, ql_76, ql_84, ql_91, ql_97, ql_99, ql_100, ql_120, ql_122, ql_127, ql_128, ql_200, ql_255, ql_256, ql_300, ql_420, ql_428, ql_640, ql_900, ql_896, ql_999, ql_1712, ql_1716, ql_1734, ql_1772, ql_1800, ql_1805, ql_1811, ql_1822, ql_2132, ql_2140, ql_3229, ql_9999, ql_11453, ql_65536, ql_100000, ql_1000000, nI_add, pk_mul, q_and, q_or, q_xor, nI_clamp, q_in, q_neg1, q_nno, q_nno', q_annN, q_sh1, q_tbN, nI_leI, nI_ltI, nI_eq, pk_sub, ↓reduceIte, if_pos, if_neg, q_zlt, q_bs, e17, q_zs, h2, e15, q_isIn, hbt]
        | false =>
          have hgi := m_gi h ok (n := n) (l := ℓ) (k := k) (f := f) hn (by omega) hM e17 (by omega) e15 e16 hm hbt
          rw [if_pos (by omega)] at hgi
          have hyl := q_yd_le ok m k
          have hyb : 0 ≤ q_gy C m k ∧ q_gy C m k ≤ 192 := by unfold q_gy; split <;> omega
          have hve : q_gy C m k = q_gv C (q_U C false 0) m k := by
            unfold q_gy q_gv
            split
            · show _ = (q_yd C m k : Int) + (-1) * 0; omega
            · rfl
          obtain ⟨M2, s1, s2, s3⟩ := m_settle (M := z2 M 17 ℓ (nI k)) (l := ℓ) (k := k) (u := u) (v := q_gy C m k) (st := q_gs C (q_U C false 0) m k) (by omega) (by omega) q_zs (by
            revert hq
            cases q_gs C (q_U C false 0) m k with
            | none => intro hq; show z2 M 17 ℓ (nI k) 19 ℓ = q_no; rw [q_zo (by omega)]; exact hq
            | some p => intro hq; exact ⟨by rw [q_zo (by omega)]; exact hq.1, by rw [q_zo (by omega)]; exact hq.2.1, hq.2.2⟩) (by omega) (by omega)
          rw [s1, q_bs] at hgi
          obtain ⟨f', M', q1, q2, q3, q4, q5, q6⟩ := ih (k + 1) (by omega) f M2 m u (by omega) (fun d i hd => by rw [s2 d i (by omega), q_zo (by omega)]; exact hM d i hd) (by rw [s2 17 ℓ (by omega), q_zs, nI_add]) (by rw [s2 15 ℓ (by omega), q_zo (by omega), e15]) (by rw [s2 16 ℓ (by omega), q_zo (by omega), e16]) hm hu (by
            rw [q_gs_s, hbt, if_neg (by decide), ← hve]
            exact s3)
          exact ⟨f', M', by omega, hgi.trans q2, q3, q4, q5, fun d i hi => by rw [q6 d i hi, s2 d i (by omega), q_zo (by omega)]⟩
  | succ l ihl =>
    intro ℓ hl j
    induction j with
    | zero =>
      intro k hk f M m u hf hM e17 e15 e16 hm hu hq
      have hk : k = C 0 2 + 1 := hk
      subst hk
      exact ⟨f, M, by omega, rfl, hM, e17, hq, fun _ _ _ => rfl⟩
    | succ j ih =>
      intro k hk f M m u hf hM e17 e15 e16 hm hu hq
      have hm7 := q_p7 o2 hm
      have hcost : (j + 1) * q_H (l + 1) = j * q_H (l + 1) + q_H (l + 1) := Nat.succ_mul _ _
      have hH : q_H (l + 1) = 8 * q_H l + 2 := rfl
      have hcost2 : (C 0 2 + 1) * q_H l ≤ 8 * q_H l := Nat.mul_le_mul_right _ (by omega)
      have h2 : M 1 2 = nI (C 0 2) := by rw [hM 1 2 (by omega)]; exact h.f.2.2.1
      cases f with
      | zero => omega
      | succ f =>
        cases hbt : m.testBit k with
        | true =>
          have hkC : k < C 0 2 := Nat.lt_of_not_le (fun y => by
            have : m.testBit k = false := Nat.testBit_lt_two_pow (Nat.lt_of_lt_of_le hm (Nat.pow_le_pow_right (by decide) y))
            rw [hbt] at this; cases this)
          obtain ⟨f', M', q1, q2, q3, q4, q5, q6⟩ := ih (k + 1) (by omega) f (z2 M 17 ℓ (nI k)) m u (by omega) (fun d i hd => by rw [q_zo (by omega)]; exact hM d i hd) (by rw [q_zs, nI_add]) (by rw [q_zo (by omega), e15]) (by rw [q_zo (by omega), e16]) hm hu (by
            rw [q_gs_s, hbt, if_pos rfl]
            revert hq
            cases q_gs C (q_U C false (l + 1)) m k with
            | none => intro hq; show z2 M 17 ℓ (nI k) 19 ℓ = q_no; rw [q_zo (by omega)]; exact hq
            | some p => intro hq; exact ⟨by rw [q_zo (by omega)]; exact hq.1, by rw [q_zo (by omega)]; exact hq.2.1, hq.2.2⟩)
          refine ⟨f', M', by omega, ?_, q3, q4, q5, fun d i hi => by rw [q6 d i hi, q_zo (by omega)]⟩
          rw [← q2]
          simp (disch := omega) only [g_X11_playing_42, ql_0, ql_1, ql_2, ql_3, ql_4, ql_5, ql_6, ql_7, ql_8, ql_9, ql_10, ql_11, ql_12, ql_13, ql_14, ql_15, ql_16, ql_17, ql_18, ql_19, ql_20, ql_21, ql_22, ql_23, ql_24, ql_27, ql_30, ql_31, ql_32, ql_40, ql_48, ql_51, ql_52, ql_57, ql_59, ql_60, ql_61, ql_62, ql_76, ql_84, ql_91, ql_97, ql_99, ql_100, ql_120, ql_122, ql_127, ql_128, ql_200, ql_255, ql_256, ql_300, ql_420, ql_428, ql_640, ql_900, ql_896, ql_999, ql_1712, ql_1716, ql_1734, ql_1772, ql_1800, ql_1805, ql_1811, ql_1822, ql_2132, ql_2140, ql_3229, ql_9999, ql_11453, ql_65536, ql_100000, ql_1000000, nI_add, pk_mul, q_and, q_or, q_xor, nI_clamp, q_in, q_neg1, q_nno, q_nno', q_annN, q_sh1, q_tbN, nI_leI, nI_ltI, nI_eq, pk_sub, ↓reduceIte, if_pos, if_neg, q_zlt, q_bs, e17, q_zs, h2, e15, q_isIn, hbt]
        | false =>
          have hgi := m_gi h ok (n := n) (l := ℓ) (k := k) (f := f) hn (by omega) hM e17 (by omega) e15 e16 hm hbt
          rw [if_neg (by omega)] at hgi
          have hyl := q_yd_le ok m k
          have hyb : 0 ≤ q_gy C m k ∧ q_gy C m k ≤ 192 := by unfold q_gy; split <;> omega
          have hgm : q_gm C m k < 2 ^ C 0 2 := by
            unfold q_gm
            split
            · rename_i y; exact (q_or7 o2 hm y).1
            · exact hm
          have hve : q_gy C m k - q_U C false (l + 1) (q_gm C m k) = q_gv C (q_U C false (l + 1)) m k := by
            unfold q_gy q_gv q_gm
            split
            · show _ = (q_yd C m k : Int) + (-1) * _; omega
            · omega
          have hlI : ((l + 1 : Nat) : Int) ≤ 3 := by omega
          have hUl := q_U_b ok (b := false) (l + 1) (q_gm C m k)
          have hsg : -192 ≤ q_sg ℓ * q_gy C m k ∧ q_sg ℓ * q_gy C m k ≤ 192 := by
            unfold q_sg
            split
            · rw [Int.one_mul]; omega
            · rw [Int.neg_mul, Int.one_mul]; omega
          generalize hw : u + q_sg ℓ * q_gy C m k = w at hgi
          obtain ⟨f1, M3, r1, r2, r3, r4, r5, r6⟩ := ihl (ℓ + 1) (by omega) (C 0 2 + 1) 0 (by omega) f (z2 (z2 (z2 (z2 (z2 M 17 ℓ (nI k)) 15 (ℓ + 1) (nI (q_gm C m k))) 16 (ℓ + 1) (q_zi w)) 17 (ℓ + 1) q_no) 19 (ℓ + 1) q_no) (q_gm C m k) w (by omega) (fun d i hd => by rw [q_zo (by omega), q_zo (by omega), q_zo (by omega), q_zo (by omega), q_zo (by omega)]; exact hM d i hd) (by rw [q_zo (by omega), q_zs]; decide) (by rw [q_zo (by omega), q_zo (by omega), q_zo (by omega), q_zs]) (by rw [q_zo (by omega), q_zo (by omega), q_zs]) hgm (by omega) (by show z2 _ 19 (ℓ + 1) q_no 19 (ℓ + 1) = q_no; exact q_zs)
          obtain ⟨d, hd1, hd2, -⟩ := q_gs_v (C := C) (l := l) hgm
          rw [hd1] at r5
          obtain ⟨t1, t2, t3, t4, t5⟩ := r5
          have hval : w + q_sg (ℓ + 1) * q_U C false (l + 1) (q_gm C m k) = u + q_sg ℓ * q_gv C (q_U C false (l + 1)) m k := by
            rw [← hw, ← hve, q_sg_s, Int.neg_mul, Int.mul_sub]
            omega
          rw [hval] at t2
          have hf1 : 1 ≤ f1 := by omega
          obtain ⟨f2, rfl⟩ : ∃ f2, f1 = f2 + 1 := ⟨f1 - 1, by omega⟩
          have hpop := m_gpop (C := C) (n := n) (l := ℓ) (f := f2) (M := M3) (by omega) o2 (by rw [r3 1 2 (by omega)]; exact h.f.2.2.1) r4
          rw [t2] at hpop
          have lo : ∀ d i, i < ℓ + 1 → z2 M3 17 (ℓ + 1) (nI (C 0 2 + 1)) d i = z2 M 17 ℓ (nI k) d i := fun d i hi => by rw [q_zo (by omega), r6 d i hi, q_zo (by omega), q_zo (by omega), q_zo (by omega), q_zo (by omega)]
          obtain ⟨M2, s1, s2, s3⟩ := m_settle (M := z2 M3 17 (ℓ + 1) (nI (C 0 2 + 1))) (l := ℓ) (k := k) (u := u) (v := q_gv C (q_U C false (l + 1)) m k) (st := q_gs C (q_U C false (l + 1)) m k) (by omega) (by omega) (by rw [lo 17 ℓ (by omega), q_zs]) (by
            revert hq
            cases q_gs C (q_U C false (l + 1)) m k with
            | none => intro hq; show z2 M3 17 (ℓ + 1) (nI (C 0 2 + 1)) 19 ℓ = q_no; rw [lo 19 ℓ (by omega), q_zo (by omega)]; exact hq
            | some p => intro hq; exact ⟨by rw [lo 19 ℓ (by omega), q_zo (by omega)]; exact hq.1, by rw [lo 18 ℓ (by omega), q_zo (by omega)]; exact hq.2.1, hq.2.2⟩) (by omega) (by omega)
          rw [s1, q_bs] at hpop
          obtain ⟨f', M', q1, q2, q3, q4, q5, q6⟩ := ih (k + 1) (by omega) f2 M2 m u (by omega) (fun d i hd => by rw [s2 d i (by omega), q_zo (by omega)]; exact r3 d i hd) (by rw [s2 17 ℓ (by omega), lo 17 ℓ (by omega), q_zs, nI_add]) (by rw [s2 15 ℓ (by omega), lo 15 ℓ (by omega), q_zo (by omega), e15]) (by rw [s2 16 ℓ (by omega), lo 16 ℓ (by omega), q_zo (by omega), e16]) hm hu (by
            rw [q_gs_s, hbt, if_neg (by decide)]
            exact s3)
          exact ⟨f', M', by omega, ((hgi.trans r2).trans hpop).trans q2, q3, q4, q5, fun d i hi => by rw [q6 d i hi, s2 d i (by omega), lo d i (by omega), q_zo (by omega)]⟩
theorem m_playing {C : q_N} {m0 : Nat} {J : z_I} {K : z_L} (h : q_sm C 0 m0 J K) (ok : q_ok C) {l : Nat} (hn : l + 1 ≤ 4) : ∃ M d, f_X11_playing J (nI (l + 1)) = some (q_zi (q_U C false (l + 1) (C 0 6)), M) ∧ q_gF J M ∧ M 19 0 = nI d ∧ d ≤ C 0 2 ∧ q_find (fun c => !(C 0 6).testBit c && decide (q_Uw C false (q_U C false l) (C 0 6) c = q_U C false (l + 1) (C 0 6))) (C 0 2) = (if d < C 0 2 then some d else none) := by
  obtain ⟨o0, o1, o2, o3, -⟩ := id ok
  have hM6 := ok.2.2.2.2.2.2.1
  have j6 := h.f.2.2.2.2.2.2
  have j2 := h.f.2.2.1
  have hF : (C 0 2 + 1) * q_H l ≤ 900000 := by
    have h1 : q_H l ≤ 700 := by
      have : ∀ l, l < 4 → q_H l ≤ 700 := by decide
      exact this l (by omega)
    exact Nat.le_trans (Nat.mul_le_mul (show C 0 2 + 1 ≤ 8 by omega) h1) (by omega)
  obtain ⟨f', M', q1, q2, q3, q4, q5, q6⟩ := m_gdfs h ok hn l 0 (by omega) (C 0 2 + 1) 0 (by omega) z_fuel (z2 (z2 (z2 (z2 J 15 0 (nI (C 0 6))) 16 0 (nI 0)) 17 0 q_no) 19 0 q_no) (C 0 6) 0 (by unfold z_fuel; omega) (fun d i hd => by rw [q_zo (by omega), q_zo (by omega), q_zo (by omega), q_zo (by omega)]) (by rw [q_zo (by omega), q_zs]; decide) (by rw [q_zo (by omega), q_zo (by omega), q_zo (by omega), q_zs]) (by rw [q_zo (by omega), q_zo (by omega), q_zs]; rfl) hM6 (by omega) (by show z2 _ 19 0 q_no 19 0 = q_no; exact q_zs)
  obtain ⟨d, hd1, hd2, hd3⟩ := q_gs_v (C := C) (l := l) hM6
  rw [hd1] at q5
  obtain ⟨t1, t2, t3, t4, t5⟩ := q5
  have hf' : 1 ≤ f' := by unfold z_fuel at q1; omega
  obtain ⟨f, rfl⟩ : ∃ f, f' = f + 1 := ⟨f' - 1, by omega⟩
  have hval : (0 : Int) + q_sg 0 * q_U C false (l + 1) (C 0 6) = q_U C false (l + 1) (C 0 6) := by show 0 + 1 * _ = _; omega
  rw [hval] at t2
  have h2' : M' 1 2 = nI (C 0 2) := by rw [q3 1 2 (by omega)]; exact j2
  refine ⟨z2 M' 17 0 (nI (C 0 2 + 1)), d, ?_, fun d i hd => by rw [q_zo (by omega)]; exact q3 d i hd, by rw [q_zo (by omega), t1], hd2, hd3⟩
  have hstart : f_X11_playing J (nI (l + 1)) = g_X11_playing_42 (nI (l + 1)) z_fuel (nI 0) (z2 (z2 (z2 (z2 J 15 0 (nI (C 0 6))) 16 0 (nI 0)) 17 0 q_no) 19 0 q_no) := by
    simp (disch := omega) only [f_X11_playing, ql_0, ql_1, ql_2, ql_3, ql_4, ql_5, ql_6, ql_7, ql_8, ql_9, ql_10, ql_11, ql_12, ql_13, ql_14, ql_15, ql_16, ql_17, ql_18, ql_19, ql_20, ql_21, ql_22, ql_23, ql_24, ql_27, ql_30, ql_31, ql_32, ql_40, ql_48, ql_51, ql_52, ql_57, ql_59, ql_60, ql_61, ql_62, ql_76, ql_84, ql_91, ql_97, ql_99, ql_100, ql_120, ql_122, ql_127, ql_128, ql_200, ql_255, ql_256, ql_300, ql_420, ql_428, ql_640, ql_900, ql_896, ql_999, ql_1712, ql_1716, ql_1734, ql_1772, ql_1800, ql_1805, ql_1811, ql_1822, ql_2132, ql_2140, ql_3229, ql_9999, ql_11453, ql_65536, ql_100000, ql_1000000, nI_add, pk_mul, q_and, q_or, q_xor, nI_clamp, q_in, q_neg1, q_nno, q_nno', q_annN, q_sh1, q_tbN, nI_leI, nI_ltI, nI_eq, pk_sub, ↓reduceIte, if_pos, if_neg, q_zlt, q_bs, j6]
  rw [hstart, q2]
  simp (disch := omega) only [g_X11_playing_42, ql_0, ql_1, ql_2, ql_3, ql_4, ql_5, ql_6, ql_7, ql_8, ql_9, ql_10, ql_11, ql_12, ql_13, ql_14, ql_15, ql_16, ql_17, ql_18, ql_19, ql_20, ql_21, ql_22, ql_23, ql_24, ql_27, ql_30, ql_31, ql_32, ql_40, ql_48, ql_51, ql_52, ql_57, ql_59, ql_60, ql_61, ql_62, ql_76, ql_84, ql_91, ql_97, ql_99, ql_100, ql_120, ql_122, ql_127, ql_128, ql_200, ql_255, ql_256, ql_300, ql_420, ql_428, ql_640, ql_900, ql_896, ql_999, ql_1712, ql_1716, ql_1734, ql_1772, ql_1800, ql_1805, ql_1811, ql_1822, ql_2132, ql_2140, ql_3229, ql_9999, ql_11453, ql_65536, ql_100000, ql_1000000, nI_add, pk_mul, q_and, q_or, q_xor, nI_clamp, q_in, q_neg1, q_nno, q_nno', q_annN, q_sh1, q_tbN, nI_leI, nI_ltI, nI_eq, pk_sub, ↓reduceIte, if_pos, if_neg, q_zlt, q_bs, q4, q_zs, h2', t2]
theorem r_game : s_game q_R := by
  intro I L J K p0 hR
  obtain ⟨C, T, mk, h⟩ := id hR
  obtain ⟨hx, hm, ok, -⟩ := h.o
  obtain ⟨o0, o1, o2, o3, -⟩ := id ok
  have hfr := q_from (p := p0) (a := 0) (b := 4) (by decide) (by decide)
  cases hb : f_X10_isWithin p0 (nI 0) (nI 4) with
  | false =>
    rw [hb] at hfr
    exact q_end (-1) 1 (by simp only [f_X10_game, ql_0, ql_4, hb]; rfl) (by simp only [f_X11_game, qL_0, qL_4, hfr]; rfl) hR
  | true =>
    rw [hb] at hfr
    obtain ⟨n, -, hn, rfl⟩ := q_wi_t hb (by decide) (by decide)
    obtain ⟨I', ⟨f1, r1⟩, e1⟩ := x2_turns hx ok (n := n) hn
    have hx' := hx.go (I' := I') (L' := L) (fun d j a1 b1 => f1 d j (by omega) (by omega)) (fun _ _ _ _ => rfl)
    have g1 := hx'.f.2.2.2.2.2.2
    have hM6 := ok.2.2.2.2.2.2.1
    have hM7 := q_okM ok
    have g2 := r1.2 n (C 0 0 6) (by omega) hM6 (q_rc_0 _ _)
    have fI : ∀ d k, q_rI d k → I' d k = I d k := fun d k y => f1 d k (by unfold q_rI at y; omega) (by unfold q_rI at y; omega)
    have hX : f_X10_game I (nI n) = some (q_zi (q_U (C 0) false n (C 0 0 6)), z2 I' 0 15 0) := by
      simp (disch := omega) only [f_X10_game, ql_0, ql_1, ql_2, ql_3, ql_4, ql_5, ql_6, ql_7, ql_8, ql_9, ql_10, ql_11, ql_12, ql_13, ql_14, ql_15, ql_16, ql_17, ql_18, ql_19, ql_20, ql_21, ql_22, ql_23, ql_24, ql_27, ql_30, ql_31, ql_32, ql_40, ql_48, ql_51, ql_52, ql_57, ql_59, ql_60, ql_61, ql_62, ql_76, ql_84, ql_91, ql_97, ql_99, ql_100, ql_120, ql_122, ql_127, ql_128, ql_200, ql_255, ql_256, ql_300, ql_420, ql_428, ql_640, ql_900, ql_896, ql_999, ql_1712, ql_1716, ql_1734, ql_1772, ql_1800, ql_1805, ql_1811, ql_1822, ql_2132, ql_2140, ql_3229, ql_9999, ql_11453, ql_65536, ql_100000, ql_1000000, nI_add, pk_mul, q_and, q_or, q_xor, nI_clamp, q_in, q_neg1, q_nno, q_nno', q_annN, q_sh1, q_tbN, nI_leI, nI_ltI, nI_eq, pk_sub, ↓reduceIte, if_pos, if_neg, q_zlt, q_bs, hb, e1, f_X2_bestBy, f_X2_indexOf, g1, g2, f_X10_give]
    cases n with
    | zero =>
      refine q_end (q_zi (q_U (C 0) false 0 (C 0 0 6))) 0 (I := I') (J := J) hX ?_ (h.fr fI (fun _ _ _ => rfl) (fun _ _ _ => rfl) (fun _ _ _ => rfl)).r
      simp (disch := omega) only [f_X11_game, qL_0, qL_4, hfr, ql_0, ql_1, ql_2, ql_3, ql_4, ql_5, ql_6, ql_7, ql_8, ql_9, ql_10, ql_11, ql_12, ql_13, ql_14, ql_15, ql_16, ql_17, ql_18, ql_19, ql_20, ql_21, ql_22, ql_23, ql_24, ql_27, ql_30, ql_31, ql_32, ql_40, ql_48, ql_51, ql_52, ql_57, ql_59, ql_60, ql_61, ql_62, ql_76, ql_84, ql_91, ql_97, ql_99, ql_100, ql_120, ql_122, ql_127, ql_128, ql_200, ql_255, ql_256, ql_300, ql_420, ql_428, ql_640, ql_900, ql_896, ql_999, ql_1712, ql_1716, ql_1734, ql_1772, ql_1800, ql_1805, ql_1811, ql_1822, ql_2132, ql_2140, ql_3229, ql_9999, ql_11453, ql_65536, ql_100000, ql_1000000, nI_add, pk_mul, q_and, q_or, q_xor, nI_clamp, q_in, q_neg1, q_nno, q_nno', q_annN, q_sh1, q_tbN, nI_leI, nI_ltI, nI_eq, pk_sub, ↓reduceIte, if_pos, if_neg, q_zlt, q_bs, f_X11_playing, f_X11_gives]
      rfl
    | succ l =>
      obtain ⟨M, d, e2, f2, -⟩ := m_playing hm ok (l := l) hn
      refine q_end (q_zi (q_U (C 0) false (l + 1) (C 0 0 6))) 0 (I := I') (J := M) hX ?_ (h.fr fI (fun _ _ _ => rfl) (fun d k y => f2 d k (by unfold q_rJ at y; omega)) (fun _ _ _ => rfl)).r
      simp (disch := omega) only [f_X11_game, qL_0, qL_4, hfr, ql_0, ql_1, ql_2, ql_3, ql_4, ql_5, ql_6, ql_7, ql_8, ql_9, ql_10, ql_11, ql_12, ql_13, ql_14, ql_15, ql_16, ql_17, ql_18, ql_19, ql_20, ql_21, ql_22, ql_23, ql_24, ql_27, ql_30, ql_31, ql_32, ql_40, ql_48, ql_51, ql_52, ql_57, ql_59, ql_60, ql_61, ql_62, ql_76, ql_84, ql_91, ql_97, ql_99, ql_100, ql_120, ql_122, ql_127, ql_128, ql_200, ql_255, ql_256, ql_300, ql_420, ql_428, ql_640, ql_900, ql_896, ql_999, ql_1712, ql_1716, ql_1734, ql_1772, ql_1800, ql_1805, ql_1811, ql_1822, ql_2132, ql_2140, ql_3229, ql_9999, ql_11453, ql_65536, ql_100000, ql_1000000, nI_add, pk_mul, q_and, q_or, q_xor, nI_clamp, q_in, q_neg1, q_nno, q_nno', q_annN, q_sh1, q_tbN, nI_leI, nI_ltI, nI_eq, pk_sub, ↓reduceIte, if_pos, if_neg, q_zlt, q_bs, e2, f_X11_gives]
theorem r_moveOf : s_moveOf q_R := by
  intro I L J K p0 hR
  obtain ⟨C, T, mk, h⟩ := id hR
  obtain ⟨hx, hm, ok, -⟩ := h.o
  obtain ⟨o0, o1, o2, o3, -⟩ := id ok
  have hfr := q_from (p := p0) (a := 1) (b := 4) (by decide) (by decide)
  cases hb : f_X10_isWithin p0 (nI 1) (nI 4) with
  | false =>
    rw [hb] at hfr
    exact q_end (-1) 1 (by simp only [f_X10_moveOf, ql_1, ql_4, hb]; rfl) (by simp only [f_X11_moveOf, qL_1, qL_4, hfr]; rfl) hR
  | true =>
    rw [hb] at hfr
    obtain ⟨n, hn1, hn, rfl⟩ := q_wi_t hb (by decide) (by decide)
    obtain ⟨l, rfl⟩ : ∃ l, n = l + 1 := ⟨n - 1, by omega⟩
    obtain ⟨I', ⟨f1, r1⟩, e1⟩ := x2_turns hx ok (n := l + 1) hn
    have hx' := hx.go (I' := I') (L' := L) (fun d j a1 b1 => f1 d j (by omega) (by omega)) (fun _ _ _ _ => rfl)
    have g1 := hx'.f.2.2.2.2.2.2
    have hM6 := ok.2.2.2.2.2.2.1
    have hM7 := q_okM ok
    have g2 := r1.2 (l + 1) (C 0 0 6) (by omega) hM6 (q_rc_0 _ _)
    have fI : ∀ d k, q_rI d k → I' d k = I d k := fun d k y => f1 d k (by unfold q_rI at y; omega) (by unfold q_rI at y; omega)
    have hU := q_U_b ok (b := false) (l + 1) (C 0 0 6)
    have hff := x2_first hx' ok (b := false) (n := l + 1) (l := l) (m := C 0 0 6) (x := q_U (C 0) false (l + 1) (C 0 0 6)) hn (Nat.le_refl _) hM6 r1 (q_rc_0 _ _) (by omega)
    rw [show q_zi (q_Us false) = q_no from rfl] at hff
    obtain ⟨M, d, e2, f2, d1, d2, d3⟩ := m_playing hm ok (l := l) hn
    rw [d3] at hff
    have m2 : M 1 2 = nI (C 0 0 2) := by rw [f2 1 2 (by omega)]; exact hm.f.2.2.1
    have hR' : q_R I' L M K := (h.fr fI (fun _ _ _ => rfl) (fun d k y => f2 d k (by unfold q_rJ at y; omega)) (fun _ _ _ => rfl)).r
    by_cases y : d < C 0 0 2
    · rw [if_pos y] at hff
      have hff : f_X2_firstFor I' (q_zi (q_U (C 0) false (l + 1) (C 0 0 6))) (nI (l + 1)) (nI (C 0 0 6)) q_no = some (nI d) := hff
      have y' : ¬ d = C 0 0 2 := by omega
      refine q_end (nI d) 0 (I := I') (J := M) ?_ ?_ hR'
      · simp (disch := omega) only [f_X10_moveOf, ql_0, ql_1, ql_2, ql_3, ql_4, ql_5, ql_6, ql_7, ql_8, ql_9, ql_10, ql_11, ql_12, ql_13, ql_14, ql_15, ql_16, ql_17, ql_18, ql_19, ql_20, ql_21, ql_22, ql_23, ql_24, ql_27, ql_30, ql_31, ql_32, ql_40, ql_48, ql_51, ql_52, ql_57, ql_59, ql_60, ql_61, ql_62, ql_76, ql_84, ql_91, ql_97, ql_99, ql_100, ql_120, ql_122, ql_127, ql_128, ql_200, ql_255, ql_256, ql_300, ql_420, ql_428, ql_640, ql_900, ql_896, ql_999, ql_1712, ql_1716, ql_1734, ql_1772, ql_1800, ql_1805, ql_1811, ql_1822, ql_2132, ql_2140, ql_3229, ql_9999, ql_11453, ql_65536, ql_100000, ql_1000000, nI_add, pk_mul, q_and, q_or, q_xor, nI_clamp, q_in, q_neg1, q_nno, q_nno', q_annN, q_sh1, q_tbN, nI_leI, nI_ltI, nI_eq, pk_sub, ↓reduceIte, if_pos, if_neg, q_zlt, q_bs, hb, e1, f_X2_openingOf, f_X2_bestBy, f_X2_indexOf, g1, g2, hff, f_X10_giveIfAny, f_X10_give]
      · simp (disch := omega) only [f_X11_moveOf, qL_1, qL_4, hfr, ql_0, ql_1, ql_2, ql_3, ql_4, ql_5, ql_6, ql_7, ql_8, ql_9, ql_10, ql_11, ql_12, ql_13, ql_14, ql_15, ql_16, ql_17, ql_18, ql_19, ql_20, ql_21, ql_22, ql_23, ql_24, ql_27, ql_30, ql_31, ql_32, ql_40, ql_48, ql_51, ql_52, ql_57, ql_59, ql_60, ql_61, ql_62, ql_76, ql_84, ql_91, ql_97, ql_99, ql_100, ql_120, ql_122, ql_127, ql_128, ql_200, ql_255, ql_256, ql_300, ql_420, ql_428, ql_640, ql_900, ql_896, ql_999, ql_1712, ql_1716, ql_1734, ql_1772, ql_1800, ql_1805, ql_1811, ql_1822, ql_2132, ql_2140, ql_3229, ql_9999, ql_11453, ql_65536, ql_100000, ql_1000000, nI_add, pk_mul, q_and, q_or, q_xor, nI_clamp, q_in, q_neg1, q_nno, q_nno', q_annN, q_sh1, q_tbN, nI_leI, nI_ltI, nI_eq, pk_sub, ↓reduceIte, if_pos, if_neg, q_zlt, q_bs, e2, d1, m2, y', f_X11_gives]
    · rw [if_neg y] at hff
      have hff : f_X2_firstFor I' (q_zi (q_U (C 0) false (l + 1) (C 0 0 6))) (nI (l + 1)) (nI (C 0 0 6)) q_no = some q_no := hff
      have y' : d = C 0 0 2 := by omega
      refine q_end (-1) 6 (I := I') (J := M) ?_ ?_ hR'
      · simp (disch := omega) only [f_X10_moveOf, ql_0, ql_1, ql_2, ql_3, ql_4, ql_5, ql_6, ql_7, ql_8, ql_9, ql_10, ql_11, ql_12, ql_13, ql_14, ql_15, ql_16, ql_17, ql_18, ql_19, ql_20, ql_21, ql_22, ql_23, ql_24, ql_27, ql_30, ql_31, ql_32, ql_40, ql_48, ql_51, ql_52, ql_57, ql_59, ql_60, ql_61, ql_62, ql_76, ql_84, ql_91, ql_97, ql_99, ql_100, ql_120, ql_122, ql_127, ql_128, ql_200, ql_255, ql_256, ql_300, ql_420, ql_428, ql_640, ql_900, ql_896, ql_999, ql_1712, ql_1716, ql_1734, ql_1772, ql_1800, ql_1805, ql_1811, ql_1822, ql_2132, ql_2140, ql_3229, ql_9999, ql_11453, ql_65536, ql_100000, ql_1000000, nI_add, pk_mul, q_and, q_or, q_xor, nI_clamp, q_in, q_neg1, q_nno, q_nno', q_annN, q_sh1, q_tbN, nI_leI, nI_ltI, nI_eq, pk_sub, ↓reduceIte, if_pos, if_neg, q_zlt, q_bs, hb, e1, f_X2_openingOf, f_X2_bestBy, f_X2_indexOf, g1, g2, hff, f_X10_giveIfAny, f_X10_refuse]
      · simp (disch := omega) only [f_X11_moveOf, qL_1, qL_4, hfr, ql_0, ql_1, ql_2, ql_3, ql_4, ql_5, ql_6, ql_7, ql_8, ql_9, ql_10, ql_11, ql_12, ql_13, ql_14, ql_15, ql_16, ql_17, ql_18, ql_19, ql_20, ql_21, ql_22, ql_23, ql_24, ql_27, ql_30, ql_31, ql_32, ql_40, ql_48, ql_51, ql_52, ql_57, ql_59, ql_60, ql_61, ql_62, ql_76, ql_84, ql_91, ql_97, ql_99, ql_100, ql_120, ql_122, ql_127, ql_128, ql_200, ql_255, ql_256, ql_300, ql_420, ql_428, ql_640, ql_900, ql_896, ql_999, ql_1712, ql_1716, ql_1734, ql_1772, ql_1800, ql_1805, ql_1811, ql_1822, ql_2132, ql_2140, ql_3229, ql_9999, ql_11453, ql_65536, ql_100000, ql_1000000, nI_add, pk_mul, q_and, q_or, q_xor, nI_clamp, q_in, q_neg1, q_nno, q_nno', q_annN, q_sh1, q_tbN, nI_leI, nI_ltI, nI_eq, pk_sub, ↓reduceIte, if_pos, if_neg, q_zlt, q_bs, e2, d1, m2, y', f_X11_refuse]
