/-! the most, the first: the reference's walk, and both -/
def q_rwk (C : q_N) (u : Nat → Int) (g : Nat → List Nat) (m k : Nat) : Int × List Nat := q_it (fun c (a : Int × List Nat) => if m.testBit c = true then a else if a.1 < q_Uw C true u m c then (q_Uw C true u m c, c :: g (m ||| 2 ^ c)) else a) (0, []) k
def q_rw (C : q_N) : Nat → Nat → List Nat
  | 0 => fun _ => []
  | l + 1 => fun m => (q_rwk C (q_U C true l) (q_rw C l) m (C 0 2)).2
theorem q_rwk_s (C : q_N) (u : Nat → Int) (g : Nat → List Nat) (m k : Nat) : q_rwk C u g m (k + 1) = if m.testBit k = true then q_rwk C u g m k else if (q_rwk C u g m k).1 < q_Uw C true u m k then (q_Uw C true u m k, k :: g (m ||| 2 ^ k)) else q_rwk C u g m k := rfl
theorem q_rwk_u (C : q_N) (u : Nat → Int) (g : Nat → List Nat) (m k : Nat) : (q_rwk C u g m k).1 = q_Uk C true u m 0 k := by
  induction k with
  | zero => rfl
  | succ k ih =>
    rw [q_rwk_s, q_Uk_s]
    split
    · exact ih
    · split
      · show q_Uw C true u m k = _; omega
      · rw [ih]; omega
/-- what the row of the best is -/
theorem q_rwk_f (C : q_N) (u : Nat → Int) (g : Nat → List Nat) (m k : Nat) : ((q_rwk C u g m k).1 = 0 ∧ (q_rwk C u g m k).2 = []) ∨ (0 < (q_rwk C u g m k).1 ∧ ∃ c, c < k ∧ m.testBit c = false ∧ q_Uw C true u m c = (q_rwk C u g m k).1 ∧ (q_rwk C u g m k).2 = c :: g (m ||| 2 ^ c) ∧ ∀ c', c' < c → m.testBit c' = false → q_Uw C true u m c' < (q_rwk C u g m k).1) := by
  have hall : ∀ k c, c < k → m.testBit c = false → q_Uw C true u m c ≤ (q_rwk C u g m k).1 := by
    intro k
    induction k with
    | zero => intro c hc; omega
    | succ k ih =>
      intro c hc hb
      rw [q_rwk_s]
      by_cases y : c = k
      · subst y
        rw [hb, if_neg (by decide)]
        split
        · exact Int.le_refl _
        · omega
      · have := ih c (by omega) hb
        split
        · exact this
        · split
          · show _ ≤ q_Uw C true u m k; omega
          · exact this
  induction k with
  | zero => exact Or.inl ⟨rfl, rfl⟩
  | succ k ih =>
    have hk := hall k
    rw [q_rwk_s]
    cases hb : m.testBit k with
    | true =>
      rw [if_pos rfl]
      rcases ih with ih | ⟨h1, c, h2, h3⟩
      · exact Or.inl ih
      · exact Or.inr ⟨h1, c, by omega, h3⟩
    | false =>
      rw [if_neg (by decide)]
      by_cases y : (q_rwk C u g m k).1 < q_Uw C true u m k
      · rw [if_pos y]
        have h0 : 0 ≤ (q_rwk C u g m k).1 := by rcases ih with ih | ih <;> omega
        refine Or.inr ⟨by show 0 < q_Uw C true u m k; omega, k, by omega, hb, rfl, rfl, fun c' hc' hb' => ?_⟩
        have := hk c' hc' hb'
        show _ < q_Uw C true u m k
        omega
      · rw [if_neg y]
        rcases ih with ih | ⟨h1, c, h2, h3⟩
        · exact Or.inl ih
        · exact Or.inr ⟨h1, c, by omega, h3⟩
theorem q_U_r (C : q_N) (l m : Nat) : q_U C true (l + 1) m = (q_rwk C (q_U C true l) (q_rw C l) m (C 0 2)).1 := by
  rw [q_rwk_u]; rfl
theorem q_U_0 (C : q_N) (l m : Nat) : 0 ≤ q_U C true l m ∧ (q_U C true l m = 0 → q_rw C l m = []) := by
  cases l with
  | zero => exact ⟨Int.le_refl _, fun _ => rfl⟩
  | succ l =>
    rw [q_U_r]
    rcases q_rwk_f C (q_U C true l) (q_rw C l) m (C 0 2) with ⟨h1, h2⟩ | ⟨h1, -⟩
    · exact ⟨by omega, fun _ => h2⟩
    · exact ⟨by omega, fun y => by omega⟩
theorem q_rw_len (C : q_N) (l : Nat) : ∀ m, (q_rw C l m).length ≤ l := by
  induction l with
  | zero => intro m; exact Nat.le_refl _
  | succ l ih =>
    intro m
    show (q_rwk C (q_U C true l) (q_rw C l) m (C 0 2)).2.length ≤ l + 1
    rcases q_rwk_f C (q_U C true l) (q_rw C l) m (C 0 2) with ⟨-, h2⟩ | ⟨-, c, -, -, -, h2, -⟩
    · rw [h2]; exact Nat.zero_le _
    · rw [h2, List.length_cons]; have := ih (m ||| 2 ^ c); omega
theorem q_rw_lt (C : q_N) (l : Nat) : ∀ m j, j < (q_rw C l m).length → (q_rw C l m).getD j 0 < C 0 2 := by
  induction l with
  | zero => intro m j hj; exact absurd hj (Nat.not_lt_zero _)
  | succ l ih =>
    intro m j
    show j < (q_rwk C (q_U C true l) (q_rw C l) m (C 0 2)).2.length → (q_rwk C (q_U C true l) (q_rw C l) m (C 0 2)).2.getD j 0 < C 0 2
    rcases q_rwk_f C (q_U C true l) (q_rw C l) m (C 0 2) with ⟨-, h2⟩ | ⟨-, c, hc, -, -, h2, -⟩
    · rw [h2]; intro hj; exact absurd hj (Nat.not_lt_zero _)
    · rw [h2]
      intro hj
      cases j with
      | zero => exact hc
      | succ j => exact ih (m ||| 2 ^ c) j (by rw [List.length_cons] at hj; omega)
theorem q_find_s {p : Nat → Bool} {c n : Nat} (h1 : p c = true) (h2 : ∀ c', c' < c → p c' = false) (hn : c < n) : q_find p n = some c := by
  have h0 : ∀ k, k ≤ c → q_find p k = none := by
    intro k
    induction k with
    | zero => intro _; rfl
    | succ k ih => intro hk; rw [q_find, ih (by omega), h2 k (by omega)]; rfl
  induction n with
  | zero => omega
  | succ n ih =>
    by_cases y : c = n
    · subst y; rw [q_find, h0 c (Nat.le_refl _), h1]; rfl
    · rw [q_find, ih (by omega)]
/-- the class's row -/
theorem x2_row {C : q_N} {I : z_I} {L : z_L} (h : q_sx C 3 I L) (ok : q_ok C) {n k : Nat} (hn : n ≤ 3) (hk : k < 2 ^ 31) (hr : q_rd C true n (n + 1) I) : ∀ l i m f, i + l = n → l < f → i ≤ k → m < 2 ^ C 0 2 → q_rc C m i → g_X2_rowAt_11 (nI n) (nI k) I f (nI m) (nI i) = some (q_eO ((q_rw C l m)[k - i]?)) := by
  obtain ⟨o0, o1, o2, o3, -⟩ := id ok
  intro l
  induction l with
  | zero =>
    intro i m f hi hf hik hm hq
    cases f with
    | zero => omega
    | succ f =>
      have : q_rw C 0 m = [] := rfl
      rw [this, List.getElem?_nil]
      simp (disch := omega) only [g_X2_rowAt_11, ql_0, ql_1, ql_2, ql_3, ql_4, ql_5, ql_6, ql_7, ql_8, ql_9, ql_10, ql_11, ql_12, ql_13, ql_14, ql_15, ql_16, ql_17, ql_18, ql_19, ql_20, ql_21, ql_22, ql_23, ql_24, ql_27, ql_30, ql_31, ql_32, ql_40, ql_48, ql_51, ql_52, ql_57, ql_59, ql_60, ql_61, ql_62, ql_76, ql_84, ql_91, ql_97, ql_99, ql_100, ql_120, ql_122, ql_127, ql_128, ql_200, ql_255, ql_256, ql_300, ql_420, ql_428, ql_640, ql_900, ql_896, ql_999, ql_1712, ql_1716, ql_1734, ql_1772, ql_1800, ql_1805, ql_1811, ql_1822, ql_2132, ql_2140, ql_3229, ql_9999, ql_11453, ql_65536, ql_100000, ql_1000000, nI_add, pk_mul, q_and, q_or, q_xor, nI_clamp, q_in, q_neg1, q_nno, q_nno', q_annN, q_sh1, q_tbN, nI_leI, nI_ltI, nI_eq, pk_sub, ↓reduceIte, if_pos, if_neg, q_zlt, q_bs]
      rfl
  | succ l ih =>
    intro i m f hi hf hik hm hq
    cases f with
    | zero => omega
    | succ f =>
      have hm7 := q_p7 o2 hm
      have e1 : n - i = l + 1 := by omega
      have er := hr.2 (l + 1) m (by omega) hm (q_rc_w hq (by omega))
      have hb := q_U_b ok (b := true) (l + 1) m
      have hUe := q_U_r C l m
      have hl : ((l + 1 : Nat) : Int) ≤ 3 := by omega
      have hx := x2_first h ok (b := true) (n := n) (l := l) (m := m) (x := q_U C true (l + 1) m) (by omega) (by omega) hm hr (q_rc_w hq (by omega)) (by omega)
      have hz : (q_zi (q_U C true (l + 1) m) = nI 0) ↔ q_U C true (l + 1) m = 0 := q_zi_eq (b := 0) (by omega) (by omega) (by omega) (by omega)
      rw [show q_zi (q_Us true) = nI 1 from rfl] at hx
      rcases q_rwk_f C (q_U C true l) (q_rw C l) m (C 0 2) with ⟨h1, h2⟩ | ⟨h1, c, hc, hcb, hcw, h2, hmin⟩
      · have e0 : q_U C true (l + 1) m = 0 := by rw [hUe, h1]
        have : q_rw C (l + 1) m = [] := h2
        rw [this, List.getElem?_nil]
        simp (disch := omega) only [g_X2_rowAt_11, f_X2_indexOf, ql_0, ql_1, ql_2, ql_3, ql_4, ql_5, ql_6, ql_7, ql_8, ql_9, ql_10, ql_11, ql_12, ql_13, ql_14, ql_15, ql_16, ql_17, ql_18, ql_19, ql_20, ql_21, ql_22, ql_23, ql_24, ql_27, ql_30, ql_31, ql_32, ql_40, ql_48, ql_51, ql_52, ql_57, ql_59, ql_60, ql_61, ql_62, ql_76, ql_84, ql_91, ql_97, ql_99, ql_100, ql_120, ql_122, ql_127, ql_128, ql_200, ql_255, ql_256, ql_300, ql_420, ql_428, ql_640, ql_900, ql_896, ql_999, ql_1712, ql_1716, ql_1734, ql_1772, ql_1800, ql_1805, ql_1811, ql_1822, ql_2132, ql_2140, ql_3229, ql_9999, ql_11453, ql_65536, ql_100000, ql_1000000, nI_add, pk_mul, q_and, q_or, q_xor, nI_clamp, q_in, q_neg1, q_nno, q_nno', q_annN, q_sh1, q_tbN, nI_leI, nI_ltI, nI_eq, pk_sub, ↓reduceIte, if_pos, if_neg, q_zlt, q_bs, e1, er, hz, e0]
        rfl
      · have e0 : ¬ q_U C true (l + 1) m = 0 := by rw [hUe]; omega
        have hfd : q_find (fun c => !m.testBit c && decide (q_Uw C true (q_U C true l) m c = q_U C true (l + 1) m)) (C 0 2) = some c := by
          apply q_find_s _ _ hc
          · simp only [hcb, Bool.not_false, Bool.true_and, decide_eq_true_iff]
            rw [hcw, hUe]
          · intro c' hc'
            cases hb' : m.testBit c' with
            | true => rfl
            | false =>
              have := hmin c' hc' hb'
              simp only [Bool.not_false, Bool.true_and, decide_eq_false_iff_not]
              rw [hUe]
              omega
        rw [hfd] at hx
        have hx : f_X2_firstFor I (q_zi (q_U C true (l + 1) m)) (nI (l + 1)) (nI m) (nI 1) = some (nI c) := hx
        have : q_rw C (l + 1) m = c :: q_rw C l (m ||| 2 ^ c) := h2
        rw [this]
        by_cases y : i = k
        · subst y
          rw [Nat.sub_self, List.getElem?_cons_zero]
          simp (disch := omega) only [g_X2_rowAt_11, f_X2_indexOf, ql_0, ql_1, ql_2, ql_3, ql_4, ql_5, ql_6, ql_7, ql_8, ql_9, ql_10, ql_11, ql_12, ql_13, ql_14, ql_15, ql_16, ql_17, ql_18, ql_19, ql_20, ql_21, ql_22, ql_23, ql_24, ql_27, ql_30, ql_31, ql_32, ql_40, ql_48, ql_51, ql_52, ql_57, ql_59, ql_60, ql_61, ql_62, ql_76, ql_84, ql_91, ql_97, ql_99, ql_100, ql_120, ql_122, ql_127, ql_128, ql_200, ql_255, ql_256, ql_300, ql_420, ql_428, ql_640, ql_900, ql_896, ql_999, ql_1712, ql_1716, ql_1734, ql_1772, ql_1800, ql_1805, ql_1811, ql_1822, ql_2132, ql_2140, ql_3229, ql_9999, ql_11453, ql_65536, ql_100000, ql_1000000, nI_add, pk_mul, q_and, q_or, q_xor, nI_clamp, q_in, q_neg1, q_nno, q_nno', q_annN, q_sh1, q_tbN, nI_leI, nI_ltI, nI_eq, pk_sub, ↓reduceIte, if_pos, if_neg, q_zlt, q_bs, e1, er, hz, e0, hx]
          rfl
        · rw [show k - i = (k - (i + 1)) + 1 by omega, List.getElem?_cons_succ, ← ih (i + 1) (m ||| 2 ^ c) f (by omega) (by omega) (by omega) (q_or7 o2 hm hc).1 (q_rc_s ok hm hq hc hcb)]
          simp (disch := omega) only [g_X2_rowAt_11, f_X2_indexOf, ql_0, ql_1, ql_2, ql_3, ql_4, ql_5, ql_6, ql_7, ql_8, ql_9, ql_10, ql_11, ql_12, ql_13, ql_14, ql_15, ql_16, ql_17, ql_18, ql_19, ql_20, ql_21, ql_22, ql_23, ql_24, ql_27, ql_30, ql_31, ql_32, ql_40, ql_48, ql_51, ql_52, ql_57, ql_59, ql_60, ql_61, ql_62, ql_76, ql_84, ql_91, ql_97, ql_99, ql_100, ql_120, ql_122, ql_127, ql_128, ql_200, ql_255, ql_256, ql_300, ql_420, ql_428, ql_640, ql_900, ql_896, ql_999, ql_1712, ql_1716, ql_1734, ql_1772, ql_1800, ql_1805, ql_1811, ql_1822, ql_2132, ql_2140, ql_3229, ql_9999, ql_11453, ql_65536, ql_100000, ql_1000000, nI_add, pk_mul, q_and, q_or, q_xor, nI_clamp, q_in, q_neg1, q_nno, q_nno', q_annN, q_sh1, q_tbN, nI_leI, nI_ltI, nI_eq, pk_sub, ↓reduceIte, if_pos, if_neg, q_zlt, q_bs, e1, er, hz, e0, hx, y]
/-! the reference -/
def q_F : Nat → Nat
  | 0 => 0
  | l + 1 => 9 * (q_F l + 1)
def q_mF (J M : z_I) : Prop := ∀ d k, d ≠ 9 → d ≠ 10 → d ≠ 11 → d ≠ 12 → (d ≠ 0 ∨ (k ≠ 28 ∧ k ≠ 29)) → M d k = J d k
def q_mb (M : z_I) (s : Int × List Nat) : Prop := M 0 28 = q_zi s.1 ∧ M 0 29 = nI s.2.length ∧ ∀ j, j < s.2.length → M 12 j = nI (s.2.getD j 0)
def q_mR (M : z_I) (k : Nat) : z_I := fun d j => if d = 12 ∧ j < k then M 9 j else M d j
theorem m_rec {M : z_I} {l : Nat} (hl : l ≤ 2) (x y z : Int32) (k168 : z_I → Option z_I) : g_X11_laysMost_142 x (nI l) y z k168 z_fuel (nI 0) M = k168 (q_mR M (l + 1)) := by
  have e0 : q_mR M 0 = M := by
    funext d j
    show (if d = 12 ∧ j < 0 then M 9 j else M d j) = M d j
    rw [if_neg (by omega)]
  have key := q_lp (G := fun n k (a : z_I) => g_X11_laysMost_142 x (nI l) y z k168 n (nI k) a) (N := l + 1) (k0 := 0) (r := k168 (q_mR M (l + 1))) (n := z_fuel) (fun k => q_mR M k) (fun n k _ hk => ?_) (fun n => ?_) (Nat.zero_le _) (q_fu (by omega))
  · rw [e0] at key; exact key
  · have e1 : z2 (q_mR M k) 12 k (q_mR M k 9 k) = q_mR M (k + 1) := by
      funext d j
      by_cases y : d = 12 ∧ j = k
      · obtain ⟨rfl, rfl⟩ := y
        rw [q_zs]
        show (if 9 = 12 ∧ j < j then M 9 j else M 9 j) = (if 12 = 12 ∧ j < j + 1 then M 9 j else M 12 j)
        rw [if_neg (by omega), if_pos ⟨rfl, by omega⟩]
      · rw [q_zo (by omega)]
        show (if d = 12 ∧ j < k then M 9 j else M d j) = (if d = 12 ∧ j < k + 1 then M 9 j else M d j)
        by_cases w : d = 12 ∧ j < k
        · rw [if_pos w, if_pos ⟨w.1, by omega⟩]
        · rw [if_neg w, if_neg (by omega)]
    show g_X11_laysMost_142 x (nI l) y z k168 (n + 1) (nI k) (q_mR M k) = _
    simp (disch := omega) only [g_X11_laysMost_142, ql_0, ql_1, ql_2, ql_3, ql_4, ql_5, ql_6, ql_7, ql_8, ql_9, ql_10, ql_11, ql_12, ql_13, ql_14, ql_15, ql_16, ql_17, ql_18, ql_19, ql_20, ql_21, ql_22, ql_23, ql_24, ql_27, ql_30, ql_31, ql_32, ql_40, ql_48, ql_51, ql_52, ql_57, ql_59, ql_60, ql_61, ql_62, ql_76, ql_84, ql_91, ql_97, ql_99, ql_100, ql_120, ql_122, ql_127, ql_128, ql_200, ql_255, ql_256, ql_300, ql_420, ql_428, ql_640, ql_900, ql_896, ql_999, ql_1712, ql_1716, ql_1734, ql_1772, ql_1800, ql_1805, ql_1811, ql_1822, ql_2132, ql_2140, ql_3229, ql_9999, ql_11453, ql_65536, ql_100000, ql_1000000, nI_add, pk_mul, q_and, q_or, q_xor, nI_clamp, q_in, q_neg1, q_nno, q_nno', q_annN, q_sh1, q_tbN, nI_leI, nI_ltI, nI_eq, pk_sub, ↓reduceIte, if_pos, if_neg, q_zlt, q_bs, e1]
  · show g_X11_laysMost_142 x (nI l) y z k168 (n + 1) (nI (l + 1)) (q_mR M (l + 1)) = _
    simp (disch := omega) only [g_X11_laysMost_142, ql_0, ql_1, ql_2, ql_3, ql_4, ql_5, ql_6, ql_7, ql_8, ql_9, ql_10, ql_11, ql_12, ql_13, ql_14, ql_15, ql_16, ql_17, ql_18, ql_19, ql_20, ql_21, ql_22, ql_23, ql_24, ql_27, ql_30, ql_31, ql_32, ql_40, ql_48, ql_51, ql_52, ql_57, ql_59, ql_60, ql_61, ql_62, ql_76, ql_84, ql_91, ql_97, ql_99, ql_100, ql_120, ql_122, ql_127, ql_128, ql_200, ql_255, ql_256, ql_300, ql_420, ql_428, ql_640, ql_900, ql_896, ql_999, ql_1712, ql_1716, ql_1734, ql_1772, ql_1800, ql_1805, ql_1811, ql_1822, ql_2132, ql_2140, ql_3229, ql_9999, ql_11453, ql_65536, ql_100000, ql_1000000, nI_add, pk_mul, q_and, q_or, q_xor, nI_clamp, q_in, q_neg1, q_nno, q_nno', q_annN, q_sh1, q_tbN, nI_leI, nI_ltI, nI_eq, pk_sub, ↓reduceIte, if_pos, if_neg, q_zlt, q_bs]
theorem q_dec (l : Nat) : nI (l + 1) + q_no = nI l := by
  rw [← nI_add, Int32.add_assoc, show nI 1 + q_no = 0 from by decide, Int32.add_zero]
def q_mS (came b : Int) (r path : List Nat) (s : Int × List Nat) : Int × List Nat := if b < came + s.1 then (came + s.1, path ++ s.2) else (b, r)
def q_mU (s : Int × List Nat) (x : Int) (p : List Nat) : Int × List Nat := if s.1 < x then (x, p) else s
theorem q_mU_i (s : Int × List Nat) (x : Int) (p p' : List Nat) : q_mS x (q_mU s x p).1 (q_mU s x p).2 p' (0, []) = q_mU s x p := by
  unfold q_mS
  rw [if_neg]
  unfold q_mU
  dsimp only
  split
  · dsimp only; omega
  · omega
theorem q_mS_s {came b : Int} {r path : List Nat} {k : Nat} {y w : Int} {row : List Nat} {s : Int × List Nat} (hw : 0 ≤ w) (hr : w = 0 → row = []) : q_mS (came + y) (q_mU (q_mS came b r path s) (came + y) (path ++ [k])).1 (q_mU (q_mS came b r path s) (came + y) (path ++ [k])).2 (path ++ [k]) (w, row) = q_mS came b r path (if s.1 < y + w then (y + w, k :: row) else s) := by
  have ea : path ++ [k] ++ row = path ++ k :: row := by rw [List.append_assoc]; rfl
  by_cases h0 : w = 0
  · have hr2 := hr h0
    subst hr2
    subst h0
    rw [q_mU_i]
    have ey : y + 0 = y := Int.add_zero y
    rw [ey]
    by_cases h2 : s.1 < y
    · rw [if_pos h2]
      unfold q_mU q_mS
      dsimp only
      by_cases h1 : b < came + s.1
      · rw [if_pos h1]
        dsimp only
        rw [if_pos (show came + s.1 < came + y by omega), if_pos (show b < came + y by omega)]
      · rw [if_neg h1]
    · rw [if_neg h2]
      unfold q_mU q_mS
      by_cases h1 : b < came + s.1
      · rw [if_pos h1]
        dsimp only
        rw [if_neg (show ¬ came + s.1 < came + y by omega)]
      · rw [if_neg h1]
        dsimp only
        rw [if_neg (show ¬ b < came + y by omega)]
  · by_cases h1 : b < came + s.1
    · have e1 : q_mS came b r path s = (came + s.1, path ++ s.2) := by unfold q_mS; rw [if_pos h1]
      rw [e1]
      by_cases h2 : s.1 < y + w
      · rw [if_pos h2]
        have e2 : q_mS came b r path (y + w, k :: row) = (came + (y + w), path ++ k :: row) := by unfold q_mS; dsimp only; rw [if_pos (by omega)]
        rw [e2]
        by_cases h3 : came + s.1 < came + y
        · have e3 : q_mU (came + s.1, path ++ s.2) (came + y) (path ++ [k]) = (came + y, path ++ [k]) := by unfold q_mU; dsimp only; rw [if_pos h3]
          rw [e3]
          unfold q_mS
          dsimp only
          rw [if_pos (by omega), ea, Int.add_assoc]
        · have e3 : q_mU (came + s.1, path ++ s.2) (came + y) (path ++ [k]) = (came + s.1, path ++ s.2) := by unfold q_mU; dsimp only; rw [if_neg h3]
          rw [e3]
          unfold q_mS
          dsimp only
          rw [if_pos (by omega), ea, Int.add_assoc]
      · rw [if_neg h2, e1]
        have e3 : q_mU (came + s.1, path ++ s.2) (came + y) (path ++ [k]) = (came + s.1, path ++ s.2) := by unfold q_mU; dsimp only; rw [if_neg (by omega)]
        rw [e3]
        unfold q_mS
        dsimp only
        rw [if_neg (by omega)]
    · have e1 : q_mS came b r path s = (b, r) := by unfold q_mS; rw [if_neg h1]
      rw [e1]
      by_cases h2 : s.1 < y + w
      · rw [if_pos h2]
        by_cases h3 : b < came + y
        · have e3 : q_mU (b, r) (came + y) (path ++ [k]) = (came + y, path ++ [k]) := by unfold q_mU; dsimp only; rw [if_pos h3]
          rw [e3]
          unfold q_mS
          dsimp only
          rw [if_pos (by omega), if_pos (by omega), ea, Int.add_assoc]
        · have e3 : q_mU (b, r) (came + y) (path ++ [k]) = (b, r) := by unfold q_mU; dsimp only; rw [if_neg h3]
          rw [e3]
          unfold q_mS
          dsimp only
          by_cases h4 : b < came + y + w
          · rw [if_pos h4, if_pos (by omega), ea, Int.add_assoc]
          · rw [if_neg h4, if_neg (by omega)]
      · rw [if_neg h2, e1]
        have e3 : q_mU (b, r) (came + y) (path ++ [k]) = (b, r) := by unfold q_mU; dsimp only; rw [if_neg (by omega)]
        rw [e3]
        unfold q_mS
        dsimp only
        rw [if_neg (by omega)]
/-- one claim is tried that isn't made -/
theorem m_mi {C : q_N} {m0 : Nat} {J : z_I} {K : z_L} (h : q_sm C 0 m0 J K) (ok : q_ok C) {n l k m f : Nat} {M : z_I} {came : Int} {s : Int × List Nat} {path : List Nat} (hn : n ≤ 3) (hl : l + 1 ≤ n) (hM : q_mF J M) (e9 : M 9 l + nI 1 = nI k) (hk : k < C 0 2) (e10 : M 10 l = q_zi came) (e11 : M 11 l = nI m) (hm : m < 2 ^ C 0 2) (hb : m.testBit k = false) (hp : path.length = l) (hpa : ∀ i, i < l → M 9 i = nI (path.getD i 0)) (hc : 0 ≤ came ∧ came ≤ 600) (hs : 0 ≤ s.1 ∧ s.1 ≤ 800) (hmb : q_mb M s) : ∃ M2, q_mF J M2 ∧ (∀ d i, d = 9 ∨ d = 10 ∨ d = 11 → d ≠ 9 ∨ i ≠ l → M2 d i = M d i) ∧ M2 9 l = nI k ∧ q_mb M2 (q_mU s (came + (q_yd C m k : Int)) (path ++ [k])) ∧ g_X11_laysMost_39 (nI n) (f + 1) (nI l) M = if l + 1 = n then g_X11_laysMost_39 (nI n) f (nI l) M2 else g_X11_laysMost_39 (nI n) f (nI (l + 1)) (z2 (z2 (z2 M2 9 (l + 1) q_no) 10 (l + 1) (q_zi (came + (q_yd C m k : Int)))) 11 (l + 1) (nI (m ||| 2 ^ k))) := by
  obtain ⟨o0, o1, o2, o3, -⟩ := id ok
  have hm7 := q_p7 o2 hm
  have hyl := q_yd_le ok m k
  have h1 : q_sm C 0 m0 (z2 M 9 l (nI k)) K := h.go ok (fun i _ _ => by rw [q_zo (by omega)]; exact hM 1 i (by omega) (by omega) (by omega) (by omega) (by omega)) (fun _ _ _ => rfl)
  have hy := m_yieldBy h1 ok (d := m) (k := k) hk (by omega)
  rw [q_zi_n (q_yd C m k)] at hy
  have h2 : M 1 2 = nI (C 0 2) := by rw [hM 1 2 (by omega) (by omega) (by omega) (by omega) (by omega)]; exact h.f.2.2.1
  have hle := q_zi_le (a := came + (q_yd C m k : Int)) (b := s.1) (by omega) (by omega) (by omega) (by omega)
  obtain ⟨b1, b2, b3⟩ := hmb
  by_cases z : s.1 < came + (q_yd C m k : Int)
  · refine ⟨q_mR (z2 (z2 (z2 M 9 l (nI k)) 0 28 (q_zi (came + (q_yd C m k : Int)))) 0 29 (nI (l + 1))) (l + 1), fun d i d1 d2 d3 d4 d5 => ?_, fun d i hd hi => ?_, ?_, ?_, ?_⟩
    · show (if d = 12 ∧ i < l + 1 then _ else _) = _
      rw [if_neg (by omega), q_zo (by omega), q_zo (by omega), q_zo (by omega)]
      exact hM d i d1 d2 d3 d4 d5
    · show (if d = 12 ∧ i < l + 1 then _ else _) = _
      rw [if_neg (by omega), q_zo (by omega), q_zo (by omega), q_zo (by omega)]
    · show (if 9 = 12 ∧ l < l + 1 then _ else _) = _
      rw [if_neg (by omega), q_zo (by omega), q_zo (by omega), q_zs]
    · unfold q_mU
      rw [if_pos z]
      refine ⟨?_, ?_, fun j hj => ?_⟩
      · show (if 0 = 12 ∧ 28 < l + 1 then _ else _) = _
        rw [if_neg (by omega), q_zo (by omega), q_zs]
      · show (if 0 = 12 ∧ 29 < l + 1 then _ else _) = _
        rw [if_neg (by omega), q_zs, List.length_append, hp]
        rfl
      · rw [List.length_append, hp] at hj
        have hj : j < l + 1 := hj
        show (if 12 = 12 ∧ j < l + 1 then _ else _) = _
        rw [if_pos ⟨rfl, hj⟩, q_zo (by omega), q_zo (by omega), List.getD_eq_getElem?_getD]
        by_cases y : j = l
        · subst y
          rw [q_zs, List.getElem?_append_right (by omega), hp, Nat.sub_self]
          rfl
        · rw [q_zo (by omega), hpa j (by omega), List.getElem?_append_left (by omega), List.getD_eq_getElem?_getD]
    · have z' : ¬ came + (q_yd C m k : Int) ≤ s.1 := by omega
      have hne : ¬ k = C 0 2 := by omega
      have hrec := fun (x y w : Int32) (kk : z_I → Option z_I) => m_rec (M := z2 (z2 (z2 M 9 l (nI k)) 0 28 (q_zi (came + (q_yd C m k : Int)))) 0 29 (nI (l + 1))) (l := l) (by omega) x y w kk
      have r11 : q_mR (z2 (z2 (z2 M 9 l (nI k)) 0 28 (q_zi (came + (q_yd C m k : Int)))) 0 29 (nI (l + 1))) (l + 1) 11 l = nI m := by
        show (if 11 = 12 ∧ l < l + 1 then _ else _) = _
        rw [if_neg (by omega), q_zo (by omega), q_zo (by omega), q_zo (by omega), e11]
      simp (disch := omega) only [g_X11_laysMost_39, ql_0, ql_1, ql_2, ql_3, ql_4, ql_5, ql_6, ql_7, ql_8, ql_9, ql_10, ql_11, ql_12, ql_13, ql_14, ql_15, ql_16, ql_17, ql_18, ql_19, ql_20, ql_21, ql_22, ql_23, ql_24, ql_27, ql_30, ql_31, ql_32, ql_40, ql_48, ql_51, ql_52, ql_57, ql_59, ql_60, ql_61, ql_62, ql_76, ql_84, ql_91, ql_97, ql_99, ql_100, ql_120, ql_122, ql_127, ql_128, ql_200, ql_255, ql_256, ql_300, ql_420, ql_428, ql_640, ql_900, ql_896, ql_999, ql_1712, ql_1716, ql_1734, ql_1772, ql_1800, ql_1805, ql_1811, ql_1822, ql_2132, ql_2140, ql_3229, ql_9999, ql_11453, ql_65536, ql_100000, ql_1000000, nI_add, pk_mul, q_and, q_or, q_xor, nI_clamp, q_in, q_neg1, q_nno, q_nno', q_annN, q_sh1, q_tbN, nI_leI, nI_ltI, nI_eq, pk_sub, ↓reduceIte, if_pos, if_neg, q_zlt, q_bs, e9, q_zs, h2, hne, e11, q_isIn, hb, hy, e10, q_zi_add, b1, hle, z', hrec, Nat.add_sub_cancel, r11]
      simp only [Bool.false_eq_true, if_false, ↓reduceIte]
  · refine ⟨z2 M 9 l (nI k), fun d i d1 d2 d3 d4 d5 => ?_, fun d i hd hi => ?_, q_zs, ?_, ?_⟩
    · rw [q_zo (by omega)]
      exact hM d i d1 d2 d3 d4 d5
    · rw [q_zo (by omega)]
    · unfold q_mU
      rw [if_neg z]
      exact ⟨by rw [q_zo (by omega), b1], by rw [q_zo (by omega), b2], fun j hj => by rw [q_zo (by omega), b3 j hj]⟩
    · have z' : came + (q_yd C m k : Int) ≤ s.1 := by omega
      have hne : ¬ k = C 0 2 := by omega
      have r11 : z2 M 9 l (nI k) 11 l = nI m := by rw [q_zo (by omega), e11]
      simp (disch := omega) only [g_X11_laysMost_39, ql_0, ql_1, ql_2, ql_3, ql_4, ql_5, ql_6, ql_7, ql_8, ql_9, ql_10, ql_11, ql_12, ql_13, ql_14, ql_15, ql_16, ql_17, ql_18, ql_19, ql_20, ql_21, ql_22, ql_23, ql_24, ql_27, ql_30, ql_31, ql_32, ql_40, ql_48, ql_51, ql_52, ql_57, ql_59, ql_60, ql_61, ql_62, ql_76, ql_84, ql_91, ql_97, ql_99, ql_100, ql_120, ql_122, ql_127, ql_128, ql_200, ql_255, ql_256, ql_300, ql_420, ql_428, ql_640, ql_900, ql_896, ql_999, ql_1712, ql_1716, ql_1734, ql_1772, ql_1800, ql_1805, ql_1811, ql_1822, ql_2132, ql_2140, ql_3229, ql_9999, ql_11453, ql_65536, ql_100000, ql_1000000, nI_add, pk_mul, q_and, q_or, q_xor, nI_clamp, q_in, q_neg1, q_nno, q_nno', q_annN, q_sh1, q_tbN, nI_leI, nI_ltI, nI_eq, pk_sub, ↓reduceIte, if_pos, if_neg, q_zlt, q_bs, e9, q_zs, h2, hne, e11, q_isIn, hb, hy, e10, q_zi_add, b1, hle, z', Nat.add_sub_cancel, r11]
      simp only [Bool.false_eq_true, if_false, ↓reduceIte]
theorem m_dfs {C : q_N} {m0 : Nat} {J : z_I} {K : z_L} (h : q_sm C 0 m0 J K) (ok : q_ok C) {n : Nat} (hn : n ≤ 3) : ∀ l ℓ, ℓ + l + 1 = n → ∀ j k, k + j = C 0 2 → ∀ (f : Nat) (M : z_I) (m : Nat) (came b : Int) (r path : List Nat), (j + 1) * (q_F l + 1) ≤ f → q_mF J M → M 9 ℓ + nI 1 = nI k → M 10 ℓ = q_zi came → M 11 ℓ = nI m → m < 2 ^ C 0 2 → path.length = ℓ → (∀ i, i < ℓ → M 9 i = nI (path.getD i 0)) → (0 ≤ came ∧ came ≤ 192 * (ℓ : Int)) → (0 ≤ b ∧ b ≤ 600) → q_mb M (q_mS came b r path (q_rwk C (q_U C true l) (q_rw C l) m k)) → ∃ f' M', f ≤ f' + (j + 1) * (q_F l + 1) ∧ g_X11_laysMost_39 (nI n) f (nI ℓ) M = g_X11_laysMost_39 (nI n) f' (nI ℓ + q_no) M' ∧ q_mF J M' ∧ (∀ d i, d = 9 ∨ d = 10 ∨ d = 11 → i < ℓ → M' d i = M d i) ∧ q_mb M' (q_mS came b r path (q_rwk C (q_U C true l) (q_rw C l) m (C 0 2))) := by
  obtain ⟨o0, o1, o2, o3, -⟩ := id ok
  intro l
  induction l with
  | zero =>
    intro ℓ hl j
    induction j with
    | zero =>
      intro k hk f M m came b r path hf hM e9 e10 e11 hm hp hpa hc hb hmb
      have hk : k = C 0 2 := hk
      subst hk
      cases f with
      | zero => omega
      | succ f =>
        have h2 : M 1 2 = nI (C 0 2) := by rw [hM 1 2 (by omega) (by omega) (by omega) (by omega) (by omega)]; exact h.f.2.2.1
        refine ⟨f, z2 M 9 ℓ (nI (C 0 2)), by omega, ?_, fun d i d1 d2 d3 d4 d5 => ?_, fun d i hd hi => q_zo (by omega), ?_⟩
        · simp (disch := omega) only [g_X11_laysMost_39, ql_0, ql_1, ql_2, ql_3, ql_4, ql_5, ql_6, ql_7, ql_8, ql_9, ql_10, ql_11, ql_12, ql_13, ql_14, ql_15, ql_16, ql_17, ql_18, ql_19, ql_20, ql_21, ql_22, ql_23, ql_24, ql_27, ql_30, ql_31, ql_32, ql_40, ql_48, ql_51, ql_52, ql_57, ql_59, ql_60, ql_61, ql_62, ql_76, ql_84, ql_91, ql_97, ql_99, ql_100, ql_120, ql_122, ql_127, ql_128, ql_200, ql_255, ql_256, ql_300, ql_420, ql_428, ql_640, ql_900, ql_896, ql_999, ql_1712, ql_1716, ql_1734, ql_1772, ql_1800, ql_1805, ql_1811, ql_1822, ql_2132, ql_2140, ql_3229, ql_9999, ql_11453, ql_65536, ql_100000, ql_1000000, nI_add, pk_mul, q_and, q_or, q_xor, nI_clamp, q_in, q_neg1, q_nno, q_nno', q_annN, q_sh1, q_tbN, nI_leI, nI_ltI, nI_eq, pk_sub, ↓reduceIte, if_pos, if_neg, q_zlt, q_bs, e9, q_zs, h2]
        · rw [q_zo (by omega)]; exact hM d i d1 d2 d3 d4 d5
        · exact ⟨by rw [q_zo (by omega)]; exact hmb.1, by rw [q_zo (by omega)]; exact hmb.2.1, fun i hi => by rw [q_zo (by omega)]; exact hmb.2.2 i hi⟩
    | succ j ih =>
      intro k hk f M m came b r path hf hM e9 e10 e11 hm hp hpa hc hb hmb
      have hm7 := q_p7 o2 hm
      have hkC : k < C 0 2 := by omega
      have hcost : (j + 1 + 1) * (q_F 0 + 1) = (j + 1) * (q_F 0 + 1) + (q_F 0 + 1) := Nat.succ_mul _ _
      cases f with
      | zero => omega
      | succ f =>
        cases hbt : m.testBit k with
        | true =>
          have h2 : M 1 2 = nI (C 0 2) := by rw [hM 1 2 (by omega) (by omega) (by omega) (by omega) (by omega)]; exact h.f.2.2.1
          have hne : ¬ k = C 0 2 := by omega
          obtain ⟨f', M', q1, q2, q3, q4, q5⟩ := ih (k + 1) (by omega) f (z2 M 9 ℓ (nI k)) m came b r path (by omega) (fun d i d1 d2 d3 d4 d5 => by rw [q_zo (by omega)]; exact hM d i d1 d2 d3 d4 d5) (by rw [q_zs, nI_add]) (by rw [q_zo (by omega), e10]) (by rw [q_zo (by omega), e11]) hm hp (fun i hi => by rw [q_zo (by omega)]; exact hpa i hi) hc hb (by
            rw [q_rwk_s, hbt, if_pos rfl]
            exact ⟨by rw [q_zo (by omega)]; exact hmb.1, by rw [q_zo (by omega)]; exact hmb.2.1, fun i hi => by rw [q_zo (by omega)]; exact hmb.2.2 i hi⟩)
          refine ⟨f', M', by omega, ?_, q3, fun d i hd hi => by rw [q4 d i hd hi, q_zo (by omega)], q5⟩
          rw [← q2]
          simp (disch := omega) only [g_X11_laysMost_39, ql_0, ql_1, ql_2, ql_3, ql_4, ql_5, ql_6, ql_7, ql_8, ql_9, ql_10, ql_11, ql_12, ql_13, ql_14, ql_15, ql_16, ql_17, ql_18, ql_19, ql_20, ql_21, ql_22, ql_23, ql_24, ql_27, ql_30, ql_31, ql_32, ql_40, ql_48, ql_51, ql_52, ql_57, ql_59, ql_60, ql_61, ql_62, ql_76, ql_84, ql_91, ql_97, ql_99, ql_100, ql_120, ql_122, ql_127, ql_128, ql_200, ql_255, ql_256, ql_300, ql_420, ql_428, ql_640, ql_900, ql_896, ql_999, ql_1712, ql_1716, ql_1734, ql_1772, ql_1800, ql_1805, ql_1811, ql_1822, ql_2132, ql_2140, ql_3229, ql_9999, ql_11453, ql_65536, ql_100000, ql_1000000, nI_add, pk_mul, q_and, q_or, q_xor, nI_clamp, q_in, q_neg1, q_nno, q_nno', q_annN, q_sh1, q_tbN, nI_leI, nI_ltI, nI_eq, pk_sub, ↓reduceIte, if_pos, if_neg, q_zlt, q_bs, e9, q_zs, h2, hne, e11, q_isIn, hbt]
        | false =>
          have hUb := q_Uk_b ok (b := true) (m := m) (a0 := 0) (u := q_U C true 0) (B := 0) (fun s => by show -0 ≤ (0 : Int) ∧ (0 : Int) ≤ 0; omega) (by omega) (by omega) k
          have hU0 := q_rwk_u C (q_U C true 0) (q_rw C 0) m k
          have hf0 := q_rwk_f C (q_U C true 0) (q_rw C 0) m k
          have hyl := q_yd_le ok m k
          obtain ⟨M2, q1, q2, q3, q4, q5⟩ := m_mi h ok (f := f) (s := q_mS came b r path (q_rwk C (q_U C true 0) (q_rw C 0) m k)) hn (l := ℓ) (by omega) hM e9 hkC e10 e11 hm hbt hp hpa (by omega) (by
            unfold q_mS
            split
            · show 0 ≤ came + _ ∧ came + _ ≤ 800; rcases hf0 with y | y <;> omega
            · show 0 ≤ b ∧ b ≤ 800; omega) hmb
          rw [if_pos (by omega)] at q5
          have hst : q_mU (q_mS came b r path (q_rwk C (q_U C true 0) (q_rw C 0) m k)) (came + (q_yd C m k : Int)) (path ++ [k]) = q_mS came b r path (q_rwk C (q_U C true 0) (q_rw C 0) m (k + 1)) := by
            rw [q_rwk_s, hbt, if_neg (by decide)]
            have e1 : q_Uw C true (q_U C true 0) m k = (q_yd C m k : Int) + 0 := rfl
            have e2 : q_rw C 0 (m ||| 2 ^ k) = [] := rfl
            rw [e1, e2, ← q_mS_s (k := k) (Int.le_refl 0) (fun _ => rfl)]
            exact (q_mU_i _ _ _ _).symm
          rw [hst] at q4
          obtain ⟨f', M', r1, r2, r3, r4, r5⟩ := ih (k + 1) (by omega) f M2 m came b r path (by omega) q1 (by rw [q3, nI_add]) (by rw [q2 10 ℓ (by omega) (by omega), e10]) (by rw [q2 11 ℓ (by omega) (by omega), e11]) hm hp (fun i hi => by rw [q2 9 i (by omega) (by omega)]; exact hpa i hi) hc hb q4
          exact ⟨f', M', by omega, q5.trans r2, r3, fun d i hd hi => by rw [r4 d i hd hi, q2 d i hd (by omega)], r5⟩
  | succ l ihl =>
    intro ℓ hl j
    induction j with
    | zero =>
      intro k hk f M m came b r path hf hM e9 e10 e11 hm hp hpa hc hb hmb
      have hk : k = C 0 2 := hk
      subst hk
      cases f with
      | zero => omega
      | succ f =>
        have h2 : M 1 2 = nI (C 0 2) := by rw [hM 1 2 (by omega) (by omega) (by omega) (by omega) (by omega)]; exact h.f.2.2.1
        refine ⟨f, z2 M 9 ℓ (nI (C 0 2)), by omega, ?_, fun d i d1 d2 d3 d4 d5 => ?_, fun d i hd hi => q_zo (by omega), ?_⟩
        · simp (disch := omega) only [g_X11_laysMost_39, ql_0, ql_1, ql_2, ql_3, ql_4, ql_5, ql_6, ql_7, ql_8, ql_9, ql_10, ql_11, ql_12, ql_13, ql_14, ql_15, ql_16, ql_17, ql_18, ql_19, ql_20, ql_21, ql_22, ql_23, ql_24, ql_27, ql_30, ql_31, ql_32, ql_40, ql_48, ql_51, ql_52, ql_57, ql_59, ql_60, ql_61, ql_62, ql_76, ql_84, ql_91, ql_97, ql_99, ql_100, ql_120, ql_122, ql_127, ql_128, ql_200, ql_255, ql_256, ql_300, ql_420, ql_428, ql_640, ql_900, ql_896, ql_999, ql_1712, ql_1716, ql_1734, ql_1772, ql_1800, ql_1805, ql_1811, ql_1822, ql_2132, ql_2140, ql_3229, ql_9999, ql_11453, ql_65536, ql_100000, ql_1000000, nI_add, pk_mul, q_and, q_or, q_xor, nI_clamp, q_in, q_neg1, q_nno, q_nno', q_annN, q_sh1, q_tbN, nI_leI, nI_ltI, nI_eq, pk_sub, ↓reduceIte, if_pos, if_neg, q_zlt, q_bs, e9, q_zs, h2]
        · rw [q_zo (by omega)]; exact hM d i d1 d2 d3 d4 d5
        · exact ⟨by rw [q_zo (by omega)]; exact hmb.1, by rw [q_zo (by omega)]; exact hmb.2.1, fun i hi => by rw [q_zo (by omega)]; exact hmb.2.2 i hi⟩
    | succ j ih =>
      intro k hk f M m came b r path hf hM e9 e10 e11 hm hp hpa hc hb hmb
      have hm7 := q_p7 o2 hm
      have hkC : k < C 0 2 := by omega
      have hcost : (j + 1 + 1) * (q_F (l + 1) + 1) = (j + 1) * (q_F (l + 1) + 1) + (q_F (l + 1) + 1) := Nat.succ_mul _ _
      have hFl : q_F (l + 1) = 9 * (q_F l + 1) := rfl
      have hcost2 : (C 0 2 + 1) * (q_F l + 1) ≤ q_F (l + 1) := by rw [hFl]; exact Nat.mul_le_mul_right _ (by omega)
      cases f with
      | zero => omega
      | succ f =>
        cases hbt : m.testBit k with
        | true =>
          have h2 : M 1 2 = nI (C 0 2) := by rw [hM 1 2 (by omega) (by omega) (by omega) (by omega) (by omega)]; exact h.f.2.2.1
          have hne : ¬ k = C 0 2 := by omega
          obtain ⟨f', M', q1, q2, q3, q4, q5⟩ := ih (k + 1) (by omega) f (z2 M 9 ℓ (nI k)) m came b r path (by omega) (fun d i d1 d2 d3 d4 d5 => by rw [q_zo (by omega)]; exact hM d i d1 d2 d3 d4 d5) (by rw [q_zs, nI_add]) (by rw [q_zo (by omega), e10]) (by rw [q_zo (by omega), e11]) hm hp (fun i hi => by rw [q_zo (by omega)]; exact hpa i hi) hc hb (by
            rw [q_rwk_s, hbt, if_pos rfl]
            exact ⟨by rw [q_zo (by omega)]; exact hmb.1, by rw [q_zo (by omega)]; exact hmb.2.1, fun i hi => by rw [q_zo (by omega)]; exact hmb.2.2 i hi⟩)
          refine ⟨f', M', by omega, ?_, q3, fun d i hd hi => by rw [q4 d i hd hi, q_zo (by omega)], q5⟩
          rw [← q2]
          simp (disch := omega) only [g_X11_laysMost_39, ql_0, ql_1, ql_2, ql_3, ql_4, ql_5, ql_6, ql_7, ql_8, ql_9, ql_10, ql_11, ql_12, ql_13, ql_14, ql_15, ql_16, ql_17, ql_18, ql_19, ql_20, ql_21, ql_22, ql_23, ql_24, ql_27, ql_30, ql_31, ql_32, ql_40, ql_48, ql_51, ql_52, ql_57, ql_59, ql_60, ql_61, ql_62, ql_76, ql_84, ql_91, ql_97, ql_99, ql_100, ql_120, ql_122, ql_127, ql_128, ql_200, ql_255, ql_256, ql_300, ql_420, ql_428, ql_640, ql_900, ql_896, ql_999, ql_1712, ql_1716, ql_1734, ql_1772, ql_1800, ql_1805, ql_1811, ql_1822, ql_2132, ql_2140, ql_3229, ql_9999, ql_11453, ql_65536, ql_100000, ql_1000000, nI_add, pk_mul, q_and, q_or, q_xor, nI_clamp, q_in, q_neg1, q_nno, q_nno', q_annN, q_sh1, q_tbN, nI_leI, nI_ltI, nI_eq, pk_sub, ↓reduceIte, if_pos, if_neg, q_zlt, q_bs, e9, q_zs, h2, hne, e11, q_isIn, hbt]
        | false =>
          have hlI : ((l + 1 : Nat) : Int) ≤ 2 := by omega
          have hUl := q_U_b ok (b := true) (l + 1)
          have hUb := q_Uk_b ok (b := true) (m := m) (a0 := 0) (u := q_U C true (l + 1)) (B := 192 * ((l + 1 : Nat) : Int)) hUl (by omega) (by omega) k
          have hU0 := q_rwk_u C (q_U C true (l + 1)) (q_rw C (l + 1)) m k
          have hf0 := q_rwk_f C (q_U C true (l + 1)) (q_rw C (l + 1)) m k
          have hyl := q_yd_le ok m k
          have hsb : 0 ≤ (q_mS came b r path (q_rwk C (q_U C true (l + 1)) (q_rw C (l + 1)) m k)).1 ∧ (q_mS came b r path (q_rwk C (q_U C true (l + 1)) (q_rw C (l + 1)) m k)).1 ≤ 600 := by
            unfold q_mS
            split
            · show 0 ≤ came + _ ∧ came + _ ≤ 600; rcases hf0 with y | y <;> omega
            · show 0 ≤ b ∧ b ≤ 600; omega
          obtain ⟨M2, q1, q2, q3, q4, q5⟩ := m_mi h ok (f := f) (s := q_mS came b r path (q_rwk C (q_U C true (l + 1)) (q_rw C (l + 1)) m k)) hn (l := ℓ) (by omega) hM e9 hkC e10 e11 hm hbt hp hpa (by omega) (by omega) hmb
          rw [if_neg (by omega)] at q5
          have hs1 : 0 ≤ (q_mU (q_mS came b r path (q_rwk C (q_U C true (l + 1)) (q_rw C (l + 1)) m k)) (came + (q_yd C m k : Int)) (path ++ [k])).1 ∧ (q_mU (q_mS came b r path (q_rwk C (q_U C true (l + 1)) (q_rw C (l + 1)) m k)) (came + (q_yd C m k : Int)) (path ++ [k])).1 ≤ 600 := by
            unfold q_mU
            split
            · show 0 ≤ came + (q_yd C m k : Int) ∧ came + (q_yd C m k : Int) ≤ 600; omega
            · exact hsb
          generalize hS : q_mU (q_mS came b r path (q_rwk C (q_U C true (l + 1)) (q_rw C (l + 1)) m k)) (came + (q_yd C m k : Int)) (path ++ [k]) = S at q4 hs1
          obtain ⟨f1, M3, r1, r2, r3, r4, r5⟩ := ihl (ℓ + 1) (by omega) (C 0 2) 0 (by omega) f (z2 (z2 (z2 M2 9 (ℓ + 1) q_no) 10 (ℓ + 1) (q_zi (came + (q_yd C m k : Int)))) 11 (ℓ + 1) (nI (m ||| 2 ^ k))) (m ||| 2 ^ k) (came + (q_yd C m k : Int)) S.1 S.2 (path ++ [k]) (by omega) (fun d i d1 d2 d3 d4 d5 => by rw [q_zo (by omega), q_zo (by omega), q_zo (by omega)]; exact q1 d i d1 d2 d3 d4 d5) (by rw [q_zo (by omega), q_zo (by omega), q_zs]; decide) (by rw [q_zo (by omega), q_zs]) (by rw [q_zs]) (q_or7 o2 hm hkC).1 (by rw [List.length_append, hp]; rfl) (fun i hi => by
            rw [q_zo (by omega), q_zo (by omega), q_zo (by omega), List.getD_eq_getElem?_getD]
            by_cases y : i = ℓ
            · subst y
              rw [q3, List.getElem?_append_right (by omega), hp, Nat.sub_self]
              rfl
            · rw [q2 9 i (by omega) (by omega), hpa i (by omega), List.getElem?_append_left (by omega), List.getD_eq_getElem?_getD]) (by omega) hs1 (by
            have e0 : q_mS (came + (q_yd C m k : Int)) S.1 S.2 (path ++ [k]) (q_rwk C (q_U C true l) (q_rw C l) (m ||| 2 ^ k) 0) = S := by
              show (if S.1 < came + (q_yd C m k : Int) + 0 then _ else (S.1, S.2)) = S
              rw [if_neg]
              rw [← hS]
              unfold q_mU
              split
              · show ¬ came + (q_yd C m k : Int) < came + (q_yd C m k : Int) + 0; omega
              · rename_i y
                show ¬ (q_mS came b r path (q_rwk C (q_U C true (l + 1)) (q_rw C (l + 1)) m k)).1 < came + (q_yd C m k : Int) + 0
                omega
            rw [e0]
            exact ⟨by rw [q_zo (by omega), q_zo (by omega), q_zo (by omega)]; exact q4.1, by rw [q_zo (by omega), q_zo (by omega), q_zo (by omega)]; exact q4.2.1, fun i hi => by rw [q_zo (by omega), q_zo (by omega), q_zo (by omega)]; exact q4.2.2 i hi⟩)
          have hst : q_mS (came + (q_yd C m k : Int)) S.1 S.2 (path ++ [k]) (q_rwk C (q_U C true l) (q_rw C l) (m ||| 2 ^ k) (C 0 2)) = q_mS came b r path (q_rwk C (q_U C true (l + 1)) (q_rw C (l + 1)) m (k + 1)) := by
            obtain ⟨u0, u1⟩ := q_U_0 C (l + 1) (m ||| 2 ^ k)
            have e3 : q_rwk C (q_U C true l) (q_rw C l) (m ||| 2 ^ k) (C 0 2) = (q_U C true (l + 1) (m ||| 2 ^ k), q_rw C (l + 1) (m ||| 2 ^ k)) := by rw [q_U_r]; rfl
            have e1 : q_Uw C true (q_U C true (l + 1)) m k = (q_yd C m k : Int) + q_U C true (l + 1) (m ||| 2 ^ k) := by show (q_yd C m k : Int) + 1 * _ = _; rw [Int.one_mul]
            rw [q_rwk_s, hbt, if_neg (by decide), e1, e3, ← hS]
            exact q_mS_s u0 u1
          rw [hst] at r5
          rw [q_dec] at r2
          have lo : ∀ d i, d = 9 ∨ d = 10 ∨ d = 11 → i < ℓ + 1 → (d ≠ 9 ∨ i ≠ ℓ) → M3 d i = M d i := fun d i hd hi hne => by rw [r4 d i hd hi, q_zo (by omega), q_zo (by omega), q_zo (by omega), q2 d i hd hne]
          obtain ⟨f', M', t1, t2, t3, t4, t5⟩ := ih (k + 1) (by omega) f1 M3 m came b r path (by omega) r3 (by rw [r4 9 ℓ (by omega) (by omega), q_zo (by omega), q_zo (by omega), q_zo (by omega), q3, nI_add]) (by rw [lo 10 ℓ (by omega) (by omega) (by omega), e10]) (by rw [lo 11 ℓ (by omega) (by omega) (by omega), e11]) hm hp (fun i hi => by rw [lo 9 i (by omega) (by omega) (by omega)]; exact hpa i hi) hc hb r5
          exact ⟨f', M', by omega, (q5.trans r2).trans t2, t3, fun d i hd hi => by rw [t4 d i hd hi, lo d i hd (by omega) (by omega)], t5⟩
theorem m_laysMost {C : q_N} {m0 : Nat} {J : z_I} {K : z_L} (h : q_sm C 0 m0 J K) (ok : q_ok C) {n : Nat} (hn : n ≤ 3) : ∃ M, f_X11_laysMost J (nI n) = some M ∧ q_mF J M ∧ q_mb M (q_U C true n (C 0 6), q_rw C n (C 0 6)) := by
  obtain ⟨o0, o1, o2, o3, -⟩ := id ok
  have hM6 := ok.2.2.2.2.2.2.1
  have j6 := h.f.2.2.2.2.2.2
  have e0 : q_mF J (z2 (z2 (z2 (z2 (z2 J 0 28 (nI 0)) 0 29 (nI 0)) 9 0 q_no) 10 0 (nI 0)) 11 0 (nI (C 0 6))) := fun d i d1 d2 d3 d4 d5 => by rw [q_zo (by omega), q_zo (by omega), q_zo (by omega), q_zo (by omega), q_zo (by omega)]
  cases n with
  | zero =>
    refine ⟨z2 (z2 (z2 (z2 (z2 J 0 28 (nI 0)) 0 29 (nI 0)) 9 0 q_no) 10 0 (nI 0)) 11 0 (nI (C 0 6)), ?_, e0, ?_⟩
    · obtain ⟨f, hf⟩ : ∃ f, z_fuel = f + 1 := ⟨999999, rfl⟩
      simp only [f_X11_laysMost, q_zlt, ql_0, ql_1, q_neg1, j6, hf]
      rw [g_X11_laysMost_39, if_neg (show ¬ nI 0 < 0 by decide), if_pos (show nI 0 ≤ 0 by decide)]
    · exact ⟨by rw [q_zo (by omega), q_zo (by omega), q_zo (by omega), q_zo (by omega), q_zs]; rfl, by rw [q_zo (by omega), q_zo (by omega), q_zo (by omega), q_zs]; rfl, fun j hj => absurd hj (Nat.not_lt_zero _)⟩
  | succ l =>
    have hF : (C 0 2 + 1) * (q_F l + 1) ≤ 999999 := by
      have h1 : q_F l ≤ 90 := by
        have : ∀ l, l < 3 → q_F l ≤ 90 := by decide
        exact this l (by omega)
      exact Nat.le_trans (Nat.mul_le_mul (show C 0 2 + 1 ≤ 8 by omega) (show q_F l + 1 ≤ 91 by omega)) (by omega)
    obtain ⟨f', M', q1, q2, q3, q4, q5⟩ := m_dfs h ok hn l 0 (by omega) (C 0 2) 0 (by omega) z_fuel (z2 (z2 (z2 (z2 (z2 J 0 28 (nI 0)) 0 29 (nI 0)) 9 0 q_no) 10 0 (nI 0)) 11 0 (nI (C 0 6))) (C 0 6) 0 0 [] [] (by unfold z_fuel; omega) e0 (by rw [q_zo (by omega), q_zo (by omega), q_zs]; decide) (by rw [q_zo (by omega), q_zs]; rfl) (by rw [q_zs]) hM6 rfl (fun i hi => by omega) (by omega) (by omega) ⟨by rw [q_zo (by omega), q_zo (by omega), q_zo (by omega), q_zo (by omega), q_zs]; rfl, by rw [q_zo (by omega), q_zo (by omega), q_zo (by omega), q_zs]; rfl, fun j hj => absurd hj (Nat.not_lt_zero _)⟩
    have hf' : 1 ≤ f' := by unfold z_fuel at q1; omega
    obtain ⟨f, rfl⟩ : ∃ f, f' = f + 1 := ⟨f' - 1, by omega⟩
    refine ⟨M', ?_, q3, ?_⟩
    · simp only [f_X11_laysMost, q_zlt, ql_0, ql_1, q_neg1, j6]
      rw [q2, g_X11_laysMost_39, if_pos (by decide)]
    · obtain ⟨u0, u1⟩ := q_U_0 C (l + 1) (C 0 6)
      have e3 : q_rwk C (q_U C true l) (q_rw C l) (C 0 6) (C 0 2) = (q_U C true (l + 1) (C 0 6), q_rw C (l + 1) (C 0 6)) := by rw [q_U_r]; rfl
      rw [e3] at q5
      have e4 : q_mS 0 0 [] [] (q_U C true (l + 1) (C 0 6), q_rw C (l + 1) (C 0 6)) = (q_U C true (l + 1) (C 0 6), q_rw C (l + 1) (C 0 6)) := by
        unfold q_mS
        by_cases y : q_U C true (l + 1) (C 0 6) = 0
        · rw [if_neg (by show ¬ (0 : Int) < 0 + q_U C true (l + 1) (C 0 6); omega), u1 y, y]
        · rw [if_pos (by show (0 : Int) < 0 + q_U C true (l + 1) (C 0 6); omega)]
          show (0 + q_U C true (l + 1) (C 0 6), [] ++ q_rw C (l + 1) (C 0 6)) = _
          rw [Int.zero_add, List.nil_append]
      rw [e4] at q5
      exact q5
theorem r_most : s_most q_R := by
  intro I L J K p0 hR
  obtain ⟨C, T, mk, h⟩ := id hR
  obtain ⟨hx, hm, ok, -⟩ := h.o
  obtain ⟨o0, o1, o2, o3, -⟩ := id ok
  have hfr := q_from (p := p0) (a := 0) (b := 3) (by decide) (by decide)
  cases hb : f_X10_isWithin p0 (nI 0) (nI 3) with
  | false =>
    rw [hb] at hfr
    exact q_end (-1) 1 (by simp only [f_X10_most, ql_0, ql_3, hb]; rfl) (by simp only [f_X11_most, qL_0, qL_3, hfr]; rfl) hR
  | true =>
    rw [hb] at hfr
    obtain ⟨n, -, hn, rfl⟩ := q_wi_t hb (by decide) (by decide)
    obtain ⟨I', ⟨f1, r1⟩, e1⟩ := x2_alone hx ok (n := n) (by omega)
    obtain ⟨M, e2, f2, b1, -⟩ := m_laysMost hm ok hn
    have hx' := hx.go (I' := I') (L' := L) (fun d j a1 b1 => f1 d j (by omega) (by omega)) (fun _ _ _ _ => rfl)
    have g1 := hx'.f.2.2.2.2.2.2
    have hM6 := ok.2.2.2.2.2.2.1
    have hM7 := q_okM ok
    have g2 := r1.2 n (C 0 0 6) (by omega) hM6 (q_rc_0 _ _)
    have hR' : q_R I' L M K := (h.fr (fun d k y => f1 d k (by unfold q_rI at y; omega) (by unfold q_rI at y; omega)) (fun _ _ _ => rfl) (fun d k y => f2 d k (by unfold q_rJ at y; omega) (by unfold q_rJ at y; omega) (by unfold q_rJ at y; omega) (by unfold q_rJ at y; omega) (by unfold q_rJ at y; omega)) (fun _ _ _ => rfl)).r
    refine q_end (q_zi (q_U (C 0) true n (C 0 0 6))) 0 (I := I') (J := M) ?_ ?_ hR'
    · simp (disch := omega) only [f_X10_most, ql_0, ql_1, ql_2, ql_3, ql_4, ql_5, ql_6, ql_7, ql_8, ql_9, ql_10, ql_11, ql_12, ql_13, ql_14, ql_15, ql_16, ql_17, ql_18, ql_19, ql_20, ql_21, ql_22, ql_23, ql_24, ql_27, ql_30, ql_31, ql_32, ql_40, ql_48, ql_51, ql_52, ql_57, ql_59, ql_60, ql_61, ql_62, ql_76, ql_84, ql_91, ql_97, ql_99, ql_100, ql_120, ql_122, ql_127, ql_128, ql_200, ql_255, ql_256, ql_300, ql_420, ql_428, ql_640, ql_900, ql_896, ql_999, ql_1712, ql_1716, ql_1734, ql_1772, ql_1800, ql_1805, ql_1811, ql_1822, ql_2132, ql_2140, ql_3229, ql_9999, ql_11453, ql_65536, ql_100000, ql_1000000, nI_add, pk_mul, q_and, q_or, q_xor, nI_clamp, q_in, q_neg1, q_nno, q_nno', q_annN, q_sh1, q_tbN, nI_leI, nI_ltI, nI_eq, pk_sub, ↓reduceIte, if_pos, if_neg, q_zlt, q_bs, hb, e1, f_X2_bestBy, f_X2_indexOf, g1, g2, f_X10_give]
    · simp (disch := omega) only [f_X11_most, qL_0, qL_3, hfr, ql_0, ql_1, ql_2, ql_3, ql_4, ql_5, ql_6, ql_7, ql_8, ql_9, ql_10, ql_11, ql_12, ql_13, ql_14, ql_15, ql_16, ql_17, ql_18, ql_19, ql_20, ql_21, ql_22, ql_23, ql_24, ql_27, ql_30, ql_31, ql_32, ql_40, ql_48, ql_51, ql_52, ql_57, ql_59, ql_60, ql_61, ql_62, ql_76, ql_84, ql_91, ql_97, ql_99, ql_100, ql_120, ql_122, ql_127, ql_128, ql_200, ql_255, ql_256, ql_300, ql_420, ql_428, ql_640, ql_900, ql_896, ql_999, ql_1712, ql_1716, ql_1734, ql_1772, ql_1800, ql_1805, ql_1811, ql_1822, ql_2132, ql_2140, ql_3229, ql_9999, ql_11453, ql_65536, ql_100000, ql_1000000, nI_add, pk_mul, q_and, q_or, q_xor, nI_clamp, q_in, q_neg1, q_nno, q_nno', q_annN, q_sh1, q_tbN, nI_leI, nI_ltI, nI_eq, pk_sub, ↓reduceIte, if_pos, if_neg, q_zlt, q_bs, e2, b1, f_X11_gives]
theorem r_first : s_first q_R := by
  intro I L J K p0 p1 hR
  obtain ⟨C, T, mk, h⟩ := id hR
  obtain ⟨hx, hm, ok, -⟩ := h.o
  obtain ⟨o0, o1, o2, o3, -⟩ := id ok
  have hfr := q_from (p := p0) (a := 0) (b := 3) (by decide) (by decide)
  cases hb : f_X10_isWithin p0 (nI 0) (nI 3) with
  | false =>
    rw [hb] at hfr
    exact q_end (-1) 1 (by simp only [f_X10_first, ql_0, ql_3, hb]; rfl) (by simp only [f_X11_first, qL_0, qL_3, hfr]; rfl) hR
  | true =>
    rw [hb] at hfr
    obtain ⟨n, -, hn, rfl⟩ := q_wi_t hb (by decide) (by decide)
    rcases q_sgn p1 with hng | ⟨k, hk, rfl⟩
    · have hng' : ¬ nI 0 ≤ p1 := Int32.not_le.2 hng
      refine q_end (-1) 1 (I := I) (J := J) ?_ ?_ hR
      · simp (disch := omega) only [f_X10_first, ql_0, ql_1, ql_2, ql_3, ql_4, ql_5, ql_6, ql_7, ql_8, ql_9, ql_10, ql_11, ql_12, ql_13, ql_14, ql_15, ql_16, ql_17, ql_18, ql_19, ql_20, ql_21, ql_22, ql_23, ql_24, ql_27, ql_30, ql_31, ql_32, ql_40, ql_48, ql_51, ql_52, ql_57, ql_59, ql_60, ql_61, ql_62, ql_76, ql_84, ql_91, ql_97, ql_99, ql_100, ql_120, ql_122, ql_127, ql_128, ql_200, ql_255, ql_256, ql_300, ql_420, ql_428, ql_640, ql_900, ql_896, ql_999, ql_1712, ql_1716, ql_1734, ql_1772, ql_1800, ql_1805, ql_1811, ql_1822, ql_2132, ql_2140, ql_3229, ql_9999, ql_11453, ql_65536, ql_100000, ql_1000000, nI_add, pk_mul, q_and, q_or, q_xor, nI_clamp, q_in, q_neg1, q_nno, q_nno', q_annN, q_sh1, q_tbN, nI_leI, nI_ltI, nI_eq, pk_sub, ↓reduceIte, if_pos, if_neg, q_zlt, q_bs, hb, hng', f_X10_refuse]
      · simp (disch := omega) only [f_X11_first, qL_0, qL_3, hfr, ql_0, ql_1, ql_2, ql_3, ql_4, ql_5, ql_6, ql_7, ql_8, ql_9, ql_10, ql_11, ql_12, ql_13, ql_14, ql_15, ql_16, ql_17, ql_18, ql_19, ql_20, ql_21, ql_22, ql_23, ql_24, ql_27, ql_30, ql_31, ql_32, ql_40, ql_48, ql_51, ql_52, ql_57, ql_59, ql_60, ql_61, ql_62, ql_76, ql_84, ql_91, ql_97, ql_99, ql_100, ql_120, ql_122, ql_127, ql_128, ql_200, ql_255, ql_256, ql_300, ql_420, ql_428, ql_640, ql_900, ql_896, ql_999, ql_1712, ql_1716, ql_1734, ql_1772, ql_1800, ql_1805, ql_1811, ql_1822, ql_2132, ql_2140, ql_3229, ql_9999, ql_11453, ql_65536, ql_100000, ql_1000000, nI_add, pk_mul, q_and, q_or, q_xor, nI_clamp, q_in, q_neg1, q_nno, q_nno', q_annN, q_sh1, q_tbN, nI_leI, nI_ltI, nI_eq, pk_sub, ↓reduceIte, if_pos, if_neg, q_zlt, q_bs, hng', f_X11_refuse]
    · obtain ⟨I', ⟨f1, r1⟩, e1⟩ := x2_alone hx ok (n := n) (by omega)
      obtain ⟨M, e2, f2, b1, b2, b3⟩ := m_laysMost hm ok hn
      have hx' := hx.go (I' := I') (L' := L) (fun d j a1 b1 => f1 d j (by omega) (by omega)) (fun _ _ _ _ => rfl)
      have g1 := hx'.f.2.2.2.2.2.2
      have hM6 := ok.2.2.2.2.2.2.1
      have hM7 := q_okM ok
      have g3 := x2_row hx' ok hn hk r1 n 0 (C 0 0 6) z_fuel (by omega) (q_fu (by omega)) (Nat.zero_le _) hM6 (q_rc_0 _ _)
      have hlen := q_rw_len (C 0) n (C 0 0 6)
      have hlt := q_rw_lt (C 0) n (C 0 0 6)
      have hR' : q_R I' L M K := (h.fr (fun d k y => f1 d k (by unfold q_rI at y; omega) (by unfold q_rI at y; omega)) (fun _ _ _ => rfl) (fun d k y => f2 d k (by unfold q_rJ at y; omega) (by unfold q_rJ at y; omega) (by unfold q_rJ at y; omega) (by unfold q_rJ at y; omega) (by unfold q_rJ at y; omega)) (fun _ _ _ => rfl)).r
      generalize q_rw (C 0) n (C 0 0 6) = r at b2 b3 g3 hlen hlt
      simp only at b2 b3
      have e3 : f_X2_rowAt I' (nI n) (nI k) = some (q_eO (r[k]?)) := by unfold f_X2_rowAt; rw [g1]; exact g3
      by_cases y : k < r.length
      · have b3 := b3 k y
        have e4 : r[k]? = some (r.getD k 0) := by rw [List.getD_eq_getElem?_getD, List.getElem?_eq_getElem y]; rfl
        rw [e4] at e3
        have hv := hlt k y
        generalize r.getD k 0 = v at b3 e3 hv
        refine q_end (nI v) 0 (I := I') (J := M) ?_ ?_ hR'
        · simp (disch := omega) only [f_X10_first, ql_0, ql_1, ql_2, ql_3, ql_4, ql_5, ql_6, ql_7, ql_8, ql_9, ql_10, ql_11, ql_12, ql_13, ql_14, ql_15, ql_16, ql_17, ql_18, ql_19, ql_20, ql_21, ql_22, ql_23, ql_24, ql_27, ql_30, ql_31, ql_32, ql_40, ql_48, ql_51, ql_52, ql_57, ql_59, ql_60, ql_61, ql_62, ql_76, ql_84, ql_91, ql_97, ql_99, ql_100, ql_120, ql_122, ql_127, ql_128, ql_200, ql_255, ql_256, ql_300, ql_420, ql_428, ql_640, ql_900, ql_896, ql_999, ql_1712, ql_1716, ql_1734, ql_1772, ql_1800, ql_1805, ql_1811, ql_1822, ql_2132, ql_2140, ql_3229, ql_9999, ql_11453, ql_65536, ql_100000, ql_1000000, nI_add, pk_mul, q_and, q_or, q_xor, nI_clamp, q_in, q_neg1, q_nno, q_nno', q_annN, q_sh1, q_tbN, nI_leI, nI_ltI, nI_eq, pk_sub, ↓reduceIte, if_pos, if_neg, q_zlt, q_bs, hb, e1, e3, q_eO, f_X10_giveIfAny, f_X10_give]
        · simp (disch := omega) only [f_X11_first, qL_0, qL_3, hfr, ql_0, ql_1, ql_2, ql_3, ql_4, ql_5, ql_6, ql_7, ql_8, ql_9, ql_10, ql_11, ql_12, ql_13, ql_14, ql_15, ql_16, ql_17, ql_18, ql_19, ql_20, ql_21, ql_22, ql_23, ql_24, ql_27, ql_30, ql_31, ql_32, ql_40, ql_48, ql_51, ql_52, ql_57, ql_59, ql_60, ql_61, ql_62, ql_76, ql_84, ql_91, ql_97, ql_99, ql_100, ql_120, ql_122, ql_127, ql_128, ql_200, ql_255, ql_256, ql_300, ql_420, ql_428, ql_640, ql_900, ql_896, ql_999, ql_1712, ql_1716, ql_1734, ql_1772, ql_1800, ql_1805, ql_1811, ql_1822, ql_2132, ql_2140, ql_3229, ql_9999, ql_11453, ql_65536, ql_100000, ql_1000000, nI_add, pk_mul, q_and, q_or, q_xor, nI_clamp, q_in, q_neg1, q_nno, q_nno', q_annN, q_sh1, q_tbN, nI_leI, nI_ltI, nI_eq, pk_sub, ↓reduceIte, if_pos, if_neg, q_zlt, q_bs, e2, b2, b3, f_X11_gives]
      · have e4 : r[k]? = none := List.getElem?_eq_none (by omega)
        rw [e4] at e3
        refine q_end (-1) 6 (I := I') (J := M) ?_ ?_ hR'
        · simp (disch := omega) only [f_X10_first, ql_0, ql_1, ql_2, ql_3, ql_4, ql_5, ql_6, ql_7, ql_8, ql_9, ql_10, ql_11, ql_12, ql_13, ql_14, ql_15, ql_16, ql_17, ql_18, ql_19, ql_20, ql_21, ql_22, ql_23, ql_24, ql_27, ql_30, ql_31, ql_32, ql_40, ql_48, ql_51, ql_52, ql_57, ql_59, ql_60, ql_61, ql_62, ql_76, ql_84, ql_91, ql_97, ql_99, ql_100, ql_120, ql_122, ql_127, ql_128, ql_200, ql_255, ql_256, ql_300, ql_420, ql_428, ql_640, ql_900, ql_896, ql_999, ql_1712, ql_1716, ql_1734, ql_1772, ql_1800, ql_1805, ql_1811, ql_1822, ql_2132, ql_2140, ql_3229, ql_9999, ql_11453, ql_65536, ql_100000, ql_1000000, nI_add, pk_mul, q_and, q_or, q_xor, nI_clamp, q_in, q_neg1, q_nno, q_nno', q_annN, q_sh1, q_tbN, nI_leI, nI_ltI, nI_eq, pk_sub, ↓reduceIte, if_pos, if_neg, q_zlt, q_bs, hb, e1, e3, q_eO, f_X10_giveIfAny, f_X10_refuse]
        · simp (disch := omega) only [f_X11_first, qL_0, qL_3, hfr, ql_0, ql_1, ql_2, ql_3, ql_4, ql_5, ql_6, ql_7, ql_8, ql_9, ql_10, ql_11, ql_12, ql_13, ql_14, ql_15, ql_16, ql_17, ql_18, ql_19, ql_20, ql_21, ql_22, ql_23, ql_24, ql_27, ql_30, ql_31, ql_32, ql_40, ql_48, ql_51, ql_52, ql_57, ql_59, ql_60, ql_61, ql_62, ql_76, ql_84, ql_91, ql_97, ql_99, ql_100, ql_120, ql_122, ql_127, ql_128, ql_200, ql_255, ql_256, ql_300, ql_420, ql_428, ql_640, ql_900, ql_896, ql_999, ql_1712, ql_1716, ql_1734, ql_1772, ql_1800, ql_1805, ql_1811, ql_1822, ql_2132, ql_2140, ql_3229, ql_9999, ql_11453, ql_65536, ql_100000, ql_1000000, nI_add, pk_mul, q_and, q_or, q_xor, nI_clamp, q_in, q_neg1, q_nno, q_nno', q_annN, q_sh1, q_tbN, nI_leI, nI_ltI, nI_eq, pk_sub, ↓reduceIte, if_pos, if_neg, q_zlt, q_bs, e2, b2, f_X11_refuse]
