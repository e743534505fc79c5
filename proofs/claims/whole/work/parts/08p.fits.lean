/-! what fits -/
theorem q_l1 {c : Nat} (h : c ≤ 100) (x : Int64) : (lN c - (1 : Int64) < x) ↔ lN c ≤ x := by
  have t1 : (1 : Int64).toInt = 1 := by decide
  have t : (lN c - (1 : Int64)).toInt = (c : Int) - 1 := by
    rw [Int64.toInt_sub, lN_toInt (by omega), t1]
    apply Int.bmod_eq_of_le <;> omega
  rw [Int64.lt_iff_toInt_lt, Int64.le_iff_toInt_le, t, lN_toInt (by omega)]
  omega
/-- two numbers that tell of a claim -/
def q_gk (c : Nat) (x y : Int64) : Prop := ¬ x < 0 ∧ ¬ lN c ≤ x ∧ ¬ y < 0 ∧ y ≤ 1
theorem q_gk_x {c : Nat} {x y : Int64} (hc : c ≤ 100) (h : q_gk c x y) : ∃ j, j < c ∧ x = lN j := by
  obtain ⟨j, hj, rfl⟩ := pk_lOf h.1
  refine ⟨j, ?_, rfl⟩
  have := h.2.1
  rw [pk_lLE (by omega) hj] at this
  omega
noncomputable def q_xj (c : Nat) (x : Int64) : Nat := if h : ∃ j, j < c ∧ x = lN j then Classical.choose h else 0
theorem q_xj_s {c : Nat} {x y : Int64} (hc : c ≤ 100) (h : q_gk c x y) : q_xj c x < c ∧ x = lN (q_xj c x) := by
  unfold q_xj
  have h2 := q_gk_x hc h
  rw [dif_pos h2]
  exact Classical.choose_spec h2
noncomputable def q_ft (C : q_N) (X Y : Nat → Int64) : Nat → Nat := q_it (fun k s => if Y k = 1 then s &&& C 6 (q_xj (C 0 2) (X k)) else s ^^^ (s &&& C 6 (q_xj (C 0 2) (X k)))) (2 ^ C 0 1 - 1)
theorem q_ft_lt (C : q_N) (X Y : Nat → Int64) (n : Nat) : q_ft C X Y n < 2 ^ C 0 1 := by
  refine q_it_inv (fun _ s => s < 2 ^ C 0 1) (by have := Nat.two_pow_pos (C 0 1); omega) (fun k b _ hb => ?_)
  show (if Y k = 1 then b &&& C 6 (q_xj (C 0 2) (X k)) else b ^^^ (b &&& C 6 (q_xj (C 0 2) (X k)))) < 2 ^ C 0 1
  split
  · exact q_and_lt hb
  · exact q_xa_lt hb
theorem q_fit {C T : Nat → q_N} {mk : Nat} {I : z_I} {L : z_L} {J : z_I} {K : z_L} (h : q_Q C T mk I L J K) (p0 p1 : Int32) : (∃ w, 1 ≤ w ∧ w ≤ 5 ∧ f_X10_hindranceToFit I L p0 p1 = some (nI w) ∧ f_X11_wrongTold J K p0 p1 = some (nI w)) ∨ (∃ i s, i < 4 ∧ s < 2 ^ C 0 0 1 ∧ p0 = nI i ∧ f_X10_hindranceToFit I L p0 p1 = some (nI 0) ∧ f_X11_wrongTold J K p0 p1 = some (nI 0) ∧ f_X10_fitting I L (55 + 2 * i) p1 = some (nI s) ∧ f_X11_fitting J K p0 p1 = some (nI s)) := by
  obtain ⟨hx, hm, ok, -⟩ := h.o
  obtain ⟨o0, o1, o2, o3, -⟩ := id ok
  have hT := h.2.2.2.2.1
  cases hb : q_hs 4 p0 with
  | false =>
    left
    exact ⟨1, by omega, by omega, by unfold f_X10_hindranceToFit; rw [q_trX, hb]; rfl, by unfold f_X11_wrongTold; rw [q_trM, hb]; rfl⟩
  | true =>
    obtain ⟨i, hi, rfl⟩ := q_hs_t hb (by decide)
    cases hw : f_X10_isWithin p1 (nI 0) (nI 20) with
    | false =>
      left
      refine ⟨1, by omega, by omega, ?_, ?_⟩
      · simp only [f_X10_hindranceToFit, q_trX, hb, ql_0, ql_20, hw, ↓reduceIte, Bool.false_eq_true, ql_1]
      · simp (disch := omega) only [f_X11_wrongTold, q_trM, hb, qL_0, qL_20, q_from, hw, ↓reduceIte, Bool.false_eq_true, ql_1]
    | true =>
      obtain ⟨n, -, hn, rfl⟩ := q_wi_t hw (by decide) (by decide)
      rcases hT i hi with ⟨a1, a2⟩ | ⟨a1, m, s, hm', hs, a2, a3, a4, a5, a6⟩
      · left
        refine ⟨2, by omega, by omega, ?_, ?_⟩
        · simp (disch := omega) only [f_X10_hindranceToFit, q_trX, hb, ql_0, ql_20, hw, q_in, nI_clamp, q_gd, ↓reduceIte]
          rw [a1]
          rfl
        · simp (disch := omega) only [f_X11_wrongTold, q_trM, hb, qL_0, qL_20, q_from, hw, q_in, nI_clamp, a2, ↓reduceIte]
          rfl
      · have e1 : f_X10_hindranceToFit I L (nI i) (nI n) = if 2 * n ≤ m then g_X10_hindranceToFit_51 (55 + 2 * i) (nI n) I L z_fuel (nI 0) else some (nI 3) := by
          have z1 : I (55 + 2 * i) 1 = nI 1 := a1
          have z2 : zn (nI 1) = true := q_znT
          simp (disch := omega) only [f_X10_hindranceToFit, q_trX, hb, ql_0, ql_20, ql_2, ql_3, hw, q_in, nI_clamp, q_gd, z1, z2, pk_mul, q_spans hm' a2, Nat.zero_add, ↓reduceIte, decide_eq_true_eq]
        have e2 : f_X11_wrongTold J K (nI i) (nI n) = if 2 * n ≤ m then g_X11_wrongTold_49 (nI i) (nI n) J K z_fuel (nI 0) else some (nI 3) := by
          simp (disch := omega) only [f_X11_wrongTold, q_trM, hb, qL_0, qL_20, q_from, hw, a3, ql_0, ql_1, ql_2, ql_3, ql_4, ql_5, ql_6, ql_7, ql_8, ql_9, ql_10, ql_11, ql_12, ql_13, ql_14, ql_15, ql_16, ql_17, ql_18, ql_19, ql_20, ql_21, ql_22, ql_23, ql_24, ql_27, ql_30, ql_31, ql_32, ql_40, ql_48, ql_51, ql_52, ql_57, ql_59, ql_60, ql_61, ql_62, ql_76, ql_84, ql_91, ql_97, ql_99, ql_100, ql_120, ql_122, ql_127, ql_128, ql_200, ql_255, ql_256, ql_300, ql_420, ql_428, ql_640, ql_900, ql_896, ql_999, ql_1712, ql_1716, ql_1734, ql_1772, ql_1800, ql_1805, ql_1811, ql_1822, ql_2132, ql_2140, ql_3229, ql_9999, ql_11453, ql_65536, ql_100000, ql_1000000, nI_add, pk_mul, q_and, q_or, q_xor, nI_clamp, q_in, q_neg1, q_nno, q_nno', q_annN, q_sh1, q_tbN, nI_leI, nI_ltI, nI_eq, pk_sub, ↓reduceIte, if_pos, if_neg, q_zlt, q_bs]
        by_cases hl : 2 * n ≤ m
        · rw [if_pos hl] at e1 e2
          have hX : ∀ k, k < n → L (56 + 2 * i) (2 * k) = K 5 (60 * i + 2 * k) ∧ L (56 + 2 * i) (2 * k + 1) = K 5 (60 * i + 2 * k + 1) := fun k hk => ⟨a6 (2 * k) (by omega), by rw [Nat.add_assoc]; exact a6 (2 * k + 1) (by omega)⟩
          have k1 := q_allK (G := fun f k => g_X10_hindranceToFit_51 (55 + 2 * i) (nI n) I L f (nI k)) (N := n) (r0 := some (nI 5)) (r1 := some (nI 0)) (p := fun k => q_gk (C 0 0 2) (K 5 (60 * i + 2 * k)) (K 5 (60 * i + 2 * k + 1))) (fun f k hk => by
            obtain ⟨x1, x2⟩ := hX k hk
            have e0 : 55 + 2 * i + 1 = 56 + 2 * i := by omega
            have i1 : (I 3 12).toInt64 = lN (C 0 0 2) := by rw [hx.f.2.2.1, nI_l (by omega)]
            have e : g_X10_hindranceToFit_51 (55 + 2 * i) (nI n) I L (f + 1) (nI k) = if K 5 (60 * i + 2 * k) < 0 then some (nI 5) else if lN (C 0 0 2) ≤ K 5 (60 * i + 2 * k) then some (nI 5) else if K 5 (60 * i + 2 * k + 1) < 0 then some (nI 5) else if K 5 (60 * i + 2 * k + 1) ≤ 1 then g_X10_hindranceToFit_51 (55 + 2 * i) (nI n) I L f (nI (k + 1)) else some (nI 5) := by
              simp (disch := omega) only [g_X10_hindranceToFit_51, i1, e0, ql_0, ql_1, ql_2, ql_3, ql_4, ql_5, ql_6, ql_7, ql_8, ql_9, ql_10, ql_11, ql_12, ql_13, ql_14, ql_15, ql_16, ql_17, ql_18, ql_19, ql_20, ql_21, ql_22, ql_23, ql_24, ql_27, ql_30, ql_31, ql_32, ql_40, ql_48, ql_51, ql_52, ql_57, ql_59, ql_60, ql_61, ql_62, ql_76, ql_84, ql_91, ql_97, ql_99, ql_100, ql_120, ql_122, ql_127, ql_128, ql_200, ql_255, ql_256, ql_300, ql_420, ql_428, ql_640, ql_900, ql_896, ql_999, ql_1712, ql_1716, ql_1734, ql_1772, ql_1800, ql_1805, ql_1811, ql_1822, ql_2132, ql_2140, ql_3229, ql_9999, ql_11453, ql_65536, ql_100000, ql_1000000, nI_add, pk_mul, q_and, q_or, q_xor, nI_clamp, q_in, q_neg1, q_nno, q_nno', q_annN, q_sh1, q_tbN, nI_leI, nI_ltI, nI_eq, pk_sub, ↓reduceIte, if_pos, if_neg, q_zlt, q_bs, x1, x2]
            unfold q_gk
            rw [e]
            by_cases c1 : K 5 (60 * i + 2 * k) < 0
            · rw [if_pos c1]; exact Or.inr ⟨fun z => z.1 c1, rfl⟩
            · rw [if_neg c1]
              by_cases c2 : lN (C 0 0 2) ≤ K 5 (60 * i + 2 * k)
              · rw [if_pos c2]; exact Or.inr ⟨fun z => z.2.1 c2, rfl⟩
              · rw [if_neg c2]
                by_cases c3 : K 5 (60 * i + 2 * k + 1) < 0
                · rw [if_pos c3]; exact Or.inr ⟨fun z => z.2.2.1 c3, rfl⟩
                · rw [if_neg c3]
                  by_cases c4 : K 5 (60 * i + 2 * k + 1) ≤ 1
                  · rw [if_pos c4]; exact Or.inl ⟨⟨c1, c2, c3, c4⟩, rfl⟩
                  · rw [if_neg c4]; exact Or.inr ⟨fun z => c4 z.2.2.2, rfl⟩) (fun f => by simp (disch := omega) only [g_X10_hindranceToFit_51, ql_0, ql_1, ql_2, ql_3, ql_4, ql_5, ql_6, ql_7, ql_8, ql_9, ql_10, ql_11, ql_12, ql_13, ql_14, ql_15, ql_16, ql_17, ql_18, ql_19, ql_20, ql_21, ql_22, ql_23, ql_24, ql_27, ql_30, ql_31, ql_32, ql_40, ql_48, ql_51, ql_52, ql_57, ql_59, ql_60, ql_61, ql_62, ql_76, ql_84, ql_91, ql_97, ql_99, ql_100, ql_120, ql_122, ql_127, ql_128, ql_200, ql_255, ql_256, ql_300, ql_420, ql_428, ql_640, ql_900, ql_896, ql_999, ql_1712, ql_1716, ql_1734, ql_1772, ql_1800, ql_1805, ql_1811, ql_1822, ql_2132, ql_2140, ql_3229, ql_9999, ql_11453, ql_65536, ql_100000, ql_1000000, nI_add, pk_mul, q_and, q_or, q_xor, nI_clamp, q_in, q_neg1, q_nno, q_nno', q_annN, q_sh1, q_tbN, nI_leI, nI_ltI, nI_eq, pk_sub, ↓reduceIte, if_pos, if_neg, q_zlt, q_bs]) z_fuel 0 (Nat.zero_le _) (q_fu (by omega))
          have k2 := q_allK (G := fun f k => g_X11_wrongTold_49 (nI i) (nI n) J K f (nI k)) (N := n) (r0 := some (nI 5)) (r1 := some (nI 0)) (p := fun k => q_gk (C 0 0 2) (K 5 (60 * i + 2 * k)) (K 5 (60 * i + 2 * k + 1))) (fun f k hk => by
            have i1 : (J 1 2).toInt64 = lN (C 0 0 2) := by rw [hm.f.2.2.1, nI_l (by omega)]
            have f1 : ∀ x, f_X11_isFrom x 0 (lN (C 0 0 2) - 1) = if x < 0 then false else if lN (C 0 0 2) ≤ x then false else true := fun x => by
              unfold f_X11_isFrom
              simp only [q_l1 (show C 0 0 2 ≤ 100 by omega)]
            have f2 : ∀ x, f_X11_isFrom x 0 1 = if x < 0 then false else if x ≤ 1 then true else false := fun x => by
              unfold f_X11_isFrom
              by_cases c1 : x < 0
              · rw [if_pos c1, if_pos c1]
              · rw [if_neg c1, if_neg c1]
                by_cases c2 : x ≤ 1
                · rw [if_pos c2, if_neg]
                  rw [Int64.lt_iff_toInt_lt]
                  rw [Int64.le_iff_toInt_le] at c2
                  omega
                · rw [if_neg c2, if_pos]
                  rw [Int64.lt_iff_toInt_lt]
                  rw [Int64.le_iff_toInt_le] at c2
                  omega
            have e : g_X11_wrongTold_49 (nI i) (nI n) J K (f + 1) (nI k) = if (if K 5 (60 * i + 2 * k) < 0 then false else if lN (C 0 0 2) ≤ K 5 (60 * i + 2 * k) then false else true) = true then if (if K 5 (60 * i + 2 * k + 1) < 0 then false else if K 5 (60 * i + 2 * k + 1) ≤ 1 then true else false) = true then g_X11_wrongTold_49 (nI i) (nI n) J K f (nI (k + 1)) else some (nI 5) else some (nI 5) := by
              simp (disch := omega) only [g_X11_wrongTold_49, i1, f1, f2, ql_0, ql_1, ql_2, ql_3, ql_4, ql_5, ql_6, ql_7, ql_8, ql_9, ql_10, ql_11, ql_12, ql_13, ql_14, ql_15, ql_16, ql_17, ql_18, ql_19, ql_20, ql_21, ql_22, ql_23, ql_24, ql_27, ql_30, ql_31, ql_32, ql_40, ql_48, ql_51, ql_52, ql_57, ql_59, ql_60, ql_61, ql_62, ql_76, ql_84, ql_91, ql_97, ql_99, ql_100, ql_120, ql_122, ql_127, ql_128, ql_200, ql_255, ql_256, ql_300, ql_420, ql_428, ql_640, ql_900, ql_896, ql_999, ql_1712, ql_1716, ql_1734, ql_1772, ql_1800, ql_1805, ql_1811, ql_1822, ql_2132, ql_2140, ql_3229, ql_9999, ql_11453, ql_65536, ql_100000, ql_1000000, nI_add, pk_mul, q_and, q_or, q_xor, nI_clamp, q_in, q_neg1, q_nno, q_nno', q_annN, q_sh1, q_tbN, nI_leI, nI_ltI, nI_eq, pk_sub, ↓reduceIte, if_pos, if_neg, q_zlt, q_bs]
            unfold q_gk
            rw [e]
            by_cases c1 : K 5 (60 * i + 2 * k) < 0
            · rw [if_pos c1, if_neg Bool.false_ne_true]; exact Or.inr ⟨fun z => z.1 c1, rfl⟩
            · rw [if_neg c1]
              by_cases c2 : lN (C 0 0 2) ≤ K 5 (60 * i + 2 * k)
              · rw [if_pos c2, if_neg Bool.false_ne_true]; exact Or.inr ⟨fun z => z.2.1 c2, rfl⟩
              · rw [if_neg c2, if_pos rfl]
                by_cases c3 : K 5 (60 * i + 2 * k + 1) < 0
                · rw [if_pos c3, if_neg Bool.false_ne_true]; exact Or.inr ⟨fun z => z.2.2.1 c3, rfl⟩
                · rw [if_neg c3]
                  by_cases c4 : K 5 (60 * i + 2 * k + 1) ≤ 1
                  · rw [if_pos c4, if_pos rfl]; exact Or.inl ⟨⟨c1, c2, c3, c4⟩, rfl⟩
                  · rw [if_neg c4, if_neg Bool.false_ne_true]; exact Or.inr ⟨fun z => c4 z.2.2.2, rfl⟩) (fun f => by simp (disch := omega) only [g_X11_wrongTold_49, ql_0, ql_1, ql_2, ql_3, ql_4, ql_5, ql_6, ql_7, ql_8, ql_9, ql_10, ql_11, ql_12, ql_13, ql_14, ql_15, ql_16, ql_17, ql_18, ql_19, ql_20, ql_21, ql_22, ql_23, ql_24, ql_27, ql_30, ql_31, ql_32, ql_40, ql_48, ql_51, ql_52, ql_57, ql_59, ql_60, ql_61, ql_62, ql_76, ql_84, ql_91, ql_97, ql_99, ql_100, ql_120, ql_122, ql_127, ql_128, ql_200, ql_255, ql_256, ql_300, ql_420, ql_428, ql_640, ql_900, ql_896, ql_999, ql_1712, ql_1716, ql_1734, ql_1772, ql_1800, ql_1805, ql_1811, ql_1822, ql_2132, ql_2140, ql_3229, ql_9999, ql_11453, ql_65536, ql_100000, ql_1000000, nI_add, pk_mul, q_and, q_or, q_xor, nI_clamp, q_in, q_neg1, q_nno, q_nno', q_annN, q_sh1, q_tbN, nI_leI, nI_ltI, nI_eq, pk_sub, ↓reduceIte, if_pos, if_neg, q_zlt, q_bs]) z_fuel 0 (Nat.zero_le _) (q_fu (by omega))
          rcases k1 with ⟨g1, g2⟩ | ⟨g1, g2⟩
          · rcases k2 with ⟨g3, g4⟩ | ⟨g3, g4⟩
            · right
              refine ⟨i, q_ft (C 0) (fun k => K 5 (60 * i + 2 * k)) (fun k => K 5 (60 * i + 2 * k + 1)) n, hi, q_ft_lt _ _ _ _, rfl, by rw [e1]; exact g2, by rw [e2]; exact g4, ?_, ?_⟩
              · unfold f_X10_fitting
                rw [x0_setOfAll hx ok, ql_0]
                refine q_lp (G := fun f k (a : Nat) => g_X10_fitting_11 (55 + 2 * i) (nI n) I L f (nI a) (nI k)) (fun k => q_ft (C 0) (fun k => K 5 (60 * i + 2 * k)) (fun k => K 5 (60 * i + 2 * k + 1)) k) (fun f k _ hk => ?_) (fun f => ?_) (Nat.zero_le n) (q_fu (by omega))
                · obtain ⟨x1, x2⟩ := hX k hk
                  obtain ⟨y1, y2⟩ := q_xj_s (c := C 0 0 2) (by omega) (g1 k (Nat.zero_le _) hk)
                  have e0 : 55 + 2 * i + 1 = 56 + 2 * i := by omega
                  have y3 : (K 5 (60 * i + 2 * k)).toInt32 = nI (q_xj (C 0 0 2) (K 5 (60 * i + 2 * k))) := by
                    conv => lhs; rw [y2]
                    exact lN_i _
                  have a9 : I 9 (q_xj (C 0 0 2) (K 5 (60 * i + 2 * k))) = nI (C 0 6 (q_xj (C 0 0 2) (K 5 (60 * i + 2 * k)))) := hx.a6 y1
                  have e : ∀ s, q_ft (C 0) (fun k => K 5 (60 * i + 2 * k)) (fun k => K 5 (60 * i + 2 * k + 1)) (s + 1) = if K 5 (60 * i + 2 * s + 1) = 1 then q_ft (C 0) (fun k => K 5 (60 * i + 2 * k)) (fun k => K 5 (60 * i + 2 * k + 1)) s &&& C 0 6 (q_xj (C 0 0 2) (K 5 (60 * i + 2 * s))) else q_ft (C 0) (fun k => K 5 (60 * i + 2 * k)) (fun k => K 5 (60 * i + 2 * k + 1)) s ^^^ (q_ft (C 0) (fun k => K 5 (60 * i + 2 * k)) (fun k => K 5 (60 * i + 2 * k + 1)) s &&& C 0 6 (q_xj (C 0 0 2) (K 5 (60 * i + 2 * s)))) := fun s => rfl
                  by_cases c : K 5 (60 * i + 2 * k + 1) = 1
                  · simp (disch := omega) only [g_X10_fitting_11, e0, ql_0, ql_1, ql_2, ql_3, ql_4, ql_5, ql_6, ql_7, ql_8, ql_9, ql_10, ql_11, ql_12, ql_13, ql_14, ql_15, ql_16, ql_17, ql_18, ql_19, ql_20, ql_21, ql_22, ql_23, ql_24, ql_27, ql_30, ql_31, ql_32, ql_40, ql_48, ql_51, ql_52, ql_57, ql_59, ql_60, ql_61, ql_62, ql_76, ql_84, ql_91, ql_97, ql_99, ql_100, ql_120, ql_122, ql_127, ql_128, ql_200, ql_255, ql_256, ql_300, ql_420, ql_428, ql_640, ql_900, ql_896, ql_999, ql_1712, ql_1716, ql_1734, ql_1772, ql_1800, ql_1805, ql_1811, ql_1822, ql_2132, ql_2140, ql_3229, ql_9999, ql_11453, ql_65536, ql_100000, ql_1000000, nI_add, pk_mul, q_and, q_or, q_xor, nI_clamp, q_in, q_neg1, q_nno, q_nno', q_annN, q_sh1, q_tbN, nI_leI, nI_ltI, nI_eq, pk_sub, ↓reduceIte, if_pos, if_neg, q_zlt, q_bs, x1, x2, y3, a9, e, c]
                  · simp (disch := omega) only [g_X10_fitting_11, e0, ql_0, ql_1, ql_2, ql_3, ql_4, ql_5, ql_6, ql_7, ql_8, ql_9, ql_10, ql_11, ql_12, ql_13, ql_14, ql_15, ql_16, ql_17, ql_18, ql_19, ql_20, ql_21, ql_22, ql_23, ql_24, ql_27, ql_30, ql_31, ql_32, ql_40, ql_48, ql_51, ql_52, ql_57, ql_59, ql_60, ql_61, ql_62, ql_76, ql_84, ql_91, ql_97, ql_99, ql_100, ql_120, ql_122, ql_127, ql_128, ql_200, ql_255, ql_256, ql_300, ql_420, ql_428, ql_640, ql_900, ql_896, ql_999, ql_1712, ql_1716, ql_1734, ql_1772, ql_1800, ql_1805, ql_1811, ql_1822, ql_2132, ql_2140, ql_3229, ql_9999, ql_11453, ql_65536, ql_100000, ql_1000000, nI_add, pk_mul, q_and, q_or, q_xor, nI_clamp, q_in, q_neg1, q_nno, q_nno', q_annN, q_sh1, q_tbN, nI_leI, nI_ltI, nI_eq, pk_sub, ↓reduceIte, if_pos, if_neg, q_zlt, q_bs, x1, x2, y3, a9, e, c]
                · simp (disch := omega) only [g_X10_fitting_11, ql_0, ql_1, ql_2, ql_3, ql_4, ql_5, ql_6, ql_7, ql_8, ql_9, ql_10, ql_11, ql_12, ql_13, ql_14, ql_15, ql_16, ql_17, ql_18, ql_19, ql_20, ql_21, ql_22, ql_23, ql_24, ql_27, ql_30, ql_31, ql_32, ql_40, ql_48, ql_51, ql_52, ql_57, ql_59, ql_60, ql_61, ql_62, ql_76, ql_84, ql_91, ql_97, ql_99, ql_100, ql_120, ql_122, ql_127, ql_128, ql_200, ql_255, ql_256, ql_300, ql_420, ql_428, ql_640, ql_900, ql_896, ql_999, ql_1712, ql_1716, ql_1734, ql_1772, ql_1800, ql_1805, ql_1811, ql_1822, ql_2132, ql_2140, ql_3229, ql_9999, ql_11453, ql_65536, ql_100000, ql_1000000, nI_add, pk_mul, q_and, q_or, q_xor, nI_clamp, q_in, q_neg1, q_nno, q_nno', q_annN, q_sh1, q_tbN, nI_leI, nI_ltI, nI_eq, pk_sub, ↓reduceIte, if_pos, if_neg, q_zlt, q_bs]
              · unfold f_X11_fitting
                rw [m_allCases hm ok, ql_0]
                refine q_lp (G := fun f k (a : Nat) => g_X11_fitting_8 (nI i) (nI n) J K f (nI a) (nI k)) (fun k => q_ft (C 0) (fun k => K 5 (60 * i + 2 * k)) (fun k => K 5 (60 * i + 2 * k + 1)) k) (fun f k _ hk => ?_) (fun f => ?_) (Nat.zero_le n) (q_fu (by omega))
                · obtain ⟨y1, y2⟩ := q_xj_s (c := C 0 0 2) (by omega) (g1 k (Nat.zero_le _) hk)
                  have y3 : (K 5 (60 * i + 2 * k)).toInt32 = nI (q_xj (C 0 0 2) (K 5 (60 * i + 2 * k))) := by
                    conv => lhs; rw [y2]
                    exact lN_i _
                  have e : ∀ s, q_ft (C 0) (fun k => K 5 (60 * i + 2 * k)) (fun k => K 5 (60 * i + 2 * k + 1)) (s + 1) = if K 5 (60 * i + 2 * s + 1) = 1 then q_ft (C 0) (fun k => K 5 (60 * i + 2 * k)) (fun k => K 5 (60 * i + 2 * k + 1)) s &&& C 0 6 (q_xj (C 0 0 2) (K 5 (60 * i + 2 * s))) else q_ft (C 0) (fun k => K 5 (60 * i + 2 * k)) (fun k => K 5 (60 * i + 2 * k + 1)) s ^^^ (q_ft (C 0) (fun k => K 5 (60 * i + 2 * k)) (fun k => K 5 (60 * i + 2 * k + 1)) s &&& C 0 6 (q_xj (C 0 0 2) (K 5 (60 * i + 2 * s)))) := fun s => rfl
                  by_cases c : K 5 (60 * i + 2 * k + 1) = 1
                  · simp (disch := omega) only [g_X11_fitting_8, ql_0, ql_1, ql_2, ql_3, ql_4, ql_5, ql_6, ql_7, ql_8, ql_9, ql_10, ql_11, ql_12, ql_13, ql_14, ql_15, ql_16, ql_17, ql_18, ql_19, ql_20, ql_21, ql_22, ql_23, ql_24, ql_27, ql_30, ql_31, ql_32, ql_40, ql_48, ql_51, ql_52, ql_57, ql_59, ql_60, ql_61, ql_62, ql_76, ql_84, ql_91, ql_97, ql_99, ql_100, ql_120, ql_122, ql_127, ql_128, ql_200, ql_255, ql_256, ql_300, ql_420, ql_428, ql_640, ql_900, ql_896, ql_999, ql_1712, ql_1716, ql_1734, ql_1772, ql_1800, ql_1805, ql_1811, ql_1822, ql_2132, ql_2140, ql_3229, ql_9999, ql_11453, ql_65536, ql_100000, ql_1000000, nI_add, pk_mul, q_and, q_or, q_xor, nI_clamp, q_in, q_neg1, q_nno, q_nno', q_annN, q_sh1, q_tbN, nI_leI, nI_ltI, nI_eq, pk_sub, ↓reduceIte, if_pos, if_neg, q_zlt, q_bs, y3, m_truthOf hm ok y1, e, c]
                  · simp (disch := omega) only [g_X11_fitting_8, ql_0, ql_1, ql_2, ql_3, ql_4, ql_5, ql_6, ql_7, ql_8, ql_9, ql_10, ql_11, ql_12, ql_13, ql_14, ql_15, ql_16, ql_17, ql_18, ql_19, ql_20, ql_21, ql_22, ql_23, ql_24, ql_27, ql_30, ql_31, ql_32, ql_40, ql_48, ql_51, ql_52, ql_57, ql_59, ql_60, ql_61, ql_62, ql_76, ql_84, ql_91, ql_97, ql_99, ql_100, ql_120, ql_122, ql_127, ql_128, ql_200, ql_255, ql_256, ql_300, ql_420, ql_428, ql_640, ql_900, ql_896, ql_999, ql_1712, ql_1716, ql_1734, ql_1772, ql_1800, ql_1805, ql_1811, ql_1822, ql_2132, ql_2140, ql_3229, ql_9999, ql_11453, ql_65536, ql_100000, ql_1000000, nI_add, pk_mul, q_and, q_or, q_xor, nI_clamp, q_in, q_neg1, q_nno, q_nno', q_annN, q_sh1, q_tbN, nI_leI, nI_ltI, nI_eq, pk_sub, ↓reduceIte, if_pos, if_neg, q_zlt, q_bs, y3, m_truthOf hm ok y1, e, c]
                · simp (disch := omega) only [g_X11_fitting_8, ql_0, ql_1, ql_2, ql_3, ql_4, ql_5, ql_6, ql_7, ql_8, ql_9, ql_10, ql_11, ql_12, ql_13, ql_14, ql_15, ql_16, ql_17, ql_18, ql_19, ql_20, ql_21, ql_22, ql_23, ql_24, ql_27, ql_30, ql_31, ql_32, ql_40, ql_48, ql_51, ql_52, ql_57, ql_59, ql_60, ql_61, ql_62, ql_76, ql_84, ql_91, ql_97, ql_99, ql_100, ql_120, ql_122, ql_127, ql_128, ql_200, ql_255, ql_256, ql_300, ql_420, ql_428, ql_640, ql_900, ql_896, ql_999, ql_1712, ql_1716, ql_1734, ql_1772, ql_1800, ql_1805, ql_1811, ql_1822, ql_2132, ql_2140, ql_3229, ql_9999, ql_11453, ql_65536, ql_100000, ql_1000000, nI_add, pk_mul, q_and, q_or, q_xor, nI_clamp, q_in, q_neg1, q_nno, q_nno', q_annN, q_sh1, q_tbN, nI_leI, nI_ltI, nI_eq, pk_sub, ↓reduceIte, if_pos, if_neg, q_zlt, q_bs]
            · exact absurd g1 g3
          · rcases k2 with ⟨g3, g4⟩ | ⟨g3, g4⟩
            · exact absurd g3 g1
            · left
              exact ⟨5, by omega, by omega, by rw [e1]; exact g2, by rw [e2]; exact g4⟩
        · rw [if_neg hl] at e1 e2
          left
          exact ⟨3, by omega, by omega, e1, e2⟩
theorem r_fits : s_fits q_R := by
  intro I L J K p0 p1 hR
  obtain ⟨C, T, mk, h⟩ := id hR
  rcases q_fit h p0 p1 with ⟨w, w1, w5, eX, eM⟩ | ⟨i, s, hi, hs, rfl, eX, eM, fX, fM⟩
  · refine q_end (-1) (nI w) (I := I) (J := J) ?_ ?_ hR
    · simp (disch := omega) only [f_X10_fits, eX, q_bs, ql_0, nI_eq, if_neg, f_X10_refuse, q_zlt]
    · simp (disch := omega) only [f_X11_fits, eM, q_bs, ql_0, nI_leI, if_neg, f_X11_refuse, q_zlt]
  · refine q_end (nI s) 0 (I := I) (J := J) ?_ ?_ hR
    · simp (disch := omega) only [f_X10_fits, eX, ql_0, ql_1, ql_2, ql_3, ql_4, ql_5, ql_6, ql_7, ql_8, ql_9, ql_10, ql_11, ql_12, ql_13, ql_14, ql_15, ql_16, ql_17, ql_18, ql_19, ql_20, ql_21, ql_22, ql_23, ql_24, ql_27, ql_30, ql_31, ql_32, ql_40, ql_48, ql_51, ql_52, ql_57, ql_59, ql_60, ql_61, ql_62, ql_76, ql_84, ql_91, ql_97, ql_99, ql_100, ql_120, ql_122, ql_127, ql_128, ql_200, ql_255, ql_256, ql_300, ql_420, ql_428, ql_640, ql_900, ql_896, ql_999, ql_1712, ql_1716, ql_1734, ql_1772, ql_1800, ql_1805, ql_1811, ql_1822, ql_2132, ql_2140, ql_3229, ql_9999, ql_11453, ql_65536, ql_100000, ql_1000000, nI_add, pk_mul, q_and, q_or, q_xor, nI_clamp, q_in, q_neg1, q_nno, q_nno', q_annN, q_sh1, q_tbN, nI_leI, nI_ltI, nI_eq, pk_sub, ↓reduceIte, if_pos, if_neg, q_zlt, q_bs, q_gd, fX, f_X10_give]
    · simp (disch := omega) only [f_X11_fits, eM, ql_0, ql_1, ql_2, ql_3, ql_4, ql_5, ql_6, ql_7, ql_8, ql_9, ql_10, ql_11, ql_12, ql_13, ql_14, ql_15, ql_16, ql_17, ql_18, ql_19, ql_20, ql_21, ql_22, ql_23, ql_24, ql_27, ql_30, ql_31, ql_32, ql_40, ql_48, ql_51, ql_52, ql_57, ql_59, ql_60, ql_61, ql_62, ql_76, ql_84, ql_91, ql_97, ql_99, ql_100, ql_120, ql_122, ql_127, ql_128, ql_200, ql_255, ql_256, ql_300, ql_420, ql_428, ql_640, ql_900, ql_896, ql_999, ql_1712, ql_1716, ql_1734, ql_1772, ql_1800, ql_1805, ql_1811, ql_1822, ql_2132, ql_2140, ql_3229, ql_9999, ql_11453, ql_65536, ql_100000, ql_1000000, nI_add, pk_mul, q_and, q_or, q_xor, nI_clamp, q_in, q_neg1, q_nno, q_nno', q_annN, q_sh1, q_tbN, nI_leI, nI_ltI, nI_eq, pk_sub, ↓reduceIte, if_pos, if_neg, q_zlt, q_bs, fM, f_X11_gives]
/-! the likeliest -/
def q_hvF (C : q_N) (s k : Nat) (a : Option Nat) : Option Nat := if s.testBit k then (match a with
  | none => some k
  | some b => if C 3 k ≤ C 3 b then some b else some k) else a
def q_hv (C : q_N) (s n : Nat) : Option Nat := q_it (q_hvF C s) none n
def q_hw0 (C : q_N) : Option Nat → Nat
  | none => 0
  | some b => C 3 b
theorem q_hv_lt {C : q_N} {s n : Nat} : ∀ b, q_hv C s n = some b → b < n := by
  induction n with
  | zero => intro b h; cases h
  | succ n ih =>
    intro b h
    have e : q_hv C s (n + 1) = q_hvF C s n (q_hv C s n) := rfl
    rw [e] at h
    unfold q_hvF at h
    split at h
    · cases ha : q_hv C s n with
      | none =>
        rw [ha] at h
        cases h; omega
      | some d =>
        rw [ha] at h
        have := ih d ha
        have h : (if C 3 n ≤ C 3 d then some d else some n) = some b := h
        split at h
        · cases h; omega
        · cases h; omega
    · have := ih b h; omega
theorem x0_heaviest {C : q_N} {c : Nat} {I : z_I} {L : z_L} (h : q_sx C c I L) (ok : q_ok C) {s : Nat} : f_X0_heaviestOf I c (nI s) = some (q_eO (q_hv C s (C 0 1))) := by
  obtain ⟨o0, o1, o2, o3, -⟩ := id ok
  have o8 := ok.2.2.2.2.2.2.2.2.1
  unfold f_X0_heaviestOf
  refine q_lp (G := fun n k (a : Option Nat) => g_X0_heaviestOf_7 c (nI s) I n (q_eO a) (nI (q_hw0 C a)) (nI k)) (fun k => q_hv C s k) (fun n k _ hk => ?_) (fun n => ?_) (Nat.zero_le (C 0 1)) (q_fu (by omega))
  · have e : q_hv C s (k + 1) = q_hvF C s k (q_hv C s k) := rfl
    rw [e]
    have hl := q_hv_lt (C := C) (s := s) (n := k)
    have w1 := o8 k hk
    generalize q_hv C s k = a at hl ⊢
    cases hb : s.testBit k with
    | false => simp (disch := omega) only [g_X0_heaviestOf_7, q_hvF, h.f.2.1, ql_0, ql_1, ql_2, ql_3, ql_4, ql_5, ql_6, ql_7, ql_8, ql_9, ql_10, ql_11, ql_12, ql_13, ql_14, ql_15, ql_16, ql_17, ql_18, ql_19, ql_20, ql_21, ql_22, ql_23, ql_24, ql_27, ql_30, ql_31, ql_32, ql_40, ql_48, ql_51, ql_52, ql_57, ql_59, ql_60, ql_61, ql_62, ql_76, ql_84, ql_91, ql_97, ql_99, ql_100, ql_120, ql_122, ql_127, ql_128, ql_200, ql_255, ql_256, ql_300, ql_420, ql_428, ql_640, ql_900, ql_896, ql_999, ql_1712, ql_1716, ql_1734, ql_1772, ql_1800, ql_1805, ql_1811, ql_1822, ql_2132, ql_2140, ql_3229, ql_9999, ql_11453, ql_65536, ql_100000, ql_1000000, nI_add, pk_mul, q_and, q_or, q_xor, nI_clamp, q_in, q_neg1, q_nno, q_nno', q_annN, q_sh1, q_tbN, nI_leI, nI_ltI, nI_eq, pk_sub, ↓reduceIte, if_pos, if_neg, q_zlt, q_bs, hb, Bool.false_eq_true]
    | true =>
      cases a with
      | none => simp (disch := omega) only [g_X0_heaviestOf_7, q_hvF, q_eO, q_hw0, h.f.2.1, h.a3 hk, ql_0, ql_1, ql_2, ql_3, ql_4, ql_5, ql_6, ql_7, ql_8, ql_9, ql_10, ql_11, ql_12, ql_13, ql_14, ql_15, ql_16, ql_17, ql_18, ql_19, ql_20, ql_21, ql_22, ql_23, ql_24, ql_27, ql_30, ql_31, ql_32, ql_40, ql_48, ql_51, ql_52, ql_57, ql_59, ql_60, ql_61, ql_62, ql_76, ql_84, ql_91, ql_97, ql_99, ql_100, ql_120, ql_122, ql_127, ql_128, ql_200, ql_255, ql_256, ql_300, ql_420, ql_428, ql_640, ql_900, ql_896, ql_999, ql_1712, ql_1716, ql_1734, ql_1772, ql_1800, ql_1805, ql_1811, ql_1822, ql_2132, ql_2140, ql_3229, ql_9999, ql_11453, ql_65536, ql_100000, ql_1000000, nI_add, pk_mul, q_and, q_or, q_xor, nI_clamp, q_in, q_neg1, q_nno, q_nno', q_annN, q_sh1, q_tbN, nI_leI, nI_ltI, nI_eq, pk_sub, ↓reduceIte, if_pos, if_neg, q_zlt, q_bs, hb, reduceCtorEq]
      | some b =>
        have hb' := hl b rfl
        have w2 := o8 b (by omega)
        by_cases z : C 3 k ≤ C 3 b
        · simp (disch := omega) only [g_X0_heaviestOf_7, q_hvF, q_eO, q_hw0, h.f.2.1, h.a3 hk, ql_0, ql_1, ql_2, ql_3, ql_4, ql_5, ql_6, ql_7, ql_8, ql_9, ql_10, ql_11, ql_12, ql_13, ql_14, ql_15, ql_16, ql_17, ql_18, ql_19, ql_20, ql_21, ql_22, ql_23, ql_24, ql_27, ql_30, ql_31, ql_32, ql_40, ql_48, ql_51, ql_52, ql_57, ql_59, ql_60, ql_61, ql_62, ql_76, ql_84, ql_91, ql_97, ql_99, ql_100, ql_120, ql_122, ql_127, ql_128, ql_200, ql_255, ql_256, ql_300, ql_420, ql_428, ql_640, ql_900, ql_896, ql_999, ql_1712, ql_1716, ql_1734, ql_1772, ql_1800, ql_1805, ql_1811, ql_1822, ql_2132, ql_2140, ql_3229, ql_9999, ql_11453, ql_65536, ql_100000, ql_1000000, nI_add, pk_mul, q_and, q_or, q_xor, nI_clamp, q_in, q_neg1, q_nno, q_nno', q_annN, q_sh1, q_tbN, nI_leI, nI_ltI, nI_eq, pk_sub, ↓reduceIte, if_pos, if_neg, q_zlt, q_bs, hb, reduceCtorEq]
        · simp (disch := omega) only [g_X0_heaviestOf_7, q_hvF, q_eO, q_hw0, h.f.2.1, h.a3 hk, ql_0, ql_1, ql_2, ql_3, ql_4, ql_5, ql_6, ql_7, ql_8, ql_9, ql_10, ql_11, ql_12, ql_13, ql_14, ql_15, ql_16, ql_17, ql_18, ql_19, ql_20, ql_21, ql_22, ql_23, ql_24, ql_27, ql_30, ql_31, ql_32, ql_40, ql_48, ql_51, ql_52, ql_57, ql_59, ql_60, ql_61, ql_62, ql_76, ql_84, ql_91, ql_97, ql_99, ql_100, ql_120, ql_122, ql_127, ql_128, ql_200, ql_255, ql_256, ql_300, ql_420, ql_428, ql_640, ql_900, ql_896, ql_999, ql_1712, ql_1716, ql_1734, ql_1772, ql_1800, ql_1805, ql_1811, ql_1822, ql_2132, ql_2140, ql_3229, ql_9999, ql_11453, ql_65536, ql_100000, ql_1000000, nI_add, pk_mul, q_and, q_or, q_xor, nI_clamp, q_in, q_neg1, q_nno, q_nno', q_annN, q_sh1, q_tbN, nI_leI, nI_ltI, nI_eq, pk_sub, ↓reduceIte, if_pos, if_neg, q_zlt, q_bs, hb, reduceCtorEq]
  · simp (disch := omega) only [g_X0_heaviestOf_7, h.f.2.1, ql_0, ql_1, ql_2, ql_3, ql_4, ql_5, ql_6, ql_7, ql_8, ql_9, ql_10, ql_11, ql_12, ql_13, ql_14, ql_15, ql_16, ql_17, ql_18, ql_19, ql_20, ql_21, ql_22, ql_23, ql_24, ql_27, ql_30, ql_31, ql_32, ql_40, ql_48, ql_51, ql_52, ql_57, ql_59, ql_60, ql_61, ql_62, ql_76, ql_84, ql_91, ql_97, ql_99, ql_100, ql_120, ql_122, ql_127, ql_128, ql_200, ql_255, ql_256, ql_300, ql_420, ql_428, ql_640, ql_900, ql_896, ql_999, ql_1712, ql_1716, ql_1734, ql_1772, ql_1800, ql_1805, ql_1811, ql_1822, ql_2132, ql_2140, ql_3229, ql_9999, ql_11453, ql_65536, ql_100000, ql_1000000, nI_add, pk_mul, q_and, q_or, q_xor, nI_clamp, q_in, q_neg1, q_nno, q_nno', q_annN, q_sh1, q_tbN, nI_leI, nI_ltI, nI_eq, pk_sub, ↓reduceIte, if_pos, if_neg, q_zlt, q_bs]
theorem m_likely {C : q_N} {m : Nat} {J : z_I} {K : z_L} (h : q_sm C 0 m J K) (ok : q_ok C) {s : Nat} (hs : s < 2 ^ 31) : g_X11_likely_31 (nI s) J K z_fuel (-1) 0 = some (f_X11_orNone J (q_eO (q_hv C s (C 0 1)))) := by
  obtain ⟨o0, o1, o2, o3, -⟩ := id ok
  have o8 := ok.2.2.2.2.2.2.2.2.1
  refine q_lp (G := fun n k (a : Option Nat) => g_X11_likely_31 (nI s) J K n (q_eO a) (nI k)) (fun k => q_hv C s k) (fun n k _ hk => ?_) (fun n => ?_) (Nat.zero_le (C 0 1)) (q_fu (by omega))
  · have e : q_hv C s (k + 1) = q_hvF C s k (q_hv C s k) := rfl
    rw [e]
    have hl := q_hv_lt (C := C) (s := s) (n := k)
    have w1 := o8 k hk
    generalize q_hv C s k = a at hl ⊢
    cases hb : s.testBit k with
    | false => simp (disch := omega) only [g_X11_likely_31, q_hvF, h.f.2.1, q_isIn, ql_0, ql_1, ql_2, ql_3, ql_4, ql_5, ql_6, ql_7, ql_8, ql_9, ql_10, ql_11, ql_12, ql_13, ql_14, ql_15, ql_16, ql_17, ql_18, ql_19, ql_20, ql_21, ql_22, ql_23, ql_24, ql_27, ql_30, ql_31, ql_32, ql_40, ql_48, ql_51, ql_52, ql_57, ql_59, ql_60, ql_61, ql_62, ql_76, ql_84, ql_91, ql_97, ql_99, ql_100, ql_120, ql_122, ql_127, ql_128, ql_200, ql_255, ql_256, ql_300, ql_420, ql_428, ql_640, ql_900, ql_896, ql_999, ql_1712, ql_1716, ql_1734, ql_1772, ql_1800, ql_1805, ql_1811, ql_1822, ql_2132, ql_2140, ql_3229, ql_9999, ql_11453, ql_65536, ql_100000, ql_1000000, nI_add, pk_mul, q_and, q_or, q_xor, nI_clamp, q_in, q_neg1, q_nno, q_nno', q_annN, q_sh1, q_tbN, nI_leI, nI_ltI, nI_eq, pk_sub, ↓reduceIte, if_pos, if_neg, q_zlt, q_bs, hb, Bool.false_eq_true]
    | true =>
      cases a with
      | none => simp (disch := omega) only [g_X11_likely_31, q_hvF, q_eO, h.f.2.1, q_isIn, ql_0, ql_1, ql_2, ql_3, ql_4, ql_5, ql_6, ql_7, ql_8, ql_9, ql_10, ql_11, ql_12, ql_13, ql_14, ql_15, ql_16, ql_17, ql_18, ql_19, ql_20, ql_21, ql_22, ql_23, ql_24, ql_27, ql_30, ql_31, ql_32, ql_40, ql_48, ql_51, ql_52, ql_57, ql_59, ql_60, ql_61, ql_62, ql_76, ql_84, ql_91, ql_97, ql_99, ql_100, ql_120, ql_122, ql_127, ql_128, ql_200, ql_255, ql_256, ql_300, ql_420, ql_428, ql_640, ql_900, ql_896, ql_999, ql_1712, ql_1716, ql_1734, ql_1772, ql_1800, ql_1805, ql_1811, ql_1822, ql_2132, ql_2140, ql_3229, ql_9999, ql_11453, ql_65536, ql_100000, ql_1000000, nI_add, pk_mul, q_and, q_or, q_xor, nI_clamp, q_in, q_neg1, q_nno, q_nno', q_annN, q_sh1, q_tbN, nI_leI, nI_ltI, nI_eq, pk_sub, ↓reduceIte, if_pos, if_neg, q_zlt, q_bs, hb]
      | some b =>
        have hb' := hl b rfl
        have w2 := o8 b (by omega)
        have a3 := h.a3 (k := b) (by omega)
        by_cases z : C 3 k ≤ C 3 b
        · simp (disch := omega) only [g_X11_likely_31, q_hvF, q_eO, h.f.2.1, h.a3 hk, a3, q_isIn, ql_0, ql_1, ql_2, ql_3, ql_4, ql_5, ql_6, ql_7, ql_8, ql_9, ql_10, ql_11, ql_12, ql_13, ql_14, ql_15, ql_16, ql_17, ql_18, ql_19, ql_20, ql_21, ql_22, ql_23, ql_24, ql_27, ql_30, ql_31, ql_32, ql_40, ql_48, ql_51, ql_52, ql_57, ql_59, ql_60, ql_61, ql_62, ql_76, ql_84, ql_91, ql_97, ql_99, ql_100, ql_120, ql_122, ql_127, ql_128, ql_200, ql_255, ql_256, ql_300, ql_420, ql_428, ql_640, ql_900, ql_896, ql_999, ql_1712, ql_1716, ql_1734, ql_1772, ql_1800, ql_1805, ql_1811, ql_1822, ql_2132, ql_2140, ql_3229, ql_9999, ql_11453, ql_65536, ql_100000, ql_1000000, nI_add, pk_mul, q_and, q_or, q_xor, nI_clamp, q_in, q_neg1, q_nno, q_nno', q_annN, q_sh1, q_tbN, nI_leI, nI_ltI, nI_eq, pk_sub, ↓reduceIte, if_pos, if_neg, q_zlt, q_bs, hb]
        · simp (disch := omega) only [g_X11_likely_31, q_hvF, q_eO, h.f.2.1, h.a3 hk, a3, q_isIn, ql_0, ql_1, ql_2, ql_3, ql_4, ql_5, ql_6, ql_7, ql_8, ql_9, ql_10, ql_11, ql_12, ql_13, ql_14, ql_15, ql_16, ql_17, ql_18, ql_19, ql_20, ql_21, ql_22, ql_23, ql_24, ql_27, ql_30, ql_31, ql_32, ql_40, ql_48, ql_51, ql_52, ql_57, ql_59, ql_60, ql_61, ql_62, ql_76, ql_84, ql_91, ql_97, ql_99, ql_100, ql_120, ql_122, ql_127, ql_128, ql_200, ql_255, ql_256, ql_300, ql_420, ql_428, ql_640, ql_900, ql_896, ql_999, ql_1712, ql_1716, ql_1734, ql_1772, ql_1800, ql_1805, ql_1811, ql_1822, ql_2132, ql_2140, ql_3229, ql_9999, ql_11453, ql_65536, ql_100000, ql_1000000, nI_add, pk_mul, q_and, q_or, q_xor, nI_clamp, q_in, q_neg1, q_nno, q_nno', q_annN, q_sh1, q_tbN, nI_leI, nI_ltI, nI_eq, pk_sub, ↓reduceIte, if_pos, if_neg, q_zlt, q_bs, hb]
  · simp (disch := omega) only [g_X11_likely_31, h.f.2.1, ql_0, ql_1, ql_2, ql_3, ql_4, ql_5, ql_6, ql_7, ql_8, ql_9, ql_10, ql_11, ql_12, ql_13, ql_14, ql_15, ql_16, ql_17, ql_18, ql_19, ql_20, ql_21, ql_22, ql_23, ql_24, ql_27, ql_30, ql_31, ql_32, ql_40, ql_48, ql_51, ql_52, ql_57, ql_59, ql_60, ql_61, ql_62, ql_76, ql_84, ql_91, ql_97, ql_99, ql_100, ql_120, ql_122, ql_127, ql_128, ql_200, ql_255, ql_256, ql_300, ql_420, ql_428, ql_640, ql_900, ql_896, ql_999, ql_1712, ql_1716, ql_1734, ql_1772, ql_1800, ql_1805, ql_1811, ql_1822, ql_2132, ql_2140, ql_3229, ql_9999, ql_11453, ql_65536, ql_100000, ql_1000000, nI_add, pk_mul, q_and, q_or, q_xor, nI_clamp, q_in, q_neg1, q_nno, q_nno', q_annN, q_sh1, q_tbN, nI_leI, nI_ltI, nI_eq, pk_sub, ↓reduceIte, if_pos, if_neg, q_zlt, q_bs]
/-- an answer, or none -/
theorem q_endO {A B : Option (Int32 × z_I)} {I : z_I} {L : z_L} {J : z_I} {K : z_L} (hR : q_R I L J K) (a : Option Nat) (ha : ∀ b, a = some b → b < 2 ^ 31) (hX : A = some (f_X10_giveIfAny I (q_eO a))) (hM : B = some (f_X11_orNone J (q_eO a))) : ∃ (qX : Int32 × z_I) (qM : Int32 × z_I), A = some qX ∧ B = some qM ∧ qX.1 = qM.1 ∧ q_R qX.2 L qM.2 K := by
  cases a with
  | none => exact q_end (-1) 6 hX hM hR
  | some b =>
    have hb := ha b rfl
    refine q_end (nI b) 0 (I := I) (J := J) ?_ ?_ hR
    · rw [hX]
      simp (disch := omega) only [f_X10_giveIfAny, q_eO, ql_0, ql_1, ql_2, ql_3, ql_4, ql_5, ql_6, ql_7, ql_8, ql_9, ql_10, ql_11, ql_12, ql_13, ql_14, ql_15, ql_16, ql_17, ql_18, ql_19, ql_20, ql_21, ql_22, ql_23, ql_24, ql_27, ql_30, ql_31, ql_32, ql_40, ql_48, ql_51, ql_52, ql_57, ql_59, ql_60, ql_61, ql_62, ql_76, ql_84, ql_91, ql_97, ql_99, ql_100, ql_120, ql_122, ql_127, ql_128, ql_200, ql_255, ql_256, ql_300, ql_420, ql_428, ql_640, ql_900, ql_896, ql_999, ql_1712, ql_1716, ql_1734, ql_1772, ql_1800, ql_1805, ql_1811, ql_1822, ql_2132, ql_2140, ql_3229, ql_9999, ql_11453, ql_65536, ql_100000, ql_1000000, nI_add, pk_mul, q_and, q_or, q_xor, nI_clamp, q_in, q_neg1, q_nno, q_nno', q_annN, q_sh1, q_tbN, nI_leI, nI_ltI, nI_eq, pk_sub, ↓reduceIte, if_pos, if_neg, q_zlt, q_bs, f_X10_give]
    · rw [hM]
      simp (disch := omega) only [f_X11_orNone, q_eO, ql_0, ql_1, ql_2, ql_3, ql_4, ql_5, ql_6, ql_7, ql_8, ql_9, ql_10, ql_11, ql_12, ql_13, ql_14, ql_15, ql_16, ql_17, ql_18, ql_19, ql_20, ql_21, ql_22, ql_23, ql_24, ql_27, ql_30, ql_31, ql_32, ql_40, ql_48, ql_51, ql_52, ql_57, ql_59, ql_60, ql_61, ql_62, ql_76, ql_84, ql_91, ql_97, ql_99, ql_100, ql_120, ql_122, ql_127, ql_128, ql_200, ql_255, ql_256, ql_300, ql_420, ql_428, ql_640, ql_900, ql_896, ql_999, ql_1712, ql_1716, ql_1734, ql_1772, ql_1800, ql_1805, ql_1811, ql_1822, ql_2132, ql_2140, ql_3229, ql_9999, ql_11453, ql_65536, ql_100000, ql_1000000, nI_add, pk_mul, q_and, q_or, q_xor, nI_clamp, q_in, q_neg1, q_nno, q_nno', q_annN, q_sh1, q_tbN, nI_leI, nI_ltI, nI_eq, pk_sub, ↓reduceIte, if_pos, if_neg, q_zlt, q_bs, f_X11_gives]
theorem r_likely : s_likely q_R := by
  intro I L J K p0 p1 hR
  obtain ⟨C, T, mk, h⟩ := id hR
  obtain ⟨hx, hm, ok, -⟩ := h.o
  obtain ⟨o0, o1, o2, o3, -⟩ := id ok
  rcases q_fit h p0 p1 with ⟨w, w1, w5, eX, eM⟩ | ⟨i, s, hi, hs, rfl, eX, eM, fX, fM⟩
  · refine q_end (-1) (nI w) (I := I) (J := J) ?_ ?_ hR
    · simp (disch := omega) only [f_X10_likely, eX, q_bs, ql_0, nI_eq, if_neg, f_X10_refuse, q_zlt]
    · simp (disch := omega) only [f_X11_likely, eM, q_bs, ql_0, nI_leI, if_neg, f_X11_refuse, q_zlt]
  · have h8 := q_p8 o1 hs
    have hl := q_hv_lt (C := C 0) (s := s) (n := C 0 0 1)
    have hM := m_likely hm ok (s := s) (by omega)
    have hX := x0_heaviest hx ok (s := s)
    rw [ql_0, ql_1, q_neg1] at hM
    refine q_endO hR (q_hv (C 0) s (C 0 0 1)) (fun b hb => by have := hl b hb; omega) ?_ ?_
    · simp (disch := omega) only [f_X10_likely, eX, ql_0, ql_1, ql_2, ql_3, ql_4, ql_5, ql_6, ql_7, ql_8, ql_9, ql_10, ql_11, ql_12, ql_13, ql_14, ql_15, ql_16, ql_17, ql_18, ql_19, ql_20, ql_21, ql_22, ql_23, ql_24, ql_27, ql_30, ql_31, ql_32, ql_40, ql_48, ql_51, ql_52, ql_57, ql_59, ql_60, ql_61, ql_62, ql_76, ql_84, ql_91, ql_97, ql_99, ql_100, ql_120, ql_122, ql_127, ql_128, ql_200, ql_255, ql_256, ql_300, ql_420, ql_428, ql_640, ql_900, ql_896, ql_999, ql_1712, ql_1716, ql_1734, ql_1772, ql_1800, ql_1805, ql_1811, ql_1822, ql_2132, ql_2140, ql_3229, ql_9999, ql_11453, ql_65536, ql_100000, ql_1000000, nI_add, pk_mul, q_and, q_or, q_xor, nI_clamp, q_in, q_neg1, q_nno, q_nno', q_annN, q_sh1, q_tbN, nI_leI, nI_ltI, nI_eq, pk_sub, ↓reduceIte, if_pos, if_neg, q_zlt, q_bs, q_gd, fX, hX]
    · simp (disch := omega) only [f_X11_likely, eM, ql_0, ql_1, ql_2, ql_3, ql_4, ql_5, ql_6, ql_7, ql_8, ql_9, ql_10, ql_11, ql_12, ql_13, ql_14, ql_15, ql_16, ql_17, ql_18, ql_19, ql_20, ql_21, ql_22, ql_23, ql_24, ql_27, ql_30, ql_31, ql_32, ql_40, ql_48, ql_51, ql_52, ql_57, ql_59, ql_60, ql_61, ql_62, ql_76, ql_84, ql_91, ql_97, ql_99, ql_100, ql_120, ql_122, ql_127, ql_128, ql_200, ql_255, ql_256, ql_300, ql_420, ql_428, ql_640, ql_900, ql_896, ql_999, ql_1712, ql_1716, ql_1734, ql_1772, ql_1800, ql_1805, ql_1811, ql_1822, ql_2132, ql_2140, ql_3229, ql_9999, ql_11453, ql_65536, ql_100000, ql_1000000, nI_add, pk_mul, q_and, q_or, q_xor, nI_clamp, q_in, q_neg1, q_nno, q_nno', q_annN, q_sh1, q_tbN, nI_leI, nI_ltI, nI_eq, pk_sub, ↓reduceIte, if_pos, if_neg, q_zlt, q_bs, fM]
      exact hM
/-! what to ask next -/
def q_nxF (C : q_N) (s k : Nat) (a : Option Nat × Nat) : Option Nat × Nat := if a.2 ≤ max (q_pc (s &&& C 6 k)) (q_pc (s ^^^ (s &&& C 6 k))) then a else (some k, max (q_pc (s &&& C 6 k)) (q_pc (s ^^^ (s &&& C 6 k))))
def q_nx (C : q_N) (s n : Nat) : Option Nat × Nat := q_it (q_nxF C s) (none, q_pc s) n
theorem q_nx_lt {C : q_N} {s n : Nat} (hs : s < 256) : (∀ b, (q_nx C s n).1 = some b → b < n) ∧ (q_nx C s n).2 ≤ 8 := by
  induction n with
  | zero => exact ⟨fun b h => (by cases h), q_pc8 hs⟩
  | succ n ih =>
    have e : q_nx C s (n + 1) = q_nxF C s n (q_nx C s n) := rfl
    have p1 := q_pc8 (q_and_lt (y := C 6 n) hs)
    have p2 := q_pc8 (x := s ^^^ (s &&& C 6 n)) (q_xa_lt (n := 8) hs)
    rw [e]
    unfold q_nxF
    split
    · exact ⟨fun b h => by have := ih.1 b h; omega, ih.2⟩
    · exact ⟨fun b h => by cases h; omega, by show max _ _ ≤ 8; omega⟩
theorem x_next {C : q_N} {I : z_I} {L : z_L} (h : q_sx C 3 I L) (ok : q_ok C) {s : Nat} (hs : s < 256) : f_X10_bestParting I (nI s) = some (q_eO (q_nx C s (C 0 2)).1) := by
  obtain ⟨o0, o1, o2, o3, -⟩ := id ok
  unfold f_X10_bestParting
  rw [q_bitCount0 s hs]
  have hp := q_pc8 hs
  refine q_lp (G := fun n k (a : Option Nat × Nat) => g_X10_bestParting_13 (nI s) (nI (q_pc s)) I n (q_eO a.1) (nI a.2) (nI k)) (fun k => q_nx C s k) (fun n k _ hk => ?_) (fun n => ?_) (Nat.zero_le (C 0 2)) (q_fu (by omega))
  · have e : q_nx C s (k + 1) = q_nxF C s k (q_nx C s k) := rfl
    rw [e]
    have hl := (q_nx_lt (C := C) (s := s) (n := k) hs).2
    generalize q_nx C s k = a at hl ⊢
    have a6 : I 9 k = nI (C 6 k) := h.a6 hk
    have l1 : s &&& C 6 k < 256 := q_and_lt hs
    have sp := q_pc_split (C 6 k) hs
    have es : q_pc s - q_pc (s &&& C 6 k) = q_pc (s ^^^ (s &&& C 6 k)) := by omega
    by_cases z : a.2 ≤ max (q_pc (s &&& C 6 k)) (q_pc (s ^^^ (s &&& C 6 k)))
    · simp (disch := omega) only [g_X10_bestParting_13, q_nxF, h.f.2.2.1, a6, q_bitCount0, ql_0, ql_1, ql_2, ql_3, ql_4, ql_5, ql_6, ql_7, ql_8, ql_9, ql_10, ql_11, ql_12, ql_13, ql_14, ql_15, ql_16, ql_17, ql_18, ql_19, ql_20, ql_21, ql_22, ql_23, ql_24, ql_27, ql_30, ql_31, ql_32, ql_40, ql_48, ql_51, ql_52, ql_57, ql_59, ql_60, ql_61, ql_62, ql_76, ql_84, ql_91, ql_97, ql_99, ql_100, ql_120, ql_122, ql_127, ql_128, ql_200, ql_255, ql_256, ql_300, ql_420, ql_428, ql_640, ql_900, ql_896, ql_999, ql_1712, ql_1716, ql_1734, ql_1772, ql_1800, ql_1805, ql_1811, ql_1822, ql_2132, ql_2140, ql_3229, ql_9999, ql_11453, ql_65536, ql_100000, ql_1000000, nI_add, pk_mul, q_and, q_or, q_xor, nI_clamp, q_in, q_neg1, q_nno, q_nno', q_annN, q_sh1, q_tbN, nI_leI, nI_ltI, nI_eq, pk_sub, ↓reduceIte, if_pos, if_neg, q_zlt, q_bs, es, q_max]
    · simp (disch := omega) only [g_X10_bestParting_13, q_nxF, h.f.2.2.1, a6, q_bitCount0, ql_0, ql_1, ql_2, ql_3, ql_4, ql_5, ql_6, ql_7, ql_8, ql_9, ql_10, ql_11, ql_12, ql_13, ql_14, ql_15, ql_16, ql_17, ql_18, ql_19, ql_20, ql_21, ql_22, ql_23, ql_24, ql_27, ql_30, ql_31, ql_32, ql_40, ql_48, ql_51, ql_52, ql_57, ql_59, ql_60, ql_61, ql_62, ql_76, ql_84, ql_91, ql_97, ql_99, ql_100, ql_120, ql_122, ql_127, ql_128, ql_200, ql_255, ql_256, ql_300, ql_420, ql_428, ql_640, ql_900, ql_896, ql_999, ql_1712, ql_1716, ql_1734, ql_1772, ql_1800, ql_1805, ql_1811, ql_1822, ql_2132, ql_2140, ql_3229, ql_9999, ql_11453, ql_65536, ql_100000, ql_1000000, nI_add, pk_mul, q_and, q_or, q_xor, nI_clamp, q_in, q_neg1, q_nno, q_nno', q_annN, q_sh1, q_tbN, nI_leI, nI_ltI, nI_eq, pk_sub, ↓reduceIte, if_pos, if_neg, q_zlt, q_bs, es, q_max, q_eO]
  · simp (disch := omega) only [g_X10_bestParting_13, h.f.2.2.1, ql_0, ql_1, ql_2, ql_3, ql_4, ql_5, ql_6, ql_7, ql_8, ql_9, ql_10, ql_11, ql_12, ql_13, ql_14, ql_15, ql_16, ql_17, ql_18, ql_19, ql_20, ql_21, ql_22, ql_23, ql_24, ql_27, ql_30, ql_31, ql_32, ql_40, ql_48, ql_51, ql_52, ql_57, ql_59, ql_60, ql_61, ql_62, ql_76, ql_84, ql_91, ql_97, ql_99, ql_100, ql_120, ql_122, ql_127, ql_128, ql_200, ql_255, ql_256, ql_300, ql_420, ql_428, ql_640, ql_900, ql_896, ql_999, ql_1712, ql_1716, ql_1734, ql_1772, ql_1800, ql_1805, ql_1811, ql_1822, ql_2132, ql_2140, ql_3229, ql_9999, ql_11453, ql_65536, ql_100000, ql_1000000, nI_add, pk_mul, q_and, q_or, q_xor, nI_clamp, q_in, q_neg1, q_nno, q_nno', q_annN, q_sh1, q_tbN, nI_leI, nI_ltI, nI_eq, pk_sub, ↓reduceIte, if_pos, if_neg, q_zlt, q_bs]
theorem m_next {C : q_N} {m : Nat} {J : z_I} {K : z_L} (h : q_sm C 0 m J K) (ok : q_ok C) {s : Nat} (hs : s < 256) : g_X11_next_38 (nI s) J K z_fuel (-1) (nI (q_pc s)) 0 = some (f_X11_orNone J (q_eO (q_nx C s (C 0 2)).1)) := by
  obtain ⟨o0, o1, o2, o3, -⟩ := id ok
  have hp := q_pc8 hs
  refine q_lp (G := fun n k (a : Option Nat × Nat) => g_X11_next_38 (nI s) J K n (q_eO a.1) (nI a.2) (nI k)) (fun k => q_nx C s k) (fun n k _ hk => ?_) (fun n => ?_) (Nat.zero_le (C 0 2)) (q_fu (by omega))
  · have e : q_nx C s (k + 1) = q_nxF C s k (q_nx C s k) := rfl
    rw [e]
    have hl := (q_nx_lt (C := C) (s := s) (n := k) hs).2
    generalize q_nx C s k = a at hl ⊢
    have l1 : s &&& C 6 k < 256 := q_and_lt hs
    have l2 : s ^^^ (s &&& C 6 k) < 256 := q_xa_lt (n := 8) hs
    have p1 := q_pc8 l1
    have p2 := q_pc8 l2
    by_cases z : a.2 ≤ max (q_pc (s &&& C 6 k)) (q_pc (s ^^^ (s &&& C 6 k)))
    · simp (disch := omega) only [g_X11_next_38, q_nxF, h.f.2.2.1, m_truthOf h ok hk, m_bits, ql_0, ql_1, ql_2, ql_3, ql_4, ql_5, ql_6, ql_7, ql_8, ql_9, ql_10, ql_11, ql_12, ql_13, ql_14, ql_15, ql_16, ql_17, ql_18, ql_19, ql_20, ql_21, ql_22, ql_23, ql_24, ql_27, ql_30, ql_31, ql_32, ql_40, ql_48, ql_51, ql_52, ql_57, ql_59, ql_60, ql_61, ql_62, ql_76, ql_84, ql_91, ql_97, ql_99, ql_100, ql_120, ql_122, ql_127, ql_128, ql_200, ql_255, ql_256, ql_300, ql_420, ql_428, ql_640, ql_900, ql_896, ql_999, ql_1712, ql_1716, ql_1734, ql_1772, ql_1800, ql_1805, ql_1811, ql_1822, ql_2132, ql_2140, ql_3229, ql_9999, ql_11453, ql_65536, ql_100000, ql_1000000, nI_add, pk_mul, q_and, q_or, q_xor, nI_clamp, q_in, q_neg1, q_nno, q_nno', q_annN, q_sh1, q_tbN, nI_leI, nI_ltI, nI_eq, pk_sub, ↓reduceIte, if_pos, if_neg, q_zlt, q_bs, q_max]
    · simp (disch := omega) only [g_X11_next_38, q_nxF, h.f.2.2.1, m_truthOf h ok hk, m_bits, ql_0, ql_1, ql_2, ql_3, ql_4, ql_5, ql_6, ql_7, ql_8, ql_9, ql_10, ql_11, ql_12, ql_13, ql_14, ql_15, ql_16, ql_17, ql_18, ql_19, ql_20, ql_21, ql_22, ql_23, ql_24, ql_27, ql_30, ql_31, ql_32, ql_40, ql_48, ql_51, ql_52, ql_57, ql_59, ql_60, ql_61, ql_62, ql_76, ql_84, ql_91, ql_97, ql_99, ql_100, ql_120, ql_122, ql_127, ql_128, ql_200, ql_255, ql_256, ql_300, ql_420, ql_428, ql_640, ql_900, ql_896, ql_999, ql_1712, ql_1716, ql_1734, ql_1772, ql_1800, ql_1805, ql_1811, ql_1822, ql_2132, ql_2140, ql_3229, ql_9999, ql_11453, ql_65536, ql_100000, ql_1000000, nI_add, pk_mul, q_and, q_or, q_xor, nI_clamp, q_in, q_neg1, q_nno, q_nno', q_annN, q_sh1, q_tbN, nI_leI, nI_ltI, nI_eq, pk_sub, ↓reduceIte, if_pos, if_neg, q_zlt, q_bs, q_max, q_eO]
  · simp (disch := omega) only [g_X11_next_38, h.f.2.2.1, ql_0, ql_1, ql_2, ql_3, ql_4, ql_5, ql_6, ql_7, ql_8, ql_9, ql_10, ql_11, ql_12, ql_13, ql_14, ql_15, ql_16, ql_17, ql_18, ql_19, ql_20, ql_21, ql_22, ql_23, ql_24, ql_27, ql_30, ql_31, ql_32, ql_40, ql_48, ql_51, ql_52, ql_57, ql_59, ql_60, ql_61, ql_62, ql_76, ql_84, ql_91, ql_97, ql_99, ql_100, ql_120, ql_122, ql_127, ql_128, ql_200, ql_255, ql_256, ql_300, ql_420, ql_428, ql_640, ql_900, ql_896, ql_999, ql_1712, ql_1716, ql_1734, ql_1772, ql_1800, ql_1805, ql_1811, ql_1822, ql_2132, ql_2140, ql_3229, ql_9999, ql_11453, ql_65536, ql_100000, ql_1000000, nI_add, pk_mul, q_and, q_or, q_xor, nI_clamp, q_in, q_neg1, q_nno, q_nno', q_annN, q_sh1, q_tbN, nI_leI, nI_ltI, nI_eq, pk_sub, ↓reduceIte, if_pos, if_neg, q_zlt, q_bs]
theorem r_next : s_next q_R := by
  intro I L J K p0 p1 hR
  obtain ⟨C, T, mk, h⟩ := id hR
  obtain ⟨hx, hm, ok, -⟩ := h.o
  obtain ⟨o0, o1, o2, o3, -⟩ := id ok
  rcases q_fit h p0 p1 with ⟨w, w1, w5, eX, eM⟩ | ⟨i, s, hi, hs, rfl, eX, eM, fX, fM⟩
  · refine q_end (-1) (nI w) (I := I) (J := J) ?_ ?_ hR
    · simp (disch := omega) only [f_X10_next, eX, q_bs, ql_0, nI_eq, if_neg, f_X10_refuse, q_zlt]
    · simp (disch := omega) only [f_X11_next, eM, q_bs, ql_0, nI_leI, if_neg, f_X11_refuse, q_zlt]
  · have h8 := q_p8 o1 hs
    have hl := (q_nx_lt (C := C 0) (s := s) (n := C 0 0 2) h8).1
    have hM := m_next hm ok h8
    have hX := x_next hx ok h8
    rw [ql_0, ql_1, q_neg1] at hM
    refine q_endO hR (q_nx (C 0) s (C 0 0 2)).1 (fun b hb => by have := hl b hb; omega) ?_ ?_
    · simp (disch := omega) only [f_X10_next, eX, ql_0, ql_1, ql_2, ql_3, ql_4, ql_5, ql_6, ql_7, ql_8, ql_9, ql_10, ql_11, ql_12, ql_13, ql_14, ql_15, ql_16, ql_17, ql_18, ql_19, ql_20, ql_21, ql_22, ql_23, ql_24, ql_27, ql_30, ql_31, ql_32, ql_40, ql_48, ql_51, ql_52, ql_57, ql_59, ql_60, ql_61, ql_62, ql_76, ql_84, ql_91, ql_97, ql_99, ql_100, ql_120, ql_122, ql_127, ql_128, ql_200, ql_255, ql_256, ql_300, ql_420, ql_428, ql_640, ql_900, ql_896, ql_999, ql_1712, ql_1716, ql_1734, ql_1772, ql_1800, ql_1805, ql_1811, ql_1822, ql_2132, ql_2140, ql_3229, ql_9999, ql_11453, ql_65536, ql_100000, ql_1000000, nI_add, pk_mul, q_and, q_or, q_xor, nI_clamp, q_in, q_neg1, q_nno, q_nno', q_annN, q_sh1, q_tbN, nI_leI, nI_ltI, nI_eq, pk_sub, ↓reduceIte, if_pos, if_neg, q_zlt, q_bs, q_gd, fX, hX]
    · simp (disch := omega) only [f_X11_next, eM, ql_0, ql_1, ql_2, ql_3, ql_4, ql_5, ql_6, ql_7, ql_8, ql_9, ql_10, ql_11, ql_12, ql_13, ql_14, ql_15, ql_16, ql_17, ql_18, ql_19, ql_20, ql_21, ql_22, ql_23, ql_24, ql_27, ql_30, ql_31, ql_32, ql_40, ql_48, ql_51, ql_52, ql_57, ql_59, ql_60, ql_61, ql_62, ql_76, ql_84, ql_91, ql_97, ql_99, ql_100, ql_120, ql_122, ql_127, ql_128, ql_200, ql_255, ql_256, ql_300, ql_420, ql_428, ql_640, ql_900, ql_896, ql_999, ql_1712, ql_1716, ql_1734, ql_1772, ql_1800, ql_1805, ql_1811, ql_1822, ql_2132, ql_2140, ql_3229, ql_9999, ql_11453, ql_65536, ql_100000, ql_1000000, nI_add, pk_mul, q_and, q_or, q_xor, nI_clamp, q_in, q_neg1, q_nno, q_nno', q_annN, q_sh1, q_tbN, nI_leI, nI_ltI, nI_eq, pk_sub, ↓reduceIte, if_pos, if_neg, q_zlt, q_bs, fM, m_bits]
      exact hM
/-! the odds of a case -/
theorem q_wt_le {C : q_N} (ok : q_ok C) (s : Nat) : q_wt C s (C 0 1) ≤ 160 := by
  have := ok.2.1
  have h : q_wt C s (C 0 1) ≤ C 0 1 * 20 := q_sum_le (fun k hk => by
    have := ok.2.2.2.2.2.2.2.2.1 k hk
    split <;> omega)
  omega
theorem q_sum_ge {f : Nat → Nat} {n k : Nat} (h : k < n) : f k ≤ q_sum f n := by
  induction n with
  | zero => omega
  | succ n ih =>
    rw [q_sum]
    by_cases z : k = n
    · subst z; omega
    · have := ih (by omega); omega
theorem q_wt_pos {C : q_N} (ok : q_ok C) {s : Nat} (h0 : s ≠ 0) (hs : s < 2 ^ C 0 1) : 0 < q_wt C s (C 0 1) := by
  obtain ⟨k, hk⟩ : ∃ k, s.testBit k = true := Nat.exists_testBit_of_ne_zero h0
  have hkn : k < C 0 1 := Nat.lt_of_not_le (fun z => by
    have h2 : s < 2 ^ k := Nat.lt_of_lt_of_le hs (Nat.pow_le_pow_right (by decide) z)
    rw [Nat.testBit_lt_two_pow h2] at hk
    cases hk)
  have h1 := q_sum_ge (f := fun k => if s.testBit k then C 3 k else 0) hkn
  have h2 := (ok.2.2.2.2.2.2.2.2.1 k hkn).1
  rw [if_pos hk] at h1
  exact Nat.lt_of_lt_of_le h2 h1
theorem r_oddsThat : s_oddsThat q_R := by
  intro I L J K p0 p1 p2 hR
  obtain ⟨C, T, mk, h⟩ := id hR
  obtain ⟨hx, hm, ok, -⟩ := h.o
  obtain ⟨o0, o1, o2, o3, -⟩ := id ok
  cases hb : q_hs (C 0 0 1) p2 with
  | false => exact q_end2 false 1 (by simp only [f_X10_oddsThat, x0_hasCase hx, hb]; rfl) (by simp only [f_X11_oddsThat, m_isCase hm, hb]; rfl) hR
  | true =>
    obtain ⟨b, hb', rfl⟩ := q_hs_t hb (by omega)
    rcases q_fit h p0 p1 with ⟨w, w1, w5, eX, eM⟩ | ⟨i, s, hi, hs, rfl, eX, eM, fX, fM⟩
    · refine q_end2 false (nI w) (I := I) (J := J) ?_ ?_ hR
      · simp (disch := omega) only [f_X10_oddsThat, x0_hasCase hx, hb, eX, q_bs, ql_0, nI_eq, if_neg, f_X10_deny, q_zlt, ↓reduceIte]
      · simp (disch := omega) only [f_X11_oddsThat, m_isCase hm, hb, eM, q_bs, ql_0, nI_leI, nI_eq, if_neg, f_X11_is, q_zlt, ↓reduceIte]
    · have h8 := q_p8 o1 hs
      by_cases z : s = 0
      · refine q_end2 false 6 (I := I) (J := J) ?_ ?_ hR
        · simp (disch := omega) only [f_X10_oddsThat, x0_hasCase hx, hb, eX, ql_0, ql_1, ql_2, ql_3, ql_4, ql_5, ql_6, ql_7, ql_8, ql_9, ql_10, ql_11, ql_12, ql_13, ql_14, ql_15, ql_16, ql_17, ql_18, ql_19, ql_20, ql_21, ql_22, ql_23, ql_24, ql_27, ql_30, ql_31, ql_32, ql_40, ql_48, ql_51, ql_52, ql_57, ql_59, ql_60, ql_61, ql_62, ql_76, ql_84, ql_91, ql_97, ql_99, ql_100, ql_120, ql_122, ql_127, ql_128, ql_200, ql_255, ql_256, ql_300, ql_420, ql_428, ql_640, ql_900, ql_896, ql_999, ql_1712, ql_1716, ql_1734, ql_1772, ql_1800, ql_1805, ql_1811, ql_1822, ql_2132, ql_2140, ql_3229, ql_9999, ql_11453, ql_65536, ql_100000, ql_1000000, nI_add, pk_mul, q_and, q_or, q_xor, nI_clamp, q_in, q_neg1, q_nno, q_nno', q_annN, q_sh1, q_tbN, nI_leI, nI_ltI, nI_eq, pk_sub, ↓reduceIte, if_pos, if_neg, q_zlt, q_bs, q_gd, fX, f_X10_deny]
        · simp (disch := omega) only [f_X11_oddsThat, m_isCase hm, hb, eM, ql_0, ql_1, ql_2, ql_3, ql_4, ql_5, ql_6, ql_7, ql_8, ql_9, ql_10, ql_11, ql_12, ql_13, ql_14, ql_15, ql_16, ql_17, ql_18, ql_19, ql_20, ql_21, ql_22, ql_23, ql_24, ql_27, ql_30, ql_31, ql_32, ql_40, ql_48, ql_51, ql_52, ql_57, ql_59, ql_60, ql_61, ql_62, ql_76, ql_84, ql_91, ql_97, ql_99, ql_100, ql_120, ql_122, ql_127, ql_128, ql_200, ql_255, ql_256, ql_300, ql_420, ql_428, ql_640, ql_900, ql_896, ql_999, ql_1712, ql_1716, ql_1734, ql_1772, ql_1800, ql_1805, ql_1811, ql_1822, ql_2132, ql_2140, ql_3229, ql_9999, ql_11453, ql_65536, ql_100000, ql_1000000, nI_add, pk_mul, q_and, q_or, q_xor, nI_clamp, q_in, q_neg1, q_nno, q_nno', q_annN, q_sh1, q_tbN, nI_leI, nI_ltI, nI_eq, pk_sub, ↓reduceIte, if_pos, if_neg, q_zlt, q_bs, fM, f_X11_is]
      · have l1 : s &&& 2 ^ b < 2 ^ 31 := Nat.lt_of_le_of_lt Nat.and_le_left (by omega)
        have t1 := q_wt_le ok (s &&& 2 ^ b)
        have t2 := q_wt_le ok s
        have t3 := q_wt_pos ok z hs
        have hq := (h.frac (lN (q_wt (C 0) (s &&& 2 ^ b) (C 0 0 1) / Nat.gcd (q_wt (C 0) (s &&& 2 ^ b) (C 0 0 1)) (q_wt (C 0) s (C 0 0 1)))) (lN (q_wt (C 0) s (C 0 0 1) / Nat.gcd (q_wt (C 0) (s &&& 2 ^ b) (C 0 0 1)) (q_wt (C 0) s (C 0 0 1))))).r
        refine q_end2 true 0 ?_ ?_ hq
        · simp (disch := omega) only [f_X10_oddsThat, x0_hasCase hx, hb, eX, ql_0, ql_1, ql_2, ql_3, ql_4, ql_5, ql_6, ql_7, ql_8, ql_9, ql_10, ql_11, ql_12, ql_13, ql_14, ql_15, ql_16, ql_17, ql_18, ql_19, ql_20, ql_21, ql_22, ql_23, ql_24, ql_27, ql_30, ql_31, ql_32, ql_40, ql_48, ql_51, ql_52, ql_57, ql_59, ql_60, ql_61, ql_62, ql_76, ql_84, ql_91, ql_97, ql_99, ql_100, ql_120, ql_122, ql_127, ql_128, ql_200, ql_255, ql_256, ql_300, ql_420, ql_428, ql_640, ql_900, ql_896, ql_999, ql_1712, ql_1716, ql_1734, ql_1772, ql_1800, ql_1805, ql_1811, ql_1822, ql_2132, ql_2140, ql_3229, ql_9999, ql_11453, ql_65536, ql_100000, ql_1000000, nI_add, pk_mul, q_and, q_or, q_xor, nI_clamp, q_in, q_neg1, q_nno, q_nno', q_annN, q_sh1, q_tbN, nI_leI, nI_ltI, nI_eq, pk_sub, ↓reduceIte, if_pos, if_neg, q_zlt, q_bs, q_gd, fX, x0_weightOf hx ok, nI_l, x3_tell, f_X10_grant]
        · simp (disch := omega) only [f_X11_oddsThat, m_isCase hm, hb, eM, ql_0, ql_1, ql_2, ql_3, ql_4, ql_5, ql_6, ql_7, ql_8, ql_9, ql_10, ql_11, ql_12, ql_13, ql_14, ql_15, ql_16, ql_17, ql_18, ql_19, ql_20, ql_21, ql_22, ql_23, ql_24, ql_27, ql_30, ql_31, ql_32, ql_40, ql_48, ql_51, ql_52, ql_57, ql_59, ql_60, ql_61, ql_62, ql_76, ql_84, ql_91, ql_97, ql_99, ql_100, ql_120, ql_122, ql_127, ql_128, ql_200, ql_255, ql_256, ql_300, ql_420, ql_428, ql_640, ql_900, ql_896, ql_999, ql_1712, ql_1716, ql_1734, ql_1772, ql_1800, ql_1805, ql_1811, ql_1822, ql_2132, ql_2140, ql_3229, ql_9999, ql_11453, ql_65536, ql_100000, ql_1000000, nI_add, pk_mul, q_and, q_or, q_xor, nI_clamp, q_in, q_neg1, q_nno, q_nno', q_annN, q_sh1, q_tbN, nI_leI, nI_ltI, nI_eq, pk_sub, ↓reduceIte, if_pos, if_neg, q_zlt, q_bs, fM, m_weightOf hm ok, nI_l, m_tells]
