/-! trays -/
theorem q_gd : ∀ i, i < 4 → [55, 57, 59, 61].getD i 0 = 55 + 2 * i := by decide
theorem q_Q.ty {C T : Nat → q_N} {mk : Nat} {I : z_I} {L : z_L} {J : z_I} {K : z_L} (h : q_Q C T mk I L J K) {i : Nat} (hi : i < 4) {I' : z_I} {L' : z_L} {J' : z_I} {K' : z_L} (ht : q_ty i I' L' J' K') (fI : ∀ d k, d ≠ 55 + 2 * i → I' d k = I d k) (fL : ∀ d k, d ≠ 56 + 2 * i → L' d k = L d k) (fJ : ∀ d k, (d ≠ 3 ∧ d ≠ 4) ∨ k ≠ i → J' d k = J d k) (fK : ∀ d k, d ≠ 5 ∨ k < 60 * i ∨ 60 * i + 60 ≤ k → K' d k = K d k) : q_Q C T mk I' L' J' K' := by
  obtain ⟨⟨h1, h2, h3, h4, h5⟩, h6, h7, ⟨h8, h9⟩, h10, h11, h12, h13⟩ := h
  have f0 : ∀ k, I' 0 k = I 0 k := fun k => fI _ _ (by omega)
  have g0 : ∀ k, J' 0 k = J 0 k := fun k => fJ _ _ (by omega)
  refine ⟨⟨h1, by rw [f0, h2], by rw [g0, h3], by rw [f0, g0, h4], by rw [f0, g0, h5]⟩, by rw [f0, g0, h6], ?_, ⟨?_, ?_⟩, ?_, ?_, ?_, ?_⟩
  · exact h7.go (f0 _) (fun k => fI 2 k (by omega)) (g0 _) (fun k => fJ 6 k (by omega))
  · rw [fL 54 0 (by omega), fK 0 3 (by omega), h8]
  · rw [fL 54 1 (by omega), fK 0 4 (by omega), h9]
  · intro j hj
    by_cases z : j = i
    · subst z; exact ht
    · exact (h10 j hj).go (fun k => fI _ k (by omega)) (fun k => fL _ k (by omega)) (fJ 4 j (by omega)) (fJ 3 j (by omega)) (fun k _ => fK 5 _ (by omega))
  · exact h11.go (fI 45 1 (by omega)) (fun k => fI 46 k (by omega)) (g0 _) (fun k => fJ 22 k (by omega))
  · exact h12.go (fun k => fL 40 k (by omega))
  · intro j hj
    have hb := q_cc_b (i := j) (by omega)
    exact (h13 j hj).go (fun e k a b => fI e k (by omega)) (fun e k a b => fL e k (by omega)) (fun e k a b => fI e k (by omega)) (fun k a b => fJ 1 k (by omega)) (fun k a b => fK 2 k (by omega))
theorem q_znT : zn (1 : Int32) = true := by decide
theorem q_znF : zn (0 : Int32) = false := by decide
theorem q_wim {p : Int32} {m : Nat} (h : m < 2 ^ 31) : f_X10_isWithin p 0 (nI m - 1) = q_hs m p := by
  cases m with
  | zero =>
    unfold f_X10_isWithin q_hs
    by_cases h1 : p < 0
    · rw [if_pos h1, if_pos h1]
    · have t : (0 : Int32).toInt = 0 := by decide
      have t1 : (nI 0 - 1 : Int32).toInt = -1 := by decide
      have t2 : (nI 0).toInt = 0 := by decide
      have h2 := h1
      rw [Int32.lt_iff_toInt_lt] at h2
      have c1 : nI 0 - 1 < p := by rw [Int32.lt_iff_toInt_lt]; omega
      have c2 : nI 0 ≤ p := by rw [Int32.le_iff_toInt_le]; omega
      rw [if_neg h1, if_neg h1, if_pos c1, if_pos c2]
  | succ m =>
    rw [nI_pred]
    exact q_wi_hs h
/-- a place of a tray that is there -/
def q_tp (i m s : Nat) (I : z_I) (L : z_L) (J : z_I) (K : z_L) : Prop := I (55 + 2 * i) 1 = 1 ∧ m ≤ 60 ∧ s ≤ 3 ∧ I (55 + 2 * i) 3 = nI m ∧ J 4 i = nI m ∧ I (55 + 2 * i) 2 = nI s ∧ J 3 i = nI s ∧ ∀ k, k < m → L (56 + 2 * i) k = K 5 (60 * i + k)
theorem q_tp.ty {i m s : Nat} {I : z_I} {L : z_L} {J : z_I} {K : z_L} (h : q_tp i m s I L J K) : q_ty i I L J K := Or.inr ⟨h.1, m, s, h.2⟩
theorem q_hw {I : z_I} {L : z_L} {J : z_I} {K : z_L} (h : ∀ i, i < 4 → q_ty i I L J K) (p0 p1 : Int32) : (∃ w, 1 ≤ w ∧ w ≤ 3 ∧ f_X10_hindranceAt I p0 p1 = some (nI w) ∧ f_X11_wrongPlace J p0 p1 = some (nI w)) ∨ (∃ i m s k, i < 4 ∧ k < m ∧ p0 = nI i ∧ p1 = nI k ∧ q_tp i m s I L J K ∧ f_X10_hindranceAt I p0 p1 = some (nI 0) ∧ f_X11_wrongPlace J p0 p1 = some (nI 0)) := by
  unfold f_X10_hindranceAt f_X11_wrongPlace
  rw [q_trX, q_trM]
  cases hb : q_hs 4 p0 with
  | false => exact Or.inl ⟨1, by omega, by omega, rfl, rfl⟩
  | true =>
    obtain ⟨i, hi, rfl⟩ := q_hs_t hb (by decide)
    simp (disch := omega) only [q_in, nI_clamp, q_gd, ↓reduceIte]
    rcases h i hi with ⟨a, b⟩ | ⟨a, m, s, hm, hs, b1, b2, b3, b4, b5⟩
    · left
      refine ⟨2, by omega, by omega, ?_, ?_⟩
      · rw [a, q_znF]; rfl
      · rw [b]; rfl
    · have en : ¬ (nI m = (-1 : Int32)) := fun e => (q_nno (n := m) (by omega)).1 e
      rw [a, q_znT, b1, b2, q_wim (by omega), if_pos rfl, if_neg en]
      cases hc : q_hs m p1 with
      | false =>
        left
        refine ⟨3, by omega, by omega, rfl, ?_⟩
        by_cases z : p1 < 0
        · rw [if_pos z]; rfl
        · rw [if_neg z]
          rw [if_neg (fun y => ?_)]
          · rfl
          · have : q_hs m p1 = true := by
              unfold q_hs
              rw [if_neg z, if_neg (fun w => ?_)]
              rw [Int32.lt_iff_toInt_lt] at y
              rw [Int32.le_iff_toInt_le] at w
              omega
            rw [hc] at this; cases this
      | true =>
        obtain ⟨k, hk, rfl⟩ := q_hs_t hc (by omega)
        right
        refine ⟨i, m, s, k, hi, hk, rfl, rfl, ⟨a, hm, hs, b1, b2, b3, b4, b5⟩, rfl, ?_⟩
        rw [if_neg (nI_pos (by omega)), if_pos (nI_lt hk (by omega))]; rfl
theorem r_read : s_read q_R := by
  intro I L J K p0 p1 hR
  obtain ⟨C, T, mk, h⟩ := id hR
  rcases q_hw h.2.2.2.2.1 p0 p1 with ⟨w, w1, w3, eX, eM⟩ | ⟨i, m, s, k, hi, hk, rfl, rfl, ht, eX, eM⟩
  · refine q_end (-1) (nI w) (I := I) (J := J) ?_ ?_ hR
    · simp (disch := omega) only [f_X10_read, eX, q_bs, ql_0, nI_eq, if_neg, f_X10_refuse, q_zlt]
      rfl
    · simp (disch := omega) only [f_X11_read, eM, q_bs, ql_0, nI_leI, if_neg, q_zlt]
  · obtain ⟨t1, t2, t3, t4, t5, t6, t7, t8⟩ := ht
    refine q_end (K 5 (60 * i + k)) 0 (I := I) (J := J) ?_ ?_ hR
    · simp (disch := omega) only [f_X10_read, eX, ql_0, ql_1, ql_2, ql_3, ql_4, ql_5, ql_6, ql_7, ql_8, ql_9, ql_10, ql_11, ql_12, ql_13, ql_14, ql_15, ql_16, ql_17, ql_18, ql_19, ql_20, ql_21, ql_22, ql_23, ql_24, ql_27, ql_30, ql_31, ql_32, ql_40, ql_48, ql_51, ql_52, ql_57, ql_59, ql_60, ql_61, ql_62, ql_76, ql_84, ql_91, ql_97, ql_99, ql_100, ql_120, ql_122, ql_127, ql_128, ql_200, ql_255, ql_256, ql_300, ql_420, ql_428, ql_640, ql_900, ql_896, ql_999, ql_1712, ql_1716, ql_1734, ql_1772, ql_1800, ql_1805, ql_1811, ql_1822, ql_2132, ql_2140, ql_3229, ql_9999, ql_11453, ql_65536, ql_100000, ql_1000000, nI_add, pk_mul, q_and, q_or, q_xor, nI_clamp, q_in, q_neg1, q_nno, q_nno', q_annN, q_sh1, q_tbN, nI_leI, nI_ltI, nI_eq, pk_sub, ↓reduceIte, if_pos, if_neg, q_zlt, q_bs, q_gd]
      rw [show 55 + 2 * i + 1 = 56 + 2 * i by omega, t8 k hk]
    · simp (disch := omega) only [f_X11_read, eM, ql_0, ql_1, ql_2, ql_3, ql_4, ql_5, ql_6, ql_7, ql_8, ql_9, ql_10, ql_11, ql_12, ql_13, ql_14, ql_15, ql_16, ql_17, ql_18, ql_19, ql_20, ql_21, ql_22, ql_23, ql_24, ql_27, ql_30, ql_31, ql_32, ql_40, ql_48, ql_51, ql_52, ql_57, ql_59, ql_60, ql_61, ql_62, ql_76, ql_84, ql_91, ql_97, ql_99, ql_100, ql_120, ql_122, ql_127, ql_128, ql_200, ql_255, ql_256, ql_300, ql_420, ql_428, ql_640, ql_900, ql_896, ql_999, ql_1712, ql_1716, ql_1734, ql_1772, ql_1800, ql_1805, ql_1811, ql_1822, ql_2132, ql_2140, ql_3229, ql_9999, ql_11453, ql_65536, ql_100000, ql_1000000, nI_add, pk_mul, q_and, q_or, q_xor, nI_clamp, q_in, q_neg1, q_nno, q_nno', q_annN, q_sh1, q_tbN, nI_leI, nI_ltI, nI_eq, pk_sub, ↓reduceIte, if_pos, if_neg, q_zlt, q_bs]
theorem x8_put {I : z_I} {L : z_L} {y s k : Nat} (hs : s ≤ 3) (h : I y 2 = nI s) (hk : k < 60) (v : Int64) : f_X8_put I L y (nI k) v = some (z2 L (y + 1) k (f_X11_cut v (nI s))) := by
  have h4 : s = 0 ∨ s = 1 ∨ s = 2 ∨ s = 3 := by omega
  rcases h4 with z | z | z | z <;> subst z <;> simp (disch := omega) only [f_X8_put, h, f_X11_cut, ql_0, ql_1, ql_2, ql_3, ql_4, ql_5, ql_6, ql_7, ql_8, ql_9, ql_10, ql_11, ql_12, ql_13, ql_14, ql_15, ql_16, ql_17, ql_18, ql_19, ql_20, ql_21, ql_22, ql_23, ql_24, ql_27, ql_30, ql_31, ql_32, ql_40, ql_48, ql_51, ql_52, ql_57, ql_59, ql_60, ql_61, ql_62, ql_76, ql_84, ql_91, ql_97, ql_99, ql_100, ql_120, ql_122, ql_127, ql_128, ql_200, ql_255, ql_256, ql_300, ql_420, ql_428, ql_640, ql_900, ql_896, ql_999, ql_1712, ql_1716, ql_1734, ql_1772, ql_1800, ql_1805, ql_1811, ql_1822, ql_2132, ql_2140, ql_3229, ql_9999, ql_11453, ql_65536, ql_100000, ql_1000000, nI_add, pk_mul, q_and, q_or, q_xor, nI_clamp, q_in, q_neg1, q_nno, q_nno', q_annN, q_sh1, q_tbN, nI_leI, nI_ltI, nI_eq, pk_sub, ↓reduceIte, if_pos, if_neg, q_zlt, q_bs]
theorem q_tp.put {i m s k : Nat} {I : z_I} {L : z_L} {J : z_I} {K : z_L} (h : q_tp i m s I L J K) (v : Int64) (hk : k < m) : q_tp i m s I (z2 L (56 + 2 * i) k v) J (z2 K 5 (60 * i + k) v) := by
  obtain ⟨t1, t2, t3, t4, t5, t6, t7, t8⟩ := h
  refine ⟨t1, t2, t3, t4, t5, t6, t7, fun j hj => ?_⟩
  by_cases z : j = k
  · subst z; rw [q_zs, q_zs]
  · rw [q_zo (by omega), q_zo (by omega)]; exact t8 j hj
theorem r_write : s_write q_R := by
  intro I L J K p0 p1 v hR
  obtain ⟨C, T, mk, h⟩ := id hR
  rcases q_hw h.2.2.2.2.1 p0 p1 with ⟨w, w1, w3, eX, eM⟩ | ⟨i, m, s, k, hi, hk, rfl, rfl, ht, eX, eM⟩
  · refine q_end2 false (nI w) (I := I) (J := J) ?_ ?_ hR
    · simp (disch := omega) only [f_X10_write, eX, q_bs, ql_0, nI_eq, if_neg, f_X10_deny, q_zlt]
    · simp (disch := omega) only [f_X11_write, eM, q_bs, ql_0, nI_eq, if_neg, f_X11_is, q_zlt]
  · have hq := h.ty hi (I' := I) (L' := z2 L (56 + 2 * i) k (f_X11_cut v (nI s))) (J' := J) (K' := z2 K 5 (60 * i + k) (f_X11_cut v (nI s))) (ht.put _ hk).ty (fun _ _ _ => rfl) (fun d j z => q_zo (by omega)) (fun _ _ _ => rfl) (fun d j z => q_zo (by have := ht.2.1; omega))
    obtain ⟨t1, t2, t3, t4, t5, t6, t7, t8⟩ := ht
    refine q_end2 true 0 ?_ ?_ hq.r
    · simp (disch := omega) only [f_X10_write, eX, ql_0, ql_1, ql_2, ql_3, ql_4, ql_5, ql_6, ql_7, ql_8, ql_9, ql_10, ql_11, ql_12, ql_13, ql_14, ql_15, ql_16, ql_17, ql_18, ql_19, ql_20, ql_21, ql_22, ql_23, ql_24, ql_27, ql_30, ql_31, ql_32, ql_40, ql_48, ql_51, ql_52, ql_57, ql_59, ql_60, ql_61, ql_62, ql_76, ql_84, ql_91, ql_97, ql_99, ql_100, ql_120, ql_122, ql_127, ql_128, ql_200, ql_255, ql_256, ql_300, ql_420, ql_428, ql_640, ql_900, ql_896, ql_999, ql_1712, ql_1716, ql_1734, ql_1772, ql_1800, ql_1805, ql_1811, ql_1822, ql_2132, ql_2140, ql_3229, ql_9999, ql_11453, ql_65536, ql_100000, ql_1000000, nI_add, pk_mul, q_and, q_or, q_xor, nI_clamp, q_in, q_neg1, q_nno, q_nno', q_annN, q_sh1, q_tbN, nI_leI, nI_ltI, nI_eq, pk_sub, ↓reduceIte, if_pos, if_neg, q_zlt, q_bs, q_gd, x8_put t3 t6, f_X10_grant]
      rw [show 55 + 2 * i + 1 = 56 + 2 * i by omega]
    · simp (disch := omega) only [f_X11_write, eM, ql_0, ql_1, ql_2, ql_3, ql_4, ql_5, ql_6, ql_7, ql_8, ql_9, ql_10, ql_11, ql_12, ql_13, ql_14, ql_15, ql_16, ql_17, ql_18, ql_19, ql_20, ql_21, ql_22, ql_23, ql_24, ql_27, ql_30, ql_31, ql_32, ql_40, ql_48, ql_51, ql_52, ql_57, ql_59, ql_60, ql_61, ql_62, ql_76, ql_84, ql_91, ql_97, ql_99, ql_100, ql_120, ql_122, ql_127, ql_128, ql_200, ql_255, ql_256, ql_300, ql_420, ql_428, ql_640, ql_900, ql_896, ql_999, ql_1712, ql_1716, ql_1734, ql_1772, ql_1800, ql_1805, ql_1811, ql_1822, ql_2132, ql_2140, ql_3229, ql_9999, ql_11453, ql_65536, ql_100000, ql_1000000, nI_add, pk_mul, q_and, q_or, q_xor, nI_clamp, q_in, q_neg1, q_nno, q_nno', q_annN, q_sh1, q_tbN, nI_leI, nI_ltI, nI_eq, pk_sub, ↓reduceIte, if_pos, if_neg, q_zlt, q_bs, t7, f_X11_is]
theorem q_fill {L : z_L} {y N : Nat} (hN : N < 1000) : f_J7_fill_d0a16 L y N 0 = some (zr L y (fun j => if j < N then 0 else L y j)) := by
  unfold f_J7_fill_d0a16
  have e0 : ∀ k i, zr L y (fun j => if j < k then (0 : Int64) else L y j) y i = if i < k then 0 else L y i := fun k i => q_zrs
  have hS : zr L y (fun j => if j < 0 then (0 : Int64) else L y j) = L := by
    funext a j
    unfold zr
    by_cases z : a = y
    · subst z; rw [if_pos rfl, if_neg (by omega)]
    · rw [if_neg z]
  have := q_lp (G := fun n k (a : z_L) => g_J7_fill_d0a16_6 y N 0 (Int32.ofNat N) n (nI k) a) (N := N) (k0 := 0) (r := some (zr L y (fun j => if j < N then 0 else L y j))) (n := z_fuel) (fun k => zr L y (fun j => if j < k then 0 else L y j)) (fun n k _ hk => ?_) (fun n => ?_) (Nat.zero_le _) (q_fu (by omega))
  · rw [hS] at this
    exact this
  · show g_J7_fill_d0a16_6 y N 0 (nI N) (n + 1) (nI k) _ = _
    simp (disch := omega) only [g_J7_fill_d0a16_6, ql_0, ql_1, ql_2, ql_3, ql_4, ql_5, ql_6, ql_7, ql_8, ql_9, ql_10, ql_11, ql_12, ql_13, ql_14, ql_15, ql_16, ql_17, ql_18, ql_19, ql_20, ql_21, ql_22, ql_23, ql_24, ql_27, ql_30, ql_31, ql_32, ql_40, ql_48, ql_51, ql_52, ql_57, ql_59, ql_60, ql_61, ql_62, ql_76, ql_84, ql_91, ql_97, ql_99, ql_100, ql_120, ql_122, ql_127, ql_128, ql_200, ql_255, ql_256, ql_300, ql_420, ql_428, ql_640, ql_900, ql_896, ql_999, ql_1712, ql_1716, ql_1734, ql_1772, ql_1800, ql_1805, ql_1811, ql_1822, ql_2132, ql_2140, ql_3229, ql_9999, ql_11453, ql_65536, ql_100000, ql_1000000, nI_add, pk_mul, q_and, q_or, q_xor, nI_clamp, q_in, q_neg1, q_nno, q_nno', q_annN, q_sh1, q_tbN, nI_leI, nI_ltI, nI_eq, pk_sub, ↓reduceIte, if_pos, if_neg, q_zlt, q_bs]
    show g_J7_fill_d0a16_6 y N 0 (nI N) n (nI (k + 1)) _ = g_J7_fill_d0a16_6 y N 0 (nI N) n (nI (k + 1)) _
    congr 1
    funext a j
    by_cases z : a = y ∧ j = k
    · obtain ⟨z1, z2⟩ := z
      subst z1 z2
      rw [q_zs, e0, if_pos (by omega)]
    · rw [q_zo (by omega)]
      by_cases z1 : a = y
      · subst z1
        rw [e0, e0]
        by_cases z3 : j < k
        · rw [if_pos z3, if_pos (by omega)]
        · rw [if_neg z3, if_neg (by omega)]
      · rw [q_zro z1, q_zro z1]
  · show g_J7_fill_d0a16_6 y N 0 (nI N) (n + 1) (nI N) _ = _
    simp (disch := omega) only [g_J7_fill_d0a16_6, ql_0, ql_1, ql_2, ql_3, ql_4, ql_5, ql_6, ql_7, ql_8, ql_9, ql_10, ql_11, ql_12, ql_13, ql_14, ql_15, ql_16, ql_17, ql_18, ql_19, ql_20, ql_21, ql_22, ql_23, ql_24, ql_27, ql_30, ql_31, ql_32, ql_40, ql_48, ql_51, ql_52, ql_57, ql_59, ql_60, ql_61, ql_62, ql_76, ql_84, ql_91, ql_97, ql_99, ql_100, ql_120, ql_122, ql_127, ql_128, ql_200, ql_255, ql_256, ql_300, ql_420, ql_428, ql_640, ql_900, ql_896, ql_999, ql_1712, ql_1716, ql_1734, ql_1772, ql_1800, ql_1805, ql_1811, ql_1822, ql_2132, ql_2140, ql_3229, ql_9999, ql_11453, ql_65536, ql_100000, ql_1000000, nI_add, pk_mul, q_and, q_or, q_xor, nI_clamp, q_in, q_neg1, q_nno, q_nno', q_annN, q_sh1, q_tbN, nI_leI, nI_ltI, nI_eq, pk_sub, ↓reduceIte, if_pos, if_neg, q_zlt, q_bs]
theorem r_tray : s_tray q_R := by
  intro I L J K p0 p1 p2 hR
  obtain ⟨C, T, mk, h⟩ := id hR
  unfold f_X10_tray f_X11_tray
  rw [q_trX, q_trM]
  cases hb : q_hs 4 p0 with
  | false => exact q_end2 false 1 rfl rfl hR
  | true =>
    obtain ⟨i, hi, rfl⟩ := q_hs_t hb (by decide)
    rcases q_sgn p1 with z | ⟨s, hs, rfl⟩
    · refine q_end2 false 1 (I := I) (J := J) ?_ ?_ hR
      · simp (disch := omega) only [f_X10_isWithin, ql_0, ql_1, ql_2, ql_3, ql_4, ql_5, ql_6, ql_7, ql_8, ql_9, ql_10, ql_11, ql_12, ql_13, ql_14, ql_15, ql_16, ql_17, ql_18, ql_19, ql_20, ql_21, ql_22, ql_23, ql_24, ql_27, ql_30, ql_31, ql_32, ql_40, ql_48, ql_51, ql_52, ql_57, ql_59, ql_60, ql_61, ql_62, ql_76, ql_84, ql_91, ql_97, ql_99, ql_100, ql_120, ql_122, ql_127, ql_128, ql_200, ql_255, ql_256, ql_300, ql_420, ql_428, ql_640, ql_900, ql_896, ql_999, ql_1712, ql_1716, ql_1734, ql_1772, ql_1800, ql_1805, ql_1811, ql_1822, ql_2132, ql_2140, ql_3229, ql_9999, ql_11453, ql_65536, ql_100000, ql_1000000, nI_add, pk_mul, q_and, q_or, q_xor, nI_clamp, q_in, q_neg1, q_nno, q_nno', q_annN, q_sh1, q_tbN, nI_leI, nI_ltI, nI_eq, pk_sub, ↓reduceIte, if_pos, if_neg, q_zlt, q_bs, z, Bool.false_eq_true, f_X10_deny]
      · simp (disch := omega) only [ql_0, ql_1, ql_2, ql_3, ql_4, ql_5, ql_6, ql_7, ql_8, ql_9, ql_10, ql_11, ql_12, ql_13, ql_14, ql_15, ql_16, ql_17, ql_18, ql_19, ql_20, ql_21, ql_22, ql_23, ql_24, ql_27, ql_30, ql_31, ql_32, ql_40, ql_48, ql_51, ql_52, ql_57, ql_59, ql_60, ql_61, ql_62, ql_76, ql_84, ql_91, ql_97, ql_99, ql_100, ql_120, ql_122, ql_127, ql_128, ql_200, ql_255, ql_256, ql_300, ql_420, ql_428, ql_640, ql_900, ql_896, ql_999, ql_1712, ql_1716, ql_1734, ql_1772, ql_1800, ql_1805, ql_1811, ql_1822, ql_2132, ql_2140, ql_3229, ql_9999, ql_11453, ql_65536, ql_100000, ql_1000000, nI_add, pk_mul, q_and, q_or, q_xor, nI_clamp, q_in, q_neg1, q_nno, q_nno', q_annN, q_sh1, q_tbN, nI_leI, nI_ltI, nI_eq, pk_sub, ↓reduceIte, if_pos, if_neg, q_zlt, q_bs, z, f_X11_is]
    by_cases hs3 : 3 < s
    · refine q_end2 false 1 (I := I) (J := J) ?_ ?_ hR
      · simp (disch := omega) only [f_X10_isWithin, ql_0, ql_1, ql_2, ql_3, ql_4, ql_5, ql_6, ql_7, ql_8, ql_9, ql_10, ql_11, ql_12, ql_13, ql_14, ql_15, ql_16, ql_17, ql_18, ql_19, ql_20, ql_21, ql_22, ql_23, ql_24, ql_27, ql_30, ql_31, ql_32, ql_40, ql_48, ql_51, ql_52, ql_57, ql_59, ql_60, ql_61, ql_62, ql_76, ql_84, ql_91, ql_97, ql_99, ql_100, ql_120, ql_122, ql_127, ql_128, ql_200, ql_255, ql_256, ql_300, ql_420, ql_428, ql_640, ql_900, ql_896, ql_999, ql_1712, ql_1716, ql_1734, ql_1772, ql_1800, ql_1805, ql_1811, ql_1822, ql_2132, ql_2140, ql_3229, ql_9999, ql_11453, ql_65536, ql_100000, ql_1000000, nI_add, pk_mul, q_and, q_or, q_xor, nI_clamp, q_in, q_neg1, q_nno, q_nno', q_annN, q_sh1, q_tbN, nI_leI, nI_ltI, nI_eq, pk_sub, ↓reduceIte, if_pos, if_neg, q_zlt, q_bs, Bool.false_eq_true, f_X10_deny]
      · simp (disch := omega) only [ql_0, ql_1, ql_2, ql_3, ql_4, ql_5, ql_6, ql_7, ql_8, ql_9, ql_10, ql_11, ql_12, ql_13, ql_14, ql_15, ql_16, ql_17, ql_18, ql_19, ql_20, ql_21, ql_22, ql_23, ql_24, ql_27, ql_30, ql_31, ql_32, ql_40, ql_48, ql_51, ql_52, ql_57, ql_59, ql_60, ql_61, ql_62, ql_76, ql_84, ql_91, ql_97, ql_99, ql_100, ql_120, ql_122, ql_127, ql_128, ql_200, ql_255, ql_256, ql_300, ql_420, ql_428, ql_640, ql_900, ql_896, ql_999, ql_1712, ql_1716, ql_1734, ql_1772, ql_1800, ql_1805, ql_1811, ql_1822, ql_2132, ql_2140, ql_3229, ql_9999, ql_11453, ql_65536, ql_100000, ql_1000000, nI_add, pk_mul, q_and, q_or, q_xor, nI_clamp, q_in, q_neg1, q_nno, q_nno', q_annN, q_sh1, q_tbN, nI_leI, nI_ltI, nI_eq, pk_sub, ↓reduceIte, if_pos, if_neg, q_zlt, q_bs, f_X11_is]
    rcases q_sgn p2 with z | ⟨m, hm, rfl⟩
    · refine q_end2 false 1 (I := I) (J := J) ?_ ?_ hR
      · simp (disch := omega) only [f_X10_isWithin, ql_0, ql_1, ql_2, ql_3, ql_4, ql_5, ql_6, ql_7, ql_8, ql_9, ql_10, ql_11, ql_12, ql_13, ql_14, ql_15, ql_16, ql_17, ql_18, ql_19, ql_20, ql_21, ql_22, ql_23, ql_24, ql_27, ql_30, ql_31, ql_32, ql_40, ql_48, ql_51, ql_52, ql_57, ql_59, ql_60, ql_61, ql_62, ql_76, ql_84, ql_91, ql_97, ql_99, ql_100, ql_120, ql_122, ql_127, ql_128, ql_200, ql_255, ql_256, ql_300, ql_420, ql_428, ql_640, ql_900, ql_896, ql_999, ql_1712, ql_1716, ql_1734, ql_1772, ql_1800, ql_1805, ql_1811, ql_1822, ql_2132, ql_2140, ql_3229, ql_9999, ql_11453, ql_65536, ql_100000, ql_1000000, nI_add, pk_mul, q_and, q_or, q_xor, nI_clamp, q_in, q_neg1, q_nno, q_nno', q_annN, q_sh1, q_tbN, nI_leI, nI_ltI, nI_eq, pk_sub, ↓reduceIte, if_pos, if_neg, q_zlt, q_bs, z, Bool.false_eq_true, f_X10_deny]
      · simp (disch := omega) only [ql_0, ql_1, ql_2, ql_3, ql_4, ql_5, ql_6, ql_7, ql_8, ql_9, ql_10, ql_11, ql_12, ql_13, ql_14, ql_15, ql_16, ql_17, ql_18, ql_19, ql_20, ql_21, ql_22, ql_23, ql_24, ql_27, ql_30, ql_31, ql_32, ql_40, ql_48, ql_51, ql_52, ql_57, ql_59, ql_60, ql_61, ql_62, ql_76, ql_84, ql_91, ql_97, ql_99, ql_100, ql_120, ql_122, ql_127, ql_128, ql_200, ql_255, ql_256, ql_300, ql_420, ql_428, ql_640, ql_900, ql_896, ql_999, ql_1712, ql_1716, ql_1734, ql_1772, ql_1800, ql_1805, ql_1811, ql_1822, ql_2132, ql_2140, ql_3229, ql_9999, ql_11453, ql_65536, ql_100000, ql_1000000, nI_add, pk_mul, q_and, q_or, q_xor, nI_clamp, q_in, q_neg1, q_nno, q_nno', q_annN, q_sh1, q_tbN, nI_leI, nI_ltI, nI_eq, pk_sub, ↓reduceIte, if_pos, if_neg, q_zlt, q_bs, z, f_X11_is]
    by_cases hm6 : 60 < m
    · refine q_end2 false 1 (I := I) (J := J) ?_ ?_ hR
      · simp (disch := omega) only [f_X10_isWithin, ql_0, ql_1, ql_2, ql_3, ql_4, ql_5, ql_6, ql_7, ql_8, ql_9, ql_10, ql_11, ql_12, ql_13, ql_14, ql_15, ql_16, ql_17, ql_18, ql_19, ql_20, ql_21, ql_22, ql_23, ql_24, ql_27, ql_30, ql_31, ql_32, ql_40, ql_48, ql_51, ql_52, ql_57, ql_59, ql_60, ql_61, ql_62, ql_76, ql_84, ql_91, ql_97, ql_99, ql_100, ql_120, ql_122, ql_127, ql_128, ql_200, ql_255, ql_256, ql_300, ql_420, ql_428, ql_640, ql_900, ql_896, ql_999, ql_1712, ql_1716, ql_1734, ql_1772, ql_1800, ql_1805, ql_1811, ql_1822, ql_2132, ql_2140, ql_3229, ql_9999, ql_11453, ql_65536, ql_100000, ql_1000000, nI_add, pk_mul, q_and, q_or, q_xor, nI_clamp, q_in, q_neg1, q_nno, q_nno', q_annN, q_sh1, q_tbN, nI_leI, nI_ltI, nI_eq, pk_sub, ↓reduceIte, if_pos, if_neg, q_zlt, q_bs, Bool.false_eq_true, f_X10_deny]
      · simp (disch := omega) only [ql_0, ql_1, ql_2, ql_3, ql_4, ql_5, ql_6, ql_7, ql_8, ql_9, ql_10, ql_11, ql_12, ql_13, ql_14, ql_15, ql_16, ql_17, ql_18, ql_19, ql_20, ql_21, ql_22, ql_23, ql_24, ql_27, ql_30, ql_31, ql_32, ql_40, ql_48, ql_51, ql_52, ql_57, ql_59, ql_60, ql_61, ql_62, ql_76, ql_84, ql_91, ql_97, ql_99, ql_100, ql_120, ql_122, ql_127, ql_128, ql_200, ql_255, ql_256, ql_300, ql_420, ql_428, ql_640, ql_900, ql_896, ql_999, ql_1712, ql_1716, ql_1734, ql_1772, ql_1800, ql_1805, ql_1811, ql_1822, ql_2132, ql_2140, ql_3229, ql_9999, ql_11453, ql_65536, ql_100000, ql_1000000, nI_add, pk_mul, q_and, q_or, q_xor, nI_clamp, q_in, q_neg1, q_nno, q_nno', q_annN, q_sh1, q_tbN, nI_leI, nI_ltI, nI_eq, pk_sub, ↓reduceIte, if_pos, if_neg, q_zlt, q_bs, f_X11_is]
    have hS : zr K 5 (fun j => if 60 * i ≤ j ∧ j < 60 * i + 0 then (0 : Int64) else K 5 j) = K := by
      funext a j
      unfold zr
      by_cases z : a = 5
      · subst z; rw [if_pos rfl, if_neg (by omega)]
      · rw [if_neg z]
    have e5 : ∀ k j, zr K 5 (fun j => if 60 * i ≤ j ∧ j < 60 * i + k then (0 : Int64) else K 5 j) 5 j = if 60 * i ≤ j ∧ j < 60 * i + k then (0 : Int64) else K 5 j := fun k j => q_zrs
    have eM := q_lp (G := fun n k (a : z_L) => g_X11_tray_49 (nI i) (nI m) (z2 (z2 J 3 i (nI s)) 4 i (nI m)) n (nI k) a) (N := m) (k0 := 0) (r := some (true, z2 (z2 (z2 J 3 i (nI s)) 4 i (nI m)) 0 2 0, zr K 5 (fun j => if 60 * i ≤ j ∧ j < 60 * i + m then 0 else K 5 j))) (n := z_fuel) (fun k => zr K 5 (fun j => if 60 * i ≤ j ∧ j < 60 * i + k then 0 else K 5 j)) (fun n k _ hk => by
        simp (disch := omega) only [g_X11_tray_49, ql_0, ql_1, ql_2, ql_3, ql_4, ql_5, ql_6, ql_7, ql_8, ql_9, ql_10, ql_11, ql_12, ql_13, ql_14, ql_15, ql_16, ql_17, ql_18, ql_19, ql_20, ql_21, ql_22, ql_23, ql_24, ql_27, ql_30, ql_31, ql_32, ql_40, ql_48, ql_51, ql_52, ql_57, ql_59, ql_60, ql_61, ql_62, ql_76, ql_84, ql_91, ql_97, ql_99, ql_100, ql_120, ql_122, ql_127, ql_128, ql_200, ql_255, ql_256, ql_300, ql_420, ql_428, ql_640, ql_900, ql_896, ql_999, ql_1712, ql_1716, ql_1734, ql_1772, ql_1800, ql_1805, ql_1811, ql_1822, ql_2132, ql_2140, ql_3229, ql_9999, ql_11453, ql_65536, ql_100000, ql_1000000, nI_add, pk_mul, q_and, q_or, q_xor, nI_clamp, q_in, q_neg1, q_nno, q_nno', q_annN, q_sh1, q_tbN, nI_leI, nI_ltI, nI_eq, pk_sub, ↓reduceIte, if_pos, if_neg, q_zlt, q_bs]
        congr 1
        funext a j
        by_cases z : a = 5 ∧ j = 60 * i + k
        · obtain ⟨z1, z2⟩ := z
          subst z1 z2
          rw [q_zs, e5, if_pos (by omega)]
        · rw [q_zo (by omega)]
          by_cases z1 : a = 5
          · subst z1
            rw [e5, e5]
            by_cases z3 : 60 * i ≤ j ∧ j < 60 * i + k
            · rw [if_pos z3, if_pos (by omega)]
            · rw [if_neg z3, if_neg (by omega)]
          · rw [q_zro z1, q_zro z1]) (fun n => by simp (disch := omega) only [g_X11_tray_49, ql_0, ql_1, ql_2, ql_3, ql_4, ql_5, ql_6, ql_7, ql_8, ql_9, ql_10, ql_11, ql_12, ql_13, ql_14, ql_15, ql_16, ql_17, ql_18, ql_19, ql_20, ql_21, ql_22, ql_23, ql_24, ql_27, ql_30, ql_31, ql_32, ql_40, ql_48, ql_51, ql_52, ql_57, ql_59, ql_60, ql_61, ql_62, ql_76, ql_84, ql_91, ql_97, ql_99, ql_100, ql_120, ql_122, ql_127, ql_128, ql_200, ql_255, ql_256, ql_300, ql_420, ql_428, ql_640, ql_900, ql_896, ql_999, ql_1712, ql_1716, ql_1734, ql_1772, ql_1800, ql_1805, ql_1811, ql_1822, ql_2132, ql_2140, ql_3229, ql_9999, ql_11453, ql_65536, ql_100000, ql_1000000, nI_add, pk_mul, q_and, q_or, q_xor, nI_clamp, q_in, q_neg1, q_nno, q_nno', q_annN, q_sh1, q_tbN, nI_leI, nI_ltI, nI_eq, pk_sub, ↓reduceIte, if_pos, if_neg, q_zlt, q_bs, f_X11_is]) (Nat.zero_le _) (q_fu (by omega))
    rw [hS] at eM
    have hq := h.ty hi (I' := z2 (z2 (z2 I (55 + 2 * i) 1 (zb true)) (55 + 2 * i) 2 (nI s)) (55 + 2 * i) 3 (nI m)) (L' := zr L (56 + 2 * i) (fun j => if j < 60 then 0 else L (56 + 2 * i) j)) (J' := z2 (z2 J 3 i (nI s)) 4 i (nI m)) (K' := zr K 5 (fun j => if 60 * i ≤ j ∧ j < 60 * i + m then 0 else K 5 j)) (Or.inr ⟨by rw [q_zo (by omega), q_zo (by omega), q_zs]; rfl, m, s, by omega, by omega, by rw [q_zs], by rw [q_zs], by rw [q_zo (by omega), q_zs], by rw [q_zo (by omega), q_zs], fun k hk => by rw [q_zrs, if_pos (by omega), e5, if_pos (by omega)]⟩) (fun d k z => by rw [q_zo (by omega), q_zo (by omega), q_zo (by omega)]) (fun d k z => q_zro z) (fun d k z => by rw [q_zo (by omega), q_zo (by omega)]) (fun d k z => by
      by_cases z5 : d = 5
      · subst z5; rw [e5, if_neg (by omega)]
      · exact q_zro z5)
    refine q_end2 true 0 ?_ ?_ hq.r
    · simp (disch := omega) only [f_X10_isWithin, ql_0, ql_1, ql_2, ql_3, ql_4, ql_5, ql_6, ql_7, ql_8, ql_9, ql_10, ql_11, ql_12, ql_13, ql_14, ql_15, ql_16, ql_17, ql_18, ql_19, ql_20, ql_21, ql_22, ql_23, ql_24, ql_27, ql_30, ql_31, ql_32, ql_40, ql_48, ql_51, ql_52, ql_57, ql_59, ql_60, ql_61, ql_62, ql_76, ql_84, ql_91, ql_97, ql_99, ql_100, ql_120, ql_122, ql_127, ql_128, ql_200, ql_255, ql_256, ql_300, ql_420, ql_428, ql_640, ql_900, ql_896, ql_999, ql_1712, ql_1716, ql_1734, ql_1772, ql_1800, ql_1805, ql_1811, ql_1822, ql_2132, ql_2140, ql_3229, ql_9999, ql_11453, ql_65536, ql_100000, ql_1000000, nI_add, pk_mul, q_and, q_or, q_xor, nI_clamp, q_in, q_neg1, q_nno, q_nno', q_annN, q_sh1, q_tbN, nI_leI, nI_ltI, nI_eq, pk_sub, ↓reduceIte, if_pos, if_neg, q_zlt, q_bs, q_gd, f_X8_lay, f_X10_grant]
      rw [show 55 + 2 * i + 1 = 56 + 2 * i by omega, ← ql_0, q_fill (by omega)]
      rfl
    · simp (disch := omega) only [↓reduceIte, q_in, nI_clamp, q_zlt, ql_0, ql_3, ql_60, nI_ltI, nI_leI, if_neg, if_pos]
      exact eM
