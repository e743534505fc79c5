/-! both walks side by side -/
theorem q_lr.tick {T : q_N} {c : Nat} {I0 : z_I} {L : z_L} {J0 : z_I} {K : z_L} {C : q_N} {dn : Nat} {ms : Int32} {I J : z_I} (h : q_lr T c I0 L J0 K C dn ms I J) (hc : c = 3 ∨ c = 22) : q_lr T c I0 L J0 K C (dn + 1) ms (z2 I 45 2 (nI (dn + 1))) (z2 J 0 40 (nI (dn + 1))) := by
  obtain ⟨⟨h1, h2, h3, h4⟩, ⟨h5, s, h6, h6', h6''⟩, ⟨h7, h7', h7'', h7'''⟩, ⟨h8, h9, h10, h11⟩, h12, h13⟩ := h
  refine ⟨⟨h1.go (fun d k a b => q_zo (by omega)) (fun _ _ _ _ => rfl), h2.go h3 (fun j a b => q_zo (by omega)) (fun _ _ _ => rfl), h3, h4⟩, ⟨by rw [q_zo (by omega), h5], s, h6, by rw [q_zo (by omega), h6'], by rw [q_zo (by omega), h6'']⟩, ⟨by rw [q_zo (by omega), q_zo (by omega), h7], by rw [q_zo (by omega), q_zo (by omega), h7'], by rw [q_zo (by omega), q_zo (by omega), h7''], by rw [q_zo (by omega), q_zo (by omega), h7''']⟩, ⟨q_zs, q_zs, by rw [q_zo (by omega), h10], by rw [q_zo (by omega), h11]⟩, fun d k d1 d2 d3 => ?_, fun d k d1 d2 d3 d4 => ?_⟩
  · rw [q_zo (by omega)]; exact h12 d k d1 d2 d3
  · rw [q_zo (by omega)]; exact h13 d k d1 d2 d3 d4
theorem q_lr.miss {T : q_N} {c : Nat} {I0 : z_I} {L : z_L} {J0 : z_I} {K : z_L} {C : q_N} {dn : Nat} {ms a : Int32} {I J : z_I} (h : q_lr T c I0 L J0 K C dn ms I J) (ha : J 21 0 = a) : q_lr T c I0 L J0 K C dn (nI 0) I (z2 J 21 0 (a + ms)) := by
  obtain ⟨⟨h1, h2, h3, h4⟩, ⟨h5, s, h6, h6', h6''⟩, ⟨h7, h7', h7'', h7'''⟩, ⟨h8, h9, h10, h11⟩, h12, h13⟩ := h
  refine ⟨⟨h1, h2.go h3 (fun j a b => q_zo (by omega)) (fun _ _ _ => rfl), h3, h4⟩, ⟨h5, s, h6, h6', by rw [q_zo (by omega), h6'']⟩, ⟨by rw [q_zs, q_a0, h7, ha], by rw [q_zo (by omega), h7'], by rw [q_zo (by omega), h7''], by rw [q_zo (by omega), h7''']⟩, ⟨h8, by rw [q_zo (by omega), h9], h10, by rw [q_zo (by omega), h11]⟩, h12, fun d k d1 d2 d3 d4 => ?_⟩
  rw [q_zo (by omega)]; exact h13 d k d1 d2 d3 d4
/-- the counters of loops are free -/
theorem q_lr.lp {T : q_N} {c : Nat} {I0 : z_I} {L : z_L} {J0 : z_I} {K : z_L} {C : q_N} {dn : Nat} {ms : Int32} {I J I' J' : z_I} (h : q_lr T c I0 L J0 K C dn ms I J) (hc : c = 3 ∨ c = 22) (fI : ∀ d k, d ≠ 47 → I' d k = I d k) (fJ : ∀ d k, d ≠ 20 → J' d k = J d k) : q_lr T c I0 L J0 K C dn ms I' J' := by
  obtain ⟨⟨h1, h2, h3, h4⟩, ⟨h5, s, h6, h6', h6''⟩, ⟨h7, h7', h7'', h7'''⟩, ⟨h8, h9, h10, h11⟩, h12, h13⟩ := h
  refine ⟨⟨h1.go (fun d k a b => fI d k (by omega)) (fun _ _ _ _ => rfl), h2.go h3 (fun j a b => fJ 1 _ (by omega)) (fun _ _ _ => rfl), h3, h4⟩, ⟨by rw [fI _ _ (by omega), h5], s, h6, by rw [fI _ _ (by omega), h6'], by rw [fJ _ _ (by omega), h6'']⟩, ⟨by rw [fI _ _ (by omega), fJ _ _ (by omega), h7], by rw [fI _ _ (by omega), fJ _ _ (by omega), h7'], by rw [fI _ _ (by omega), fJ _ _ (by omega), h7''], by rw [fI _ _ (by omega), fJ _ _ (by omega), h7''']⟩, ⟨by rw [fI _ _ (by omega), h8], by rw [fJ _ _ (by omega), h9], by rw [fI _ _ (by omega), h10], by rw [fJ _ _ (by omega), h11]⟩, fun d k d1 d2 d3 => ?_, fun d k d1 d2 d3 d4 => ?_⟩
  · rw [fI d k d3]; exact h12 d k d1 d2 d3
  · rw [fJ d k d2]; exact h13 d k d1 d2 d3 d4
theorem x4_it {T : q_N} {e e' v f p0 dn k : Nat} {I I1 I2 : z_I} (he : e < T 0 1) (h60 : T 0 1 ≤ 60) (hv : v ≤ 40000) (i6 : I 14 6 = nI (T 0 1)) (i15 : I 15 e = nI k) (hk : k < 100) (h21 : k ≠ 21) (i2 : I 45 2 = nI dn) (hd : dn < 300) (ha : f_X4_act (z2 I 45 2 (nI (dn + 1))) (nI e) = some I1) (hs : f_X4_behindStep I1 (nI e) = some (nI e', I2)) : g_X4_pass_45 p0 (f + 1) (nI e) (nI v) I = g_X4_pass_45 p0 f (nI e') (nI (v + 1)) I2 := by
  simp (disch := omega) only [g_X4_pass_45, ql_0, ql_1, ql_2, ql_3, ql_4, ql_5, ql_6, ql_7, ql_8, ql_9, ql_10, ql_11, ql_12, ql_13, ql_14, ql_15, ql_16, ql_17, ql_18, ql_19, ql_20, ql_21, ql_22, ql_23, ql_24, ql_27, ql_30, ql_31, ql_32, ql_40, ql_48, ql_51, ql_52, ql_57, ql_59, ql_60, ql_61, ql_62, ql_76, ql_84, ql_91, ql_97, ql_99, ql_100, ql_120, ql_122, ql_127, ql_128, ql_200, ql_255, ql_256, ql_300, ql_420, ql_428, ql_640, ql_900, ql_896, ql_999, ql_1712, ql_1716, ql_1734, ql_1772, ql_1800, ql_1805, ql_1811, ql_1822, ql_2132, ql_2140, ql_3229, ql_9999, ql_11453, ql_65536, ql_100000, ql_1000000, nI_add, pk_mul, q_and, q_or, q_xor, nI_clamp, q_in, q_neg1, q_nno, q_nno', q_annN, q_sh1, q_tbN, nI_leI, nI_ltI, nI_eq, pk_sub, ↓reduceIte, if_pos, if_neg, q_zlt, q_bs, i6, i15, h21, i2, q_bk ha, q_bk hs]
theorem m_itA {T : q_N} {e n dn w : Nat} {b : Bool} {J J1 : z_I} (he : e < T 0 1) (h60 : T 0 1 ≤ 60) (j7 : J 1 7 = nI (T 0 1)) (j40 : J 0 40 = nI dn) (hd : dn < 300) (j0 : J 1 (60 + 6 * e) = nI w) (hw : w < 1800) (h21 : w ≠ 21) (h19 : w ≠ 19) (ha : f_X11_does (z2 J 0 40 (nI (dn + 1))) (nI (60 + 6 * e)) = some (b, J1)) (k0 : J1 1 (60 + 6 * e) = nI w) : g_X11_lives_32 (n + 1) (nI e) J = (f_X11_behindEnds (z2 J1 21 0 (J 21 0 + (if b = true then nI 0 else nI 1))) (nI (e + 1))).bind (fun q => g_X11_lives_32 n q.1 q.2) := by
  have hne : ¬ dn = 300 := by omega
  have hlt : w < 1800 := hw
  rw [g_X11_lives_32, j7, if_neg (nI_ge he (by omega)), j40, if_neg (show ¬ nI dn = 300 by rw [ql_300, nI_eq (by omega) (by omega)]; exact hne), q_zlt]
  cases b with
  | true =>
    rw [if_pos (show true = true from rfl)]
    simp (disch := omega) only [ql_0, ql_1, ql_2, ql_3, ql_4, ql_5, ql_6, ql_7, ql_8, ql_9, ql_10, ql_11, ql_12, ql_13, ql_14, ql_15, ql_16, ql_17, ql_18, ql_19, ql_20, ql_21, ql_22, ql_23, ql_24, ql_27, ql_30, ql_31, ql_32, ql_40, ql_48, ql_51, ql_52, ql_57, ql_59, ql_60, ql_61, ql_62, ql_76, ql_84, ql_91, ql_97, ql_99, ql_100, ql_120, ql_122, ql_127, ql_128, ql_200, ql_255, ql_256, ql_300, ql_420, ql_428, ql_640, ql_900, ql_896, ql_999, ql_1712, ql_1716, ql_1734, ql_1772, ql_1800, ql_1805, ql_1811, ql_1822, ql_2132, ql_2140, ql_3229, ql_9999, ql_11453, ql_65536, ql_100000, ql_1000000, nI_add, pk_mul, q_and, q_or, q_xor, nI_clamp, q_in, q_neg1, q_nno, q_nno', q_annN, q_sh1, q_tbN, nI_leI, nI_ltI, nI_eq, pk_sub, ↓reduceIte, if_pos, if_neg, q_zlt, q_bs, j0, h21, ↓q_bk ha, q_bk ha, k0, h19]
  | false =>
    rw [if_neg (show ¬ (false = true) by decide)]
    simp (disch := omega) only [ql_0, ql_1, ql_2, ql_3, ql_4, ql_5, ql_6, ql_7, ql_8, ql_9, ql_10, ql_11, ql_12, ql_13, ql_14, ql_15, ql_16, ql_17, ql_18, ql_19, ql_20, ql_21, ql_22, ql_23, ql_24, ql_27, ql_30, ql_31, ql_32, ql_40, ql_48, ql_51, ql_52, ql_57, ql_59, ql_60, ql_61, ql_62, ql_76, ql_84, ql_91, ql_97, ql_99, ql_100, ql_120, ql_122, ql_127, ql_128, ql_200, ql_255, ql_256, ql_300, ql_420, ql_428, ql_640, ql_900, ql_896, ql_999, ql_1712, ql_1716, ql_1734, ql_1772, ql_1800, ql_1805, ql_1811, ql_1822, ql_2132, ql_2140, ql_3229, ql_9999, ql_11453, ql_65536, ql_100000, ql_1000000, nI_add, pk_mul, q_and, q_or, q_xor, nI_clamp, q_in, q_neg1, q_nno, q_nno', q_annN, q_sh1, q_tbN, nI_leI, nI_ltI, nI_eq, pk_sub, ↓reduceIte, if_pos, if_neg, q_zlt, q_bs, j0, h21, ↓q_bk ha, q_bk ha, k0, h19, Bool.false_eq_true]
theorem m_itL {T : q_N} {e n dn w : Nat} {J : z_I} (he : e < T 0 1) (h60 : T 0 1 ≤ 60) (j7 : J 1 7 = nI (T 0 1)) (j40 : J 0 40 = nI dn) (hd : dn < 300) (j0 : J 1 (60 + 6 * e) = nI 19) (j1 : J 1 (60 + 6 * e + 1) = nI w) (hw : 1 ≤ w ∧ w ≤ 99) (ha : f_X11_does (z2 J 0 40 (nI (dn + 1))) (nI (60 + 6 * e)) = some (true, z2 J 0 40 (nI (dn + 1)))) : g_X11_lives_32 (n + 1) (nI e) J = (f_X11_behindEnds (z2 (z2 (z2 J 0 40 (nI (dn + 1))) 21 0 (J 21 0 + nI 0)) 20 e (nI (w - 1))) (nI (e + 1))).bind (fun q => g_X11_lives_32 n q.1 q.2) := by
  have hne : ¬ dn = 300 := by omega
  have k0 : z2 J 0 40 (nI (dn + 1)) 1 (60 + 6 * e) = nI 19 := by rw [q_zo (by omega), j0]
  have k1 : z2 J 0 40 (nI (dn + 1)) 1 (60 + 6 * e + 1) = nI w := by rw [q_zo (by omega), j1]
  rw [g_X11_lives_32, j7, if_neg (nI_ge he (by omega)), j40, if_neg (show ¬ nI dn = 300 by rw [ql_300, nI_eq (by omega) (by omega)]; exact hne), q_zlt]
  simp (disch := omega) only [ql_0, ql_1, ql_2, ql_3, ql_4, ql_5, ql_6, ql_7, ql_8, ql_9, ql_10, ql_11, ql_12, ql_13, ql_14, ql_15, ql_16, ql_17, ql_18, ql_19, ql_20, ql_21, ql_22, ql_23, ql_24, ql_27, ql_30, ql_31, ql_32, ql_40, ql_48, ql_51, ql_52, ql_57, ql_59, ql_60, ql_61, ql_62, ql_76, ql_84, ql_91, ql_97, ql_99, ql_100, ql_120, ql_122, ql_127, ql_128, ql_200, ql_255, ql_256, ql_300, ql_420, ql_428, ql_640, ql_900, ql_896, ql_999, ql_1712, ql_1716, ql_1734, ql_1772, ql_1800, ql_1805, ql_1811, ql_1822, ql_2132, ql_2140, ql_3229, ql_9999, ql_11453, ql_65536, ql_100000, ql_1000000, nI_add, pk_mul, q_and, q_or, q_xor, nI_clamp, q_in, q_neg1, q_nno, q_nno', q_annN, q_sh1, q_tbN, nI_leI, nI_ltI, nI_eq, pk_sub, ↓reduceIte, if_pos, if_neg, q_zlt, q_bs, j0, ↓q_bk ha, q_bk ha, k0, k1]
theorem m_itW {T : q_N} {e n dn w : Nat} {b : Bool} {J : z_I} (he : e < T 0 1) (h60 : T 0 1 ≤ 60) (j7 : J 1 7 = nI (T 0 1)) (j40 : J 0 40 = nI dn) (hd : dn < 300) (j0 : J 1 (60 + 6 * e) = nI w) (hw : 1800 ≤ w ∧ w ≤ 2000) (j4 : J 1 (60 + 6 * e + 4) = nI (T 5 e)) (ha : f_X11_does (z2 J 0 40 (nI (dn + 1))) (nI (60 + 6 * e)) = some (true, z2 J 0 40 (nI (dn + 1)))) (hh : f_X11_holds (z2 (z2 J 0 40 (nI (dn + 1))) 21 0 (J 21 0 + nI 0)) (nI (60 + 6 * e)) = some b) : g_X11_lives_32 (n + 1) (nI e) J = (f_X11_behindEnds (z2 (z2 J 0 40 (nI (dn + 1))) 21 0 (J 21 0 + nI 0)) (nI (if b = true then e + 1 else T 5 e + 1))).bind (fun q => g_X11_lives_32 n q.1 q.2) := by
  have hne : ¬ dn = 300 := by omega
  have h21 : ¬ w = 21 := by omega
  have h19 : ¬ w = 19 := by omega
  have hlt : ¬ w < 1800 := by omega
  have k0 : z2 J 0 40 (nI (dn + 1)) 1 (60 + 6 * e) = nI w := by rw [q_zo (by omega), j0]
  have k4 : z2 J 0 40 (nI (dn + 1)) 1 (60 + 6 * e + 4) = nI (T 5 e) := by rw [q_zo (by omega), j4]
  rw [g_X11_lives_32, j7, if_neg (nI_ge he (by omega)), j40, if_neg (show ¬ nI dn = 300 by rw [ql_300, nI_eq (by omega) (by omega)]; exact hne), q_zlt]
  cases b with
  | true =>
    rw [if_pos (show true = true from rfl)]
    simp (disch := omega) only [ql_0, ql_1, ql_2, ql_3, ql_4, ql_5, ql_6, ql_7, ql_8, ql_9, ql_10, ql_11, ql_12, ql_13, ql_14, ql_15, ql_16, ql_17, ql_18, ql_19, ql_20, ql_21, ql_22, ql_23, ql_24, ql_27, ql_30, ql_31, ql_32, ql_40, ql_48, ql_51, ql_52, ql_57, ql_59, ql_60, ql_61, ql_62, ql_76, ql_84, ql_91, ql_97, ql_99, ql_100, ql_120, ql_122, ql_127, ql_128, ql_200, ql_255, ql_256, ql_300, ql_420, ql_428, ql_640, ql_900, ql_896, ql_999, ql_1712, ql_1716, ql_1734, ql_1772, ql_1800, ql_1805, ql_1811, ql_1822, ql_2132, ql_2140, ql_3229, ql_9999, ql_11453, ql_65536, ql_100000, ql_1000000, nI_add, pk_mul, q_and, q_or, q_xor, nI_clamp, q_in, q_neg1, q_nno, q_nno', q_annN, q_sh1, q_tbN, nI_leI, nI_ltI, nI_eq, pk_sub, ↓reduceIte, if_pos, if_neg, q_zlt, q_bs, j0, h21, ↓q_bk ha, q_bk ha, k0, h19, hlt, q_bk hh]
  | false =>
    rw [if_neg (show ¬ (false = true) by decide)]
    simp (disch := omega) only [ql_0, ql_1, ql_2, ql_3, ql_4, ql_5, ql_6, ql_7, ql_8, ql_9, ql_10, ql_11, ql_12, ql_13, ql_14, ql_15, ql_16, ql_17, ql_18, ql_19, ql_20, ql_21, ql_22, ql_23, ql_24, ql_27, ql_30, ql_31, ql_32, ql_40, ql_48, ql_51, ql_52, ql_57, ql_59, ql_60, ql_61, ql_62, ql_76, ql_84, ql_91, ql_97, ql_99, ql_100, ql_120, ql_122, ql_127, ql_128, ql_200, ql_255, ql_256, ql_300, ql_420, ql_428, ql_640, ql_900, ql_896, ql_999, ql_1712, ql_1716, ql_1734, ql_1772, ql_1800, ql_1805, ql_1811, ql_1822, ql_2132, ql_2140, ql_3229, ql_9999, ql_11453, ql_65536, ql_100000, ql_1000000, nI_add, pk_mul, q_and, q_or, q_xor, nI_clamp, q_in, q_neg1, q_nno, q_nno', q_annN, q_sh1, q_tbN, nI_leI, nI_ltI, nI_eq, pk_sub, ↓reduceIte, if_pos, if_neg, q_zlt, q_bs, j0, h21, ↓q_bk ha, q_bk ha, k0, h19, hlt, q_bk hh, k4, Bool.false_eq_true]
theorem m_itS {T : q_N} {e n dn : Nat} {J : z_I} (he : e < T 0 1) (h60 : T 0 1 ≤ 60) (j7 : J 1 7 = nI (T 0 1)) (j40 : J 0 40 = nI dn) (hd : dn < 300) (j0 : J 1 (60 + 6 * e) = nI 21) : g_X11_lives_32 (n + 1) (nI e) J = some (z2 J 0 40 (nI (dn + 1))) := by
  have hne : ¬ dn = 300 := by omega
  rw [g_X11_lives_32, j7, if_neg (nI_ge he (by omega)), j40, if_neg (show ¬ nI dn = 300 by rw [ql_300, nI_eq (by omega) (by omega)]; exact hne), q_zlt, ql_60, ql_6, pk_mul, nI_add, if_pos (q_in (by omega) (by decide)), nI_clamp (by omega), j0, if_pos (show nI 21 = 21 from rfl), ql_1, nI_add]
theorem q_kd_p {k : Nat} (h : k = 12 ∨ k = 13 ∨ k = 14 ∨ k = 15 ∨ k = 16 ∨ k = 17) : q_kd k = k := by rcases h with rfl | rfl | rfl | rfl | rfl | rfl <;> rfl
theorem q_kd_w {k : Nat} (h : k = 19 ∨ k = 2 ∨ k = 11) : 1800 ≤ q_kd k ∧ q_kd k ≤ 2000 := by rcases h with rfl | rfl | rfl <;> decide
theorem q_sim {T : q_N} {c : Nat} {I0 : z_I} {L : z_L} {J0 : z_I} {K : z_L} (hc : c = 3 ∨ c = 22) (hT : q_tx T 14 I0) (hM : J0 1 7 = nI (T 0 1)) (hE : ∀ e, e < T 0 1 → q_te T e (60 + 6 * e) J0) (p0 : Nat) : ∀ (N : Nat) (C : q_N) (dn e v f bn ln : Nat) (x : Nat → Nat) (I J : z_I), q_lr T c I0 L J0 K C dn (nI 0) I J → e ≤ T 0 1 → dn ≤ 300 → q_li T x e I J → q_ph T x e + 100 * (300 - dn) ≤ N → v + N ≤ 40000 → N + 1 < f → N < bn → 300 - dn < ln → ∃ I' J' C', g_X4_pass_45 p0 f (nI e) (nI v) I = some I' ∧ (g_X11_behindEnds_2 bn (nI e) J).bind (fun q => g_X11_lives_32 ln q.1 q.2) = some J' ∧ q_lz T c I0 L J0 K C' I' J' := by
  intro N
  induction N using Nat.strongRecOn with
  | ind N ih =>
    intro C dn e v f bn ln x I J h he hdn hli hN hv hf hbn hln
    obtain ⟨i6, j7, tt⟩ := h.t hc hT hM hE
    obtain ⟨-, -, h60, -, tk5, tk6, tk7, -⟩ := id h.1.2.2.2
    have tk := h.1.2.2.2
    obtain ⟨f, rfl⟩ : ∃ g, f = g + 1 := ⟨f - 1, by omega⟩
    obtain ⟨bn, rfl⟩ : ∃ g, bn = g + 1 := ⟨bn - 1, by omega⟩
    obtain ⟨ln, rfl⟩ : ∃ g, ln = g + 1 := ⟨ln - 1, by omega⟩
    by_cases hend : e = T 0 1
    · subst hend
      refine ⟨I, J, C, ?_, ?_, h.z⟩
      · simp (disch := omega) only [g_X4_pass_45, ql_0, ql_1, ql_2, ql_3, ql_4, ql_5, ql_6, ql_7, ql_8, ql_9, ql_10, ql_11, ql_12, ql_13, ql_14, ql_15, ql_16, ql_17, ql_18, ql_19, ql_20, ql_21, ql_22, ql_23, ql_24, ql_27, ql_30, ql_31, ql_32, ql_40, ql_48, ql_51, ql_52, ql_57, ql_59, ql_60, ql_61, ql_62, ql_76, ql_84, ql_91, ql_97, ql_99, ql_100, ql_120, ql_122, ql_127, ql_128, ql_200, ql_255, ql_256, ql_300, ql_420, ql_428, ql_640, ql_900, ql_896, ql_999, ql_1712, ql_1716, ql_1734, ql_1772, ql_1800, ql_1805, ql_1811, ql_1822, ql_2132, ql_2140, ql_3229, ql_9999, ql_11453, ql_65536, ql_100000, ql_1000000, nI_add, pk_mul, q_and, q_or, q_xor, nI_clamp, q_in, q_neg1, q_nno, q_nno', q_annN, q_sh1, q_tbN, nI_leI, nI_ltI, nI_eq, pk_sub, ↓reduceIte, if_pos, if_neg, q_zlt, q_bs, i6]
      · rw [m_over h60 j7, q_bs]
        simp (disch := omega) only [g_X11_lives_32, ql_0, ql_1, ql_2, ql_3, ql_4, ql_5, ql_6, ql_7, ql_8, ql_9, ql_10, ql_11, ql_12, ql_13, ql_14, ql_15, ql_16, ql_17, ql_18, ql_19, ql_20, ql_21, ql_22, ql_23, ql_24, ql_27, ql_30, ql_31, ql_32, ql_40, ql_48, ql_51, ql_52, ql_57, ql_59, ql_60, ql_61, ql_62, ql_76, ql_84, ql_91, ql_97, ql_99, ql_100, ql_120, ql_122, ql_127, ql_128, ql_200, ql_255, ql_256, ql_300, ql_420, ql_428, ql_640, ql_900, ql_896, ql_999, ql_1712, ql_1716, ql_1734, ql_1772, ql_1800, ql_1805, ql_1811, ql_1822, ql_2132, ql_2140, ql_3229, ql_9999, ql_11453, ql_65536, ql_100000, ql_1000000, nI_add, pk_mul, q_and, q_or, q_xor, nI_clamp, q_in, q_neg1, q_nno, q_nno', q_annN, q_sh1, q_tbN, nI_leI, nI_ltI, nI_eq, pk_sub, ↓reduceIte, if_pos, if_neg, q_zlt, q_bs, j7]
    have he : e < T 0 1 := by omega
    obtain ⟨i15, -, -, i18, i19, jte⟩ := tt e he
    have kte := tk5 e he
    have j0 := jte.1
    by_cases h21 : T 1 e = 21
    · -- an end
      obtain ⟨a1, a2, a3⟩ := tk7 e he h21
      have j4 := jte.2.2.2.2.2 (Or.inr (Or.inr (Or.inr (Or.inr h21))))
      rw [h21] at i15 j0
      have j0 : J 1 (60 + 6 * e) = nI 20 := j0
      obtain ⟨b15, -, -, -, -, bte⟩ := tt (T 5 e) (by omega)
      have bj0 := bte.1
      have hkb : T 1 (T 5 e) ≤ 100 := by rcases a2 with w | w | w | w <;> omega
      have hen : q_enb T e (T 5 e) := ⟨a2, a1, by omega⟩
      have hl1 : T 1 (T 5 e) = 20 → I 47 (T 5 e) = nI (x (T 5 e) + 1) ∧ x (T 5 e) ≤ 98 := fun w => ⟨(hli _ (by omega) hen w).1, (hli _ (by omega) hen w).2.2⟩
      have hl2 : T 1 (T 5 e) = 20 → J 20 (T 5 e) = nI (x (T 5 e)) ∧ x (T 5 e) ≤ 98 := fun w => ⟨(hli _ (by omega) hen w).2.1, (hli _ (by omega) hen w).2.2⟩
      have eX := x4_end (x := x) (v := v) (f := f) (p0 := p0) he h60 (by omega) i6 i15 i19 a1 b15 hkb hl1
      obtain ⟨J1, f1, g1, eM⟩ := m_end (x := x) (f := bn) he h60 j7 j0 j4 a1 bj0 a2 hl2
      rw [eX, eM]
      by_cases zl : T 1 (T 5 e) = 20
      · rw [if_pos zl]
        by_cases zx : x (T 5 e) = 0
        · rw [if_pos zx, if_neg (show ¬ (T 1 (T 5 e) = 20 ∧ x (T 5 e) ≠ 0) from fun w => w.2 zx)]
          have hph := q_ph_e tk (x := x) (x' := x) he h21 (fun _ _ => rfl)
          refine ih (N - 1) (by omega) C dn (e + 1) (v + 1) f bn (ln + 1) x _ _ (h.lp hc (fun d k hd => q_zo (by omega)) (fun d k hd => f1 d k (by omega))) (by omega) hdn (fun b hb hen' hb20 => ?_) (by omega) (by omega) (by omega) (by omega) hln
          have hne : b ≠ T 5 e := fun y => by have := hen'.2.2; rw [y, a3] at this; omega
          have hne2 : b ≠ e := fun y => by rw [y, h21] at hb20; omega
          obtain ⟨r1, r2, r3⟩ := hli b hb (q_en2 hen' hne2) hb20
          exact ⟨by rw [q_zo (by omega), r1], by rw [f1 20 b (by omega), r2], r3⟩
        · rw [if_neg zx, if_pos (show T 1 (T 5 e) = 20 ∧ x (T 5 e) ≠ 0 from ⟨zl, zx⟩)]
          have hph := q_ph_r tk (x := x) (x' := z1 x (T 5 e) (x (T 5 e) - 1)) he h21 (fun b hb => by unfold z1; rw [if_neg hb]) (by unfold z1; rw [if_pos rfl]; omega)
          have hx98 := (hl1 zl).2
          refine ih (N - 1) (by omega) C dn (T 5 e + 1) (v + 1) f bn (ln + 1) (z1 x (T 5 e) (x (T 5 e) - 1)) _ _ (h.lp hc (fun d k hd => q_zo (by omega)) (fun d k hd => f1 d k (by omega))) (by omega) hdn (fun b hb hen' hb20 => ?_) (by omega) (by omega) (by omega) (by omega) hln
          by_cases hne : b = T 5 e
          · subst hne
            have ex : z1 x (T 5 e) (x (T 5 e) - 1) (T 5 e) = x (T 5 e) - 1 := by unfold z1; rw [if_pos rfl]
            rw [ex]
            exact ⟨by rw [q_zs, show x (T 5 e) - 1 + 1 = x (T 5 e) by omega], g1 zl, by omega⟩
          · have ex : z1 x (T 5 e) (x (T 5 e) - 1) b = x b := by unfold z1; rw [if_neg hne]
            obtain ⟨r1, r2, r3⟩ := hli b hb (q_en4 tk he h21 hb hne hen') hb20
            rw [ex]
            exact ⟨by rw [q_zo (by omega), r1], by rw [f1 20 b (by omega), r2], r3⟩
      · rw [if_neg zl, if_neg (show ¬ (T 1 (T 5 e) = 20 ∧ x (T 5 e) ≠ 0) from fun w => zl w.1)]
        have hph := q_ph_e tk (x := x) (x' := x) he h21 (fun _ _ => rfl)
        refine ih (N - 1) (by omega) C dn (e + 1) (v + 1) f bn (ln + 1) x _ _ (h.lp hc (fun d k hd => rfl) (fun d k hd => f1 d k (by omega))) (by omega) hdn (fun b hb hen' hb20 => ?_) (by omega) (by omega) (by omega) (by omega) hln
        have hne : b ≠ T 5 e := fun y => by have := hen'.2.2; rw [y, a3] at this; omega
        have hne2 : b ≠ e := fun y => by rw [y, h21] at hb20; omega
        obtain ⟨r1, r2, r3⟩ := hli b hb (q_en2 hen' hne2) hb20
        exact ⟨r1, by rw [f1 20 b (by omega), r2], r3⟩
    -- a step
    have hkd : ∃ w, w < 2000 ∧ w ≠ 20 ∧ J 1 (60 + 6 * e) = nI w := by
      rcases kte.1 with z | z | z | z | z | z | z | z | z | z | z | z
      · exact ⟨12, by omega, by omega, by rw [j0, z]; rfl⟩
      · exact ⟨13, by omega, by omega, by rw [j0, z]; rfl⟩
      · exact ⟨14, by omega, by omega, by rw [j0, z]; rfl⟩
      · exact ⟨15, by omega, by omega, by rw [j0, z]; rfl⟩
      · exact ⟨16, by omega, by omega, by rw [j0, z]; rfl⟩
      · exact ⟨17, by omega, by omega, by rw [j0, z]; rfl⟩
      · exact ⟨1822, by omega, by omega, by rw [j0, z]; rfl⟩
      · exact ⟨1805, by omega, by omega, by rw [j0, z]; rfl⟩
      · exact ⟨1811, by omega, by omega, by rw [j0, z]; rfl⟩
      · exact ⟨19, by omega, by omega, by rw [j0, z]; rfl⟩
      · exact absurd z h21
      · exact ⟨21, by omega, by omega, by rw [j0, z]; rfl⟩
    obtain ⟨w, w1, w2, jw⟩ := hkd
    rw [m_noend he h60 j7 jw w1 w2, q_bs]
    have hk100 : T 1 e < 100 := by rcases kte.1 with z | z | z | z | z | z | z | z | z | z | z | z <;> omega
    obtain ⟨-, -, -, ⟨i2, j40, i11, j214⟩, -, -⟩ := id h
    by_cases h300 : dn = 300
    · subst h300
      refine ⟨z2 I 45 11 (nI 1), z2 J 21 4 (nI 1), C, ?_, ?_, ?_⟩
      · have hzb : zb true = nI 1 := rfl
        simp (disch := omega) only [g_X4_pass_45, ql_0, ql_1, ql_2, ql_3, ql_4, ql_5, ql_6, ql_7, ql_8, ql_9, ql_10, ql_11, ql_12, ql_13, ql_14, ql_15, ql_16, ql_17, ql_18, ql_19, ql_20, ql_21, ql_22, ql_23, ql_24, ql_27, ql_30, ql_31, ql_32, ql_40, ql_48, ql_51, ql_52, ql_57, ql_59, ql_60, ql_61, ql_62, ql_76, ql_84, ql_91, ql_97, ql_99, ql_100, ql_120, ql_122, ql_127, ql_128, ql_200, ql_255, ql_256, ql_300, ql_420, ql_428, ql_640, ql_900, ql_896, ql_999, ql_1712, ql_1716, ql_1734, ql_1772, ql_1800, ql_1805, ql_1811, ql_1822, ql_2132, ql_2140, ql_3229, ql_9999, ql_11453, ql_65536, ql_100000, ql_1000000, nI_add, pk_mul, q_and, q_or, q_xor, nI_clamp, q_in, q_neg1, q_nno, q_nno', q_annN, q_sh1, q_tbN, nI_leI, nI_ltI, nI_eq, pk_sub, ↓reduceIte, if_pos, if_neg, q_zlt, q_bs, i6, i15, h21, i2, hzb]
      · simp (disch := omega) only [g_X11_lives_32, ql_0, ql_1, ql_2, ql_3, ql_4, ql_5, ql_6, ql_7, ql_8, ql_9, ql_10, ql_11, ql_12, ql_13, ql_14, ql_15, ql_16, ql_17, ql_18, ql_19, ql_20, ql_21, ql_22, ql_23, ql_24, ql_27, ql_30, ql_31, ql_32, ql_40, ql_48, ql_51, ql_52, ql_57, ql_59, ql_60, ql_61, ql_62, ql_76, ql_84, ql_91, ql_97, ql_99, ql_100, ql_120, ql_122, ql_127, ql_128, ql_200, ql_255, ql_256, ql_300, ql_420, ql_428, ql_640, ql_900, ql_896, ql_999, ql_1712, ql_1716, ql_1734, ql_1772, ql_1800, ql_1805, ql_1811, ql_1822, ql_2132, ql_2140, ql_3229, ql_9999, ql_11453, ql_65536, ql_100000, ql_1000000, nI_add, pk_mul, q_and, q_or, q_xor, nI_clamp, q_in, q_neg1, q_nno, q_nno', q_annN, q_sh1, q_tbN, nI_leI, nI_ltI, nI_eq, pk_sub, ↓reduceIte, if_pos, if_neg, q_zlt, q_bs, j7, j40]
      · obtain ⟨⟨h1, h2, h3, h4⟩, ⟨h5, -⟩, ⟨g7, g8, g9, g10⟩, -, h12, h13⟩ := h
        refine ⟨⟨h1.go (fun d k a b => q_zo (by omega)) (fun _ _ _ _ => rfl), h2.go h3 (fun j a b => q_zo (by omega)) (fun _ _ _ => rfl), h3, h4⟩, ⟨by rw [q_zo (by omega), q_zo (by omega), g7, q_a0], by rw [q_zo (by omega), q_zo (by omega), g8], by rw [q_zo (by omega), q_zo (by omega), g9], by rw [q_zo (by omega), q_zo (by omega), g10]⟩, by rw [q_zo (by omega), q_zo (by omega), i2, j40], Or.inr ⟨q_zs, q_zs⟩, fun d k d1 d2 d3 => ?_, fun d k d1 d2 d3 d4 => ?_⟩
        · rw [q_zo (by omega)]; exact h12 d k d1 d2 d3
        · rw [q_zo (by omega)]; exact h13 d k d1 d2 d3 d4
    have hdn3 : dn < 300 := by omega
    have hk := h.tick hc
    by_cases h22 : T 1 e = 22
    · -- stop
      rw [h22] at i15 j0
      have j0 : J 1 (60 + 6 * e) = nI 21 := j0
      refine ⟨z2 I 45 2 (nI (dn + 1)), z2 J 0 40 (nI (dn + 1)), C, ?_, m_itS he h60 j7 j40 hdn3 j0, hk.z⟩
      have i15' : z2 I 45 2 (nI (dn + 1)) 15 e = nI 22 := by rw [q_zo (by omega), i15]
      have i6' : z2 I 45 2 (nI (dn + 1)) 14 6 = nI (T 0 1) := by rw [q_zo (by omega), i6]
      have ha : f_X4_act (z2 I 45 2 (nI (dn + 1))) (nI e) = some (z2 I 45 2 (nI (dn + 1))) := by
        simp (disch := omega) only [f_X4_act, ql_0, ql_1, ql_2, ql_3, ql_4, ql_5, ql_6, ql_7, ql_8, ql_9, ql_10, ql_11, ql_12, ql_13, ql_14, ql_15, ql_16, ql_17, ql_18, ql_19, ql_20, ql_21, ql_22, ql_23, ql_24, ql_27, ql_30, ql_31, ql_32, ql_40, ql_48, ql_51, ql_52, ql_57, ql_59, ql_60, ql_61, ql_62, ql_76, ql_84, ql_91, ql_97, ql_99, ql_100, ql_120, ql_122, ql_127, ql_128, ql_200, ql_255, ql_256, ql_300, ql_420, ql_428, ql_640, ql_900, ql_896, ql_999, ql_1712, ql_1716, ql_1734, ql_1772, ql_1800, ql_1805, ql_1811, ql_1822, ql_2132, ql_2140, ql_3229, ql_9999, ql_11453, ql_65536, ql_100000, ql_1000000, nI_add, pk_mul, q_and, q_or, q_xor, nI_clamp, q_in, q_neg1, q_nno, q_nno', q_annN, q_sh1, q_tbN, nI_leI, nI_ltI, nI_eq, pk_sub, ↓reduceIte, if_pos, if_neg, q_zlt, q_bs, i15']
      have hs : f_X4_behindStep (z2 I 45 2 (nI (dn + 1))) (nI e) = some (nI (T 0 1), z2 I 45 2 (nI (dn + 1))) := by
        simp (disch := omega) only [f_X4_behindStep, ql_0, ql_1, ql_2, ql_3, ql_4, ql_5, ql_6, ql_7, ql_8, ql_9, ql_10, ql_11, ql_12, ql_13, ql_14, ql_15, ql_16, ql_17, ql_18, ql_19, ql_20, ql_21, ql_22, ql_23, ql_24, ql_27, ql_30, ql_31, ql_32, ql_40, ql_48, ql_51, ql_52, ql_57, ql_59, ql_60, ql_61, ql_62, ql_76, ql_84, ql_91, ql_97, ql_99, ql_100, ql_120, ql_122, ql_127, ql_128, ql_200, ql_255, ql_256, ql_300, ql_420, ql_428, ql_640, ql_900, ql_896, ql_999, ql_1712, ql_1716, ql_1734, ql_1772, ql_1800, ql_1805, ql_1811, ql_1822, ql_2132, ql_2140, ql_3229, ql_9999, ql_11453, ql_65536, ql_100000, ql_1000000, nI_add, pk_mul, q_and, q_or, q_xor, nI_clamp, q_in, q_neg1, q_nno, q_nno', q_annN, q_sh1, q_tbN, nI_leI, nI_ltI, nI_eq, pk_sub, ↓reduceIte, if_pos, if_neg, q_zlt, q_bs, i15', i6']
      rw [x4_it he h60 (by omega) i6 i15 (by omega) (by omega) i2 hdn3 ha hs]
      obtain ⟨f, rfl⟩ : ∃ g, f = g + 1 := ⟨f - 1, by omega⟩
      simp (disch := omega) only [g_X4_pass_45, ql_0, ql_1, ql_2, ql_3, ql_4, ql_5, ql_6, ql_7, ql_8, ql_9, ql_10, ql_11, ql_12, ql_13, ql_14, ql_15, ql_16, ql_17, ql_18, ql_19, ql_20, ql_21, ql_22, ql_23, ql_24, ql_27, ql_30, ql_31, ql_32, ql_40, ql_48, ql_51, ql_52, ql_57, ql_59, ql_60, ql_61, ql_62, ql_76, ql_84, ql_91, ql_97, ql_99, ql_100, ql_120, ql_122, ql_127, ql_128, ql_200, ql_255, ql_256, ql_300, ql_420, ql_428, ql_640, ql_900, ql_896, ql_999, ql_1712, ql_1716, ql_1734, ql_1772, ql_1800, ql_1805, ql_1811, ql_1822, ql_2132, ql_2140, ql_3229, ql_9999, ql_11453, ql_65536, ql_100000, ql_1000000, nI_add, pk_mul, q_and, q_or, q_xor, nI_clamp, q_in, q_neg1, q_nno, q_nno', q_annN, q_sh1, q_tbN, nI_leI, nI_ltI, nI_eq, pk_sub, ↓reduceIte, if_pos, if_neg, q_zlt, q_bs, i6']
    obtain ⟨C', I1, b, J1, p1, p2, p3, p4, p5⟩ := q_actE hk hc hT hM hE he h21 h22
    by_cases hop : q_op (T 1 e)
    · -- opens: nothing is done
      have hsame : f_X4_act (z2 I 45 2 (nI (dn + 1))) (nI e) = some (z2 I 45 2 (nI (dn + 1))) ∧ f_X11_does (z2 J 0 40 (nI (dn + 1))) (nI (60 + 6 * e)) = some (true, z2 J 0 40 (nI (dn + 1))) := by
        have i15' : z2 I 45 2 (nI (dn + 1)) 15 e = nI (T 1 e) := by rw [q_zo (by omega), i15]
        have j0' : z2 J 0 40 (nI (dn + 1)) 1 (60 + 6 * e) = nI (q_kd (T 1 e)) := by rw [q_zo (by omega), j0]
        rcases hop with z | z | z | z
        · rw [z] at i15' j0'
          have j0' : z2 J 0 40 (nI (dn + 1)) 1 (60 + 6 * e) = nI 1822 := j0'
          exact ⟨by simp (disch := omega) only [f_X4_act, ql_0, ql_1, ql_2, ql_3, ql_4, ql_5, ql_6, ql_7, ql_8, ql_9, ql_10, ql_11, ql_12, ql_13, ql_14, ql_15, ql_16, ql_17, ql_18, ql_19, ql_20, ql_21, ql_22, ql_23, ql_24, ql_27, ql_30, ql_31, ql_32, ql_40, ql_48, ql_51, ql_52, ql_57, ql_59, ql_60, ql_61, ql_62, ql_76, ql_84, ql_91, ql_97, ql_99, ql_100, ql_120, ql_122, ql_127, ql_128, ql_200, ql_255, ql_256, ql_300, ql_420, ql_428, ql_640, ql_900, ql_896, ql_999, ql_1712, ql_1716, ql_1734, ql_1772, ql_1800, ql_1805, ql_1811, ql_1822, ql_2132, ql_2140, ql_3229, ql_9999, ql_11453, ql_65536, ql_100000, ql_1000000, nI_add, pk_mul, q_and, q_or, q_xor, nI_clamp, q_in, q_neg1, q_nno, q_nno', q_annN, q_sh1, q_tbN, nI_leI, nI_ltI, nI_eq, pk_sub, ↓reduceIte, if_pos, if_neg, q_zlt, q_bs, i15'], by simp (disch := omega) only [f_X11_does, ql_0, ql_1, ql_2, ql_3, ql_4, ql_5, ql_6, ql_7, ql_8, ql_9, ql_10, ql_11, ql_12, ql_13, ql_14, ql_15, ql_16, ql_17, ql_18, ql_19, ql_20, ql_21, ql_22, ql_23, ql_24, ql_27, ql_30, ql_31, ql_32, ql_40, ql_48, ql_51, ql_52, ql_57, ql_59, ql_60, ql_61, ql_62, ql_76, ql_84, ql_91, ql_97, ql_99, ql_100, ql_120, ql_122, ql_127, ql_128, ql_200, ql_255, ql_256, ql_300, ql_420, ql_428, ql_640, ql_900, ql_896, ql_999, ql_1712, ql_1716, ql_1734, ql_1772, ql_1800, ql_1805, ql_1811, ql_1822, ql_2132, ql_2140, ql_3229, ql_9999, ql_11453, ql_65536, ql_100000, ql_1000000, nI_add, pk_mul, q_and, q_or, q_xor, nI_clamp, q_in, q_neg1, q_nno, q_nno', q_annN, q_sh1, q_tbN, nI_leI, nI_ltI, nI_eq, pk_sub, ↓reduceIte, if_pos, if_neg, q_zlt, q_bs, j0']⟩
        · rw [z] at i15' j0'
          have j0' : z2 J 0 40 (nI (dn + 1)) 1 (60 + 6 * e) = nI 1805 := j0'
          exact ⟨by simp (disch := omega) only [f_X4_act, ql_0, ql_1, ql_2, ql_3, ql_4, ql_5, ql_6, ql_7, ql_8, ql_9, ql_10, ql_11, ql_12, ql_13, ql_14, ql_15, ql_16, ql_17, ql_18, ql_19, ql_20, ql_21, ql_22, ql_23, ql_24, ql_27, ql_30, ql_31, ql_32, ql_40, ql_48, ql_51, ql_52, ql_57, ql_59, ql_60, ql_61, ql_62, ql_76, ql_84, ql_91, ql_97, ql_99, ql_100, ql_120, ql_122, ql_127, ql_128, ql_200, ql_255, ql_256, ql_300, ql_420, ql_428, ql_640, ql_900, ql_896, ql_999, ql_1712, ql_1716, ql_1734, ql_1772, ql_1800, ql_1805, ql_1811, ql_1822, ql_2132, ql_2140, ql_3229, ql_9999, ql_11453, ql_65536, ql_100000, ql_1000000, nI_add, pk_mul, q_and, q_or, q_xor, nI_clamp, q_in, q_neg1, q_nno, q_nno', q_annN, q_sh1, q_tbN, nI_leI, nI_ltI, nI_eq, pk_sub, ↓reduceIte, if_pos, if_neg, q_zlt, q_bs, i15'], by simp (disch := omega) only [f_X11_does, ql_0, ql_1, ql_2, ql_3, ql_4, ql_5, ql_6, ql_7, ql_8, ql_9, ql_10, ql_11, ql_12, ql_13, ql_14, ql_15, ql_16, ql_17, ql_18, ql_19, ql_20, ql_21, ql_22, ql_23, ql_24, ql_27, ql_30, ql_31, ql_32, ql_40, ql_48, ql_51, ql_52, ql_57, ql_59, ql_60, ql_61, ql_62, ql_76, ql_84, ql_91, ql_97, ql_99, ql_100, ql_120, ql_122, ql_127, ql_128, ql_200, ql_255, ql_256, ql_300, ql_420, ql_428, ql_640, ql_900, ql_896, ql_999, ql_1712, ql_1716, ql_1734, ql_1772, ql_1800, ql_1805, ql_1811, ql_1822, ql_2132, ql_2140, ql_3229, ql_9999, ql_11453, ql_65536, ql_100000, ql_1000000, nI_add, pk_mul, q_and, q_or, q_xor, nI_clamp, q_in, q_neg1, q_nno, q_nno', q_annN, q_sh1, q_tbN, nI_leI, nI_ltI, nI_eq, pk_sub, ↓reduceIte, if_pos, if_neg, q_zlt, q_bs, j0']⟩
        · rw [z] at i15' j0'
          have j0' : z2 J 0 40 (nI (dn + 1)) 1 (60 + 6 * e) = nI 1811 := j0'
          exact ⟨by simp (disch := omega) only [f_X4_act, ql_0, ql_1, ql_2, ql_3, ql_4, ql_5, ql_6, ql_7, ql_8, ql_9, ql_10, ql_11, ql_12, ql_13, ql_14, ql_15, ql_16, ql_17, ql_18, ql_19, ql_20, ql_21, ql_22, ql_23, ql_24, ql_27, ql_30, ql_31, ql_32, ql_40, ql_48, ql_51, ql_52, ql_57, ql_59, ql_60, ql_61, ql_62, ql_76, ql_84, ql_91, ql_97, ql_99, ql_100, ql_120, ql_122, ql_127, ql_128, ql_200, ql_255, ql_256, ql_300, ql_420, ql_428, ql_640, ql_900, ql_896, ql_999, ql_1712, ql_1716, ql_1734, ql_1772, ql_1800, ql_1805, ql_1811, ql_1822, ql_2132, ql_2140, ql_3229, ql_9999, ql_11453, ql_65536, ql_100000, ql_1000000, nI_add, pk_mul, q_and, q_or, q_xor, nI_clamp, q_in, q_neg1, q_nno, q_nno', q_annN, q_sh1, q_tbN, nI_leI, nI_ltI, nI_eq, pk_sub, ↓reduceIte, if_pos, if_neg, q_zlt, q_bs, i15'], by simp (disch := omega) only [f_X11_does, ql_0, ql_1, ql_2, ql_3, ql_4, ql_5, ql_6, ql_7, ql_8, ql_9, ql_10, ql_11, ql_12, ql_13, ql_14, ql_15, ql_16, ql_17, ql_18, ql_19, ql_20, ql_21, ql_22, ql_23, ql_24, ql_27, ql_30, ql_31, ql_32, ql_40, ql_48, ql_51, ql_52, ql_57, ql_59, ql_60, ql_61, ql_62, ql_76, ql_84, ql_91, ql_97, ql_99, ql_100, ql_120, ql_122, ql_127, ql_128, ql_200, ql_255, ql_256, ql_300, ql_420, ql_428, ql_640, ql_900, ql_896, ql_999, ql_1712, ql_1716, ql_1734, ql_1772, ql_1800, ql_1805, ql_1811, ql_1822, ql_2132, ql_2140, ql_3229, ql_9999, ql_11453, ql_65536, ql_100000, ql_1000000, nI_add, pk_mul, q_and, q_or, q_xor, nI_clamp, q_in, q_neg1, q_nno, q_nno', q_annN, q_sh1, q_tbN, nI_leI, nI_ltI, nI_eq, pk_sub, ↓reduceIte, if_pos, if_neg, q_zlt, q_bs, j0']⟩
        · rw [z] at i15' j0'
          have j0' : z2 J 0 40 (nI (dn + 1)) 1 (60 + 6 * e) = nI 19 := j0'
          exact ⟨by simp (disch := omega) only [f_X4_act, ql_0, ql_1, ql_2, ql_3, ql_4, ql_5, ql_6, ql_7, ql_8, ql_9, ql_10, ql_11, ql_12, ql_13, ql_14, ql_15, ql_16, ql_17, ql_18, ql_19, ql_20, ql_21, ql_22, ql_23, ql_24, ql_27, ql_30, ql_31, ql_32, ql_40, ql_48, ql_51, ql_52, ql_57, ql_59, ql_60, ql_61, ql_62, ql_76, ql_84, ql_91, ql_97, ql_99, ql_100, ql_120, ql_122, ql_127, ql_128, ql_200, ql_255, ql_256, ql_300, ql_420, ql_428, ql_640, ql_900, ql_896, ql_999, ql_1712, ql_1716, ql_1734, ql_1772, ql_1800, ql_1805, ql_1811, ql_1822, ql_2132, ql_2140, ql_3229, ql_9999, ql_11453, ql_65536, ql_100000, ql_1000000, nI_add, pk_mul, q_and, q_or, q_xor, nI_clamp, q_in, q_neg1, q_nno, q_nno', q_annN, q_sh1, q_tbN, nI_leI, nI_ltI, nI_eq, pk_sub, ↓reduceIte, if_pos, if_neg, q_zlt, q_bs, i15'], by simp (disch := omega) only [f_X11_does, ql_0, ql_1, ql_2, ql_3, ql_4, ql_5, ql_6, ql_7, ql_8, ql_9, ql_10, ql_11, ql_12, ql_13, ql_14, ql_15, ql_16, ql_17, ql_18, ql_19, ql_20, ql_21, ql_22, ql_23, ql_24, ql_27, ql_30, ql_31, ql_32, ql_40, ql_48, ql_51, ql_52, ql_57, ql_59, ql_60, ql_61, ql_62, ql_76, ql_84, ql_91, ql_97, ql_99, ql_100, ql_120, ql_122, ql_127, ql_128, ql_200, ql_255, ql_256, ql_300, ql_420, ql_428, ql_640, ql_900, ql_896, ql_999, ql_1712, ql_1716, ql_1734, ql_1772, ql_1800, ql_1805, ql_1811, ql_1822, ql_2132, ql_2140, ql_3229, ql_9999, ql_11453, ql_65536, ql_100000, ql_1000000, nI_add, pk_mul, q_and, q_or, q_xor, nI_clamp, q_in, q_neg1, q_nno, q_nno', q_annN, q_sh1, q_tbN, nI_leI, nI_ltI, nI_eq, pk_sub, ↓reduceIte, if_pos, if_neg, q_zlt, q_bs, j0']⟩
      obtain ⟨sa, sd⟩ := hsame
      have hms := hk.miss (a := J 21 0) (by rw [q_zo (by omega)])
      by_cases zl : T 1 e = 20
      · -- loop
        have j1n := jte.2.2.1 (Or.inr zl)
        have k6 := kte.2.2.2.2.2.2.1 zl
        rw [zl] at i15 j0
        have j0 : J 1 (60 + 6 * e) = nI 19 := j0
        have i15' : z2 I 45 2 (nI (dn + 1)) 15 e = nI 20 := by rw [q_zo (by omega), i15]
        have i18' : z2 I 45 2 (nI (dn + 1)) 18 e = nI (T 4 e) := by rw [q_zo (by omega), i18]
        have hs : f_X4_behindStep (z2 I 45 2 (nI (dn + 1))) (nI e) = some (nI (e + 1), z2 (z2 I 45 2 (nI (dn + 1))) 47 e (nI (T 4 e))) := by
          simp (disch := omega) only [f_X4_behindStep, ql_0, ql_1, ql_2, ql_3, ql_4, ql_5, ql_6, ql_7, ql_8, ql_9, ql_10, ql_11, ql_12, ql_13, ql_14, ql_15, ql_16, ql_17, ql_18, ql_19, ql_20, ql_21, ql_22, ql_23, ql_24, ql_27, ql_30, ql_31, ql_32, ql_40, ql_48, ql_51, ql_52, ql_57, ql_59, ql_60, ql_61, ql_62, ql_76, ql_84, ql_91, ql_97, ql_99, ql_100, ql_120, ql_122, ql_127, ql_128, ql_200, ql_255, ql_256, ql_300, ql_420, ql_428, ql_640, ql_900, ql_896, ql_999, ql_1712, ql_1716, ql_1734, ql_1772, ql_1800, ql_1805, ql_1811, ql_1822, ql_2132, ql_2140, ql_3229, ql_9999, ql_11453, ql_65536, ql_100000, ql_1000000, nI_add, pk_mul, q_and, q_or, q_xor, nI_clamp, q_in, q_neg1, q_nno, q_nno', q_annN, q_sh1, q_tbN, nI_leI, nI_ltI, nI_eq, pk_sub, ↓reduceIte, if_pos, if_neg, q_zlt, q_bs, i15', i18']
        have hph := q_ph_o tk (x := x) (e := e) (n := T 4 e - 1) he (by omega)
        rw [x4_it he h60 (by omega) i6 i15 (by omega) (by omega) i2 hdn3 sa hs, m_itL he h60 j7 j40 hdn3 j0 j1n k6 sd]
        refine ih (N - 1) (by omega) C (dn + 1) (e + 1) (v + 1) f z_fuel ln (z1 x e (T 4 e - 1)) _ _ (hms.lp hc (fun d k hd => q_zo (by omega)) (fun d k hd => q_zo (by omega))) (by omega) (by omega) (fun b hb hen' hb20 => ?_) (by omega) (by omega) (by omega) (by unfold z_fuel; omega) (by omega)
        by_cases hne : b = e
        · subst hne
          have ex : z1 x b (T 4 b - 1) b = T 4 b - 1 := by unfold z1; rw [if_pos rfl]
          rw [ex]
          exact ⟨by rw [q_zs, show T 4 b - 1 + 1 = T 4 b by omega], q_zs, by omega⟩
        · have ex : z1 x e (T 4 e - 1) b = x b := by unfold z1; rw [if_neg hne]
          obtain ⟨r1, r2, r3⟩ := hli b hb (q_en2 hen' hne) hb20
          rw [ex]
          exact ⟨by rw [q_zo (by omega), q_zo (by omega), r1], by rw [q_zo (by omega), q_zo (by omega), q_zo (by omega), r2], r3⟩
      · -- when
        have hwk : T 1 e = 19 ∨ T 1 e = 2 ∨ T 1 e = 11 := by rcases hop with z | z | z | z <;> omega
        have j4 := jte.2.2.2.2.2 (by rcases hwk with z | z | z; exact Or.inl z; exact Or.inr (Or.inl z); exact Or.inr (Or.inr (Or.inl z)))
        obtain ⟨a1, a2, a3, a4⟩ := tk6 e he hop
        obtain ⟨hb, hh1, hh2⟩ := q_hold hms hc hT hM hE he hwk
        have i15' : z2 I 45 2 (nI (dn + 1)) 15 e = nI (T 1 e) := by rw [q_zo (by omega), i15]
        have i19' : z2 I 45 2 (nI (dn + 1)) 19 e = nI (T 5 e) := by rw [q_zo (by omega), i19]
        have hs : f_X4_behindStep (z2 I 45 2 (nI (dn + 1))) (nI e) = some (nI (if hb = true then e + 1 else T 5 e + 1), z2 I 45 2 (nI (dn + 1))) := by
          cases hb with
          | true =>
            rw [if_pos rfl]
            rcases hwk with z | z | z
            · rw [z] at i15'; simp (disch := omega) only [f_X4_behindStep, ql_0, ql_1, ql_2, ql_3, ql_4, ql_5, ql_6, ql_7, ql_8, ql_9, ql_10, ql_11, ql_12, ql_13, ql_14, ql_15, ql_16, ql_17, ql_18, ql_19, ql_20, ql_21, ql_22, ql_23, ql_24, ql_27, ql_30, ql_31, ql_32, ql_40, ql_48, ql_51, ql_52, ql_57, ql_59, ql_60, ql_61, ql_62, ql_76, ql_84, ql_91, ql_97, ql_99, ql_100, ql_120, ql_122, ql_127, ql_128, ql_200, ql_255, ql_256, ql_300, ql_420, ql_428, ql_640, ql_900, ql_896, ql_999, ql_1712, ql_1716, ql_1734, ql_1772, ql_1800, ql_1805, ql_1811, ql_1822, ql_2132, ql_2140, ql_3229, ql_9999, ql_11453, ql_65536, ql_100000, ql_1000000, nI_add, pk_mul, q_and, q_or, q_xor, nI_clamp, q_in, q_neg1, q_nno, q_nno', q_annN, q_sh1, q_tbN, nI_leI, nI_ltI, nI_eq, pk_sub, ↓reduceIte, if_pos, if_neg, q_zlt, q_bs, i15', q_bk hh1]
            · rw [z] at i15'; simp (disch := omega) only [f_X4_behindStep, ql_0, ql_1, ql_2, ql_3, ql_4, ql_5, ql_6, ql_7, ql_8, ql_9, ql_10, ql_11, ql_12, ql_13, ql_14, ql_15, ql_16, ql_17, ql_18, ql_19, ql_20, ql_21, ql_22, ql_23, ql_24, ql_27, ql_30, ql_31, ql_32, ql_40, ql_48, ql_51, ql_52, ql_57, ql_59, ql_60, ql_61, ql_62, ql_76, ql_84, ql_91, ql_97, ql_99, ql_100, ql_120, ql_122, ql_127, ql_128, ql_200, ql_255, ql_256, ql_300, ql_420, ql_428, ql_640, ql_900, ql_896, ql_999, ql_1712, ql_1716, ql_1734, ql_1772, ql_1800, ql_1805, ql_1811, ql_1822, ql_2132, ql_2140, ql_3229, ql_9999, ql_11453, ql_65536, ql_100000, ql_1000000, nI_add, pk_mul, q_and, q_or, q_xor, nI_clamp, q_in, q_neg1, q_nno, q_nno', q_annN, q_sh1, q_tbN, nI_leI, nI_ltI, nI_eq, pk_sub, ↓reduceIte, if_pos, if_neg, q_zlt, q_bs, i15', q_bk hh1]
            · rw [z] at i15'; simp (disch := omega) only [f_X4_behindStep, ql_0, ql_1, ql_2, ql_3, ql_4, ql_5, ql_6, ql_7, ql_8, ql_9, ql_10, ql_11, ql_12, ql_13, ql_14, ql_15, ql_16, ql_17, ql_18, ql_19, ql_20, ql_21, ql_22, ql_23, ql_24, ql_27, ql_30, ql_31, ql_32, ql_40, ql_48, ql_51, ql_52, ql_57, ql_59, ql_60, ql_61, ql_62, ql_76, ql_84, ql_91, ql_97, ql_99, ql_100, ql_120, ql_122, ql_127, ql_128, ql_200, ql_255, ql_256, ql_300, ql_420, ql_428, ql_640, ql_900, ql_896, ql_999, ql_1712, ql_1716, ql_1734, ql_1772, ql_1800, ql_1805, ql_1811, ql_1822, ql_2132, ql_2140, ql_3229, ql_9999, ql_11453, ql_65536, ql_100000, ql_1000000, nI_add, pk_mul, q_and, q_or, q_xor, nI_clamp, q_in, q_neg1, q_nno, q_nno', q_annN, q_sh1, q_tbN, nI_leI, nI_ltI, nI_eq, pk_sub, ↓reduceIte, if_pos, if_neg, q_zlt, q_bs, i15', q_bk hh1]
          | false =>
            rw [if_neg (by decide)]
            rcases hwk with z | z | z
            · rw [z] at i15'; simp (disch := omega) only [f_X4_behindStep, ql_0, ql_1, ql_2, ql_3, ql_4, ql_5, ql_6, ql_7, ql_8, ql_9, ql_10, ql_11, ql_12, ql_13, ql_14, ql_15, ql_16, ql_17, ql_18, ql_19, ql_20, ql_21, ql_22, ql_23, ql_24, ql_27, ql_30, ql_31, ql_32, ql_40, ql_48, ql_51, ql_52, ql_57, ql_59, ql_60, ql_61, ql_62, ql_76, ql_84, ql_91, ql_97, ql_99, ql_100, ql_120, ql_122, ql_127, ql_128, ql_200, ql_255, ql_256, ql_300, ql_420, ql_428, ql_640, ql_900, ql_896, ql_999, ql_1712, ql_1716, ql_1734, ql_1772, ql_1800, ql_1805, ql_1811, ql_1822, ql_2132, ql_2140, ql_3229, ql_9999, ql_11453, ql_65536, ql_100000, ql_1000000, nI_add, pk_mul, q_and, q_or, q_xor, nI_clamp, q_in, q_neg1, q_nno, q_nno', q_annN, q_sh1, q_tbN, nI_leI, nI_ltI, nI_eq, pk_sub, ↓reduceIte, if_pos, if_neg, q_zlt, q_bs, i15', q_bk hh1, i19', Bool.false_eq_true]
            · rw [z] at i15'; simp (disch := omega) only [f_X4_behindStep, ql_0, ql_1, ql_2, ql_3, ql_4, ql_5, ql_6, ql_7, ql_8, ql_9, ql_10, ql_11, ql_12, ql_13, ql_14, ql_15, ql_16, ql_17, ql_18, ql_19, ql_20, ql_21, ql_22, ql_23, ql_24, ql_27, ql_30, ql_31, ql_32, ql_40, ql_48, ql_51, ql_52, ql_57, ql_59, ql_60, ql_61, ql_62, ql_76, ql_84, ql_91, ql_97, ql_99, ql_100, ql_120, ql_122, ql_127, ql_128, ql_200, ql_255, ql_256, ql_300, ql_420, ql_428, ql_640, ql_900, ql_896, ql_999, ql_1712, ql_1716, ql_1734, ql_1772, ql_1800, ql_1805, ql_1811, ql_1822, ql_2132, ql_2140, ql_3229, ql_9999, ql_11453, ql_65536, ql_100000, ql_1000000, nI_add, pk_mul, q_and, q_or, q_xor, nI_clamp, q_in, q_neg1, q_nno, q_nno', q_annN, q_sh1, q_tbN, nI_leI, nI_ltI, nI_eq, pk_sub, ↓reduceIte, if_pos, if_neg, q_zlt, q_bs, i15', q_bk hh1, i19', Bool.false_eq_true]
            · rw [z] at i15'; simp (disch := omega) only [f_X4_behindStep, ql_0, ql_1, ql_2, ql_3, ql_4, ql_5, ql_6, ql_7, ql_8, ql_9, ql_10, ql_11, ql_12, ql_13, ql_14, ql_15, ql_16, ql_17, ql_18, ql_19, ql_20, ql_21, ql_22, ql_23, ql_24, ql_27, ql_30, ql_31, ql_32, ql_40, ql_48, ql_51, ql_52, ql_57, ql_59, ql_60, ql_61, ql_62, ql_76, ql_84, ql_91, ql_97, ql_99, ql_100, ql_120, ql_122, ql_127, ql_128, ql_200, ql_255, ql_256, ql_300, ql_420, ql_428, ql_640, ql_900, ql_896, ql_999, ql_1712, ql_1716, ql_1734, ql_1772, ql_1800, ql_1805, ql_1811, ql_1822, ql_2132, ql_2140, ql_3229, ql_9999, ql_11453, ql_65536, ql_100000, ql_1000000, nI_add, pk_mul, q_and, q_or, q_xor, nI_clamp, q_in, q_neg1, q_nno, q_nno', q_annN, q_sh1, q_tbN, nI_leI, nI_ltI, nI_eq, pk_sub, ↓reduceIte, if_pos, if_neg, q_zlt, q_bs, i15', q_bk hh1, i19', Bool.false_eq_true]
        rw [x4_it he h60 (by omega) i6 i15 hk100 h21 i2 hdn3 sa hs, m_itW he h60 j7 j40 hdn3 j0 (q_kd_w hwk) j4 sd hh2]
        have hph1 := q_ph_o tk (x := x) (e := e) (n := 0) he (by omega)
        have hph2 := q_ph_j tk (x := x) he hop
        cases hb with
        | true =>
          rw [if_pos rfl]
          refine ih (N - 1) (by omega) C (dn + 1) (e + 1) (v + 1) f z_fuel ln (z1 x e 0) _ _ hms (by omega) (by omega) (fun b hb hen' hb20 => ?_) (by omega) (by omega) (by omega) (by unfold z_fuel; omega) (by omega)
          have hne : b ≠ e := fun y => by subst y; exact zl hb20
          have ex : z1 x e 0 b = x b := by unfold z1; rw [if_neg hne]
          obtain ⟨r1, r2, r3⟩ := hli b hb (q_en2 hen' hne) hb20
          rw [ex]
          exact ⟨by rw [q_zo (by omega), r1], by rw [q_zo (by omega), q_zo (by omega), r2], r3⟩
        | false =>
          rw [if_neg (by decide)]
          refine ih (N - 1) (by omega) C (dn + 1) (T 5 e + 1) (v + 1) f z_fuel ln x _ _ hms (by omega) (by omega) (fun b hb hen' hb20 => ?_) (by omega) (by omega) (by omega) (by unfold z_fuel; omega) (by omega)
          obtain ⟨r1, r2, r3⟩ := hli b hb (q_en3 tk he hop hb hen') hb20
          exact ⟨by rw [q_zo (by omega), r1], by rw [q_zo (by omega), q_zo (by omega), r2], r3⟩
    · -- plain
      have hpk : T 1 e = 12 ∨ T 1 e = 13 ∨ T 1 e = 14 ∨ T 1 e = 15 ∨ T 1 e = 16 ∨ T 1 e = 17 := by
        unfold q_op at hop
        rcases kte.1 with z | z | z | z | z | z | z | z | z | z | z | z <;> omega
      rw [q_kd_p hpk] at j0
      have i15' : I1 15 e = nI (T 1 e) := by rw [p4 15 e (by omega) (by omega), q_zo (by omega), i15]
      have j0' : J1 1 (60 + 6 * e) = nI (T 1 e) := by rw [p5 1 _ (by omega) (by omega) (by omega), q_zo (by omega), j0]
      have hs : f_X4_behindStep I1 (nI e) = some (nI (e + 1), I1) := by
        have z2' : ¬ T 1 e = 2 := by omega
        have z11 : ¬ T 1 e = 11 := by omega
        have z19 : ¬ T 1 e = 19 := by omega
        have z20 : ¬ T 1 e = 20 := by omega
        simp (disch := omega) only [f_X4_behindStep, ql_0, ql_1, ql_2, ql_3, ql_4, ql_5, ql_6, ql_7, ql_8, ql_9, ql_10, ql_11, ql_12, ql_13, ql_14, ql_15, ql_16, ql_17, ql_18, ql_19, ql_20, ql_21, ql_22, ql_23, ql_24, ql_27, ql_30, ql_31, ql_32, ql_40, ql_48, ql_51, ql_52, ql_57, ql_59, ql_60, ql_61, ql_62, ql_76, ql_84, ql_91, ql_97, ql_99, ql_100, ql_120, ql_122, ql_127, ql_128, ql_200, ql_255, ql_256, ql_300, ql_420, ql_428, ql_640, ql_900, ql_896, ql_999, ql_1712, ql_1716, ql_1734, ql_1772, ql_1800, ql_1805, ql_1811, ql_1822, ql_2132, ql_2140, ql_3229, ql_9999, ql_11453, ql_65536, ql_100000, ql_1000000, nI_add, pk_mul, q_and, q_or, q_xor, nI_clamp, q_in, q_neg1, q_nno, q_nno', q_annN, q_sh1, q_tbN, nI_leI, nI_ltI, nI_eq, pk_sub, ↓reduceIte, if_pos, if_neg, q_zlt, q_bs, i15', z2', z11, z19, z20, h22]
      have hms := p3.miss (a := J 21 0) (by rw [p5 21 0 (by omega) (by omega) (by omega), q_zo (by omega)])
      rw [x4_it he h60 (by omega) i6 i15 hk100 h21 i2 hdn3 p1 hs, m_itA he h60 j7 j40 hdn3 j0 (by omega) (by omega) (by omega) p2 j0']
      have hph := q_ph_a hms.1.2.2.2 (x := x) he hop
      refine ih (N - 1) (by omega) C' (dn + 1) (e + 1) (v + 1) f z_fuel ln x _ _ hms (by omega) (by omega) (fun b hb hen' hb20 => ?_) (by omega) (by omega) (by omega) (by unfold z_fuel; omega) (by omega)
      have hne : b ≠ e := fun y => by subst y; exact hop hen'.1
      obtain ⟨r1, r2, r3⟩ := hli b hb (q_en2 hen' hne) hb20
      exact ⟨by rw [p4 47 b (by omega) (by omega), q_zo (by omega), r1], by rw [q_zo (by omega), p5 20 b (by omega) (by omega) (by omega), q_zo (by omega), r2], r3⟩
