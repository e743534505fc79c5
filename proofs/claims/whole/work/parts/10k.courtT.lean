/-! court -/
def q_C0 : q_N := fun r k => if r = 0 ∧ k = 4 then 8 else 0
def q_T0 : q_N := fun _ _ => 0
theorem q_C0_ok : q_ok q_C0 := by
  refine ⟨by decide, by decide, by decide, by decide, by decide, by decide, by decide, fun b hb => ?_, fun b hb => ?_, fun b hb => ?_, fun b hb => ?_⟩
  · exact absurd hb (Nat.not_lt_zero _)
  · exact absurd hb (Nat.not_lt_zero _)
  · exact absurd hb (Nat.not_lt_zero _)
  · exact absurd hb (Nat.not_lt_zero _)
theorem q_T0_ok (C : q_N) : q_tok q_T0 C := ⟨by decide, fun _ => rfl, by decide, by decide, fun e he => absurd he (Nat.not_lt_zero _), fun e he => absurd he (Nat.not_lt_zero _), fun e he => absurd he (Nat.not_lt_zero _), fun e f _ _ h => absurd h (Nat.not_lt_zero _)⟩
theorem q_C0_sx {c : Nat} {I : z_I} {L : z_L} (h : ∀ k, k < 7 → I c (10 + k) = nI (q_C0 0 k)) : q_sx q_C0 c I L := by
  refine ⟨fun r k hk => ?_, fun k hk => absurd hk (Nat.not_lt_zero _), fun k hk => absurd hk (Nat.not_lt_zero _)⟩
  match r with
  | 0 => exact h k hk
  | 1 => exact absurd hk (Nat.not_lt_zero _)
  | 2 => exact absurd hk (Nat.not_lt_zero _)
  | 3 => exact absurd hk (Nat.not_lt_zero _)
  | 4 => exact absurd hk (Nat.not_lt_zero _)
  | 5 => exact absurd hk (Nat.not_lt_zero _)
  | 6 => exact absurd hk (Nat.not_lt_zero _)
  | 7 => exact absurd hk (Nat.not_lt_zero _)
  | 8 => exact absurd hk (Nat.not_lt_zero _)
  | 9 => exact absurd hk (Nat.not_lt_zero _)
  | n + 10 => exact absurd hk (Nat.not_lt_zero _)
theorem q_C0_sm {o m : Nat} {J : z_I} {K : z_L} (h : ∀ k, k < 7 → J 1 (o + k) = nI (q_C0 0 k)) : q_sm q_C0 o m J K := by
  refine ⟨fun r k hk => ?_, fun k hk => absurd hk (Nat.not_lt_zero _), fun k hk => absurd hk (Nat.not_lt_zero _)⟩
  match r with
  | 0 => exact h k hk
  | 1 => exact absurd hk (Nat.not_lt_zero _)
  | 2 => exact absurd hk (Nat.not_lt_zero _)
  | 3 => exact absurd hk (Nat.not_lt_zero _)
  | 4 => exact absurd hk (Nat.not_lt_zero _)
  | 5 => exact absurd hk (Nat.not_lt_zero _)
  | 6 => exact absurd hk (Nat.not_lt_zero _)
  | 7 => exact absurd hk (Nat.not_lt_zero _)
  | 8 => exact absurd hk (Nat.not_lt_zero _)
  | 9 => exact absurd hk (Nat.not_lt_zero _)
  | n + 10 => exact absurd hk (Nat.not_lt_zero _)
theorem m_plain {J : z_I} {o : Nat} (ho : o + 428 ≤ 2200) : ∃ J', f_X11_plain J (nI o) = some J' ∧ (∀ k, k < 428 → k ≠ 4 → k ≠ 7 → J' 1 (o + k) = nI 0) ∧ J' 1 (o + 4) = nI 8 ∧ J' 1 (o + 7) = q_no ∧ (∀ d k, d ≠ 1 ∨ k < o ∨ o + 428 ≤ k → J' d k = J d k) := by
  obtain ⟨J1, ⟨g1, g2⟩, e⟩ := q_lpC (G := fun fu k (a : z_I) => g_X11_plain_2 (nI o) (fun I_3 => if zin (nI o + (4 : Int32)) 2200 = true then z_lt (z2 I_3 1 ((nI o + (4 : Int32))).toNatClampNeg (8 : Int32)) fun I5 => if zin (nI o + (7 : Int32)) 2200 = true then z_lt (z2 I5 1 ((nI o + (7 : Int32))).toNatClampNeg (-1 : Int32)) fun I7 => some I7 else none else none) fu (nI k) a) (K := fun a => some (z2 (z2 a 1 (o + 4) (nI 8)) 1 (o + 7) q_no)) (N := 428) (k0 := 0) (n := z_fuel) (a := J) (fun k a => (∀ j, j < k → a 1 (o + j) = nI 0) ∧ (∀ d j, d ≠ 1 ∨ j < o ∨ o + k ≤ j → a d j = J d j)) (fun fu k a _ hk hp => by
    refine ⟨z2 a 1 (o + k) (nI 0), ⟨fun j hj => ?_, fun d j hj => ?_⟩, ?_⟩
    · by_cases y : j = k
      · subst y; exact q_zs
      · rw [q_zo (by omega)]; exact hp.1 j (by omega)
    · rw [q_zo (by omega)]; exact hp.2 d j (by omega)
    · show g_X11_plain_2 (nI o) _ (fu + 1) (nI k) a = _
      rw [g_X11_plain_2, if_neg (show ¬ (428 : Int32) ≤ nI k by rw [ql_428, nI_leI (by omega) (by omega)]; omega), nI_add, if_pos (q_in (by omega) (by decide)), nI_clamp (by omega), q_zlt, ql_1, nI_add]
      rfl) (fun fu a hp => by
    show g_X11_plain_2 (nI o) _ (fu + 1) (nI 428) a = _
    rw [g_X11_plain_2, if_pos (show (428 : Int32) ≤ nI 428 by decide), show nI o + (4 : Int32) = nI (o + 4) from nI_add o 4, show nI o + (7 : Int32) = nI (o + 7) from nI_add o 7, if_pos (q_in (by omega) (by decide)), nI_clamp (by omega), q_zlt, if_pos (q_in (by omega) (by decide)), nI_clamp (by omega), q_zlt]
    rfl) (Nat.zero_le _) (q_fu (by omega)) ⟨fun j hj => by omega, fun _ _ _ => rfl⟩
  refine ⟨_, e, fun k hk h4 h7 => ?_, ?_, q_zs, fun d k hd => ?_⟩
  · rw [q_zo (by omega), q_zo (by omega)]; exact g1 k hk
  · rw [q_zo (by omega), q_zs]
  · rw [q_zo (by omega), q_zo (by omega)]; exact g2 d k (by omega)
theorem m_c59 {J : z_I} {K : z_L} {k88 : z_I → Option (Int32 × z_I × z_L)} : ∃ J', ((∀ k, k < 428 → J' 1 k = J 1 (1712 + k)) ∧ (∀ d k, d ≠ 1 ∨ 428 ≤ k → J' d k = J d k)) ∧ g_X11_court_59 K k88 z_fuel (nI 0) J = k88 J' := q_lpC (G := fun fu k (a : z_I) => g_X11_court_59 K k88 fu (nI k) a) (K := k88) (N := 428) (k0 := 0) (n := z_fuel) (a := J) (fun k a => (∀ j, j < k → a 1 j = J 1 (1712 + j)) ∧ (∀ d j, d ≠ 1 ∨ k ≤ j → a d j = J d j)) (fun fu k a _ hk hp => by
    refine ⟨z2 a 1 k (a 1 (1712 + k)), ⟨fun j hj => ?_, fun d j hj => ?_⟩, ?_⟩
    · by_cases y : j = k
      · subst y; rw [q_zs]; exact hp.2 1 _ (by omega)
      · rw [q_zo (by omega)]; exact hp.1 j (by omega)
    · rw [q_zo (by omega)]; exact hp.2 d j (by omega)
    · show g_X11_court_59 K k88 (fu + 1) (nI k) a = _
      simp (disch := omega) only [g_X11_court_59, ql_0, ql_1, ql_2, ql_3, ql_4, ql_5, ql_6, ql_7, ql_8, ql_9, ql_10, ql_11, ql_12, ql_13, ql_14, ql_15, ql_16, ql_17, ql_18, ql_19, ql_20, ql_21, ql_22, ql_23, ql_24, ql_27, ql_30, ql_31, ql_32, ql_40, ql_48, ql_51, ql_52, ql_57, ql_59, ql_60, ql_61, ql_62, ql_76, ql_84, ql_91, ql_97, ql_99, ql_100, ql_120, ql_122, ql_127, ql_128, ql_200, ql_255, ql_256, ql_300, ql_420, ql_428, ql_640, ql_900, ql_896, ql_999, ql_1712, ql_1716, ql_1734, ql_1772, ql_1800, ql_1805, ql_1811, ql_1822, ql_2132, ql_2140, ql_3229, ql_9999, ql_11453, ql_65536, ql_100000, ql_1000000, nI_add, pk_mul, q_and, q_or, q_xor, nI_clamp, q_in, q_neg1, q_nno, q_nno', q_annN, q_sh1, q_tbN, nI_leI, nI_ltI, nI_eq, pk_sub, ↓reduceIte, if_pos, if_neg, q_zlt, q_bs]) (fun fu a hp => by
    show g_X11_court_59 K k88 (fu + 1) (nI 428) a = _
    simp (disch := omega) only [g_X11_court_59, ql_0, ql_1, ql_2, ql_3, ql_4, ql_5, ql_6, ql_7, ql_8, ql_9, ql_10, ql_11, ql_12, ql_13, ql_14, ql_15, ql_16, ql_17, ql_18, ql_19, ql_20, ql_21, ql_22, ql_23, ql_24, ql_27, ql_30, ql_31, ql_32, ql_40, ql_48, ql_51, ql_52, ql_57, ql_59, ql_60, ql_61, ql_62, ql_76, ql_84, ql_91, ql_97, ql_99, ql_100, ql_120, ql_122, ql_127, ql_128, ql_200, ql_255, ql_256, ql_300, ql_420, ql_428, ql_640, ql_900, ql_896, ql_999, ql_1712, ql_1716, ql_1734, ql_1772, ql_1800, ql_1805, ql_1811, ql_1822, ql_2132, ql_2140, ql_3229, ql_9999, ql_11453, ql_65536, ql_100000, ql_1000000, nI_add, pk_mul, q_and, q_or, q_xor, nI_clamp, q_in, q_neg1, q_nno, q_nno', q_annN, q_sh1, q_tbN, nI_leI, nI_ltI, nI_eq, pk_sub, ↓reduceIte, if_pos, if_neg, q_zlt, q_bs]) (Nat.zero_le _) (q_fu (by omega)) ⟨fun j hj => by omega, fun _ _ _ => rfl⟩
theorem m_c90 {J : z_I} {K : z_L} : ∃ K', ((∀ k, k < 19 → K' 2 k = K 2 (76 + k)) ∧ (∀ d k, d ≠ 2 ∨ 19 ≤ k → K' d k = K d k)) ∧ g_X11_court_90 J z_fuel (nI 0) K = some ((f_X11_taken J (J 1 2)).1, (f_X11_taken J (J 1 2)).2, K') := q_lpC (G := fun fu k (a : z_L) => g_X11_court_90 J fu (nI k) a) (K := fun a => some ((f_X11_taken J (J 1 2)).1, (f_X11_taken J (J 1 2)).2, a)) (N := 19) (k0 := 0) (n := z_fuel) (a := K) (fun k a => (∀ j, j < k → a 2 j = K 2 (76 + j)) ∧ (∀ d j, d ≠ 2 ∨ k ≤ j → a d j = K d j)) (fun fu k a _ hk hp => by
    refine ⟨z2 a 2 k (a 2 (76 + k)), ⟨fun j hj => ?_, fun d j hj => ?_⟩, ?_⟩
    · by_cases y : j = k
      · subst y; rw [q_zs]; exact hp.2 2 _ (by omega)
      · rw [q_zo (by omega)]; exact hp.1 j (by omega)
    · rw [q_zo (by omega)]; exact hp.2 d j (by omega)
    · show g_X11_court_90 J (fu + 1) (nI k) a = _
      simp (disch := omega) only [g_X11_court_90, ql_0, ql_1, ql_2, ql_3, ql_4, ql_5, ql_6, ql_7, ql_8, ql_9, ql_10, ql_11, ql_12, ql_13, ql_14, ql_15, ql_16, ql_17, ql_18, ql_19, ql_20, ql_21, ql_22, ql_23, ql_24, ql_27, ql_30, ql_31, ql_32, ql_40, ql_48, ql_51, ql_52, ql_57, ql_59, ql_60, ql_61, ql_62, ql_76, ql_84, ql_91, ql_97, ql_99, ql_100, ql_120, ql_122, ql_127, ql_128, ql_200, ql_255, ql_256, ql_300, ql_420, ql_428, ql_640, ql_900, ql_896, ql_999, ql_1712, ql_1716, ql_1734, ql_1772, ql_1800, ql_1805, ql_1811, ql_1822, ql_2132, ql_2140, ql_3229, ql_9999, ql_11453, ql_65536, ql_100000, ql_1000000, nI_add, pk_mul, q_and, q_or, q_xor, nI_clamp, q_in, q_neg1, q_nno, q_nno', q_annN, q_sh1, q_tbN, nI_leI, nI_ltI, nI_eq, pk_sub, ↓reduceIte, if_pos, if_neg, q_zlt, q_bs]) (fun fu a hp => by
    show g_X11_court_90 J (fu + 1) (nI 19) a = _
    rw [g_X11_court_90, if_pos (show (19 : Int32) ≤ nI 19 by decide)]) (Nat.zero_le _) (q_fu (by omega)) ⟨fun j hj => by omega, fun _ _ _ => rfl⟩
theorem x_endT (I : z_I) : f_X10_endText I true = z2 (z2 (z2 I 0 18 (nI 0)) 0 16 (nI 0)) 0 17 q_no := by
  unfold f_X10_endText
  rw [q_zlt, if_pos rfl, q_zlt, if_pos rfl, q_zlt]
  rfl
theorem x_endF (I : z_I) : f_X10_endText I false = z2 (z2 (z2 I 0 18 (nI 0)) 0 16 (I 39 11)) 0 17 (I 39 12) := by
  unfold f_X10_endText
  rw [q_zlt, if_neg (by decide), q_zlt, if_neg (by decide), q_zlt]
  rfl
theorem m_notBegin {J : z_I} {p mM : Int32} {t : Nat} (ht : t ≤ 900) (j10 : J 0 10 = nI t) (h : q_hs (t + 1) p = false) : f_X11_begins J p mM = some (false, J) := by
  unfold q_hs at h
  unfold f_X11_begins
  by_cases y : p < 0
  · rw [if_pos y]
  · rw [if_neg y] at h ⊢
    by_cases z : nI (t + 1) ≤ p
    · rw [j10, if_pos ((q_lt_le (by omega)).2 z)]
    · rw [if_neg z] at h; cases h
theorem r_court : s_court q_R := by
  intro I L J K p0 hR
  obtain ⟨C, T, mk, h⟩ := id hR
  obtain ⟨t, ht, i18, j10, htx⟩ := h.2.2.1
  have hrk := h.2.2.2.2.2.2.1
  have hwi := q_wi_hs (p := p0) (n := t) (by omega)
  cases hb : q_hs (t + 1) p0 with
  | false =>
    rw [hb] at hwi
    refine q_end2 (-1) 1 (I := I) (J := J) ?_ ?_ hR
    · unfold f_X10_court
      rw [i18, hwi]
      rfl
    · unfold f_X11_court
      rw [m_notBegin ht j10 hb, q_bs]
      rfl
  | true =>
    rw [hb] at hwi
    obtain ⟨n, hn, rfl⟩ := q_hs_t hb (by omega)
    generalize hI1 : z2 (f_X0_clear I 22) 41 3 (nI 0) = I1
    have hI1f : ∀ d k, d ≠ 22 → d ≠ 41 → I1 d k = I d k := fun d k h1 h2 => by
      rw [← hI1, q_zo (by omega)]
      simp only [f_X0_clear, q_zlt]
      rw [q_zo (by omega), q_zo (by omega), q_zo (by omega), q_zo (by omega), q_zo (by omega), q_zo (by omega), q_zo (by omega)]
    have hI1c : ∀ k, k < 7 → I1 22 (10 + k) = nI (q_C0 0 k) := fun k hk => by
      rw [← hI1, q_zo (by omega)]
      simp only [f_X0_clear, q_zlt]
      match k, hk with
      | 0, _ => simp (disch := omega) only [q_zs, q_zo]; rfl
      | 1, _ => simp (disch := omega) only [q_zs, q_zo]; rfl
      | 2, _ => simp (disch := omega) only [q_zs, q_zo]; rfl
      | 3, _ => simp (disch := omega) only [q_zs, q_zo]; rfl
      | 4, _ => simp (disch := omega) only [q_zs, q_zo]; rfl
      | 5, _ => simp (disch := omega) only [q_zs, q_zo]; rfl
      | 6, _ => simp (disch := omega) only [q_zs, q_zo]; rfl
    obtain ⟨B, I2, L2, J2, f, e, kd, va, b1, b2, b3, b4, b5, b6, b7, b8, b9⟩ := q_begin h ht i18 j10 htx (n := n) (mx := 900) (by omega) (by omega) (by omega) (I1 := I1) (fun d k hd => hI1f d k (by omega) (by omega))
    obtain ⟨J3, c1, c2, c3, c4, c5⟩ := m_plain (J := J2) (o := 1712) (by omega)
    have hct : q_ct n B q_C0 (fun _ => 0) 0 f e kd va I2 L2 (z2 J3 0 20 (nI 0)) K := by
      refine ⟨b3.go (fun _ _ _ => rfl) rfl (fun d k w => by rw [q_zo (by omega), c5 d k (by omega)]), hrk.mL b5, ⟨q_C0_sx (fun k hk => by rw [b4 22 _ (by omega)]; exact hI1c k hk), q_C0_sm (fun k hk => ?_), q_C0_ok⟩, fun k hk => absurd hk (Nat.not_lt_zero _), ⟨?_, q_zs, by omega⟩, ?_, ?_, ?_⟩
      · rw [q_zo (by omega)]
        by_cases y : k = 4
        · subst y; rw [c3]; rfl
        · rw [c2 k (by omega) y (by omega)]
          unfold q_C0
          rw [if_neg (by omega)]
      · rw [b4 41 3 (by omega), ← hI1, q_zs]
      · rw [q_zo (by omega), c5 0 18 (by omega), b6]
      · rw [q_zo (by omega), c5 0 17 (by omega), b7]
      · rw [q_zo (by omega), c4]
    have gJ : ∀ d k, d ≠ 7 → d ≠ 0 ∨ k < 10 ∨ k = 16 ∨ 20 < k → d ≠ 1 ∨ k < 1712 ∨ 2140 ≤ k → z2 J3 0 20 (nI 0) d k = J d k := fun d k d1 d2 d3 => by rw [q_zo (by omega), c5 d k (by omega), b9 d k d1 (by omega)]
    have g10 : z2 J3 0 20 (nI 0) 0 10 = nI 0 := by rw [q_zo (by omega), c5 0 10 (by omega), b8]
    have gI : ∀ d k, d < 22 ∨ 45 ≤ d → I2 d k = I d k := fun d k hd => by rw [b4 d k (by omega), hI1f d k (by omega) (by omega)]
    have gL : ∀ d k, d ≠ 39 ∨ k ≠ 8 → L2 d k = L d k := b5
    have hX : f_X1_takeText I L (nI n) = g_X1_takeText_22 (nI n) z_fuel (nI 0) I2 L2 := by
      unfold f_X1_takeText
      rw [q_zlt, show zb false = nI 0 from rfl, hI1, b1, q_bs]
      rfl
    have hM : f_X11_court J K (nI n) = g_X11_court_31 (fun I_8 L_9 => if (I_8 0 18) = 0 then g_X11_court_59 L_9 (fun I_13 => g_X11_court_90 I_13 z_fuel (nI 0) L_9) z_fuel (nI 0) I_8 else some ((f_X11_taken I_8 (I_8 1 2)).1, (f_X11_taken I_8 (I_8 1 2)).2, L_9)) z_fuel true (z2 J3 0 20 (nI 0)) K := by
      unfold f_X11_court
      rw [show (900 : Int32) = nI 900 from rfl, b2, q_bs, if_pos rfl, show (1712 : Int32) = nI 1712 from rfl, c1, q_bs, q_zlt, show (0 : Int32) = nI 0 from rfl]
    rcases q_ctext (n := n) (B := B) (fun I_8 L_9 => if (I_8 0 18) = 0 then g_X11_court_59 L_9 (fun I_13 => g_X11_court_90 I_13 z_fuel (nI 0) L_9) z_fuel (nI 0) I_8 else some ((f_X11_taken I_8 (I_8 1 2)).1, (f_X11_taken I_8 (I_8 1 2)).2, L_9)) n 0 q_C0 (fun _ => 0) 0 f e kd va z_fuel z_fuel I2 L2 (z2 J3 0 20 (nI 0)) K (by omega) (Nat.zero_le _) (q_fu (by omega)) (q_fu (by omega)) hct with ⟨I4, L4, J4, K4, C4, N4, od4, f4, e4, va4, r1, r2, ⟨s1, s2, ⟨s3, s4, s5⟩, s6, s7, s8, s9, s10⟩, u1, u2, u3, u4⟩ | ⟨I4, L4, J4, K4, r1, r2, ⟨w, fp, w1, w2, w3, w4, w5, w6, w7⟩, u1, u2, u3, u4⟩
    · obtain ⟨J5, ⟨a1, a2⟩, e5⟩ := m_c59 (J := J4) (K := K4) (k88 := fun I_13 => g_X11_court_90 I_13 z_fuel (nI 0) K4)
      obtain ⟨K5, ⟨k1, k2⟩, e6⟩ := m_c90 (J := J5) (K := K4)
      have hE := x_endT I4
      have j518 : J5 0 18 = nI 0 := by rw [a2 0 18 (by omega), s8]
      have j52 : J5 1 2 = nI (C4 0 2) := by rw [a1 2 (by omega)]; exact s4.1 0 2 (by simp [q_bd])
      have htk : f_X11_taken J5 (J5 1 2) = (nI (C4 0 2), z2 (z2 J5 0 16 (nI 0)) 0 2 (nI 0)) := by
        unfold f_X11_taken
        rw [q_zlt, j518, if_pos (by decide), j52]
        rfl
      generalize hIe : z2 (z2 (z2 I4 0 18 (nI 0)) 0 16 (nI 0)) 0 17 q_no = Ie at hE
      have x4 : q_sx C4 22 Ie L4 := s3.go (fun d k a b => by rw [← hIe, q_zo (by omega), q_zo (by omega), q_zo (by omega)]) (fun _ _ _ _ => rfl)
      obtain ⟨o1, -, -, o4, -, -⟩ := x0_copyI (I := Ie) (L := L4) (c := 3) (p := 22) (by omega)
      have ax := x0_copy (c := 3) (p := 22) x4 s5 (by omega)
      generalize hcp : f_X0_copyFrom Ie L4 3 22 = cp at o1 o4 ax
      obtain ⟨I6, L6⟩ := cp
      simp only at o1 o4 ax
      have hcl : f_X5_clear I6 14 = z2 (z2 (z2 I6 14 5 (nI 0)) 14 6 (nI 0)) 14 7 (nI 0) := by
        unfold f_X5_clear
        rw [q_zlt, q_zlt, q_zlt]
        rfl
      generalize hI7 : z2 (z2 (z2 I6 14 5 (nI 0)) 14 6 (nI 0)) 14 7 (nI 0) = I7 at hcl
      have g7 : ∀ d k, d ≠ 14 → I7 d k = I6 d k := fun d k hd => by rw [← hI7, q_zo (by omega), q_zo (by omega), q_zo (by omega)]
      have x7 : q_sx C4 3 I7 L6 := ax.go (fun d k a b => g7 d k (by omega)) (fun _ _ _ _ => rfl)
      have y7 : q_sm C4 0 0 (z2 J5 0 16 (nI 0)) K5 := s4.mv s5 (fun k hk => by rw [q_zo (by omega), Nat.zero_add]; exact a1 k (by omega)) (fun k hk => by rw [Nat.zero_add]; exact k1 k hk)
      have hq1 := h.txt (nI 0) q_no
      have hq2 := hq1.set (C' := C4) (T' := q_T0) (I' := I7) (L' := L6) (J' := z2 J5 0 16 (nI 0)) (K' := K5) ⟨x7, y7, s5, ⟨by rw [← hI7, q_zo (by omega), q_zo (by omega), q_zs]; rfl, by rw [← hI7, q_zo (by omega), q_zs]; rfl, by rw [← hI7, q_zs]; rfl, fun r e _ _ he => absurd he (Nat.not_lt_zero _)⟩, Or.inl ⟨rfl, by rw [q_zo (by omega), a1 7 (by omega), s10]; rfl⟩, q_T0_ok C4⟩ (fun d k y z => ?_) (fun d k y z => ?_) (fun d k y z => ?_) (fun d k y z => ?_)
      · refine ⟨(nI (C4 0 2), z2 I7 0 15 (nI 0), L6), (nI (C4 0 2), z2 (z2 J5 0 16 (nI 0)) 0 2 (nI 0), K5), ?_, ?_, rfl, (hq2.st (nI 0)).r⟩
        · unfold f_X10_court
          rw [i18, hwi, if_pos rfl, hX, r1, q_bs, if_pos rfl]
          dsimp only
          rw [hE, hcp]
          dsimp only
          rw [hcl, x7.f.2.2.1]
          rfl
        · rw [hM, r2, s8, if_pos (by decide)]
          refine e5.trans (e6.trans ?_)
          rw [htk]
      · rw [g7 d k (by omega), o1 d k (by omega), ← hIe]
        have hu : d ≠ 0 ∨ (k ≠ 16 ∧ k ≠ 17 ∧ k ≠ 18) ∨ d = 0 ∧ k = 16 ∨ d = 0 ∧ k = 17 ∨ d = 0 ∧ k = 18 := by omega
        rcases hu with hu | hu | ⟨rfl, rfl⟩ | ⟨rfl, rfl⟩ | ⟨rfl, rfl⟩
        · rw [q_zo (by omega), q_zo (by omega), q_zo (by omega), q_zo (by omega), q_zo (by omega), q_zo (by omega), u1 d k (by unfold q_rI at y; omega), gI d k (by unfold q_rI at y; omega)]
        · rw [q_zo (by omega), q_zo (by omega), q_zo (by omega), q_zo (by omega), q_zo (by omega), q_zo (by omega), u1 d k (by unfold q_rI at y; omega), gI d k (by unfold q_rI at y; omega)]
        · rw [q_zo (by omega), q_zs, q_zo (by omega), q_zs]
        · rw [q_zs, q_zs]
        · rw [q_zo (by omega), q_zo (by omega), q_zs, q_zo (by omega), q_zo (by omega), q_zs]
      · rw [o4 d k (by omega), u2 d k (by unfold q_rL at y; omega), gL d k (by unfold q_rL at y; omega)]
      · have hu : (d = 0 ∧ k = 16) ∨ (d = 0 ∧ k = 17) ∨ (d = 0 ∧ k = 10) ∨ (d ≠ 0 ∨ (k ≠ 16 ∧ k ≠ 17 ∧ k ≠ 10)) := by omega
        rcases hu with ⟨rfl, rfl⟩ | ⟨rfl, rfl⟩ | ⟨rfl, rfl⟩ | hu
        · rw [q_zs, q_zo (by omega), q_zs]
        · rw [q_zo (by omega), a2 0 17 (by omega), s9, q_zs]
        · rw [q_zo (by omega), a2 0 10 (by omega), u3 0 10 (by omega) (by omega) (by omega) (by omega), g10, q_zo (by omega), q_zo (by omega), q_zs]
        · unfold q_rJ at y
          rw [q_zo (by omega), a2 d k (by omega), u3 d k (by omega) (by omega) (by omega) (by omega), gJ d k (by omega) (by omega) (by omega), q_zo (by omega), q_zo (by omega), q_zo (by omega)]
      · unfold q_rK at y
        rw [k2 d k (by omega), u4 d k (by omega)]
    · have hw0 : ¬ nI w = 0 := by rw [ql_0, nI_eq (by omega) (by omega)]; omega
      have htk : f_X11_taken J4 (J4 1 2) = (-1, z2 (z2 J4 0 16 (nI w)) 0 2 9) := by
        unfold f_X11_taken
        rw [q_zlt, w6, if_neg (show ¬ nI w ≤ 0 by rw [ql_0, nI_leI (by omega) (by omega)]; omega)]
        rfl
      have hq1 := h.txt (nI w) (nI fp)
      have hE := x_endF I4
      rw [w4, w5] at hE
      have hq2 := hq1.fr (I' := z2 (z2 (z2 I4 0 18 (nI 0)) 0 16 (nI w)) 0 17 (nI fp)) (L' := L4) (J' := z2 J4 0 16 (nI w)) (K' := K4) (fun d k y => ?_) (fun d k y => ?_) (fun d k y => ?_) (fun d k y => ?_)
      · refine ⟨(-1, z2 (z2 (z2 (z2 I4 0 18 (nI 0)) 0 16 (nI w)) 0 17 (nI fp)) 0 15 9, L4), (-1, z2 (z2 J4 0 16 (nI w)) 0 2 9, K4), ?_, ?_, rfl, (hq2.st 9).r⟩
        · unfold f_X10_court
          rw [i18, hwi, if_pos rfl, hX, r1, q_bs, if_neg (show ¬ (false = true) by decide)]
          dsimp only
          rw [hE]
          rfl
        · rw [hM, r2, w6, if_neg hw0, htk]
      · have hu : d ≠ 0 ∨ (k ≠ 16 ∧ k ≠ 17 ∧ k ≠ 18) ∨ d = 0 ∧ k = 16 ∨ d = 0 ∧ k = 17 ∨ d = 0 ∧ k = 18 := by omega
        rcases hu with hu | hu | ⟨rfl, rfl⟩ | ⟨rfl, rfl⟩ | ⟨rfl, rfl⟩
        · rw [q_zo (by omega), q_zo (by omega), q_zo (by omega), q_zo (by omega), q_zo (by omega), q_zo (by omega), u1 d k (by unfold q_rI at y; omega), gI d k (by unfold q_rI at y; omega)]
        · rw [q_zo (by omega), q_zo (by omega), q_zo (by omega), q_zo (by omega), q_zo (by omega), q_zo (by omega), u1 d k (by unfold q_rI at y; omega), gI d k (by unfold q_rI at y; omega)]
        · rw [q_zo (by omega), q_zs, q_zo (by omega), q_zs]
        · rw [q_zs, q_zs]
        · rw [q_zo (by omega), q_zo (by omega), q_zs, q_zo (by omega), q_zo (by omega), q_zs]
      · rw [u2 d k (by unfold q_rL at y; omega), gL d k (by unfold q_rL at y; omega)]
      · have hu : (d = 0 ∧ k = 16) ∨ (d = 0 ∧ k = 17) ∨ (d = 0 ∧ k = 10) ∨ (d ≠ 0 ∨ (k ≠ 16 ∧ k ≠ 17 ∧ k ≠ 10)) := by omega
        rcases hu with ⟨rfl, rfl⟩ | ⟨rfl, rfl⟩ | ⟨rfl, rfl⟩ | hu
        · rw [q_zs, q_zo (by omega), q_zs]
        · rw [q_zo (by omega), w7, q_zs]
        · rw [q_zo (by omega), u3 0 10 (by omega) (by omega) (by omega) (by omega), g10, q_zo (by omega), q_zo (by omega), q_zs]
        · unfold q_rJ at y
          rw [q_zo (by omega), u3 d k (by omega) (by omega) (by omega) (by omega), gJ d k (by omega) (by omega) (by omega), q_zo (by omega), q_zo (by omega), q_zo (by omega)]
      · unfold q_rK at y
        rw [u4 d k (by omega)]
