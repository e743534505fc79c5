/-! live, mean -/
theorem q_ph_0 (T : q_N) (x : Nat → Nat) : q_ph T x 0 = 0 := by
  have : ∀ n, q_sum (fun b => @ite Nat (q_enb T 0 b) (Classical.propDecidable _) (1 + x b) 0) n = 0 := by
    intro n
    induction n with
    | zero => rfl
    | succ n ih =>
      rw [q_sum, ih, if_neg (fun y => by have := y.2.1; omega)]
  exact this _
theorem q_kd20 {k : Nat} (h : q_tk k) (hn : k ≠ 21) : q_kd k < 2000 ∧ q_kd k ≠ 20 := by
  rcases h with rfl | rfl | rfl | rfl | rfl | rfl | rfl | rfl | rfl | rfl | rfl | rfl
  · decide
  · decide
  · decide
  · decide
  · decide
  · decide
  · decide
  · decide
  · decide
  · decide
  · exact absurd rfl hn
  · decide
theorem q_lives {C T : q_N} {c : Nat} {I : z_I} {L : z_L} {J : z_I} {K : z_L} (hc : c = 3 ∨ c = 22) (hx : q_sx C c I L) (hm : q_sm C 0 0 J K) (ok : q_ok C) (tk : q_tok T C) (hT : q_tx T 14 I) (hM : J 1 7 = nI (T 0 1)) (hE : ∀ e, e < T 0 1 → q_te T e (60 + 6 * e) J) {s : Nat} (hs : s < 65536) : ∃ I' J' C', f_X4_pass I c (nI s) = some I' ∧ f_X11_lives J (nI s) = some J' ∧ q_lz T c I L J K C' I' J' := by
  have h60 := tk.2.2.1
  obtain ⟨J8, ⟨g1, g2⟩, eJ⟩ := q_lpC (G := fun n k (a : z_I) => g_X11_lives_12 (fun I_5 => g_X11_lives_32 z_fuel (nI 0) I_5) n (nI k) a) (K := fun a => g_X11_lives_32 z_fuel (nI 0) a) (N := 5) (k0 := 0) (n := z_fuel) (a := z2 (z2 J 0 39 (nI s)) 0 40 (nI 0)) (fun k a => (∀ d j, d ≠ 21 → a d j = z2 (z2 J 0 39 (nI s)) 0 40 (nI 0) d j) ∧ ∀ j, j < k → a 21 j = nI 0) (fun n k a _ hk hp => by
    refine ⟨z2 a 21 k (nI 0), ⟨fun d j hd => by rw [q_zo (by omega)]; exact hp.1 d j hd, fun j hj => ?_⟩, ?_⟩
    · by_cases y : j = k
      · subst y; exact q_zs
      · rw [q_zo (by omega)]; exact hp.2 j (by omega)
    · show g_X11_lives_12 (fun I_5 => g_X11_lives_32 z_fuel (nI 0) I_5) (n + 1) (nI k) a = _
      rw [g_X11_lives_12, if_neg (show ¬ (5 : Int32) ≤ nI k by rw [ql_5, nI_leI (by omega) (by omega)]; omega), if_pos (q_in hk (by decide)), q_zlt, nI_clamp (by omega), ql_0, ql_1, nI_add]) (fun n a hp => by
    show g_X11_lives_12 (fun I_5 => g_X11_lives_32 z_fuel (nI 0) I_5) (n + 1) (nI 5) a = _
    rw [g_X11_lives_12, if_pos (show (5 : Int32) ≤ nI 5 by decide)]) (by omega) (q_fu (by omega)) ⟨fun _ _ _ => rfl, fun j hj => by omega⟩
  have gJ : ∀ d j, d ≠ 21 → (d ≠ 0 ∨ (j ≠ 39 ∧ j ≠ 40)) → J8 d j = J d j := fun d j d1 d2 => by rw [g1 d j d1, q_zo (by omega), q_zo (by omega)]
  generalize hI8 : z2 (z2 (z2 (z2 (z2 (z2 (z2 (z2 I 45 5 (nI c)) 45 6 (nI s)) 45 2 (nI 0)) 45 7 (nI 0)) 45 8 (nI 0)) 45 9 (nI 0)) 45 10 (nI 0)) 45 11 (nI 0) = I8
  have gI : ∀ d j, (d ≠ 45 ∨ j < 2) → I8 d j = I d j := fun d j hd => by rw [← hI8, q_zo (by omega), q_zo (by omega), q_zo (by omega), q_zo (by omega), q_zo (by omega), q_zo (by omega), q_zo (by omega), q_zo (by omega)]
  have hlr : q_lr T c I L J K C 0 (nI 0) I8 J8 := by
    refine ⟨⟨hx.go (fun d k a b => gI d k (by omega)) (fun _ _ _ _ => rfl), hm.go ok (fun j a b => gJ 1 _ (by omega) (by omega)) (fun _ _ _ => rfl), ok, tk⟩, ⟨?_, s, hs, ?_, ?_⟩, ⟨?_, ?_, ?_, ?_⟩, ⟨?_, ?_, ?_, g2 4 (by omega)⟩, fun d k d1 d2 d3 => gI d k d2, fun d k d1 d2 d3 d4 => gJ d k d3 d4⟩
    · rw [← hI8]; simp (disch := omega) only [q_zs, q_zo]
    · rw [← hI8]; simp (disch := omega) only [q_zs, q_zo]
    · rw [g1 0 39 (by omega), q_zo (by omega), q_zs]
    · rw [g2 0 (by omega), ← hI8]; simp (disch := omega) only [q_zs, q_zo, q_a0]
    · rw [g2 1 (by omega), ← hI8]; simp (disch := omega) only [q_zs, q_zo]
    · rw [g2 2 (by omega), ← hI8]; simp (disch := omega) only [q_zs, q_zo]
    · rw [g2 3 (by omega), ← hI8]; simp (disch := omega) only [q_zs, q_zo]
    · rw [← hI8]; simp (disch := omega) only [q_zs, q_zo]
    · rw [g1 0 40 (by omega), q_zs]
    · rw [← hI8]; simp (disch := omega) only [q_zs, q_zo]
  obtain ⟨I', J', C', e1, e2, hz⟩ := q_sim hc hT hM hE c 30000 C 0 0 0 z_fuel z_fuel z_fuel (fun _ => 0) I8 J8 hlr (Nat.zero_le _) (by omega) (fun b hb hen => by have := hen.2.1; omega) (by rw [q_ph_0]; omega) (by omega) (by unfold z_fuel; omega) (by unfold z_fuel; omega) (by unfold z_fuel; omega)
  obtain ⟨-, j7, tt⟩ := hlr.t hc hT hM hE
  have hbe : g_X11_behindEnds_2 z_fuel (nI 0) J8 = some (nI 0, J8) := by
    obtain ⟨f, hf⟩ : ∃ f, z_fuel = f + 1 := ⟨999999, rfl⟩
    rw [hf]
    by_cases y : T 0 1 = 0
    · have := m_over (T := T) (f := f) (J := J8) h60 j7
      rw [y] at this
      exact this
    · have jte := (tt 0 (by omega)).2.2.2.2.2
      have kte := (tk.2.2.2.2.1 0 (by omega)).1
      have hn21 : T 1 0 ≠ 21 := fun w => by have := (tk.2.2.2.2.2.2.1 0 (by omega) w).1; omega
      obtain ⟨w1, w2⟩ := q_kd20 kte hn21
      exact m_noend (e := 0) (by omega) h60 j7 jte.1 w1 w2
  rw [hbe, q_bs] at e2
  refine ⟨I', J', C', ?_, ?_, hz⟩
  · rw [← e1, ← hI8]
    simp only [f_X4_pass, q_zlt, ql_0]
    rfl
  · rw [← e2]
    simp only [f_X11_lives, q_zlt, ql_0]
    exact eJ
theorem q_Q.rl {C T : Nat → q_N} {mk : Nat} {I : z_I} {L : z_L} {J : z_I} {K : z_L} (h : q_Q C T mk I L J K) {I' J' : z_I} (fI : ∀ d k, q_rI d k → d ≠ 45 → d ≠ 46 → I' d k = I d k) (fJ : ∀ d k, q_rJ d k → d ≠ 22 → (d ≠ 0 ∨ k ≠ 44) → J' d k = J d k) (hl : q_rl I' J') : q_Q C T mk I' L J' K := by
  obtain ⟨⟨h1, h2, h3, h4, h5⟩, h6, h7, h8, h10, h11, h12, h13⟩ := h
  have f0 : ∀ k, I' 0 k = I 0 k := fun k => fI _ _ (Or.inl (by omega)) (by omega) (by omega)
  refine ⟨⟨h1, by rw [f0, h2], ?_, ?_, ?_⟩, ?_, ?_, h8, ?_, hl, h12, ?_⟩
  · rw [fJ 0 45 (by unfold q_rJ; omega) (by omega) (by omega), h3]
  · rw [f0, fJ 0 16 (by unfold q_rJ; omega) (by omega) (by omega), h4]
  · rw [f0, fJ 0 17 (by unfold q_rJ; omega) (by omega) (by omega), h5]
  · rw [f0, fJ 0 2 (by unfold q_rJ; omega) (by omega) (by omega), h6]
  · exact h7.go (f0 _) (fun k => fI 2 k (Or.inl (by omega)) (by omega) (by omega)) (fJ 0 10 (by unfold q_rJ; omega) (by omega) (by omega)) (fun k => fJ 6 k (by unfold q_rJ; omega) (by omega) (by omega))
  · intro i hi
    exact (h10 i hi).go (fun k => fI _ k (by unfold q_rI; omega) (by omega) (by omega)) (fun k => rfl) (fJ 4 i (by unfold q_rJ; omega) (by omega) (by omega)) (fJ 3 i (by unfold q_rJ; omega) (by omega) (by omega)) (fun k _ => rfl)
  · intro i hi
    have hb := q_cc_b (i := i) (by omega)
    refine (h13 i hi).go (fun e k a b => fI e k ?_ ?_ ?_) (fun e k a b => rfl) (fun e k a b => fI e k ?_ ?_ ?_) (fun k a b => fJ 1 k ?_ ?_ ?_) (fun k a b => rfl) <;> first | (unfold q_rI; omega) | (unfold q_rJ; omega) | omega
theorem x4_keep (I : z_I) : ∃ I', f_X4_keepNumbers I = I' ∧ (∀ d k, d ≠ 46 → (d ≠ 45 ∨ k ≠ 1) → I' d k = I d k) ∧ I' 45 1 = 1 ∧ I' 46 0 = I 45 7 ∧ I' 46 1 = I 45 8 ∧ I' 46 2 = I 45 9 ∧ I' 46 3 = I 45 10 ∧ I' 46 4 = (if zn (I 45 11) = true then 1 else 0) := by
  by_cases z : zn (I 45 11) = true
  · refine ⟨_, by simp only [f_X4_keepNumbers, q_zlt, z, ↓reduceIte]; rfl, fun d k d1 d2 => ?_, ?_, ?_, ?_, ?_, ?_, ?_⟩
    · rw [q_zo (by omega), q_zo (by omega), q_zo (by omega), q_zo (by omega), q_zo (by omega), q_zo (by omega)]
    · exact q_zs
    · rw [q_zo (by omega), q_zo (by omega), q_zo (by omega), q_zo (by omega), q_zo (by omega), q_zs]
    · rw [q_zo (by omega), q_zo (by omega), q_zo (by omega), q_zo (by omega), q_zs]
    · rw [q_zo (by omega), q_zo (by omega), q_zo (by omega), q_zs]
    · rw [q_zo (by omega), q_zo (by omega), q_zs]
    · rw [q_zo (by omega), q_zs, if_pos z]
  · refine ⟨_, by simp only [f_X4_keepNumbers, q_zlt]; exact if_neg z, fun d k d1 d2 => ?_, ?_, ?_, ?_, ?_, ?_, ?_⟩
    · rw [q_zo (by omega), q_zo (by omega), q_zo (by omega), q_zo (by omega), q_zo (by omega), q_zo (by omega)]
    · exact q_zs
    · rw [q_zo (by omega), q_zo (by omega), q_zo (by omega), q_zo (by omega), q_zo (by omega), q_zs]
    · rw [q_zo (by omega), q_zo (by omega), q_zo (by omega), q_zo (by omega), q_zs]
    · rw [q_zo (by omega), q_zo (by omega), q_zo (by omega), q_zs]
    · rw [q_zo (by omega), q_zo (by omega), q_zs]
    · rw [q_zo (by omega), q_zs, if_neg z]
theorem r_live : s_live q_R := by
  intro I L J K p0 hR
  obtain ⟨C, T, mk, h⟩ := id hR
  obtain ⟨hx, hm, ok, tx, tm, tok⟩ := h.o
  have hfr := q_from (p := p0) (a := 0) (b := 9999) (by decide) (by decide)
  cases hb : f_X10_isWithin p0 (nI 0) (nI 9999) with
  | false =>
    rw [hb] at hfr
    exact q_end (-1) 1 (by simp only [f_X10_live, ql_0, ql_9999, hb]; rfl) (by simp only [f_X11_live, qL_0, qL_9999, hfr]; rfl) hR
  | true =>
    rw [hb] at hfr
    obtain ⟨s, -, hs, rfl⟩ := q_wi_t hb (by decide) (by decide)
    have i5 := tx.1
    rcases tm with ⟨t0, t7⟩ | ⟨t0, t7, tE⟩
    · rw [t0] at i5
      refine q_end (-1) 6 (I := I) (J := J) ?_ ?_ hR
      · unfold f_X10_live; rw [show f_X10_isWithin (nI s) 0 9999 = true from hb, if_pos rfl, i5]; rfl
      · unfold f_X11_live; rw [show f_X11_isFrom (nI s).toInt64 0 9999 = true from hfr, if_pos rfl, if_pos t7]; rfl
    · rw [t0] at i5
      have t7 : J 1 7 = nI (T 0 0 1) := t7
      have tE : ∀ e, e < T 0 0 1 → q_te (T 0) e (60 + 6 * e) J := fun e he => by have := tE e he; rw [Nat.zero_add] at this; exact this
      obtain ⟨I1, J1, C1, e1, e2, ⟨x1, m1, ok1, tk1⟩, ⟨c7, c8, c9, c10⟩, c2, c11, fI, fJ⟩ := q_lives (Or.inl rfl) hx hm ok tok tx t7 tE (s := s) (by omega)
      have hq := h.set (C' := C1) (T' := T 0) (I' := I1) (L' := L) (J' := J1) (K' := K) ⟨x1, m1, ok1, tx.go (fun d k a b => fI d k (by have : q_cd 0 = 14 := rfl; omega) (by have : q_cd 0 = 14 := rfl; omega) (by have : q_cd 0 = 14 := rfl; omega)), q_tm.go (o := 0) (Or.inr ⟨t0, t7, fun e he => by rw [Nat.zero_add]; exact tE e he⟩) tok (fun k a b => fJ 1 _ (by omega) (by omega) (by omega) (by omega)), tk1⟩ (fun d k y z => fI d k (by omega) (by unfold q_rI at y; omega) (by unfold q_rI at y; omega)) (fun _ _ _ _ => rfl) (fun d k y z => fJ d k (by omega) (by unfold q_rJ at y; omega) (by unfold q_rJ at y; omega) (by unfold q_rJ at y; omega)) (fun _ _ _ _ => rfl)
      obtain ⟨I2, k0, k1, k2, k3, k4, k5, k6, k7⟩ := x4_keep I1
      obtain ⟨J2, ⟨g1, g2⟩, eJ⟩ := q_lpC (G := fun n k (a : z_I) => g_X11_live_43 n (nI k) a) (K := fun a => some (J1 0 40, z2 (z2 a 0 44 (nI 1)) 0 2 (nI 0))) (N := 5) (k0 := 0) (n := z_fuel) (a := J1) (fun k a => (∀ d j, d ≠ 22 → a d j = J1 d j) ∧ ∀ j, j < k → a 22 j = J1 21 j) (fun n k a _ hk hp => by
        refine ⟨z2 a 22 k (a 21 k), ⟨fun d j hd => by rw [q_zo (by omega)]; exact hp.1 d j hd, fun j hj => ?_⟩, ?_⟩
        · by_cases y : j = k
          · subst y; rw [q_zs]; exact hp.1 21 j (by omega)
          · rw [q_zo (by omega)]; exact hp.2 j (by omega)
        · show g_X11_live_43 (n + 1) (nI k) a = _
          rw [g_X11_live_43, if_neg (show ¬ (5 : Int32) ≤ nI k by rw [ql_5, nI_leI (by omega) (by omega)]; omega), if_pos (q_in hk (by decide)), q_zlt, nI_clamp (by omega), ql_1, nI_add]) (fun n a hp => by
        show g_X11_live_43 (n + 1) (nI 5) a = _
        rw [g_X11_live_43, if_pos (show (5 : Int32) ≤ nI 5 by decide), q_zlt, hp.1 0 40 (by omega)]
        rfl) (by omega) (q_fu (by omega)) ⟨fun _ _ _ => rfl, fun j hj => by omega⟩
      have hk2 : I2 45 2 = J1 0 40 := by rw [k1 45 2 (by omega) (by omega), c2]
      have hl : q_rl I2 (z2 J2 0 44 (nI 1)) := by
        refine Or.inr ⟨k2, q_zs, fun k hk => ?_⟩
        rw [q_zo (by omega), g2 k hk]
        match k, hk with
        | 0, _ => rw [k3, c7]
        | 1, _ => rw [k4, c8]
        | 2, _ => rw [k5, c9]
        | 3, _ => rw [k6, c10]
        | 4, _ =>
          rw [k7]
          rcases c11 with ⟨w1, w2⟩ | ⟨w1, w2⟩
          · rw [w1, w2]; rfl
          · rw [w1, w2]; rfl
      have hq2 := hq.rl (I' := I2) (J' := z2 J2 0 44 (nI 1)) (fun d k y z1 z2' => k1 d k z2' (by omega)) (fun d k y z1 z2' => by rw [q_zo (by omega), g1 d k z1]) hl
      refine ⟨(J1 0 40, z2 I2 0 15 (nI 0)), (J1 0 40, z2 (z2 J2 0 44 (nI 1)) 0 2 (nI 0)), ?_, ?_, rfl, (hq2.st (nI 0)).r⟩
      · unfold f_X10_live
        rw [show f_X10_isWithin (nI s) 0 9999 = true from hb, if_pos rfl, i5, if_pos (show zn (nI 1) = true from rfl), e1, q_bs, k0, hk2]
        rfl
      · unfold f_X11_live
        rw [show f_X11_isFrom (nI s).toInt64 0 9999 = true from hfr, if_pos rfl, t7, if_neg (show ¬ nI (T 0 0 1) = -1 from fun y => (q_nno (by have := tok.2.2.1; omega)).1 y), e2, q_bs]
        exact eJ
/-- the reference's copy of the court -/
theorem m_work {v w : Int32} {K : z_L} {J : z_I} {k89 : z_I → Option (Bool × z_I × z_L)} : ∃ J', ((∀ d j, d ≠ 1 ∨ j < 2140 ∨ 2200 ≤ j → J' d j = J d j) ∧ ∀ j, j < 60 → J' 1 (2140 + j) = J 1 j) ∧ g_X11_mean_61 v w K k89 z_fuel (nI 0) J = k89 J' := q_lpC (G := fun n k (a : z_I) => g_X11_mean_61 v w K k89 n (nI k) a) (K := k89) (N := 60) (k0 := 0) (n := z_fuel) (a := J) (fun k a => (∀ d j, d ≠ 1 ∨ j < 2140 ∨ 2200 ≤ j → a d j = J d j) ∧ ∀ j, j < k → a 1 (2140 + j) = J 1 j) (fun n k a _ hk hp => by
    refine ⟨z2 a 1 (2140 + k) (a 1 k), ⟨fun d j hd => by rw [q_zo (by omega)]; exact hp.1 d j hd, fun j hj => ?_⟩, ?_⟩
    · by_cases y : j = k
      · subst y; rw [q_zs]; exact hp.1 1 j (by omega)
      · rw [q_zo (by omega)]; exact hp.2 j (by omega)
    · show g_X11_mean_61 v w K k89 (n + 1) (nI k) a = _
      simp (disch := omega) only [g_X11_mean_61, ql_0, ql_1, ql_2, ql_3, ql_4, ql_5, ql_6, ql_7, ql_8, ql_9, ql_10, ql_11, ql_12, ql_13, ql_14, ql_15, ql_16, ql_17, ql_18, ql_19, ql_20, ql_21, ql_22, ql_23, ql_24, ql_27, ql_30, ql_31, ql_32, ql_40, ql_48, ql_51, ql_52, ql_57, ql_59, ql_60, ql_61, ql_62, ql_76, ql_84, ql_91, ql_97, ql_99, ql_100, ql_120, ql_122, ql_127, ql_128, ql_200, ql_255, ql_256, ql_300, ql_420, ql_428, ql_640, ql_900, ql_896, ql_999, ql_1712, ql_1716, ql_1734, ql_1772, ql_1800, ql_1805, ql_1811, ql_1822, ql_2132, ql_2140, ql_3229, ql_9999, ql_11453, ql_65536, ql_100000, ql_1000000, nI_add, pk_mul, q_and, q_or, q_xor, nI_clamp, q_in, q_neg1, q_nno, q_nno', q_annN, q_sh1, q_tbN, nI_leI, nI_ltI, nI_eq, pk_sub, ↓reduceIte, if_pos, if_neg, q_zlt, q_bs]) (fun n a hp => by
    show g_X11_mean_61 v w K k89 (n + 1) (nI 60) a = _
    simp (disch := omega) only [g_X11_mean_61, ql_0, ql_1, ql_2, ql_3, ql_4, ql_5, ql_6, ql_7, ql_8, ql_9, ql_10, ql_11, ql_12, ql_13, ql_14, ql_15, ql_16, ql_17, ql_18, ql_19, ql_20, ql_21, ql_22, ql_23, ql_24, ql_27, ql_30, ql_31, ql_32, ql_40, ql_48, ql_51, ql_52, ql_57, ql_59, ql_60, ql_61, ql_62, ql_76, ql_84, ql_91, ql_97, ql_99, ql_100, ql_120, ql_122, ql_127, ql_128, ql_200, ql_255, ql_256, ql_300, ql_420, ql_428, ql_640, ql_900, ql_896, ql_999, ql_1712, ql_1716, ql_1734, ql_1772, ql_1800, ql_1805, ql_1811, ql_1822, ql_2132, ql_2140, ql_3229, ql_9999, ql_11453, ql_65536, ql_100000, ql_1000000, nI_add, pk_mul, q_and, q_or, q_xor, nI_clamp, q_in, q_neg1, q_nno, q_nno', q_annN, q_sh1, q_tbN, nI_leI, nI_ltI, nI_eq, pk_sub, ↓reduceIte, if_pos, if_neg, q_zlt, q_bs]) (by omega) (q_fu (by omega)) ⟨fun _ _ _ => rfl, fun j hj => by omega⟩
theorem m_back {v w : Int32} {g : Int64} {u : Int32} {K : z_L} {J : z_I} {k151 : z_I → Option (Bool × z_I × z_L)} : ∃ J', ((∀ d j, d ≠ 1 ∨ 60 ≤ j → J' d j = J d j) ∧ ∀ j, j < 60 → J' 1 j = J 1 (2140 + j)) ∧ g_X11_mean_120 v w g u K k151 z_fuel (nI 0) J = k151 J' := q_lpC (G := fun n k (a : z_I) => g_X11_mean_120 v w g u K k151 n (nI k) a) (K := k151) (N := 60) (k0 := 0) (n := z_fuel) (a := J) (fun k a => (∀ d j, d ≠ 1 ∨ 60 ≤ j → a d j = J d j) ∧ ∀ j, j < k → a 1 j = J 1 (2140 + j)) (fun n k a _ hk hp => by
    refine ⟨z2 a 1 k (a 1 (2140 + k)), ⟨fun d j hd => by rw [q_zo (by omega)]; exact hp.1 d j hd, fun j hj => ?_⟩, ?_⟩
    · by_cases y : j = k
      · subst y; rw [q_zs]; exact hp.1 1 _ (by omega)
      · rw [q_zo (by omega)]; exact hp.2 j (by omega)
    · show g_X11_mean_120 v w g u K k151 (n + 1) (nI k) a = _
      simp (disch := omega) only [g_X11_mean_120, ql_0, ql_1, ql_2, ql_3, ql_4, ql_5, ql_6, ql_7, ql_8, ql_9, ql_10, ql_11, ql_12, ql_13, ql_14, ql_15, ql_16, ql_17, ql_18, ql_19, ql_20, ql_21, ql_22, ql_23, ql_24, ql_27, ql_30, ql_31, ql_32, ql_40, ql_48, ql_51, ql_52, ql_57, ql_59, ql_60, ql_61, ql_62, ql_76, ql_84, ql_91, ql_97, ql_99, ql_100, ql_120, ql_122, ql_127, ql_128, ql_200, ql_255, ql_256, ql_300, ql_420, ql_428, ql_640, ql_900, ql_896, ql_999, ql_1712, ql_1716, ql_1734, ql_1772, ql_1800, ql_1805, ql_1811, ql_1822, ql_2132, ql_2140, ql_3229, ql_9999, ql_11453, ql_65536, ql_100000, ql_1000000, nI_add, pk_mul, q_and, q_or, q_xor, nI_clamp, q_in, q_neg1, q_nno, q_nno', q_annN, q_sh1, q_tbN, nI_leI, nI_ltI, nI_eq, pk_sub, ↓reduceIte, if_pos, if_neg, q_zlt, q_bs]) (fun n a hp => by
    show g_X11_mean_120 v w g u K k151 (n + 1) (nI 60) a = _
    simp (disch := omega) only [g_X11_mean_120, ql_0, ql_1, ql_2, ql_3, ql_4, ql_5, ql_6, ql_7, ql_8, ql_9, ql_10, ql_11, ql_12, ql_13, ql_14, ql_15, ql_16, ql_17, ql_18, ql_19, ql_20, ql_21, ql_22, ql_23, ql_24, ql_27, ql_30, ql_31, ql_32, ql_40, ql_48, ql_51, ql_52, ql_57, ql_59, ql_60, ql_61, ql_62, ql_76, ql_84, ql_91, ql_97, ql_99, ql_100, ql_120, ql_122, ql_127, ql_128, ql_200, ql_255, ql_256, ql_300, ql_420, ql_428, ql_640, ql_900, ql_896, ql_999, ql_1712, ql_1716, ql_1734, ql_1772, ql_1800, ql_1805, ql_1811, ql_1822, ql_2132, ql_2140, ql_3229, ql_9999, ql_11453, ql_65536, ql_100000, ql_1000000, nI_add, pk_mul, q_and, q_or, q_xor, nI_clamp, q_in, q_neg1, q_nno, q_nno', q_annN, q_sh1, q_tbN, nI_leI, nI_ltI, nI_eq, pk_sub, ↓reduceIte, if_pos, if_neg, q_zlt, q_bs]) (by omega) (q_fu (by omega)) ⟨fun _ _ _ => rfl, fun j hj => by omega⟩
/-- both sums -/
theorem q_meanL {C T : q_N} {I0 : z_I} {L0 : z_L} {J0 : z_I} {K : z_L} (hx : q_sx C 3 I0 L0) (hm : q_sm C 0 0 J0 K) (ok : q_ok C) (tk : q_tok T C) (hT : q_tx T 14 I0) (hM : J0 1 7 = nI (T 0 1)) (hE : ∀ e, e < T 0 1 → q_te T e (60 + 6 * e) J0) {s n : Nat} (hs : s + n ≤ 10000) (hn : n ≤ 20) (k109 : Int64 → z_I → z_L → Option (Bool × z_I × z_L)) : ∀ j i g f f2 I L J, i + j = n → j < f → j < f2 → g ≤ 40000 * i → (∀ d k, d < 22 ∨ 32 < d → d ≠ 45 ∨ k < 2 → d ≠ 47 → I d k = I0 d k) → (∀ d k, d < 22 ∨ 32 < d → L d k = L0 d k) → (∀ d k, d ≠ 1 ∨ k < 2140 → d ≠ 20 → d ≠ 21 → d ≠ 0 ∨ (k ≠ 39 ∧ k ≠ 40) → J d k = J0 d k) → (∀ k, k < 60 → J 1 (2140 + k) = J0 1 k) → ∃ g' I' L' J', g' ≤ 40000 * n ∧ g_X10_mean_60 (nI s) (nI n) k109 f (lN g) (nI i) I L = k109 (lN g') I' L' ∧ g_X11_mean_94 (nI s) (nI n) K f2 (lN g) (nI i) J = (f_X11_tellsBy J' K (lN g') (lN n)).bind (fun q6 => some (q6.1, q6.2.1, q6.2.2)) ∧ (∀ d k, d < 22 ∨ 32 < d → d ≠ 45 ∨ k < 2 → d ≠ 47 → I' d k = I0 d k) ∧ (∀ d k, d < 22 ∨ 32 < d → L' d k = L0 d k) ∧ (∀ d k, d ≠ 1 ∨ k < 2140 → d ≠ 20 → d ≠ 21 → d ≠ 0 ∨ (k ≠ 39 ∧ k ≠ 40) → J' d k = J0 d k) := by
  intro j
  induction j with
  | zero =>
    intro i g f f2 I L J hi hf hf2 hg hI hL hJ hW
    have hi : i = n := hi
    subst hi
    cases f with
    | zero => omega
    | succ f =>
      cases f2 with
      | zero => omega
      | succ f2 =>
        refine ⟨g, I, L, J, hg, ?_, ?_, hI, hL, hJ⟩
        · rw [g_X10_mean_60, if_pos (nI_le (Nat.le_refl _) (by omega))]
        · rw [g_X11_mean_94, if_pos (nI_le (Nat.le_refl _) (by omega)), nI_l (by omega)]
  | succ j ih =>
    intro i g f f2 I L J hi hf hf2 hg hI hL hJ hW
    cases f with
    | zero => omega
    | succ f =>
      cases f2 with
      | zero => omega
      | succ f2 =>
        have hx' : q_sx C 3 I L := hx.go (fun d k a b => hI d k (by omega) (by omega) (by omega)) (fun d k a b => hL d k (by omega))
        have hm' : q_sm C 0 0 J K := hm.go ok (fun k a b => hJ 1 k (by omega) (by omega) (by omega) (by omega)) (fun _ _ _ => rfl)
        obtain ⟨a1, -, -, a4, -, -⟩ := x0_copyI (I := I) (L := L) (c := 22) (p := 3) (by omega)
        have ax := x0_copy (c := 22) (p := 3) hx' ok (by omega)
        generalize hcp : f_X0_copyFrom I L 22 3 = cp at a1 a4 ax
        obtain ⟨I1, L1⟩ := cp
        simp only at a1 a4 ax
        have hT' : q_tx T 14 I1 := hT.go (fun d k a b => by rw [a1 d k (by omega), hI d k (by omega) (by omega) (by omega)])
        have hM' : J 1 7 = nI (T 0 1) := by rw [hJ 1 7 (by omega) (by omega) (by omega) (by omega), hM]
        have h60 := tk.2.2.1
        have hE' : ∀ e, e < T 0 1 → q_te T e (60 + 6 * e) J := fun e he => (hE e he).go (fun k hk => hJ 1 _ (by omega) (by omega) (by omega) (by omega))
        obtain ⟨I2, J2, C2, e1, e2, ⟨x2, m2, ok2, -⟩, -, -, -, fI, fJ⟩ := q_lives (Or.inr rfl) ax hm' ok tk hT' hM' hE' (s := s + i) (by omega)
        have t1 := (x0_all 22 x2 ok2).2.2
        have t2 := m_together2 m2 ok2
        have hle : q_sum (C2 9) (C2 0 3) ≤ C2 0 3 * 9999 := q_sum_le (fun k hk => (ok2.2.2.2.2.2.2.2.2.2.2 k hk).2.1)
        have h3 := ok2.2.2.2.1
        have hle : q_sum (C2 9) (C2 0 3) ≤ 40000 := by
          have : C2 0 3 * 9999 ≤ 4 * 9999 := Nat.mul_le_mul_right _ h3
          omega
        generalize q_sum (C2 9) (C2 0 3) = gd at t1 t2 hle
        obtain ⟨J3, ⟨b1, b2⟩, e3⟩ := m_back (v := nI s) (w := nI n) (g := lN (g + gd)) (u := nI i) (K := K) (J := J2) (k151 := fun I_15 => g_X11_mean_94 (nI s) (nI n) K f2 (lN (g + gd)) (nI (i + 1)) I_15)
        obtain ⟨g', I', L', J', r1, r2, r3, r4, r5, r6⟩ := ih (i + 1) (g + gd) f f2 I2 L1 J3 (by omega) (by omega) (by omega) (by omega) (fun d k d1 d2 d3 => by rw [fI d k (by omega) d2 d3, a1 d k (by omega), hI d k d1 d2 d3]) (fun d k d1 => by rw [a4 d k (by omega), hL d k d1]) (fun d k d1 d2 d3 d4 => by
          by_cases y : d = 1 ∧ k < 60
          · obtain ⟨rfl, y⟩ := y
            rw [b2 k y, fJ 1 _ (by omega) (by omega) (by omega) (by omega), hW k y]
          · rw [b1 d k (by omega), fJ d k (by omega) d2 d3 d4, hJ d k d1 d2 d3 d4]) (fun k hk => by rw [b1 1 _ (by omega), fJ 1 _ (by omega) (by omega) (by omega) (by omega), hW k hk])
        refine ⟨g', I', L', J', r1, ?_, ?_, r4, r5, r6⟩
        · rw [← r2, g_X10_mean_60, if_neg (nI_ge (by omega) (by omega)), hcp, nI_add, e1, q_bs, t1, q_bs, nI_l (by omega), lN_add, ql_1, nI_add]
        · rw [← r3, g_X11_mean_94, if_neg (nI_ge (by omega) (by omega)), nI_add, e2, q_bs, t2, q_bs, nI_l (by omega), lN_add, ql_1, nI_add]
          exact e3
theorem r_mean : s_mean q_R := by
  intro I L J K p0 p1 hR
  obtain ⟨C, T, mk, h⟩ := id hR
  obtain ⟨hx, hm, ok, tx, tm, tok⟩ := h.o
  have hfr := q_from (p := p0) (a := 0) (b := 9999) (by decide) (by decide)
  have hfr2 := q_from (p := p1) (a := 1) (b := 20) (by decide) (by decide)
  cases hb : f_X10_isWithin p0 (nI 0) (nI 9999) with
  | false =>
    rw [hb] at hfr
    exact q_end2 false 1 (by simp only [f_X10_mean, ql_0, ql_9999, hb]; rfl) (by simp only [f_X11_mean, qL_0, qL_9999, hfr]; rfl) hR
  | true =>
  rw [hb] at hfr
  cases hb2 : f_X10_isWithin p1 (nI 1) (nI 20) with
  | false =>
    rw [hb2] at hfr2
    exact q_end2 false 1 (by simp only [f_X10_mean, ql_0, ql_1, ql_20, ql_9999, hb, hb2]; rfl) (by simp only [f_X11_mean, qL_0, qL_1, qL_20, qL_9999, hfr, hfr2]; rfl) hR
  | true =>
    rw [hb2] at hfr2
    obtain ⟨s, -, hs, rfl⟩ := q_wi_t hb (by decide) (by decide)
    obtain ⟨n, hn1, hn, rfl⟩ := q_wi_t hb2 (by decide) (by decide)
    have hsum : nI s + nI n - 1 = nI (s + n - 1) := by rw [nI_add, ql_1, pk_sub (by omega)]
    by_cases z : s + n - 1 ≤ 9999
    · have hz : nI (s + n - 1) ≤ 9999 := nI_le z (by decide)
      have i5 := tx.1
      rcases tm with ⟨t0, t7⟩ | ⟨t0, t7, tE⟩
      · rw [t0] at i5
        refine q_end2 false 6 (I := I) (J := J) ?_ ?_ hR
        · unfold f_X10_mean; rw [show f_X10_isWithin (nI s) 0 9999 = true from hb, if_pos rfl, show f_X10_isWithin (nI n) 1 20 = true from hb2, if_pos rfl, hsum, if_pos hz, i5]; rfl
        · unfold f_X11_mean; rw [show f_X11_isFrom (nI s).toInt64 0 9999 = true from hfr, if_pos rfl, show f_X11_isFrom (nI n).toInt64 1 20 = true from hfr2, if_pos rfl, hsum, if_pos hz, if_pos t7]; rfl
      · rw [t0] at i5
        have t7 : J 1 7 = nI (T 0 0 1) := t7
        have tE : ∀ e, e < T 0 0 1 → q_te (T 0) e (60 + 6 * e) J := fun e he => by have := tE e he; rw [Nat.zero_add] at this; exact this
        obtain ⟨J1, ⟨g1, g2⟩, eJ⟩ := m_work (v := nI s) (w := nI n) (K := K) (J := J) (k89 := fun I_5 => g_X11_mean_94 (nI s) (nI n) K z_fuel (lN 0) (nI 0) I_5)
        obtain ⟨g', I', L', J', r1, r2, r3, r4, r5, r6⟩ := q_meanL hx hm ok tok tx t7 tE (s := s) (n := n) (by omega) hn (fun v3_5 I_6 L_7 => (f_X3_tell L_7 v3_5 ((nI n).toInt64)).bind fun q8 => some ((f_X10_grant I_6).1, (f_X10_grant I_6).2, q8)) n 0 0 z_fuel z_fuel I L J1 (by omega) (q_fu (by omega)) (q_fu (by omega)) (by omega) (fun _ _ _ _ _ => rfl) (fun _ _ _ => rfl) (fun d k d1 d2 d3 d4 => g1 d k (by omega)) (fun k hk => g2 k hk)
        have hg20 : g' < 2 ^ 63 := by
          have : 40000 * n ≤ 40000 * 20 := Nat.mul_le_mul_left _ hn
          omega
        have hq0 := h.fr (I' := I') (L' := L') (J' := J') (K' := K) (fun d k y => r4 d k (by unfold q_rI at y; omega) (by unfold q_rI at y; omega) (by unfold q_rI at y; omega)) (fun d k y => r5 d k (by unfold q_rL at y; omega)) (fun d k y => r6 d k (by unfold q_rJ at y; omega) (by unfold q_rJ at y; omega) (by unfold q_rJ at y; omega) (by unfold q_rJ at y; omega)) (fun _ _ _ => rfl)
        have hq := (hq0.frac (lN (g' / Nat.gcd g' n)) (lN (n / Nat.gcd g' n))).r
        have tX := x3_tell L' (a := g') (b := n) hg20 (by omega) (by omega)
        have tM := m_tells J' K (a := g') (b := n) hg20 (by omega) (by omega)
        rw [tM, q_bs] at r3
        refine q_end2 true 0 ?_ ?_ hq
        · unfold f_X10_mean
          rw [show f_X10_isWithin (nI s) 0 9999 = true from hb, if_pos rfl, show f_X10_isWithin (nI n) 1 20 = true from hb2, if_pos rfl, hsum, if_pos hz, i5, if_pos (show zn (nI 1) = true from rfl), qL_0, ql_0, r2, nI_l (by omega), tX, q_bs]
          rfl
        · unfold f_X11_mean
          rw [show f_X11_isFrom (nI s).toInt64 0 9999 = true from hfr, if_pos rfl, show f_X11_isFrom (nI n).toInt64 1 20 = true from hfr2, if_pos rfl, hsum, if_pos hz, t7, if_neg (show ¬ nI (T 0 0 1) = -1 from fun y => (q_nno (by have := tok.2.2.1; omega)).1 y), qL_0, ql_0]
          exact eJ.trans r3
    · have hz : ¬ nI (s + n - 1) ≤ 9999 := by rw [ql_9999, nI_leI (by omega) (by omega)]; exact z
      refine q_end2 false 1 (I := I) (J := J) ?_ ?_ hR
      · unfold f_X10_mean; rw [show f_X10_isWithin (nI s) 0 9999 = true from hb, if_pos rfl, show f_X10_isWithin (nI n) 1 20 = true from hb2, if_pos rfl, hsum, if_neg hz]; rfl
      · unfold f_X11_mean; rw [show f_X11_isFrom (nI s).toInt64 0 9999 = true from hfr, if_pos rfl, show f_X11_isFrom (nI n).toInt64 1 20 = true from hfr2, if_pos rfl, hsum, if_neg hz]; rfl
