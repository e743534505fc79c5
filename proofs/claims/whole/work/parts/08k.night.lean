/-! nights -/
/-- so many nights for the first beds -/
def q_nb (C : q_N) (p n : Nat) : q_N := fun r k => if r = 1 ∧ k < n then C 1 k - min p (C 1 k) else if r = 2 ∧ k < n then max (C 2 k) (min 99 (C 2 k + min p (C 1 k))) else C r k
theorem q_nb_0 (C : q_N) (p : Nat) : q_nb C p 0 = C := by
  funext r k
  unfold q_nb
  rw [if_neg (by omega), if_neg (by omega)]
theorem q_nb_s (C : q_N) (p n : Nat) : q_nb C p (n + 1) = z2 (z2 (q_nb C p n) 1 n (C 1 n - min p (C 1 n))) 2 n (max (C 2 n) (min 99 (C 2 n + min p (C 1 n)))) := by
  funext r k
  by_cases h2 : r = 2 ∧ k = n
  · obtain ⟨a, b⟩ := h2
    subst a b
    rw [q_zs]
    unfold q_nb
    rw [if_neg (by omega), if_pos (by omega)]
  · rw [q_zo (f := z2 (q_nb C p n) 1 n (C 1 n - min p (C 1 n))) (by omega)]
    by_cases h1 : r = 1 ∧ k = n
    · obtain ⟨a, b⟩ := h1
      subst a b
      rw [q_zs]
      unfold q_nb
      rw [if_pos (by omega)]
    · rw [q_zo (by omega)]
      unfold q_nb
      by_cases e1 : r = 1 ∧ k < n
      · rw [if_pos e1, if_pos (by omega)]
      · rw [if_neg e1, if_neg (by omega)]
        by_cases e2 : r = 2 ∧ k < n
        · rw [if_pos e2, if_pos (by omega)]
        · rw [if_neg e2, if_neg (by omega)]
theorem q_nb_o (C : q_N) (p n : Nat) {r k : Nat} (h : (r ≠ 1 ∧ r ≠ 2) ∨ n ≤ k) : q_nb C p n r k = C r k := by
  unfold q_nb
  rw [if_neg (by omega), if_neg (by omega)]
theorem q_nb_ok {C : q_N} (ok : q_ok C) (p n : Nat) : q_ok (q_nb C p n) := by
  induction n with
  | zero => rw [q_nb_0]; exact ok
  | succ n ih =>
    rw [q_nb_s]
    have e : (C 1 n ≤ 9999 ∧ C 2 n ≤ 99) ∨ ¬ n < C 0 0 := by
      by_cases h : n < C 0 0
      · exact Or.inl (ok.2.2.2.2.2.2.2.1 n h)
      · exact Or.inr h
    rcases e with e | e
    · exact (ih.put (by omega) (fun _ => by omega) (by omega) (by omega) (by omega) (by omega) (by omega) (by omega) (by omega) (by omega) (by omega)).put (by omega) (by omega) (fun _ => by omega) (by omega) (by omega) (by omega) (by omega) (by omega) (by omega) (by omega) (by omega)
    · obtain ⟨a0, a1, a2, a3, a4, a5, a6, a7, a8, a9, a10⟩ := ih
      have f : ∀ r k, (r ≠ 1 ∧ r ≠ 2) ∨ k ≠ n → z2 (z2 (q_nb C p n) 1 n (C 1 n - min p (C 1 n))) 2 n (max (C 2 n) (min 99 (C 2 n + min p (C 1 n)))) r k = q_nb C p n r k := fun r k z => by rw [q_zo (by omega), q_zo (by omega)]
      have f0 : q_nb C p n 0 0 = C 0 0 := q_nb_o C p n (by omega)
      refine ⟨by rw [f _ _ (by omega)]; exact a0, by rw [f _ _ (by omega)]; exact a1, by rw [f _ _ (by omega)]; exact a2, by rw [f _ _ (by omega)]; exact a3, by rw [f _ _ (by omega)]; exact a4, by rw [f _ _ (by omega)]; exact a5, by rw [f _ _ (by omega), f _ _ (by omega)]; exact a6, ?_, ?_, ?_, ?_⟩
      · intro b hb; rw [f _ _ (by omega)] at hb; rw [f _ _ (by omega), f _ _ (by omega)]; exact a7 b hb
      · intro b hb; rw [f _ _ (by omega)] at hb; rw [f _ _ (by omega)]; exact a8 b hb
      · intro b hb; rw [f _ _ (by omega)] at hb; rw [f _ _ (by omega), f _ _ (by omega), f _ _ (by omega), f _ _ (by omega), f _ _ (by omega), f _ _ (by omega)]; exact a9 b hb
      · intro b hb; rw [f _ _ (by omega)] at hb; rw [f _ _ (by omega), f _ _ (by omega), f _ _ (by omega), f _ _ (by omega)]; exact a10 b hb
theorem q_ok.nights {C : q_N} (ok : q_ok C) {v : Nat} (hv : v ≤ 9999) : q_ok (z2 C 0 5 v) := by
  obtain ⟨a0, a1, a2, a3, a4, a5, a6, a7, a8, a9, a10⟩ := ok
  have e : ∀ r k, r ≠ 0 ∨ k ≠ 5 → z2 C 0 5 v r k = C r k := fun r k z => q_zo z
  refine ⟨by rw [e _ _ (by omega)]; exact a0, by rw [e _ _ (by omega)]; exact a1, by rw [e _ _ (by omega)]; exact a2, by rw [e _ _ (by omega)]; exact a3, by rw [e _ _ (by omega)]; exact a4, by rw [q_zs]; exact hv, by rw [e _ _ (by omega), e _ _ (by omega)]; exact a6, ?_, ?_, ?_, ?_⟩
  · intro b hb; rw [e _ _ (by omega)] at hb; rw [e _ _ (by omega), e _ _ (by omega)]; exact a7 b hb
  · intro b hb; rw [e _ _ (by omega)] at hb; rw [e _ _ (by omega)]; exact a8 b hb
  · intro b hb; rw [e _ _ (by omega)] at hb; rw [e _ _ (by omega), e _ _ (by omega), e _ _ (by omega), e _ _ (by omega), e _ _ (by omega), e _ _ (by omega)]; exact a9 b hb
  · intro b hb; rw [e _ _ (by omega)] at hb; rw [e _ _ (by omega), e _ _ (by omega), e _ _ (by omega), e _ _ (by omega)]; exact a10 b hb
/-- the court behind so many nights -/
def q_nt (C : q_N) (p : Nat) : q_N := z2 (q_nb C p (C 0 0)) 0 5 (C 0 5 + p)
theorem q_nt_ok {C : q_N} (ok : q_ok C) {p : Nat} (h : C 0 5 + p ≤ 9999) : q_ok (q_nt C p) := (q_nb_ok ok p _).nights h
theorem q_nt_at (C : q_N) (p r k : Nat) : q_nt C p r k = if r = 0 ∧ k = 5 then C 0 5 + p else if r = 1 ∧ k < C 0 0 then C 1 k - min p (C 1 k) else if r = 2 ∧ k < C 0 0 then max (C 2 k) (min 99 (C 2 k + min p (C 1 k))) else C r k := by
  unfold q_nt
  by_cases h : r = 0 ∧ k = 5
  · rw [if_pos h, h.1, h.2, q_zs]
  · rw [if_neg h, q_zo (by omega)]; rfl
theorem q_nt_0 (C : q_N) : q_nt C 0 = C := by
  funext r k
  rw [q_nt_at]
  by_cases h : r = 0 ∧ k = 5
  · rw [if_pos h, h.1, h.2]; omega
  · rw [if_neg h]
    by_cases h1 : r = 1 ∧ k < C 0 0
    · rw [if_pos h1, h1.1]; omega
    · rw [if_neg h1]
      by_cases h2 : r = 2 ∧ k < C 0 0
      · rw [if_pos h2, h2.1]; omega
      · rw [if_neg h2]
theorem q_nt_c (C : q_N) (p : Nat) {i : Nat} (h : i ≠ 5) : q_nt C p 0 i = C 0 i := by rw [q_nt_at, if_neg (by omega), if_neg (by omega), if_neg (by omega)]
theorem q_nt_s (C : q_N) (p : Nat) : q_nt (q_nt C p) 1 = q_nt C (p + 1) := by
  funext r k
  rw [q_nt_at (q_nt C p), q_nt_c C p (i := 0) (by omega), q_nt_at C (p + 1)]
  have e5 : q_nt C p 0 5 = C 0 5 + p := by rw [q_nt_at, if_pos ⟨rfl, rfl⟩]
  by_cases h : r = 0 ∧ k = 5
  · rw [if_pos h, if_pos h, e5]; omega
  · rw [if_neg h, if_neg h]
    by_cases hk : k < C 0 0
    · have e1 : q_nt C p 1 k = C 1 k - min p (C 1 k) := by rw [q_nt_at, if_neg (by omega), if_pos ⟨rfl, hk⟩]
      have e2 : q_nt C p 2 k = max (C 2 k) (min 99 (C 2 k + min p (C 1 k))) := by rw [q_nt_at, if_neg (by omega), if_neg (by omega), if_pos ⟨rfl, hk⟩]
      by_cases h1 : r = 1
      · rw [if_pos ⟨h1, hk⟩, if_pos ⟨h1, hk⟩, e1]; omega
      · rw [if_neg (c := r = 1 ∧ k < C 0 0) (by omega), if_neg (c := r = 1 ∧ k < C 0 0) (by omega)]
        by_cases h2 : r = 2
        · rw [if_pos ⟨h2, hk⟩, if_pos ⟨h2, hk⟩, e1, e2]; omega
        · rw [if_neg (c := r = 2 ∧ k < C 0 0) (by omega), if_neg (c := r = 2 ∧ k < C 0 0) (by omega), q_nt_at, if_neg h, if_neg (by omega), if_neg (by omega)]
    · rw [if_neg (c := r = 1 ∧ k < C 0 0) (by omega), if_neg (c := r = 1 ∧ k < C 0 0) (by omega), if_neg (c := r = 2 ∧ k < C 0 0) (by omega), if_neg (c := r = 2 ∧ k < C 0 0) (by omega), q_nt_at, if_neg h, if_neg (by omega), if_neg (by omega)]
theorem q_nb_c (C : q_N) (p n : Nat) (i : Nat) : q_nb C p n 0 i = C 0 i := q_nb_o C p n (by omega)
theorem q_nb_z (C : q_N) (v p n : Nat) : q_nb (z2 C 0 5 v) p n = z2 (q_nb C p n) 0 5 v := by
  funext r k
  have e : ∀ s j, s ≠ 0 → z2 C 0 5 v s j = C s j := fun s j hs => q_zo (Or.inl hs)
  by_cases h : r = 0
  · subst h
    rw [q_nb_c]
    by_cases h5 : k = 5
    · subst h5; rw [q_zs, q_zs]
    · rw [q_zo (by omega), q_zo (by omega), q_nb_c]
  · rw [q_zo (by omega)]
    unfold q_nb
    rw [e 1 k (by omega), e 2 k (by omega), e r k h]
/-- the class passes nights -/
theorem x0_passNights {C : q_N} {c : Nat} {I : z_I} {L : z_L} (h : q_sx C c I L) (ok : q_ok C) {p : Nat} (hp : p ≤ 9999) (h5 : C 0 5 + p ≤ 9999) : ∃ b, f_X0_passNights I c (nI p) = some b ∧ b.1 = true ∧ q_sx (q_nt C p) c b.2 L ∧ ∀ d k, d ≠ c → d ≠ c + 1 → d ≠ c + 2 → b.2 d k = I d k := by
  obtain ⟨o0, o1, o2, o3, -⟩ := id ok
  have e : f_X0_passNights I c (nI p) = g_X0_passNights_26 c (nI p) z_fuel (nI 0) (z2 I c 15 (nI (C 0 5 + p))) := by
    simp (disch := omega) only [f_X0_passNights, h.f.2.2.2.2.2.1, ql_0, ql_1, ql_2, ql_3, ql_4, ql_5, ql_6, ql_7, ql_8, ql_9, ql_10, ql_11, ql_12, ql_13, ql_14, ql_15, ql_16, ql_17, ql_18, ql_19, ql_20, ql_21, ql_22, ql_23, ql_24, ql_27, ql_30, ql_31, ql_32, ql_40, ql_48, ql_51, ql_52, ql_57, ql_59, ql_60, ql_61, ql_62, ql_76, ql_84, ql_91, ql_97, ql_99, ql_100, ql_120, ql_122, ql_127, ql_128, ql_200, ql_255, ql_256, ql_300, ql_420, ql_428, ql_640, ql_900, ql_896, ql_999, ql_1712, ql_1716, ql_1734, ql_1772, ql_1800, ql_1805, ql_1811, ql_1822, ql_2132, ql_2140, ql_3229, ql_9999, ql_11453, ql_65536, ql_100000, ql_1000000, nI_add, pk_mul, q_and, q_or, q_xor, nI_clamp, q_in, q_neg1, q_nno, q_nno', q_annN, q_sh1, q_tbN, nI_leI, nI_ltI, nI_eq, pk_sub, ↓reduceIte, if_pos, if_neg, q_zlt, q_bs]
  rw [e]
  have h0 : q_sx (z2 C 0 5 (C 0 5 + p)) c (z2 I c 15 (nI (C 0 5 + p))) L := h.put (r := 0) (k := 5) (by simp [q_bd]) (by omega)
  refine q_lpP (G := fun n k a => g_X0_passNights_26 c (nI p) n (nI k) a) (N := C 0 0) (k0 := 0) (fun k a => q_sx (q_nb (z2 C 0 5 (C 0 5 + p)) p k) c a L ∧ ∀ d j, d ≠ c → d ≠ c + 1 → d ≠ c + 2 → a d j = I d j) (fun n k a _ hk hP => ?_) (fun n a hP => ?_) (Nat.zero_le _) (q_fu (by omega)) ⟨by rw [q_nb_0]; exact h0, fun d j z _ _ => q_zo (Or.inl z)⟩
  · obtain ⟨hP, hF⟩ := hP
    have e0 : a c 10 = nI (C 0 0) := by rw [hP.f.1, q_nb_c, q_zo (by omega)]
    have hk0 : k < q_nb (z2 C 0 5 (C 0 5 + p)) p k 0 0 := by rw [q_nb_c, q_zo (by omega)]; exact hk
    have e1 : a (c + 1) k = nI (C 1 k) := by rw [hP.a1 hk0, q_nb_o _ _ _ (Or.inr (Nat.le_refl _)), q_zo (by omega)]
    have e2 : a (c + 2) k = nI (C 2 k) := by rw [hP.a2 hk0, q_nb_o _ _ _ (Or.inr (Nat.le_refl _)), q_zo (by omega)]
    have b1 := ok.2.2.2.2.2.2.2.1 k hk
    have g1 := hP.put (r := 1) (k := k) (v := C 1 k - min p (C 1 k)) hk0 (by omega)
    have g2 := g1.put (r := 2) (k := k) (v := max (C 2 k) (min 99 (C 2 k + min p (C 1 k)))) (by rw [q_bdp (by omega)]; exact hk0) (by omega)
    refine ⟨_, ⟨by rw [q_nb_s, q_zo (f := C) (by omega), q_zo (f := C) (by omega)]; exact g2, fun d j z0 z1 z2 => by rw [q_zo (Or.inl z2), q_zo (Or.inl z1)]; exact hF d j z0 z1 z2⟩, ?_⟩
    simp (disch := omega) only [g_X0_passNights_26, e0, e1, e2, ql_0, ql_1, ql_2, ql_3, ql_4, ql_5, ql_6, ql_7, ql_8, ql_9, ql_10, ql_11, ql_12, ql_13, ql_14, ql_15, ql_16, ql_17, ql_18, ql_19, ql_20, ql_21, ql_22, ql_23, ql_24, ql_27, ql_30, ql_31, ql_32, ql_40, ql_48, ql_51, ql_52, ql_57, ql_59, ql_60, ql_61, ql_62, ql_76, ql_84, ql_91, ql_97, ql_99, ql_100, ql_120, ql_122, ql_127, ql_128, ql_200, ql_255, ql_256, ql_300, ql_420, ql_428, ql_640, ql_900, ql_896, ql_999, ql_1712, ql_1716, ql_1734, ql_1772, ql_1800, ql_1805, ql_1811, ql_1822, ql_2132, ql_2140, ql_3229, ql_9999, ql_11453, ql_65536, ql_100000, ql_1000000, nI_add, pk_mul, q_and, q_or, q_xor, nI_clamp, q_in, q_neg1, q_nno, q_nno', q_annN, q_sh1, q_tbN, nI_leI, nI_ltI, nI_eq, pk_sub, ↓reduceIte, if_pos, if_neg, q_zlt, q_bs, q_min]
    rw [show max (C 2 k) (min 99 (C 2 k + min p (C 1 k))) = min 99 (C 2 k + min p (C 1 k)) by omega]
    rfl
  · obtain ⟨hP, hF⟩ := hP
    have e0 : a c 10 = nI (C 0 0) := by rw [hP.f.1, q_nb_c, q_zo (by omega)]
    refine ⟨(true, a), by simp (disch := omega) only [g_X0_passNights_26, e0, ql_0, ql_1, ql_2, ql_3, ql_4, ql_5, ql_6, ql_7, ql_8, ql_9, ql_10, ql_11, ql_12, ql_13, ql_14, ql_15, ql_16, ql_17, ql_18, ql_19, ql_20, ql_21, ql_22, ql_23, ql_24, ql_27, ql_30, ql_31, ql_32, ql_40, ql_48, ql_51, ql_52, ql_57, ql_59, ql_60, ql_61, ql_62, ql_76, ql_84, ql_91, ql_97, ql_99, ql_100, ql_120, ql_122, ql_127, ql_128, ql_200, ql_255, ql_256, ql_300, ql_420, ql_428, ql_640, ql_900, ql_896, ql_999, ql_1712, ql_1716, ql_1734, ql_1772, ql_1800, ql_1805, ql_1811, ql_1822, ql_2132, ql_2140, ql_3229, ql_9999, ql_11453, ql_65536, ql_100000, ql_1000000, nI_add, pk_mul, q_and, q_or, q_xor, nI_clamp, q_in, q_neg1, q_nno, q_nno', q_annN, q_sh1, q_tbN, nI_leI, nI_ltI, nI_eq, pk_sub, ↓reduceIte, if_pos, if_neg, q_zlt, q_bs], rfl, ?_, hF⟩
    rw [q_nb_z] at hP
    exact hP
theorem x0_noNights {C : q_N} {c : Nat} {I : z_I} {L : z_L} (h : q_sx C c I L) (ok : q_ok C) {p : Nat} (hp : p ≤ 9999) (h5 : ¬ C 0 5 + p ≤ 9999) : f_X0_passNights I c (nI p) = some (false, I) := by
  have := ok.2.2.2.2.2.1
  simp (disch := omega) only [f_X0_passNights, h.f.2.2.2.2.2.1, ql_0, ql_1, ql_2, ql_3, ql_4, ql_5, ql_6, ql_7, ql_8, ql_9, ql_10, ql_11, ql_12, ql_13, ql_14, ql_15, ql_16, ql_17, ql_18, ql_19, ql_20, ql_21, ql_22, ql_23, ql_24, ql_27, ql_30, ql_31, ql_32, ql_40, ql_48, ql_51, ql_52, ql_57, ql_59, ql_60, ql_61, ql_62, ql_76, ql_84, ql_91, ql_97, ql_99, ql_100, ql_120, ql_122, ql_127, ql_128, ql_200, ql_255, ql_256, ql_300, ql_420, ql_428, ql_640, ql_900, ql_896, ql_999, ql_1712, ql_1716, ql_1734, ql_1772, ql_1800, ql_1805, ql_1811, ql_1822, ql_2132, ql_2140, ql_3229, ql_9999, ql_11453, ql_65536, ql_100000, ql_1000000, nI_add, pk_mul, q_and, q_or, q_xor, nI_clamp, q_in, q_neg1, q_nno, q_nno', q_annN, q_sh1, q_tbN, nI_leI, nI_ltI, nI_eq, pk_sub, ↓reduceIte, if_pos, if_neg, q_zlt, q_bs]
/-- one night in the reference -/
theorem m_nightGoes {C : q_N} {m : Nat} {J : z_I} {K : z_L} (h : q_sm C 0 m J K) (ok : q_ok C) : ∃ b, f_X11_nightGoes J = some b ∧ q_sm (q_nt C 1) 0 m b K ∧ ∀ d k, d ≠ 1 ∨ 60 ≤ k ∨ k = 7 → b d k = J d k := by
  obtain ⟨o0, o1, o2, o3, -⟩ := id ok
  unfold f_X11_nightGoes
  refine q_lpP (G := fun n k a => g_X11_nightGoes_2 (fun I_9 => z_lt (z2 I_9 1 5 ((I_9 1 5) + (1 : Int32))) fun I12 => some I12) n (nI k) a) (N := C 0 0) (k0 := 0) (fun k a => q_sm (q_nb C 1 k) 0 m a K ∧ ∀ d j, d ≠ 1 ∨ 60 ≤ j ∨ j = 7 → a d j = J d j) (fun n k a _ hk hP => ?_) (fun n a hP => ?_) (Nat.zero_le _) (q_fu (by omega)) ⟨by rw [q_nb_0]; exact h, fun d j _ => rfl⟩
  · obtain ⟨hP, hF⟩ := hP
    have okk := q_nb_ok ok 1 k
    have e0 : a 1 0 = nI (C 0 0) := by rw [hP.f.1, q_nb_c]
    have hk0 : k < q_nb C 1 k 0 0 := by rw [q_nb_c]; exact hk
    have e1 : a 1 (10 + 2 * k) = nI (C 1 k) := by rw [hP.a1 hk0, q_nb_o _ _ _ (Or.inr (Nat.le_refl _))]
    have e2 : a 1 (10 + 2 * k + 1) = nI (C 2 k) := by rw [hP.a2 hk0, q_nb_o _ _ _ (Or.inr (Nat.le_refl _))]
    have b1 := ok.2.2.2.2.2.2.2.1 k hk
    have g1 := hP.put okk (r := 1) (k := k) (v := C 1 k - min 1 (C 1 k)) hk0 (by omega)
    have ok1 : q_ok (z2 (q_nb C 1 k) 1 k (C 1 k - min 1 (C 1 k))) := okk.put (by omega) (by omega) (by omega) (by omega) (by omega) (by omega) (by omega) (by omega) (by omega) (by omega) (by omega)
    have g2 := g1.put ok1 (r := 2) (k := k) (v := max (C 2 k) (min 99 (C 2 k + min 1 (C 1 k)))) (by rw [q_bdp (by omega)]; exact hk0) (by omega)
    rw [← q_nb_s] at g2
    have i1 : 0 + q_pm 1 k = 10 + 2 * k := by simp only [q_pm]; omega
    have i2 : 0 + q_pm 2 k = 10 + 2 * k + 1 := by simp only [q_pm]; omega
    rw [i1, i2] at g2
    have e3 : ∀ x, z2 a 1 (10 + 2 * k) x 1 (10 + 2 * k + 1) = nI (C 2 k) := fun x => by rw [q_zo (by omega), e2]
    by_cases z : C 1 k = 0
    · refine ⟨a, ⟨?_, hF⟩, ?_⟩
      · rw [q_zid (f := a) (by rw [e1, z]; rfl), q_zid (f := a) (by rw [e2]; congr 1; omega)] at g2
        exact g2
      · simp (disch := omega) only [g_X11_nightGoes_2, f_X11_bedRow, e0, e1, ql_0, ql_1, ql_2, ql_3, ql_4, ql_5, ql_6, ql_7, ql_8, ql_9, ql_10, ql_11, ql_12, ql_13, ql_14, ql_15, ql_16, ql_17, ql_18, ql_19, ql_20, ql_21, ql_22, ql_23, ql_24, ql_27, ql_30, ql_31, ql_32, ql_40, ql_48, ql_51, ql_52, ql_57, ql_59, ql_60, ql_61, ql_62, ql_76, ql_84, ql_91, ql_97, ql_99, ql_100, ql_120, ql_122, ql_127, ql_128, ql_200, ql_255, ql_256, ql_300, ql_420, ql_428, ql_640, ql_900, ql_896, ql_999, ql_1712, ql_1716, ql_1734, ql_1772, ql_1800, ql_1805, ql_1811, ql_1822, ql_2132, ql_2140, ql_3229, ql_9999, ql_11453, ql_65536, ql_100000, ql_1000000, nI_add, pk_mul, q_and, q_or, q_xor, nI_clamp, q_in, q_neg1, q_nno, q_nno', q_annN, q_sh1, q_tbN, nI_leI, nI_ltI, nI_eq, pk_sub, ↓reduceIte, if_pos, if_neg, q_zlt, q_bs]
    · refine ⟨_, ⟨g2, fun d j z0 => by rw [q_zo (by omega), q_zo (by omega)]; exact hF d j z0⟩, ?_⟩
      simp (disch := omega) only [g_X11_nightGoes_2, f_X11_bedRow, e0, e1, ql_0, ql_1, ql_2, ql_3, ql_4, ql_5, ql_6, ql_7, ql_8, ql_9, ql_10, ql_11, ql_12, ql_13, ql_14, ql_15, ql_16, ql_17, ql_18, ql_19, ql_20, ql_21, ql_22, ql_23, ql_24, ql_27, ql_30, ql_31, ql_32, ql_40, ql_48, ql_51, ql_52, ql_57, ql_59, ql_60, ql_61, ql_62, ql_76, ql_84, ql_91, ql_97, ql_99, ql_100, ql_120, ql_122, ql_127, ql_128, ql_200, ql_255, ql_256, ql_300, ql_420, ql_428, ql_640, ql_900, ql_896, ql_999, ql_1712, ql_1716, ql_1734, ql_1772, ql_1800, ql_1805, ql_1811, ql_1822, ql_2132, ql_2140, ql_3229, ql_9999, ql_11453, ql_65536, ql_100000, ql_1000000, nI_add, pk_mul, q_and, q_or, q_xor, nI_clamp, q_in, q_neg1, q_nno, q_nno', q_annN, q_sh1, q_tbN, nI_leI, nI_ltI, nI_eq, pk_sub, ↓reduceIte, if_pos, if_neg, q_zlt, q_bs, e3, q_min]
      rw [show max (C 2 k) (min 99 (C 2 k + min 1 (C 1 k))) = min 99 (C 2 k + 1) by omega, show C 1 k - min 1 (C 1 k) = C 1 k - 1 by omega]
  · obtain ⟨hP, hF⟩ := hP
    have okk := q_nb_ok ok 1 (C 0 0)
    have e0 : a 1 0 = nI (C 0 0) := by rw [hP.f.1, q_nb_c]
    have e5 : a 1 5 = nI (C 0 5) := by rw [hP.f.2.2.2.2.2.1, q_nb_c]
    have g := hP.put okk (r := 0) (k := 5) (v := C 0 5 + 1) (by simp [q_bd]) (by omega)
    refine ⟨_, ?_, g, fun d j z0 => by rw [q_zo (by simp only [q_pm]; omega)]; exact hF d j z0⟩
    simp (disch := omega) only [g_X11_nightGoes_2, e0, e5, ql_0, ql_1, ql_2, ql_3, ql_4, ql_5, ql_6, ql_7, ql_8, ql_9, ql_10, ql_11, ql_12, ql_13, ql_14, ql_15, ql_16, ql_17, ql_18, ql_19, ql_20, ql_21, ql_22, ql_23, ql_24, ql_27, ql_30, ql_31, ql_32, ql_40, ql_48, ql_51, ql_52, ql_57, ql_59, ql_60, ql_61, ql_62, ql_76, ql_84, ql_91, ql_97, ql_99, ql_100, ql_120, ql_122, ql_127, ql_128, ql_200, ql_255, ql_256, ql_300, ql_420, ql_428, ql_640, ql_900, ql_896, ql_999, ql_1712, ql_1716, ql_1734, ql_1772, ql_1800, ql_1805, ql_1811, ql_1822, ql_2132, ql_2140, ql_3229, ql_9999, ql_11453, ql_65536, ql_100000, ql_1000000, nI_add, pk_mul, q_and, q_or, q_xor, nI_clamp, q_in, q_neg1, q_nno, q_nno', q_annN, q_sh1, q_tbN, nI_leI, nI_ltI, nI_eq, pk_sub, ↓reduceIte, if_pos, if_neg, q_zlt, q_bs]
    rfl
theorem m_nightsGo {C : q_N} {m : Nat} {J : z_I} {K : z_L} (h : q_sm C 0 m J K) (ok : q_ok C) {p : Nat} (hp : p ≤ 9999) (h5 : C 0 5 + p ≤ 9999) : ∃ b, f_X11_nightsGo J (nI p) = some b ∧ q_sm (q_nt C p) 0 m b K ∧ ∀ d k, d ≠ 1 ∨ 60 ≤ k ∨ k = 7 → b d k = J d k := by
  unfold f_X11_nightsGo
  refine q_lpP (G := fun n k a => g_X11_nightsGo_2 (nI p) n (nI k) a) (N := p) (k0 := 0) (fun k a => q_sm (q_nt C k) 0 m a K ∧ ∀ d j, d ≠ 1 ∨ 60 ≤ j ∨ j = 7 → a d j = J d j) (fun n k a _ hk hP => ?_) (fun n a hP => ?_) (Nat.zero_le _) (q_fu (by omega)) ⟨by rw [q_nt_0]; exact h, fun d j _ => rfl⟩
  · obtain ⟨hP, hF⟩ := hP
    obtain ⟨b, e1, e2, e3⟩ := m_nightGoes hP (q_nt_ok ok (by omega))
    rw [q_nt_s] at e2
    refine ⟨b, ⟨e2, fun d j z => by rw [e3 d j z]; exact hF d j z⟩, ?_⟩
    simp (disch := omega) only [g_X11_nightsGo_2, e1, ql_0, ql_1, ql_2, ql_3, ql_4, ql_5, ql_6, ql_7, ql_8, ql_9, ql_10, ql_11, ql_12, ql_13, ql_14, ql_15, ql_16, ql_17, ql_18, ql_19, ql_20, ql_21, ql_22, ql_23, ql_24, ql_27, ql_30, ql_31, ql_32, ql_40, ql_48, ql_51, ql_52, ql_57, ql_59, ql_60, ql_61, ql_62, ql_76, ql_84, ql_91, ql_97, ql_99, ql_100, ql_120, ql_122, ql_127, ql_128, ql_200, ql_255, ql_256, ql_300, ql_420, ql_428, ql_640, ql_900, ql_896, ql_999, ql_1712, ql_1716, ql_1734, ql_1772, ql_1800, ql_1805, ql_1811, ql_1822, ql_2132, ql_2140, ql_3229, ql_9999, ql_11453, ql_65536, ql_100000, ql_1000000, nI_add, pk_mul, q_and, q_or, q_xor, nI_clamp, q_in, q_neg1, q_nno, q_nno', q_annN, q_sh1, q_tbN, nI_leI, nI_ltI, nI_eq, pk_sub, ↓reduceIte, if_pos, if_neg, q_zlt, q_bs]
  · obtain ⟨hP, hF⟩ := hP
    exact ⟨a, by simp (disch := omega) only [g_X11_nightsGo_2, ql_0, ql_1, ql_2, ql_3, ql_4, ql_5, ql_6, ql_7, ql_8, ql_9, ql_10, ql_11, ql_12, ql_13, ql_14, ql_15, ql_16, ql_17, ql_18, ql_19, ql_20, ql_21, ql_22, ql_23, ql_24, ql_27, ql_30, ql_31, ql_32, ql_40, ql_48, ql_51, ql_52, ql_57, ql_59, ql_60, ql_61, ql_62, ql_76, ql_84, ql_91, ql_97, ql_99, ql_100, ql_120, ql_122, ql_127, ql_128, ql_200, ql_255, ql_256, ql_300, ql_420, ql_428, ql_640, ql_900, ql_896, ql_999, ql_1712, ql_1716, ql_1734, ql_1772, ql_1800, ql_1805, ql_1811, ql_1822, ql_2132, ql_2140, ql_3229, ql_9999, ql_11453, ql_65536, ql_100000, ql_1000000, nI_add, pk_mul, q_and, q_or, q_xor, nI_clamp, q_in, q_neg1, q_nno, q_nno', q_annN, q_sh1, q_tbN, nI_leI, nI_ltI, nI_eq, pk_sub, ↓reduceIte, if_pos, if_neg, q_zlt, q_bs], hP, hF⟩
theorem q_tok.same {T C C' : q_N} (h : q_tok T C) (h0 : C' 0 0 = C 0 0) (h2 : C 0 2 ≤ C' 0 2) (h3 : C' 0 3 = C 0 3) : q_tok T C' := by
  obtain ⟨t1, t2, t3, t4, t5, t6⟩ := h
  refine ⟨t1, t2, t3, t4, fun a ha => ?_, t6⟩
  obtain ⟨u1, u2, u3, u4, u5, u6⟩ := t5 a ha
  unfold q_te1
  rw [h0, h3]
  exact ⟨u1, fun z => Nat.lt_of_lt_of_le (u2 z) h2, u3, u4, u5, u6⟩
theorem r_night : s_night q_R := by
  intro I L J K p0 hR
  obtain ⟨C, T, mk, h⟩ := id hR
  obtain ⟨hx, hm, ok, htx, htm, htk⟩ := h.o
  obtain ⟨o0, o1, o2, o3, o4, o5, -⟩ := id ok
  cases hw : f_X10_isWithin p0 (nI 1) (nI 99) with
  | false => exact q_end (-1) 1 (by simp only [f_X10_night, ql_1, ql_99, hw]; rfl) (by simp (disch := decide) only [f_X11_night, qL_1, qL_99, q_from, hw]; rfl) hR
  | true =>
    obtain ⟨v, v1, v2, rfl⟩ := q_wi_t hw (by decide) (by decide)
    by_cases h5 : C 0 0 5 + v ≤ 9999
    · obtain ⟨bX, eX, tX, gX, fX⟩ := x0_passNights hx ok (p := v) (by omega) h5
      obtain ⟨bM, eM, gM, fM⟩ := m_nightsGo hm ok (p := v) (by omega) h5
      have ok2 := q_nt_ok ok h5
      obtain ⟨b1, bI⟩ := bX
      simp only [] at tX gX fX
      subst tX
      have hs := h.set (C' := q_nt (C 0) v) (T' := T 0) (I' := bI) (L' := L) (J' := bM) (K' := K) ⟨gX, gM, ok2, htx.go (fun d k a b => fX d k (by omega) (by omega) (by omega)), htm.go htk (fun k a b => fM 1 _ (by omega)), htk.same (q_nt_c _ _ (by omega)) (by rw [q_nt_c _ _ (by omega)]; exact Nat.le_refl _) (q_nt_c _ _ (by omega))⟩ (fun d k _ z => fX d k (by omega) (by omega) (by omega)) (fun d k _ z => rfl) (fun d k _ z => fM d k (by omega)) (fun d k _ z => rfl)
      have t1 := (x0_all 3 gX ok2).1
      have t2 := m_together0 gM ok2
      rw [ql_0] at t2
      refine q_end (nI (q_sum (q_nt (C 0) v 1) (q_nt (C 0) v 0 0))) 0 ?_ ?_ hs.r
      · simp (disch := omega) only [f_X10_night, ql_0, ql_1, ql_2, ql_3, ql_4, ql_5, ql_6, ql_7, ql_8, ql_9, ql_10, ql_11, ql_12, ql_13, ql_14, ql_15, ql_16, ql_17, ql_18, ql_19, ql_20, ql_21, ql_22, ql_23, ql_24, ql_27, ql_30, ql_31, ql_32, ql_40, ql_48, ql_51, ql_52, ql_57, ql_59, ql_60, ql_61, ql_62, ql_76, ql_84, ql_91, ql_97, ql_99, ql_100, ql_120, ql_122, ql_127, ql_128, ql_200, ql_255, ql_256, ql_300, ql_420, ql_428, ql_640, ql_900, ql_896, ql_999, ql_1712, ql_1716, ql_1734, ql_1772, ql_1800, ql_1805, ql_1811, ql_1822, ql_2132, ql_2140, ql_3229, ql_9999, ql_11453, ql_65536, ql_100000, ql_1000000, nI_add, pk_mul, q_and, q_or, q_xor, nI_clamp, q_in, q_neg1, q_nno, q_nno', q_annN, q_sh1, q_tbN, nI_leI, nI_ltI, nI_eq, pk_sub, ↓reduceIte, if_pos, if_neg, q_zlt, q_bs, hw, eX, t1, f_X10_give]
      · simp (disch := omega) only [f_X11_night, qL_1, qL_99, q_from, ql_0, ql_1, ql_2, ql_3, ql_4, ql_5, ql_6, ql_7, ql_8, ql_9, ql_10, ql_11, ql_12, ql_13, ql_14, ql_15, ql_16, ql_17, ql_18, ql_19, ql_20, ql_21, ql_22, ql_23, ql_24, ql_27, ql_30, ql_31, ql_32, ql_40, ql_48, ql_51, ql_52, ql_57, ql_59, ql_60, ql_61, ql_62, ql_76, ql_84, ql_91, ql_97, ql_99, ql_100, ql_120, ql_122, ql_127, ql_128, ql_200, ql_255, ql_256, ql_300, ql_420, ql_428, ql_640, ql_900, ql_896, ql_999, ql_1712, ql_1716, ql_1734, ql_1772, ql_1800, ql_1805, ql_1811, ql_1822, ql_2132, ql_2140, ql_3229, ql_9999, ql_11453, ql_65536, ql_100000, ql_1000000, nI_add, pk_mul, q_and, q_or, q_xor, nI_clamp, q_in, q_neg1, q_nno, q_nno', q_annN, q_sh1, q_tbN, nI_leI, nI_ltI, nI_eq, pk_sub, ↓reduceIte, if_pos, if_neg, q_zlt, q_bs, hw, hm.f.2.2.2.2.2.1, eM, t2, f_X11_gives]
    · refine q_end (-1) 4 (I := I) (J := J) ?_ ?_ hR
      · simp (disch := omega) only [f_X10_night, ql_0, ql_1, ql_2, ql_3, ql_4, ql_5, ql_6, ql_7, ql_8, ql_9, ql_10, ql_11, ql_12, ql_13, ql_14, ql_15, ql_16, ql_17, ql_18, ql_19, ql_20, ql_21, ql_22, ql_23, ql_24, ql_27, ql_30, ql_31, ql_32, ql_40, ql_48, ql_51, ql_52, ql_57, ql_59, ql_60, ql_61, ql_62, ql_76, ql_84, ql_91, ql_97, ql_99, ql_100, ql_120, ql_122, ql_127, ql_128, ql_200, ql_255, ql_256, ql_300, ql_420, ql_428, ql_640, ql_900, ql_896, ql_999, ql_1712, ql_1716, ql_1734, ql_1772, ql_1800, ql_1805, ql_1811, ql_1822, ql_2132, ql_2140, ql_3229, ql_9999, ql_11453, ql_65536, ql_100000, ql_1000000, nI_add, pk_mul, q_and, q_or, q_xor, nI_clamp, q_in, q_neg1, q_nno, q_nno', q_annN, q_sh1, q_tbN, nI_leI, nI_ltI, nI_eq, pk_sub, ↓reduceIte, if_pos, if_neg, q_zlt, q_bs, hw, x0_noNights hx ok (p := v) (by omega) h5, f_X10_refuse, Bool.false_eq_true]
      · simp (disch := omega) only [f_X11_night, qL_1, qL_99, q_from, ql_0, ql_1, ql_2, ql_3, ql_4, ql_5, ql_6, ql_7, ql_8, ql_9, ql_10, ql_11, ql_12, ql_13, ql_14, ql_15, ql_16, ql_17, ql_18, ql_19, ql_20, ql_21, ql_22, ql_23, ql_24, ql_27, ql_30, ql_31, ql_32, ql_40, ql_48, ql_51, ql_52, ql_57, ql_59, ql_60, ql_61, ql_62, ql_76, ql_84, ql_91, ql_97, ql_99, ql_100, ql_120, ql_122, ql_127, ql_128, ql_200, ql_255, ql_256, ql_300, ql_420, ql_428, ql_640, ql_900, ql_896, ql_999, ql_1712, ql_1716, ql_1734, ql_1772, ql_1800, ql_1805, ql_1811, ql_1822, ql_2132, ql_2140, ql_3229, ql_9999, ql_11453, ql_65536, ql_100000, ql_1000000, nI_add, pk_mul, q_and, q_or, q_xor, nI_clamp, q_in, q_neg1, q_nno, q_nno', q_annN, q_sh1, q_tbN, nI_leI, nI_ltI, nI_eq, pk_sub, ↓reduceIte, if_pos, if_neg, q_zlt, q_bs, hw, hm.f.2.2.2.2.2.1, f_X11_refuse]
/-! couples, parting, barren -/
theorem q_pt1 {C : q_N} (ok : q_ok C) {m w : Nat} (hw : w < C 0 1) : 1 ≤ q_pc (q_pt C m w) := by
  rcases Nat.eq_zero_or_pos (q_pc (q_pt C m w)) with z | z
  · have := (q_pc0 _ (q_pt8 ok m w)).2.1 z
    have h := q_pt_self (C := C) (m := m) hw
    rw [this, Nat.zero_testBit] at h
    cases h
  · exact z
def q_cp (C : q_N) (m n : Nat) : Nat := q_sum (fun w => q_pc (q_pt C m w) - 1) n
theorem r_couples : s_couples q_R := by
  intro I L J K hR
  obtain ⟨C, T, mk, h⟩ := id hR
  obtain ⟨hx, hm, ok, -⟩ := h.o
  obtain ⟨o0, o1, o2, o3, -⟩ := id ok
  have oM := q_okM ok
  have hle : q_cp (C 0) (C 0 0 6) (C 0 0 1) ≤ C 0 0 1 * 8 := q_sum_le (fun w _ => by have := q_pc8 (q_pt8 ok (C 0 0 6) w); omega)
  refine q_end (nI (q_cp (C 0) (C 0 0 6) (C 0 0 1) / 2)) 0 (I := I) (J := J) ?_ ?_ hR
  · unfold f_X10_couples
    refine q_lp (G := fun n k (a : Nat) => g_X10_couples_4 I n (nI a) (nI k)) (fun k => q_cp (C 0) (C 0 0 6) k) (fun n k _ hk => ?_) (fun n => ?_) (Nat.zero_le (C 0 0 1)) (q_fu (by omega))
    · have h8 := q_pt8 ok (C 0 0 6) k
      have h1 := q_pt1 ok (m := C 0 0 6) hk
      have hx' : f_X0_partUnder I 3 (nI (C 0 0 6)) (nI k) = some (nI (q_pt (C 0) (C 0 0 6) k)) := x0_partUnder hx ok (by omega)
      simp (disch := omega) only [g_X10_couples_4, hx.f.2.1, hx.f.2.2.2.2.2.2, hx', ql_0, ql_1, ql_2, ql_3, ql_4, ql_5, ql_6, ql_7, ql_8, ql_9, ql_10, ql_11, ql_12, ql_13, ql_14, ql_15, ql_16, ql_17, ql_18, ql_19, ql_20, ql_21, ql_22, ql_23, ql_24, ql_27, ql_30, ql_31, ql_32, ql_40, ql_48, ql_51, ql_52, ql_57, ql_59, ql_60, ql_61, ql_62, ql_76, ql_84, ql_91, ql_97, ql_99, ql_100, ql_120, ql_122, ql_127, ql_128, ql_200, ql_255, ql_256, ql_300, ql_420, ql_428, ql_640, ql_900, ql_896, ql_999, ql_1712, ql_1716, ql_1734, ql_1772, ql_1800, ql_1805, ql_1811, ql_1822, ql_2132, ql_2140, ql_3229, ql_9999, ql_11453, ql_65536, ql_100000, ql_1000000, nI_add, pk_mul, q_and, q_or, q_xor, nI_clamp, q_in, q_neg1, q_nno, q_nno', q_annN, q_sh1, q_tbN, nI_leI, nI_ltI, nI_eq, pk_sub, ↓reduceIte, if_pos, if_neg, q_zlt, q_bs, q_bitCount0, q_cp, q_sum]
    · simp (disch := omega) only [g_X10_couples_4, hx.f.2.1, ql_0, ql_1, ql_2, ql_3, ql_4, ql_5, ql_6, ql_7, ql_8, ql_9, ql_10, ql_11, ql_12, ql_13, ql_14, ql_15, ql_16, ql_17, ql_18, ql_19, ql_20, ql_21, ql_22, ql_23, ql_24, ql_27, ql_30, ql_31, ql_32, ql_40, ql_48, ql_51, ql_52, ql_57, ql_59, ql_60, ql_61, ql_62, ql_76, ql_84, ql_91, ql_97, ql_99, ql_100, ql_120, ql_122, ql_127, ql_128, ql_200, ql_255, ql_256, ql_300, ql_420, ql_428, ql_640, ql_900, ql_896, ql_999, ql_1712, ql_1716, ql_1734, ql_1772, ql_1800, ql_1805, ql_1811, ql_1822, ql_2132, ql_2140, ql_3229, ql_9999, ql_11453, ql_65536, ql_100000, ql_1000000, nI_add, pk_mul, q_and, q_or, q_xor, nI_clamp, q_in, q_neg1, q_nno, q_nno', q_annN, q_sh1, q_tbN, nI_leI, nI_ltI, nI_eq, pk_sub, ↓reduceIte, if_pos, if_neg, q_zlt, q_bs, pk_div, f_X10_give]
  · unfold f_X11_couples
    refine q_lp (G := fun n k (a : Nat) => g_X11_couples_4 J n (nI a) (nI k)) (fun k => q_cp (C 0) (C 0 0 6) k) (fun n k _ hk => ?_) (fun n => ?_) (Nat.zero_le (C 0 0 1)) (q_fu (by omega))
    · have h8 := q_pt8 ok (C 0 0 6) k
      have h1 := q_pt1 ok (m := C 0 0 6) hk
      have hx' : f_X11_partBy J (nI k) (nI (C 0 0 6)) = some (nI (q_pt (C 0) (C 0 0 6) k)) := m_partBy hm ok (by omega) (by omega)
      simp (disch := omega) only [g_X11_couples_4, hm.f.2.1, hm.f.2.2.2.2.2.2, hx', ql_0, ql_1, ql_2, ql_3, ql_4, ql_5, ql_6, ql_7, ql_8, ql_9, ql_10, ql_11, ql_12, ql_13, ql_14, ql_15, ql_16, ql_17, ql_18, ql_19, ql_20, ql_21, ql_22, ql_23, ql_24, ql_27, ql_30, ql_31, ql_32, ql_40, ql_48, ql_51, ql_52, ql_57, ql_59, ql_60, ql_61, ql_62, ql_76, ql_84, ql_91, ql_97, ql_99, ql_100, ql_120, ql_122, ql_127, ql_128, ql_200, ql_255, ql_256, ql_300, ql_420, ql_428, ql_640, ql_900, ql_896, ql_999, ql_1712, ql_1716, ql_1734, ql_1772, ql_1800, ql_1805, ql_1811, ql_1822, ql_2132, ql_2140, ql_3229, ql_9999, ql_11453, ql_65536, ql_100000, ql_1000000, nI_add, pk_mul, q_and, q_or, q_xor, nI_clamp, q_in, q_neg1, q_nno, q_nno', q_annN, q_sh1, q_tbN, nI_leI, nI_ltI, nI_eq, pk_sub, ↓reduceIte, if_pos, if_neg, q_zlt, q_bs, m_bits, q_cp, q_sum]
    · simp (disch := omega) only [g_X11_couples_4, hm.f.2.1, ql_0, ql_1, ql_2, ql_3, ql_4, ql_5, ql_6, ql_7, ql_8, ql_9, ql_10, ql_11, ql_12, ql_13, ql_14, ql_15, ql_16, ql_17, ql_18, ql_19, ql_20, ql_21, ql_22, ql_23, ql_24, ql_27, ql_30, ql_31, ql_32, ql_40, ql_48, ql_51, ql_52, ql_57, ql_59, ql_60, ql_61, ql_62, ql_76, ql_84, ql_91, ql_97, ql_99, ql_100, ql_120, ql_122, ql_127, ql_128, ql_200, ql_255, ql_256, ql_300, ql_420, ql_428, ql_640, ql_900, ql_896, ql_999, ql_1712, ql_1716, ql_1734, ql_1772, ql_1800, ql_1805, ql_1811, ql_1822, ql_2132, ql_2140, ql_3229, ql_9999, ql_11453, ql_65536, ql_100000, ql_1000000, nI_add, pk_mul, q_and, q_or, q_xor, nI_clamp, q_in, q_neg1, q_nno, q_nno', q_annN, q_sh1, q_tbN, nI_leI, nI_ltI, nI_eq, pk_sub, ↓reduceIte, if_pos, if_neg, q_zlt, q_bs, pk_div, f_X11_gives]
def q_pg (C : q_N) (a b : Nat) : Nat → Nat := q_it (fun c s => if (C 6 c).testBit a = (C 6 c).testBit b then s else s ||| 2 ^ c) 0
theorem q_srB {n j : Nat} (h : n < 2 ^ 31) (hj : j < 31) : (nI n >>> (nI j &&& 31)) &&& (1 : Int32) = nI (n.testBit j).toNat := by
  rw [q_shr h hj, q_mod2]
  congr 1
  rw [Nat.testBit_eq_decide_div_mod_eq]
  have : n / 2 ^ j % 2 < 2 := Nat.mod_lt _ (by decide)
  by_cases z : n / 2 ^ j % 2 = 1
  · rw [decide_eq_true z, z]; rfl
  · rw [decide_eq_false z]
    show _ = 0
    omega
theorem q_bnI (a b : Bool) : (nI a.toNat = nI b.toNat) ↔ a = b := by cases a <;> cases b <;> decide
theorem q_srN {n j : Nat} (h : n < 2 ^ 31) (hj : j < 31) : (nI n >>> nI (j &&& 31)) &&& nI 1 = nI (n.testBit j).toNat := by
  have e := q_srB h hj
  rw [ql_31, q_and, ql_1] at e
  exact e
theorem q_bzb (a b : Bool) : (zb a = zb b) ↔ a = b := by cases a <;> cases b <;> decide
theorem x0_partedBy {C : q_N} {c : Nat} {I : z_I} {L : z_L} (h : q_sx C c I L) (ok : q_ok C) {a b : Nat} (ha : a < 31) (hb : b < 31) : f_X0_partedBy I c (nI a) (nI b) = some (nI (q_pg C a b (C 0 2))) := by
  obtain ⟨o0, o1, o2, o3, -⟩ := id ok
  unfold f_X0_partedBy
  refine q_lp (G := fun n k (s : Nat) => g_X0_partedBy_5 c (nI a) (nI b) I n (nI s) (nI k)) (fun k => q_pg C a b k) (fun n k _ hk => ?_) (fun n => ?_) (Nat.zero_le (C 0 2)) (q_fu (by omega))
  · have e : q_pg C a b (k + 1) = if (C 6 k).testBit a = (C 6 k).testBit b then q_pg C a b k else q_pg C a b k ||| 2 ^ k := rfl
    have h6 := (q_ok6 ok hk).1
    rw [e]
    by_cases z : (C 6 k).testBit a = (C 6 k).testBit b
    · have z1 : ((C 6 k).testBit a).toNat = ((C 6 k).testBit b).toNat := by rw [z]
      simp (disch := omega) only [g_X0_partedBy_5, h.f.2.2.1, h.a6 hk, ql_0, ql_1, ql_2, ql_3, ql_4, ql_5, ql_6, ql_7, ql_8, ql_9, ql_10, ql_11, ql_12, ql_13, ql_14, ql_15, ql_16, ql_17, ql_18, ql_19, ql_20, ql_21, ql_22, ql_23, ql_24, ql_27, ql_30, ql_31, ql_32, ql_40, ql_48, ql_51, ql_52, ql_57, ql_59, ql_60, ql_61, ql_62, ql_76, ql_84, ql_91, ql_97, ql_99, ql_100, ql_120, ql_122, ql_127, ql_128, ql_200, ql_255, ql_256, ql_300, ql_420, ql_428, ql_640, ql_900, ql_896, ql_999, ql_1712, ql_1716, ql_1734, ql_1772, ql_1800, ql_1805, ql_1811, ql_1822, ql_2132, ql_2140, ql_3229, ql_9999, ql_11453, ql_65536, ql_100000, ql_1000000, nI_add, pk_mul, q_and, q_or, q_xor, nI_clamp, q_in, q_neg1, q_nno, q_nno', q_annN, q_sh1, q_tbN, nI_leI, nI_ltI, nI_eq, pk_sub, ↓reduceIte, if_pos, if_neg, q_zlt, q_bs, q_srN, q_bnI, z, z1]
    · have z1 : ¬ ((C 6 k).testBit a).toNat = ((C 6 k).testBit b).toNat := fun y => z ((q_bnI _ _).1 (by rw [y]))
      simp (disch := omega) only [g_X0_partedBy_5, h.f.2.2.1, h.a6 hk, ql_0, ql_1, ql_2, ql_3, ql_4, ql_5, ql_6, ql_7, ql_8, ql_9, ql_10, ql_11, ql_12, ql_13, ql_14, ql_15, ql_16, ql_17, ql_18, ql_19, ql_20, ql_21, ql_22, ql_23, ql_24, ql_27, ql_30, ql_31, ql_32, ql_40, ql_48, ql_51, ql_52, ql_57, ql_59, ql_60, ql_61, ql_62, ql_76, ql_84, ql_91, ql_97, ql_99, ql_100, ql_120, ql_122, ql_127, ql_128, ql_200, ql_255, ql_256, ql_300, ql_420, ql_428, ql_640, ql_900, ql_896, ql_999, ql_1712, ql_1716, ql_1734, ql_1772, ql_1800, ql_1805, ql_1811, ql_1822, ql_2132, ql_2140, ql_3229, ql_9999, ql_11453, ql_65536, ql_100000, ql_1000000, nI_add, pk_mul, q_and, q_or, q_xor, nI_clamp, q_in, q_neg1, q_nno, q_nno', q_annN, q_sh1, q_tbN, nI_leI, nI_ltI, nI_eq, pk_sub, ↓reduceIte, if_pos, if_neg, q_zlt, q_bs, q_srN, q_bnI, z, z1]
  · simp (disch := omega) only [g_X0_partedBy_5, h.f.2.2.1, ql_0, ql_1, ql_2, ql_3, ql_4, ql_5, ql_6, ql_7, ql_8, ql_9, ql_10, ql_11, ql_12, ql_13, ql_14, ql_15, ql_16, ql_17, ql_18, ql_19, ql_20, ql_21, ql_22, ql_23, ql_24, ql_27, ql_30, ql_31, ql_32, ql_40, ql_48, ql_51, ql_52, ql_57, ql_59, ql_60, ql_61, ql_62, ql_76, ql_84, ql_91, ql_97, ql_99, ql_100, ql_120, ql_122, ql_127, ql_128, ql_200, ql_255, ql_256, ql_300, ql_420, ql_428, ql_640, ql_900, ql_896, ql_999, ql_1712, ql_1716, ql_1734, ql_1772, ql_1800, ql_1805, ql_1811, ql_1822, ql_2132, ql_2140, ql_3229, ql_9999, ql_11453, ql_65536, ql_100000, ql_1000000, nI_add, pk_mul, q_and, q_or, q_xor, nI_clamp, q_in, q_neg1, q_nno, q_nno', q_annN, q_sh1, q_tbN, nI_leI, nI_ltI, nI_eq, pk_sub, ↓reduceIte, if_pos, if_neg, q_zlt, q_bs]
theorem m_partingOf {C : q_N} {m : Nat} {J : z_I} {K : z_L} (h : q_sm C 0 m J K) (ok : q_ok C) {a b : Nat} (ha : a < 31) (hb : b < 31) : f_X11_partingOf J (nI a) (nI b) = some (nI (q_pg C a b (C 0 2))) := by
  obtain ⟨o0, o1, o2, o3, -⟩ := id ok
  unfold f_X11_partingOf
  refine q_lp (G := fun n k (s : Nat) => g_X11_partingOf_5 (nI a) (nI b) J n (nI s) (nI k)) (fun k => q_pg C a b k) (fun n k _ hk => ?_) (fun n => ?_) (Nat.zero_le (C 0 2)) (q_fu (by omega))
  · have e : q_pg C a b (k + 1) = if (C 6 k).testBit a = (C 6 k).testBit b then q_pg C a b k else q_pg C a b k ||| 2 ^ k := rfl
    have h6 := (q_ok6 ok hk).1
    rw [e]
    by_cases z : (C 6 k).testBit a = (C 6 k).testBit b
    · simp (disch := omega) only [g_X11_partingOf_5, h.f.2.2.1, m_truthOf h ok hk, q_isIn, q_bzb, z, ql_0, ql_1, ql_2, ql_3, ql_4, ql_5, ql_6, ql_7, ql_8, ql_9, ql_10, ql_11, ql_12, ql_13, ql_14, ql_15, ql_16, ql_17, ql_18, ql_19, ql_20, ql_21, ql_22, ql_23, ql_24, ql_27, ql_30, ql_31, ql_32, ql_40, ql_48, ql_51, ql_52, ql_57, ql_59, ql_60, ql_61, ql_62, ql_76, ql_84, ql_91, ql_97, ql_99, ql_100, ql_120, ql_122, ql_127, ql_128, ql_200, ql_255, ql_256, ql_300, ql_420, ql_428, ql_640, ql_900, ql_896, ql_999, ql_1712, ql_1716, ql_1734, ql_1772, ql_1800, ql_1805, ql_1811, ql_1822, ql_2132, ql_2140, ql_3229, ql_9999, ql_11453, ql_65536, ql_100000, ql_1000000, nI_add, pk_mul, q_and, q_or, q_xor, nI_clamp, q_in, q_neg1, q_nno, q_nno', q_annN, q_sh1, q_tbN, nI_leI, nI_ltI, nI_eq, pk_sub, ↓reduceIte, if_pos, if_neg, q_zlt, q_bs, Nat.or_zero]
    · simp (disch := omega) only [g_X11_partingOf_5, h.f.2.2.1, m_truthOf h ok hk, q_isIn, q_bzb, z, ql_0, ql_1, ql_2, ql_3, ql_4, ql_5, ql_6, ql_7, ql_8, ql_9, ql_10, ql_11, ql_12, ql_13, ql_14, ql_15, ql_16, ql_17, ql_18, ql_19, ql_20, ql_21, ql_22, ql_23, ql_24, ql_27, ql_30, ql_31, ql_32, ql_40, ql_48, ql_51, ql_52, ql_57, ql_59, ql_60, ql_61, ql_62, ql_76, ql_84, ql_91, ql_97, ql_99, ql_100, ql_120, ql_122, ql_127, ql_128, ql_200, ql_255, ql_256, ql_300, ql_420, ql_428, ql_640, ql_900, ql_896, ql_999, ql_1712, ql_1716, ql_1734, ql_1772, ql_1800, ql_1805, ql_1811, ql_1822, ql_2132, ql_2140, ql_3229, ql_9999, ql_11453, ql_65536, ql_100000, ql_1000000, nI_add, pk_mul, q_and, q_or, q_xor, nI_clamp, q_in, q_neg1, q_nno, q_nno', q_annN, q_sh1, q_tbN, nI_leI, nI_ltI, nI_eq, pk_sub, ↓reduceIte, if_pos, if_neg, q_zlt, q_bs]
  · simp (disch := omega) only [g_X11_partingOf_5, h.f.2.2.1, ql_0, ql_1, ql_2, ql_3, ql_4, ql_5, ql_6, ql_7, ql_8, ql_9, ql_10, ql_11, ql_12, ql_13, ql_14, ql_15, ql_16, ql_17, ql_18, ql_19, ql_20, ql_21, ql_22, ql_23, ql_24, ql_27, ql_30, ql_31, ql_32, ql_40, ql_48, ql_51, ql_52, ql_57, ql_59, ql_60, ql_61, ql_62, ql_76, ql_84, ql_91, ql_97, ql_99, ql_100, ql_120, ql_122, ql_127, ql_128, ql_200, ql_255, ql_256, ql_300, ql_420, ql_428, ql_640, ql_900, ql_896, ql_999, ql_1712, ql_1716, ql_1734, ql_1772, ql_1800, ql_1805, ql_1811, ql_1822, ql_2132, ql_2140, ql_3229, ql_9999, ql_11453, ql_65536, ql_100000, ql_1000000, nI_add, pk_mul, q_and, q_or, q_xor, nI_clamp, q_in, q_neg1, q_nno, q_nno', q_annN, q_sh1, q_tbN, nI_leI, nI_ltI, nI_eq, pk_sub, ↓reduceIte, if_pos, if_neg, q_zlt, q_bs]
theorem r_parting : s_parting q_R := by
  intro I L J K p0 p1 hR
  obtain ⟨C, T, mk, h⟩ := id hR
  obtain ⟨hx, hm, ok, -⟩ := h.o
  obtain ⟨o0, o1, o2, o3, -⟩ := id ok
  cases hb : q_hs (C 0 0 1) p0 with
  | false => exact q_end (-1) 1 (by simp only [f_X10_parting, x0_hasCase hx, hb]; rfl) (by simp only [f_X11_parting, m_isCase hm, hb]; rfl) hR
  | true =>
    obtain ⟨a, ha, rfl⟩ := q_hs_t hb (by omega)
    cases hc : q_hs (C 0 0 1) p1 with
    | false => exact q_end (-1) 1 (by simp only [f_X10_parting, x0_hasCase hx, hb, hc]; rfl) (by simp only [f_X11_parting, m_isCase hm, hb, hc]; rfl) hR
    | true =>
      obtain ⟨b, hb', rfl⟩ := q_hs_t hc (by omega)
      by_cases z : a = b
      · refine q_end (-1) 1 (I := I) (J := J) ?_ ?_ hR
        · simp (disch := omega) only [f_X10_parting, x0_hasCase hx, hb, hc, ql_0, ql_1, ql_2, ql_3, ql_4, ql_5, ql_6, ql_7, ql_8, ql_9, ql_10, ql_11, ql_12, ql_13, ql_14, ql_15, ql_16, ql_17, ql_18, ql_19, ql_20, ql_21, ql_22, ql_23, ql_24, ql_27, ql_30, ql_31, ql_32, ql_40, ql_48, ql_51, ql_52, ql_57, ql_59, ql_60, ql_61, ql_62, ql_76, ql_84, ql_91, ql_97, ql_99, ql_100, ql_120, ql_122, ql_127, ql_128, ql_200, ql_255, ql_256, ql_300, ql_420, ql_428, ql_640, ql_900, ql_896, ql_999, ql_1712, ql_1716, ql_1734, ql_1772, ql_1800, ql_1805, ql_1811, ql_1822, ql_2132, ql_2140, ql_3229, ql_9999, ql_11453, ql_65536, ql_100000, ql_1000000, nI_add, pk_mul, q_and, q_or, q_xor, nI_clamp, q_in, q_neg1, q_nno, q_nno', q_annN, q_sh1, q_tbN, nI_leI, nI_ltI, nI_eq, pk_sub, ↓reduceIte, if_pos, if_neg, q_zlt, q_bs, f_X10_refuse]
        · simp (disch := omega) only [f_X11_parting, m_isCase hm, hb, hc, ql_0, ql_1, ql_2, ql_3, ql_4, ql_5, ql_6, ql_7, ql_8, ql_9, ql_10, ql_11, ql_12, ql_13, ql_14, ql_15, ql_16, ql_17, ql_18, ql_19, ql_20, ql_21, ql_22, ql_23, ql_24, ql_27, ql_30, ql_31, ql_32, ql_40, ql_48, ql_51, ql_52, ql_57, ql_59, ql_60, ql_61, ql_62, ql_76, ql_84, ql_91, ql_97, ql_99, ql_100, ql_120, ql_122, ql_127, ql_128, ql_200, ql_255, ql_256, ql_300, ql_420, ql_428, ql_640, ql_900, ql_896, ql_999, ql_1712, ql_1716, ql_1734, ql_1772, ql_1800, ql_1805, ql_1811, ql_1822, ql_2132, ql_2140, ql_3229, ql_9999, ql_11453, ql_65536, ql_100000, ql_1000000, nI_add, pk_mul, q_and, q_or, q_xor, nI_clamp, q_in, q_neg1, q_nno, q_nno', q_annN, q_sh1, q_tbN, nI_leI, nI_ltI, nI_eq, pk_sub, ↓reduceIte, if_pos, if_neg, q_zlt, q_bs, f_X11_refuse]
      · refine q_end (nI (q_pg (C 0) a b (C 0 0 2))) 0 (I := I) (J := J) ?_ ?_ hR
        · simp (disch := omega) only [f_X10_parting, x0_hasCase hx, hb, hc, ql_0, ql_1, ql_2, ql_3, ql_4, ql_5, ql_6, ql_7, ql_8, ql_9, ql_10, ql_11, ql_12, ql_13, ql_14, ql_15, ql_16, ql_17, ql_18, ql_19, ql_20, ql_21, ql_22, ql_23, ql_24, ql_27, ql_30, ql_31, ql_32, ql_40, ql_48, ql_51, ql_52, ql_57, ql_59, ql_60, ql_61, ql_62, ql_76, ql_84, ql_91, ql_97, ql_99, ql_100, ql_120, ql_122, ql_127, ql_128, ql_200, ql_255, ql_256, ql_300, ql_420, ql_428, ql_640, ql_900, ql_896, ql_999, ql_1712, ql_1716, ql_1734, ql_1772, ql_1800, ql_1805, ql_1811, ql_1822, ql_2132, ql_2140, ql_3229, ql_9999, ql_11453, ql_65536, ql_100000, ql_1000000, nI_add, pk_mul, q_and, q_or, q_xor, nI_clamp, q_in, q_neg1, q_nno, q_nno', q_annN, q_sh1, q_tbN, nI_leI, nI_ltI, nI_eq, pk_sub, ↓reduceIte, if_pos, if_neg, q_zlt, q_bs, x0_partedBy hx ok, f_X10_give]
        · simp (disch := omega) only [f_X11_parting, m_isCase hm, hb, hc, ql_0, ql_1, ql_2, ql_3, ql_4, ql_5, ql_6, ql_7, ql_8, ql_9, ql_10, ql_11, ql_12, ql_13, ql_14, ql_15, ql_16, ql_17, ql_18, ql_19, ql_20, ql_21, ql_22, ql_23, ql_24, ql_27, ql_30, ql_31, ql_32, ql_40, ql_48, ql_51, ql_52, ql_57, ql_59, ql_60, ql_61, ql_62, ql_76, ql_84, ql_91, ql_97, ql_99, ql_100, ql_120, ql_122, ql_127, ql_128, ql_200, ql_255, ql_256, ql_300, ql_420, ql_428, ql_640, ql_900, ql_896, ql_999, ql_1712, ql_1716, ql_1734, ql_1772, ql_1800, ql_1805, ql_1811, ql_1822, ql_2132, ql_2140, ql_3229, ql_9999, ql_11453, ql_65536, ql_100000, ql_1000000, nI_add, pk_mul, q_and, q_or, q_xor, nI_clamp, q_in, q_neg1, q_nno, q_nno', q_annN, q_sh1, q_tbN, nI_leI, nI_ltI, nI_eq, pk_sub, ↓reduceIte, if_pos, if_neg, q_zlt, q_bs, m_partingOf hm ok, f_X11_gives]
def q_br (C : q_N) (m : Nat) : Nat → Nat := q_it (fun c s => if m.testBit c = false ∧ q_yd C m c = 0 then s ||| 2 ^ c else s) 0
theorem r_barren : s_barren q_R := by
  intro I L J K hR
  obtain ⟨C, T, mk, h⟩ := id hR
  obtain ⟨hx, hm, ok, -⟩ := h.o
  obtain ⟨o0, o1, o2, o3, -⟩ := id ok
  have oM := q_okM ok
  refine q_end (nI (q_br (C 0) (C 0 0 6) (C 0 0 2))) 0 (I := I) (J := J) ?_ ?_ hR
  · unfold f_X10_barren
    refine q_lp (G := fun n k (a : Nat) => g_X10_barren_4 I n (nI a) (nI k)) (fun k => q_br (C 0) (C 0 0 6) k) (fun n k _ hk => ?_) (fun n => ?_) (Nat.zero_le (C 0 0 2)) (q_fu (by omega))
    · have e : q_br (C 0) (C 0 0 6) (k + 1) = if (C 0 0 6).testBit k = false ∧ q_yd (C 0) (C 0 0 6) k = 0 then q_br (C 0) (C 0 0 6) k ||| 2 ^ k else q_br (C 0) (C 0 0 6) k := rfl
      have hy := q_yd_le ok (C 0 0 6) k
      rw [e]
      cases hb : (C 0 0 6).testBit k with
      | true => simp (disch := omega) only [g_X10_barren_4, hx.f.2.2.1, x0_isMade hx, hb, ql_0, ql_1, ql_2, ql_3, ql_4, ql_5, ql_6, ql_7, ql_8, ql_9, ql_10, ql_11, ql_12, ql_13, ql_14, ql_15, ql_16, ql_17, ql_18, ql_19, ql_20, ql_21, ql_22, ql_23, ql_24, ql_27, ql_30, ql_31, ql_32, ql_40, ql_48, ql_51, ql_52, ql_57, ql_59, ql_60, ql_61, ql_62, ql_76, ql_84, ql_91, ql_97, ql_99, ql_100, ql_120, ql_122, ql_127, ql_128, ql_200, ql_255, ql_256, ql_300, ql_420, ql_428, ql_640, ql_900, ql_896, ql_999, ql_1712, ql_1716, ql_1734, ql_1772, ql_1800, ql_1805, ql_1811, ql_1822, ql_2132, ql_2140, ql_3229, ql_9999, ql_11453, ql_65536, ql_100000, ql_1000000, nI_add, pk_mul, q_and, q_or, q_xor, nI_clamp, q_in, q_neg1, q_nno, q_nno', q_annN, q_sh1, q_tbN, nI_leI, nI_ltI, nI_eq, pk_sub, ↓reduceIte, if_pos, if_neg, q_zlt, q_bs, reduceCtorEq, false_and]
      | false =>
        by_cases z : q_yd (C 0) (C 0 0 6) k = 0
        · simp (disch := omega) only [g_X10_barren_4, hx.f.2.2.1, hx.f.2.2.2.2.2.2, x0_isMade hx, hb, x0_yieldUnder hx ok hk, z, ql_0, ql_1, ql_2, ql_3, ql_4, ql_5, ql_6, ql_7, ql_8, ql_9, ql_10, ql_11, ql_12, ql_13, ql_14, ql_15, ql_16, ql_17, ql_18, ql_19, ql_20, ql_21, ql_22, ql_23, ql_24, ql_27, ql_30, ql_31, ql_32, ql_40, ql_48, ql_51, ql_52, ql_57, ql_59, ql_60, ql_61, ql_62, ql_76, ql_84, ql_91, ql_97, ql_99, ql_100, ql_120, ql_122, ql_127, ql_128, ql_200, ql_255, ql_256, ql_300, ql_420, ql_428, ql_640, ql_900, ql_896, ql_999, ql_1712, ql_1716, ql_1734, ql_1772, ql_1800, ql_1805, ql_1811, ql_1822, ql_2132, ql_2140, ql_3229, ql_9999, ql_11453, ql_65536, ql_100000, ql_1000000, nI_add, pk_mul, q_and, q_or, q_xor, nI_clamp, q_in, q_neg1, q_nno, q_nno', q_annN, q_sh1, q_tbN, nI_leI, nI_ltI, nI_eq, pk_sub, ↓reduceIte, if_pos, if_neg, q_zlt, q_bs, Bool.false_eq_true, and_self]
        · simp (disch := omega) only [g_X10_barren_4, hx.f.2.2.1, hx.f.2.2.2.2.2.2, x0_isMade hx, hb, x0_yieldUnder hx ok hk, z, ql_0, ql_1, ql_2, ql_3, ql_4, ql_5, ql_6, ql_7, ql_8, ql_9, ql_10, ql_11, ql_12, ql_13, ql_14, ql_15, ql_16, ql_17, ql_18, ql_19, ql_20, ql_21, ql_22, ql_23, ql_24, ql_27, ql_30, ql_31, ql_32, ql_40, ql_48, ql_51, ql_52, ql_57, ql_59, ql_60, ql_61, ql_62, ql_76, ql_84, ql_91, ql_97, ql_99, ql_100, ql_120, ql_122, ql_127, ql_128, ql_200, ql_255, ql_256, ql_300, ql_420, ql_428, ql_640, ql_900, ql_896, ql_999, ql_1712, ql_1716, ql_1734, ql_1772, ql_1800, ql_1805, ql_1811, ql_1822, ql_2132, ql_2140, ql_3229, ql_9999, ql_11453, ql_65536, ql_100000, ql_1000000, nI_add, pk_mul, q_and, q_or, q_xor, nI_clamp, q_in, q_neg1, q_nno, q_nno', q_annN, q_sh1, q_tbN, nI_leI, nI_ltI, nI_eq, pk_sub, ↓reduceIte, if_pos, if_neg, q_zlt, q_bs, Bool.false_eq_true, and_false]
    · simp (disch := omega) only [g_X10_barren_4, hx.f.2.2.1, ql_0, ql_1, ql_2, ql_3, ql_4, ql_5, ql_6, ql_7, ql_8, ql_9, ql_10, ql_11, ql_12, ql_13, ql_14, ql_15, ql_16, ql_17, ql_18, ql_19, ql_20, ql_21, ql_22, ql_23, ql_24, ql_27, ql_30, ql_31, ql_32, ql_40, ql_48, ql_51, ql_52, ql_57, ql_59, ql_60, ql_61, ql_62, ql_76, ql_84, ql_91, ql_97, ql_99, ql_100, ql_120, ql_122, ql_127, ql_128, ql_200, ql_255, ql_256, ql_300, ql_420, ql_428, ql_640, ql_900, ql_896, ql_999, ql_1712, ql_1716, ql_1734, ql_1772, ql_1800, ql_1805, ql_1811, ql_1822, ql_2132, ql_2140, ql_3229, ql_9999, ql_11453, ql_65536, ql_100000, ql_1000000, nI_add, pk_mul, q_and, q_or, q_xor, nI_clamp, q_in, q_neg1, q_nno, q_nno', q_annN, q_sh1, q_tbN, nI_leI, nI_ltI, nI_eq, pk_sub, ↓reduceIte, if_pos, if_neg, q_zlt, q_bs, f_X10_give]
  · unfold f_X11_barren
    refine q_lp (G := fun n k (a : Nat) => g_X11_barren_4 J n (nI a) (nI k)) (fun k => q_br (C 0) (C 0 0 6) k) (fun n k _ hk => ?_) (fun n => ?_) (Nat.zero_le (C 0 0 2)) (q_fu (by omega))
    · have e : q_br (C 0) (C 0 0 6) (k + 1) = if (C 0 0 6).testBit k = false ∧ q_yd (C 0) (C 0 0 6) k = 0 then q_br (C 0) (C 0 0 6) k ||| 2 ^ k else q_br (C 0) (C 0 0 6) k := rfl
      have hy := q_yd_le ok (C 0 0 6) k
      rw [e]
      cases hb : (C 0 0 6).testBit k with
      | true => simp (disch := omega) only [g_X11_barren_4, hm.f.2.2.1, hm.f.2.2.2.2.2.2, q_isIn, hb, ql_0, ql_1, ql_2, ql_3, ql_4, ql_5, ql_6, ql_7, ql_8, ql_9, ql_10, ql_11, ql_12, ql_13, ql_14, ql_15, ql_16, ql_17, ql_18, ql_19, ql_20, ql_21, ql_22, ql_23, ql_24, ql_27, ql_30, ql_31, ql_32, ql_40, ql_48, ql_51, ql_52, ql_57, ql_59, ql_60, ql_61, ql_62, ql_76, ql_84, ql_91, ql_97, ql_99, ql_100, ql_120, ql_122, ql_127, ql_128, ql_200, ql_255, ql_256, ql_300, ql_420, ql_428, ql_640, ql_900, ql_896, ql_999, ql_1712, ql_1716, ql_1734, ql_1772, ql_1800, ql_1805, ql_1811, ql_1822, ql_2132, ql_2140, ql_3229, ql_9999, ql_11453, ql_65536, ql_100000, ql_1000000, nI_add, pk_mul, q_and, q_or, q_xor, nI_clamp, q_in, q_neg1, q_nno, q_nno', q_annN, q_sh1, q_tbN, nI_leI, nI_ltI, nI_eq, pk_sub, ↓reduceIte, if_pos, if_neg, q_zlt, q_bs, reduceCtorEq, false_and, Nat.or_zero]
      | false =>
        by_cases z : q_yd (C 0) (C 0 0 6) k = 0
        · simp (disch := omega) only [g_X11_barren_4, hm.f.2.2.1, hm.f.2.2.2.2.2.2, q_isIn, hb, m_yieldBy hm ok hk, z, ql_0, ql_1, ql_2, ql_3, ql_4, ql_5, ql_6, ql_7, ql_8, ql_9, ql_10, ql_11, ql_12, ql_13, ql_14, ql_15, ql_16, ql_17, ql_18, ql_19, ql_20, ql_21, ql_22, ql_23, ql_24, ql_27, ql_30, ql_31, ql_32, ql_40, ql_48, ql_51, ql_52, ql_57, ql_59, ql_60, ql_61, ql_62, ql_76, ql_84, ql_91, ql_97, ql_99, ql_100, ql_120, ql_122, ql_127, ql_128, ql_200, ql_255, ql_256, ql_300, ql_420, ql_428, ql_640, ql_900, ql_896, ql_999, ql_1712, ql_1716, ql_1734, ql_1772, ql_1800, ql_1805, ql_1811, ql_1822, ql_2132, ql_2140, ql_3229, ql_9999, ql_11453, ql_65536, ql_100000, ql_1000000, nI_add, pk_mul, q_and, q_or, q_xor, nI_clamp, q_in, q_neg1, q_nno, q_nno', q_annN, q_sh1, q_tbN, nI_leI, nI_ltI, nI_eq, pk_sub, ↓reduceIte, if_pos, if_neg, q_zlt, q_bs, Bool.false_eq_true, and_self]
        · simp (disch := omega) only [g_X11_barren_4, hm.f.2.2.1, hm.f.2.2.2.2.2.2, q_isIn, hb, m_yieldBy hm ok hk, z, ql_0, ql_1, ql_2, ql_3, ql_4, ql_5, ql_6, ql_7, ql_8, ql_9, ql_10, ql_11, ql_12, ql_13, ql_14, ql_15, ql_16, ql_17, ql_18, ql_19, ql_20, ql_21, ql_22, ql_23, ql_24, ql_27, ql_30, ql_31, ql_32, ql_40, ql_48, ql_51, ql_52, ql_57, ql_59, ql_60, ql_61, ql_62, ql_76, ql_84, ql_91, ql_97, ql_99, ql_100, ql_120, ql_122, ql_127, ql_128, ql_200, ql_255, ql_256, ql_300, ql_420, ql_428, ql_640, ql_900, ql_896, ql_999, ql_1712, ql_1716, ql_1734, ql_1772, ql_1800, ql_1805, ql_1811, ql_1822, ql_2132, ql_2140, ql_3229, ql_9999, ql_11453, ql_65536, ql_100000, ql_1000000, nI_add, pk_mul, q_and, q_or, q_xor, nI_clamp, q_in, q_neg1, q_nno, q_nno', q_annN, q_sh1, q_tbN, nI_leI, nI_ltI, nI_eq, pk_sub, ↓reduceIte, if_pos, if_neg, q_zlt, q_bs, Bool.false_eq_true, and_false, Nat.or_zero]
    · simp (disch := omega) only [g_X11_barren_4, hm.f.2.2.1, ql_0, ql_1, ql_2, ql_3, ql_4, ql_5, ql_6, ql_7, ql_8, ql_9, ql_10, ql_11, ql_12, ql_13, ql_14, ql_15, ql_16, ql_17, ql_18, ql_19, ql_20, ql_21, ql_22, ql_23, ql_24, ql_27, ql_30, ql_31, ql_32, ql_40, ql_48, ql_51, ql_52, ql_57, ql_59, ql_60, ql_61, ql_62, ql_76, ql_84, ql_91, ql_97, ql_99, ql_100, ql_120, ql_122, ql_127, ql_128, ql_200, ql_255, ql_256, ql_300, ql_420, ql_428, ql_640, ql_900, ql_896, ql_999, ql_1712, ql_1716, ql_1734, ql_1772, ql_1800, ql_1805, ql_1811, ql_1822, ql_2132, ql_2140, ql_3229, ql_9999, ql_11453, ql_65536, ql_100000, ql_1000000, nI_add, pk_mul, q_and, q_or, q_xor, nI_clamp, q_in, q_neg1, q_nno, q_nno', q_annN, q_sh1, q_tbN, nI_leI, nI_ltI, nI_eq, pk_sub, ↓reduceIte, if_pos, if_neg, q_zlt, q_bs, f_X11_gives]
