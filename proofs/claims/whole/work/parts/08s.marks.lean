/-! one more claim; copies; marks -/
/-- a loop that ends in what comes behind it -/
theorem q_lpC {α β : Type} {G : Nat → Nat → α → β} {K : α → β} {N k0 : Nat} (P : Nat → α → Prop) (hs : ∀ n k a, k0 ≤ k → k < N → P k a → ∃ a', P (k + 1) a' ∧ G (n + 1) k a = G n (k + 1) a') (he : ∀ n a, P N a → G (n + 1) N a = K a) {n : Nat} {a : α} (h0 : k0 ≤ N) (hn : N - k0 < n) (hp : P k0 a) : ∃ a', P N a' ∧ G n k0 a = K a' := by
  have key : ∀ j k n a, k0 ≤ k → k + j = N → j < n → P k a → ∃ a', P N a' ∧ G n k a = K a' := by
    intro j
    induction j with
    | zero =>
      intro k n a _ hk hn hp
      have hk : k = N := hk
      subst hk
      cases n with
      | zero => omega
      | succ n => exact ⟨a, hp, he n a hp⟩
    | succ j ih =>
      intro k n a h1 hk hn hp
      cases n with
      | zero => omega
      | succ n =>
        obtain ⟨a', hp', e⟩ := hs n k a h1 (by omega) hp
        obtain ⟨a'', hp'', e'⟩ := ih (k + 1) n a' (by omega) (by omega) (by omega) hp'
        exact ⟨a'', hp'', e.trans e'⟩
  exact key (N - k0) k0 n a (Nat.le_refl _) (by omega) hn hp
/-! one more claim -/
def q_aC (C : q_N) (b c s w : Nat) : q_N := z2 (z2 (z2 (z2 (z2 C 4 (C 0 2) b) 5 (C 0 2) c) 6 (C 0 2) s) 7 (C 0 2) w) 0 2 (C 0 2 + 1)
theorem q_aC_f (C : q_N) (b c s w : Nat) : q_aC C b c s w 0 2 = C 0 2 + 1 ∧ (∀ k, k ≠ 2 → q_aC C b c s w 0 k = C 0 k) ∧ (∀ r k, r ≠ 0 → k ≠ C 0 2 → q_aC C b c s w r k = C r k) ∧ (∀ r k, r ≠ 0 → r ≠ 4 → r ≠ 5 → r ≠ 6 → r ≠ 7 → q_aC C b c s w r k = C r k) ∧ q_aC C b c s w 4 (C 0 2) = b ∧ q_aC C b c s w 5 (C 0 2) = c ∧ q_aC C b c s w 6 (C 0 2) = s ∧ q_aC C b c s w 7 (C 0 2) = w := by
  unfold q_aC
  refine ⟨q_zs, fun k hk => ?_, fun r k h1 h2 => ?_, fun r k h0 h4 h5 h6 h7 => ?_, ?_, ?_, ?_, ?_⟩
  · rw [q_zo (by omega), q_zo (by omega), q_zo (by omega), q_zo (by omega), q_zo (by omega)]
  · rw [q_zo (by omega), q_zo (by omega), q_zo (by omega), q_zo (by omega), q_zo (by omega)]
  · rw [q_zo (by omega), q_zo (by omega), q_zo (by omega), q_zo (by omega), q_zo (by omega)]
  · rw [q_zo (by omega), q_zo (by omega), q_zo (by omega), q_zo (by omega), q_zs]
  · rw [q_zo (by omega), q_zo (by omega), q_zo (by omega), q_zs]
  · rw [q_zo (by omega), q_zo (by omega), q_zs]
  · rw [q_zo (by omega), q_zs]
theorem q_aC_ok {C : q_N} (ok : q_ok C) {b c s w : Nat} (h7 : C 0 2 < 7) (hb : b < C 0 0) (hc : 1 ≤ c ∧ c ≤ 9) (hs : s < 2 ^ C 0 1) (hw : w < 27 ^ 8) : q_ok (q_aC C b c s w) := by
  obtain ⟨f1, f2, f3, f4, f5, f6, f7, f8⟩ := q_aC_f C b c s w
  obtain ⟨o0, o1, o2, o3, o4, o5, o6, o7, o8, o9, o10⟩ := ok
  refine ⟨?_, ?_, ?_, ?_, ?_, ?_, ?_, ?_, ?_, ?_, ?_⟩
  · rw [f2 0 (by omega)]; exact o0
  · rw [f2 1 (by omega)]; exact o1
  · rw [f1]; omega
  · rw [f2 3 (by omega)]; exact o3
  · rw [f2 4 (by omega)]; exact o4
  · rw [f2 5 (by omega)]; exact o5
  · rw [f2 6 (by omega), f1, Nat.pow_succ]; omega
  · intro k hk
    rw [f2 0 (by omega)] at hk
    rw [f4 1 k (by omega) (by omega) (by omega) (by omega) (by omega), f4 2 k (by omega) (by omega) (by omega) (by omega) (by omega)]
    exact o7 k hk
  · intro k hk
    rw [f2 1 (by omega)] at hk
    rw [f4 3 k (by omega) (by omega) (by omega) (by omega) (by omega)]
    exact o8 k hk
  · intro k hk
    rw [f1] at hk
    rw [f2 0 (by omega), f2 1 (by omega)]
    by_cases z : k = C 0 2
    · subst z
      rw [f5, f6, f7, f8]
      exact ⟨hb, hc.1, hc.2, hs, hw⟩
    · rw [f3 4 k (by omega) z, f3 5 k (by omega) z, f3 6 k (by omega) z, f3 7 k (by omega) z]
      exact o9 k (by omega)
  · intro k hk
    rw [f2 3 (by omega)] at hk
    rw [f2 0 (by omega), f4 8 k (by omega) (by omega) (by omega) (by omega) (by omega), f4 9 k (by omega) (by omega) (by omega) (by omega) (by omega), f4 10 k (by omega) (by omega) (by omega) (by omega) (by omega)]
    exact o10 k hk
theorem q_aC_sx {C : q_N} {d : Nat} {I : z_I} {L : z_L} (h : q_sx C d I L) (b c s w : Nat) : q_sx (q_aC C b c s w) d (z2 (z2 (z2 (z2 I (d + 4) (C 0 2) (nI b)) (d + 5) (C 0 2) (nI c)) (d + 6) (C 0 2) (nI s)) d 12 (nI (C 0 2 + 1))) (z2 L (d + 7) (C 0 2) (lN w)) := by
  obtain ⟨f1, f2, f3, f4, f5, f6, f7, f8⟩ := q_aC_f C b c s w
  refine ⟨fun r k hk => ?_, fun k hk => ?_, fun k hk => ?_⟩
  · match r with
    | 0 =>
      by_cases z : k = 2
      · subst z; rw [f1]; exact q_zs
      · rw [f2 k z]
        have e := h.1 0 k hk
        simp only [q_px] at e ⊢
        rw [q_zo (by omega), q_zo (by omega), q_zo (by omega), q_zo (by omega)]; exact e
    | 4 =>
      have hk : k < q_aC C b c s w 0 2 := hk
      rw [f1] at hk
      simp only [q_px]
      by_cases z : k = C 0 2
      · subst z; rw [f5, q_zo (by omega), q_zo (by omega), q_zo (by omega), q_zs]
      · rw [f3 4 k (by omega) z, q_zo (by omega), q_zo (by omega), q_zo (by omega), q_zo (by omega)]; exact h.1 4 k (show k < C 0 2 by omega)
    | 5 =>
      have hk : k < q_aC C b c s w 0 2 := hk
      rw [f1] at hk
      simp only [q_px]
      by_cases z : k = C 0 2
      · subst z; rw [f6, q_zo (by omega), q_zo (by omega), q_zs]
      · rw [f3 5 k (by omega) z, q_zo (by omega), q_zo (by omega), q_zo (by omega), q_zo (by omega)]; exact h.1 5 k (show k < C 0 2 by omega)
    | 6 =>
      have hk : k < q_aC C b c s w 0 2 := hk
      rw [f1] at hk
      simp only [q_px]
      by_cases z : k = C 0 2
      · subst z; rw [f7, q_zo (by omega), q_zs]
      · rw [f3 6 k (by omega) z, q_zo (by omega), q_zo (by omega), q_zo (by omega), q_zo (by omega)]; exact h.1 6 k (show k < C 0 2 by omega)
    | 1 => rw [f4 1 k (by omega) (by omega) (by omega) (by omega) (by omega), q_zo (by omega), q_zo (by omega), q_zo (by omega), q_zo (by omega)]; exact h.1 1 k (by have hk : k < q_aC C b c s w 0 0 := hk; rw [f2 0 (by omega)] at hk; exact hk)
    | 2 => rw [f4 2 k (by omega) (by omega) (by omega) (by omega) (by omega), q_zo (by omega), q_zo (by omega), q_zo (by omega), q_zo (by omega)]; exact h.1 2 k (by have hk : k < q_aC C b c s w 0 0 := hk; rw [f2 0 (by omega)] at hk; exact hk)
    | 3 => rw [f4 3 k (by omega) (by omega) (by omega) (by omega) (by omega), q_zo (by omega), q_zo (by omega), q_zo (by omega), q_zo (by omega)]; exact h.1 3 k (by have hk : k < q_aC C b c s w 0 1 := hk; rw [f2 1 (by omega)] at hk; exact hk)
    | 8 => rw [f4 8 k (by omega) (by omega) (by omega) (by omega) (by omega), q_zo (by omega), q_zo (by omega), q_zo (by omega), q_zo (by omega)]; exact h.1 8 k (by have hk : k < q_aC C b c s w 0 3 := hk; rw [f2 3 (by omega)] at hk; exact hk)
    | 9 => rw [f4 9 k (by omega) (by omega) (by omega) (by omega) (by omega), q_zo (by omega), q_zo (by omega), q_zo (by omega), q_zo (by omega)]; exact h.1 9 k (by have hk : k < q_aC C b c s w 0 3 := hk; rw [f2 3 (by omega)] at hk; exact hk)
    | 7 => exact absurd hk (Nat.not_lt_zero _)
    | n + 10 => exact absurd hk (Nat.not_lt_zero _)
  · rw [f1] at hk
    by_cases z : k = C 0 2
    · subst z; rw [f8, q_zs]
    · rw [f3 7 k (by omega) z, q_zo (by omega)]; exact h.2.1 k (by omega)
  · rw [f2 3 (by omega)] at hk
    rw [f4 10 k (by omega) (by omega) (by omega) (by omega) (by omega), q_zo (by omega)]; exact h.2.2 k hk
theorem q_aC_sm {C : q_N} {o m : Nat} {J J' : z_I} {K K' : z_L} (h : q_sm C o m J K) (ok : q_ok C) (h7 : C 0 2 < 7) {b c s w : Nat} (e1 : J' 1 (o + (30 + 3 * C 0 2)) = nI b) (e2 : J' 1 (o + (31 + 3 * C 0 2)) = nI c) (e3 : J' 1 (o + (32 + 3 * C 0 2)) = nI s) (e4 : J' 1 (o + 2) = nI (C 0 2 + 1)) (e5 : ∀ k, k < 60 → k ≠ 2 → (k < 30 + 3 * C 0 2 ∨ 33 + 3 * C 0 2 ≤ k) → J' 1 (o + k) = J 1 (o + k)) (e6 : K' 2 (m + 8 + C 0 2) = lN (q_cv w)) (e7 : ∀ k, k < 19 → k ≠ 8 + C 0 2 → K' 2 (m + k) = K 2 (m + k)) : q_sm (q_aC C b c s w) o m J' K' := by
  obtain ⟨f1, f2, f3, f4, f5, f6, f7, f8⟩ := q_aC_f C b c s w
  obtain ⟨o0, o1, o2, o3, -⟩ := id ok
  refine ⟨fun r k hk => ?_, fun k hk => ?_, fun k hk => ?_⟩
  · match r with
    | 0 =>
      have hk : k < 7 := hk
      by_cases z : k = 2
      · subst z; rw [f1]; exact e4
      · rw [f2 k z]
        have e := h.1 0 k hk
        simp only [q_pm] at e ⊢
        rw [e5 k (by omega) z (by omega)]; exact e
    | 4 =>
      have hk : k < q_aC C b c s w 0 2 := hk
      rw [f1] at hk
      simp only [q_pm]
      by_cases z : k = C 0 2
      · subst z; rw [f5]; exact e1
      · rw [f3 4 k (by omega) z, e5 _ (by omega) (by omega) (by omega)]; exact h.1 4 k (show k < C 0 2 by omega)
    | 5 =>
      have hk : k < q_aC C b c s w 0 2 := hk
      rw [f1] at hk
      simp only [q_pm]
      by_cases z : k = C 0 2
      · subst z; rw [f6]; exact e2
      · rw [f3 5 k (by omega) z, e5 _ (by omega) (by omega) (by omega)]; exact h.1 5 k (show k < C 0 2 by omega)
    | 6 =>
      have hk : k < q_aC C b c s w 0 2 := hk
      rw [f1] at hk
      simp only [q_pm]
      by_cases z : k = C 0 2
      · subst z; rw [f7]; exact e3
      · rw [f3 6 k (by omega) z, e5 _ (by omega) (by omega) (by omega)]; exact h.1 6 k (show k < C 0 2 by omega)
    | 1 =>
      have hk : k < q_aC C b c s w 0 0 := hk
      rw [f2 0 (by omega)] at hk
      simp only [q_pm]
      rw [f4 1 k (by omega) (by omega) (by omega) (by omega) (by omega), e5 _ (by omega) (by omega) (by omega)]; exact h.1 1 k hk
    | 2 =>
      have hk : k < q_aC C b c s w 0 0 := hk
      rw [f2 0 (by omega)] at hk
      simp only [q_pm]
      rw [f4 2 k (by omega) (by omega) (by omega) (by omega) (by omega), e5 _ (by omega) (by omega) (by omega)]; exact h.1 2 k hk
    | 3 =>
      have hk : k < q_aC C b c s w 0 1 := hk
      rw [f2 1 (by omega)] at hk
      simp only [q_pm]
      rw [f4 3 k (by omega) (by omega) (by omega) (by omega) (by omega), e5 _ (by omega) (by omega) (by omega)]; exact h.1 3 k hk
    | 8 =>
      have hk : k < q_aC C b c s w 0 3 := hk
      rw [f2 3 (by omega)] at hk
      simp only [q_pm]
      rw [f4 8 k (by omega) (by omega) (by omega) (by omega) (by omega), e5 _ (by omega) (by omega) (by omega)]; exact h.1 8 k hk
    | 9 =>
      have hk : k < q_aC C b c s w 0 3 := hk
      rw [f2 3 (by omega)] at hk
      simp only [q_pm]
      rw [f4 9 k (by omega) (by omega) (by omega) (by omega) (by omega), e5 _ (by omega) (by omega) (by omega)]; exact h.1 9 k hk
    | 7 => exact absurd hk (Nat.not_lt_zero _)
    | n + 10 => exact absurd hk (Nat.not_lt_zero _)
  · rw [f1] at hk
    by_cases z : k = C 0 2
    · subst z; rw [f8]; exact e6
    · rw [f3 7 k (by omega) z, Nat.add_assoc, e7 (8 + k) (by omega) (by omega), ← Nat.add_assoc]; exact h.2.1 k (by omega)
  · rw [f2 3 (by omega)] at hk
    rw [f4 10 k (by omega) (by omega) (by omega) (by omega) (by omega), Nat.add_assoc, e7 (15 + k) (by omega) (by omega), ← Nat.add_assoc]; exact h.2.2 k hk
theorem q_cv0 : q_cv 0 = 0 := by unfold q_cv; rfl
theorem q_tok.more {T C C' : q_N} (h : q_tok T C) (h0 : C 0 0 ≤ C' 0 0) (h2 : C 0 2 ≤ C' 0 2) (h3 : C 0 3 ≤ C' 0 3) : q_tok T C' := by
  obtain ⟨t1, t2, t3, t4, t5, t6⟩ := h
  refine ⟨t1, t2, t3, t4, fun e he => ?_, t6⟩
  obtain ⟨a1, a2, a3, a4, a5, a6⟩ := t5 e he
  exact ⟨a1, fun z => by have := a2 z; omega, fun z => by have := a3 z; omega, fun z => by have := a4 z; omega, fun z => by have := a5 z; omega, a6⟩
theorem r_think : s_think q_R := by
  intro I L J K p0 p1 p2 hR
  obtain ⟨C, T, mk, h⟩ := id hR
  obtain ⟨hx, hm, ok, tx, tm, tok⟩ := h.o
  obtain ⟨o0, o1, o2, o3, -⟩ := id ok
  have hp2 := q_pow (n := C 0 0 1) (by omega)
  have hfr := q_from (p := p2) (a := 1) (b := 9) (by decide) (by decide)
  cases hb : q_hs (2 ^ C 0 0 1) p0 with
  | false => exact q_end2 (-1) 1 (by simp only [f_X10_think, x0_hasCases hx ok, hb]; rfl) (by simp only [f_X11_think, m_areCases hm ok, hb]; rfl) hR
  | true =>
  cases hb1 : q_hs (C 0 0 0) p1 with
  | false => exact q_end2 (-1) 1 (by simp only [f_X10_think, x0_hasCases hx ok, hb, x0_hasBed hx, hb1]; rfl) (by simp only [f_X11_think, m_areCases hm ok, hb, m_isBed hm, hb1]; rfl) hR
  | true =>
  cases hb2 : f_X10_isWithin p2 (nI 1) (nI 9) with
  | false =>
    rw [hb2] at hfr
    exact q_end2 (-1) 1 (by simp only [f_X10_think, x0_hasCases hx ok, hb, x0_hasBed hx, hb1, ql_1, ql_9, hb2]; rfl) (by simp only [f_X11_think, m_areCases hm ok, hb, m_isBed hm, hb1, qL_1, qL_9, hfr]; rfl) hR
  | true =>
    rw [hb2] at hfr
    obtain ⟨s, hs, rfl⟩ := q_hs_t hb hp2
    obtain ⟨b, hbb, rfl⟩ := q_hs_t hb1 (by omega)
    obtain ⟨c, hc1, hc2, rfl⟩ := q_wi_t hb2 (by decide) (by decide)
    have fX := hx.f.2.2.1
    have fM := hm.f.2.2.1
    by_cases h7 : C 0 0 2 < 7
    · have ex := q_aC_sx hx b c s 0
      have em := q_aC_sm (J' := z2 (z2 (z2 (z2 J 1 2 (nI (C 0 0 2 + 1))) 1 (30 + 3 * C 0 0 2) (nI b)) 1 (31 + 3 * C 0 0 2) (nI c)) 1 (32 + 3 * C 0 0 2) (nI s)) (K' := z2 K 2 (8 + C 0 0 2) (lN 0)) (w := 0) (b := b) (c := c) (s := s) hm ok h7 (by rw [q_zo (by omega), q_zo (by omega), Nat.zero_add, q_zs]) (by rw [q_zo (by omega), Nat.zero_add, q_zs]) (by rw [Nat.zero_add, q_zs]) (by rw [q_zo (by omega), q_zo (by omega), q_zo (by omega), q_zs]) (fun k h1 h2 h3 => by rw [q_zo (by omega), q_zo (by omega), q_zo (by omega), q_zo (by omega)]) (by rw [Nat.zero_add, q_zs, q_cv0]) (fun k h1 h2 => by rw [q_zo (by omega)])
      obtain ⟨f1, f2, -⟩ := q_aC_f (C 0) b c s 0
      have hq := h.set (C' := q_aC (C 0) b c s 0) (T' := T 0) ⟨ex, em, q_aC_ok ok h7 hbb ⟨hc1, hc2⟩ hs (by decide), tx.go (fun d k a1 a2 => by rw [q_zo (by omega), q_zo (by omega), q_zo (by omega), q_zo (by omega)]), tm.go tok (fun k a1 a2 => by rw [q_zo (by omega), q_zo (by omega), q_zo (by omega), q_zo (by omega)]), tok.more (by rw [f2 0 (by omega)]; omega) (by rw [f1]; omega) (by rw [f2 3 (by omega)]; omega)⟩ (fun d k _ z => by rw [q_zo (by omega), q_zo (by omega), q_zo (by omega), q_zo (by omega)]) (fun d k _ z => by rw [q_zo (by omega)]) (fun d k _ z => by rw [q_zo (by omega), q_zo (by omega), q_zo (by omega), q_zo (by omega)]) (fun d k _ z => by rw [q_zo (by omega)])
      have e12 : z2 (z2 (z2 (z2 I 7 (C 0 0 2) (nI b)) 8 (C 0 0 2) (nI c)) 9 (C 0 0 2) (nI s)) 3 12 (nI (C 0 0 2 + 1)) 3 12 = nI (C 0 0 2 + 1) := q_zs
      refine ⟨(nI (C 0 0 2), z2 (z2 (z2 (z2 (z2 I 7 (C 0 0 2) (nI b)) 8 (C 0 0 2) (nI c)) 9 (C 0 0 2) (nI s)) 3 12 (nI (C 0 0 2 + 1))) 0 15 0, z2 L 10 (C 0 0 2) (lN 0)), (nI (C 0 0 2), z2 (z2 (z2 (z2 (z2 J 1 2 (nI (C 0 0 2 + 1))) 1 (30 + 3 * C 0 0 2) (nI b)) 1 (31 + 3 * C 0 0 2) (nI c)) 1 (32 + 3 * C 0 0 2) (nI s)) 0 2 0, z2 K 2 (8 + C 0 0 2) (lN 0)), ?_, ?_, rfl, (hq.st 0).r⟩
      · simp (disch := omega) only [f_X10_think, x0_hasCases hx ok, hb, x0_hasBed hx, hb1, ql_0, ql_1, ql_2, ql_3, ql_4, ql_5, ql_6, ql_7, ql_8, ql_9, ql_10, ql_11, ql_12, ql_13, ql_14, ql_15, ql_16, ql_17, ql_18, ql_19, ql_20, ql_21, ql_22, ql_23, ql_24, ql_27, ql_30, ql_31, ql_32, ql_40, ql_48, ql_51, ql_52, ql_57, ql_59, ql_60, ql_61, ql_62, ql_76, ql_84, ql_91, ql_97, ql_99, ql_100, ql_120, ql_122, ql_127, ql_128, ql_200, ql_255, ql_256, ql_300, ql_420, ql_428, ql_640, ql_900, ql_896, ql_999, ql_1712, ql_1716, ql_1734, ql_1772, ql_1800, ql_1805, ql_1811, ql_1822, ql_2132, ql_2140, ql_3229, ql_9999, ql_11453, ql_65536, ql_100000, ql_1000000, nI_add, pk_mul, q_and, q_or, q_xor, nI_clamp, q_in, q_neg1, q_nno, q_nno', q_annN, q_sh1, q_tbN, nI_leI, nI_ltI, nI_eq, pk_sub, ↓reduceIte, if_pos, if_neg, q_zlt, q_bs, hb2, fX, f_X0_addClaim, f_X10_give, q_zs, Nat.add_sub_cancel]
        rfl
      · have y1 : 30 + 3 * C 0 0 2 + 1 = 31 + 3 * C 0 0 2 := by omega
        have y2 : 30 + 3 * C 0 0 2 + 2 = 32 + 3 * C 0 0 2 := by omega
        simp (disch := omega) only [f_X11_think, m_areCases hm ok, hb, m_isBed hm, hb1, qL_1, qL_9, hfr, ql_0, ql_1, ql_2, ql_3, ql_4, ql_5, ql_6, ql_7, ql_8, ql_9, ql_10, ql_11, ql_12, ql_13, ql_14, ql_15, ql_16, ql_17, ql_18, ql_19, ql_20, ql_21, ql_22, ql_23, ql_24, ql_27, ql_30, ql_31, ql_32, ql_40, ql_48, ql_51, ql_52, ql_57, ql_59, ql_60, ql_61, ql_62, ql_76, ql_84, ql_91, ql_97, ql_99, ql_100, ql_120, ql_122, ql_127, ql_128, ql_200, ql_255, ql_256, ql_300, ql_420, ql_428, ql_640, ql_900, ql_896, ql_999, ql_1712, ql_1716, ql_1734, ql_1772, ql_1800, ql_1805, ql_1811, ql_1822, ql_2132, ql_2140, ql_3229, ql_9999, ql_11453, ql_65536, ql_100000, ql_1000000, nI_add, pk_mul, q_and, q_or, q_xor, nI_clamp, q_in, q_neg1, q_nno, q_nno', q_annN, q_sh1, q_tbN, nI_leI, nI_ltI, nI_eq, pk_sub, ↓reduceIte, if_pos, if_neg, q_zlt, q_bs, fM, f_X11_claimRow, f_X11_gives, y1, y2]
        rfl
    · have h7 : C 0 0 2 = 7 := by omega
      refine q_end2 (-1) 4 (I := I) (J := J) ?_ ?_ hR
      · simp (disch := omega) only [f_X10_think, x0_hasCases hx ok, hb, x0_hasBed hx, hb1, ql_0, ql_1, ql_2, ql_3, ql_4, ql_5, ql_6, ql_7, ql_8, ql_9, ql_10, ql_11, ql_12, ql_13, ql_14, ql_15, ql_16, ql_17, ql_18, ql_19, ql_20, ql_21, ql_22, ql_23, ql_24, ql_27, ql_30, ql_31, ql_32, ql_40, ql_48, ql_51, ql_52, ql_57, ql_59, ql_60, ql_61, ql_62, ql_76, ql_84, ql_91, ql_97, ql_99, ql_100, ql_120, ql_122, ql_127, ql_128, ql_200, ql_255, ql_256, ql_300, ql_420, ql_428, ql_640, ql_900, ql_896, ql_999, ql_1712, ql_1716, ql_1734, ql_1772, ql_1800, ql_1805, ql_1811, ql_1822, ql_2132, ql_2140, ql_3229, ql_9999, ql_11453, ql_65536, ql_100000, ql_1000000, nI_add, pk_mul, q_and, q_or, q_xor, nI_clamp, q_in, q_neg1, q_nno, q_nno', q_annN, q_sh1, q_tbN, nI_leI, nI_ltI, nI_eq, pk_sub, ↓reduceIte, if_pos, if_neg, q_zlt, q_bs, hb2, fX, f_X10_refuse, h7]
      · simp (disch := omega) only [f_X11_think, m_areCases hm ok, hb, m_isBed hm, hb1, qL_1, qL_9, hfr, ql_0, ql_1, ql_2, ql_3, ql_4, ql_5, ql_6, ql_7, ql_8, ql_9, ql_10, ql_11, ql_12, ql_13, ql_14, ql_15, ql_16, ql_17, ql_18, ql_19, ql_20, ql_21, ql_22, ql_23, ql_24, ql_27, ql_30, ql_31, ql_32, ql_40, ql_48, ql_51, ql_52, ql_57, ql_59, ql_60, ql_61, ql_62, ql_76, ql_84, ql_91, ql_97, ql_99, ql_100, ql_120, ql_122, ql_127, ql_128, ql_200, ql_255, ql_256, ql_300, ql_420, ql_428, ql_640, ql_900, ql_896, ql_999, ql_1712, ql_1716, ql_1734, ql_1772, ql_1800, ql_1805, ql_1811, ql_1822, ql_2132, ql_2140, ql_3229, ql_9999, ql_11453, ql_65536, ql_100000, ql_1000000, nI_add, pk_mul, q_and, q_or, q_xor, nI_clamp, q_in, q_neg1, q_nno, q_nno', q_annN, q_sh1, q_tbN, nI_leI, nI_ltI, nI_eq, pk_sub, ↓reduceIte, if_pos, if_neg, q_zlt, q_bs, fM, f_X11_refuse, h7]
