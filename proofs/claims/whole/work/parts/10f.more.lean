/-! one bed, case, scholar more -/
def q_aB (C : q_N) (x y : Nat) : q_N := z2 (z2 (z2 C 1 (C 0 0) x) 2 (C 0 0) y) 0 0 (C 0 0 + 1)
theorem q_aB_f (C : q_N) (x y : Nat) : q_aB C x y 0 0 = C 0 0 + 1 ∧ (∀ k, k ≠ 0 → q_aB C x y 0 k = C 0 k) ∧ (∀ r k, r ≠ 0 → k ≠ C 0 0 → q_aB C x y r k = C r k) ∧ (∀ r k, r ≠ 0 → r ≠ 1 → r ≠ 2 → q_aB C x y r k = C r k) ∧ q_aB C x y 1 (C 0 0) = x ∧ q_aB C x y 2 (C 0 0) = y := by
  unfold q_aB
  refine ⟨q_zs, fun k hk => ?_, fun r k h1 h2 => ?_, fun r k h0 h1 h2 => ?_, ?_, ?_⟩
  · rw [q_zo (by omega), q_zo (by omega), q_zo (by omega)]
  · rw [q_zo (by omega), q_zo (by omega), q_zo (by omega)]
  · rw [q_zo (by omega), q_zo (by omega), q_zo (by omega)]
  · rw [q_zo (by omega), q_zo (by omega), q_zs]
  · rw [q_zo (by omega), q_zs]
theorem q_aB_sx {C : q_N} {d : Nat} {I : z_I} {L : z_L} (h : q_sx C d I L) (x y : Nat) : q_sx (q_aB C x y) d (z2 (z2 (z2 I (d + 1) (C 0 0) (nI x)) (d + 2) (C 0 0) (nI y)) d 10 (nI (C 0 0 + 1))) L := by
  obtain ⟨f1, f2, f3, f4, g1, g2⟩ := q_aB_f C x y
  refine ⟨fun r k hk => ?_, fun k hk => ?_, fun k hk => ?_⟩
  · match r with
    | 0 =>
      by_cases z : k = 0
      · subst z; rw [f1]; exact q_zs
      · rw [f2 k z]
        have e := h.1 0 k hk
        simp only [q_px] at e ⊢
        rw [q_zo (by omega), q_zo (by omega), q_zo (by omega)]; exact e
    | 1 =>
      have hk : k < q_aB C x y 0 0 := hk
      rw [f1] at hk
      simp only [q_px]
      by_cases z : k = C 0 0
      · subst z; rw [g1, q_zo (by omega), q_zo (by omega), q_zs]
      · rw [f3 1 k (by omega) z, q_zo (by omega), q_zo (by omega), q_zo (by omega)]; exact h.1 1 k (show k < C 0 0 by omega)
    | 2 =>
      have hk : k < q_aB C x y 0 0 := hk
      rw [f1] at hk
      simp only [q_px]
      by_cases z : k = C 0 0
      · subst z; rw [g2, q_zo (by omega), q_zs]
      · rw [f3 2 k (by omega) z, q_zo (by omega), q_zo (by omega), q_zo (by omega)]; exact h.1 2 k (show k < C 0 0 by omega)
    | 3 => rw [f4 3 k (by omega) (by omega) (by omega), q_zo (by omega), q_zo (by omega), q_zo (by omega)]; exact h.1 3 k (by have hk : k < q_aB C x y 0 1 := hk; rw [f2 1 (by omega)] at hk; exact hk)
    | 4 => rw [f4 4 k (by omega) (by omega) (by omega), q_zo (by omega), q_zo (by omega), q_zo (by omega)]; exact h.1 4 k (by have hk : k < q_aB C x y 0 2 := hk; rw [f2 2 (by omega)] at hk; exact hk)
    | 5 => rw [f4 5 k (by omega) (by omega) (by omega), q_zo (by omega), q_zo (by omega), q_zo (by omega)]; exact h.1 5 k (by have hk : k < q_aB C x y 0 2 := hk; rw [f2 2 (by omega)] at hk; exact hk)
    | 6 => rw [f4 6 k (by omega) (by omega) (by omega), q_zo (by omega), q_zo (by omega), q_zo (by omega)]; exact h.1 6 k (by have hk : k < q_aB C x y 0 2 := hk; rw [f2 2 (by omega)] at hk; exact hk)
    | 8 => rw [f4 8 k (by omega) (by omega) (by omega), q_zo (by omega), q_zo (by omega), q_zo (by omega)]; exact h.1 8 k (by have hk : k < q_aB C x y 0 3 := hk; rw [f2 3 (by omega)] at hk; exact hk)
    | 9 => rw [f4 9 k (by omega) (by omega) (by omega), q_zo (by omega), q_zo (by omega), q_zo (by omega)]; exact h.1 9 k (by have hk : k < q_aB C x y 0 3 := hk; rw [f2 3 (by omega)] at hk; exact hk)
    | 7 => exact absurd hk (Nat.not_lt_zero _)
    | n + 10 => exact absurd hk (Nat.not_lt_zero _)
  · rw [f2 2 (by omega)] at hk
    rw [f4 7 k (by omega) (by omega) (by omega)]; exact h.2.1 k hk
  · rw [f2 3 (by omega)] at hk
    rw [f4 10 k (by omega) (by omega) (by omega)]; exact h.2.2 k hk
theorem q_aB_sm {C : q_N} {o m : Nat} {J J' : z_I} {K K' : z_L} (h : q_sm C o m J K) (ok : q_ok C) (hn : C 0 0 < 6) {x y : Nat} (e1 : J' 1 (o + (10 + 2 * C 0 0)) = nI x) (e2 : J' 1 (o + (11 + 2 * C 0 0)) = nI y) (e0 : J' 1 (o + 0) = nI (C 0 0 + 1)) (eJ : ∀ k, k < 60 → k ≠ 0 → (k < 10 + 2 * C 0 0 ∨ 10 + 2 * C 0 0 + 2 ≤ k) → J' 1 (o + k) = J 1 (o + k)) (eK : ∀ k, 8 ≤ k → k < 19 → K' 2 (m + k) = K 2 (m + k)) : q_sm (q_aB C x y) o m J' K' := by
  obtain ⟨f1, f2, f3, f4, g1, g2⟩ := q_aB_f C x y
  obtain ⟨o0, o1, o2, o3, -⟩ := id ok
  refine ⟨fun r k hk => ?_, fun k hk => ?_, fun k hk => ?_⟩
  · match r with
    | 0 =>
      have hk : k < 7 := hk
      by_cases z : k = 0
      · subst z; rw [f1]; exact e0
      · rw [f2 k z]
        have e := h.1 0 k hk
        simp only [q_pm] at e ⊢
        rw [eJ k (by omega) z (by omega)]; exact e
    | 1 =>
      have hk : k < q_aB C x y 0 0 := hk
      rw [f1] at hk
      simp only [q_pm]
      by_cases z : k = C 0 0
      · subst z; rw [g1]; exact e1
      · rw [f3 1 k (by omega) z, eJ _ (by omega) (by omega) (by omega)]; exact h.1 1 k (show k < C 0 0 by omega)
    | 2 =>
      have hk : k < q_aB C x y 0 0 := hk
      rw [f1] at hk
      simp only [q_pm]
      by_cases z : k = C 0 0
      · subst z; rw [g2]; exact e2
      · rw [f3 2 k (by omega) z, eJ _ (by omega) (by omega) (by omega)]; exact h.1 2 k (show k < C 0 0 by omega)
    | 3 =>
      have hk : k < q_aB C x y 0 1 := hk
      rw [f2 1 (by omega)] at hk
      simp only [q_pm]
      rw [f4 3 k (by omega) (by omega) (by omega), eJ _ (by omega) (by omega) (by omega)]; exact h.1 3 k hk
    | 4 =>
      have hk : k < q_aB C x y 0 2 := hk
      rw [f2 2 (by omega)] at hk
      simp only [q_pm]
      rw [f4 4 k (by omega) (by omega) (by omega), eJ _ (by omega) (by omega) (by omega)]; exact h.1 4 k hk
    | 5 =>
      have hk : k < q_aB C x y 0 2 := hk
      rw [f2 2 (by omega)] at hk
      simp only [q_pm]
      rw [f4 5 k (by omega) (by omega) (by omega), eJ _ (by omega) (by omega) (by omega)]; exact h.1 5 k hk
    | 6 =>
      have hk : k < q_aB C x y 0 2 := hk
      rw [f2 2 (by omega)] at hk
      simp only [q_pm]
      rw [f4 6 k (by omega) (by omega) (by omega), eJ _ (by omega) (by omega) (by omega)]; exact h.1 6 k hk
    | 8 =>
      have hk : k < q_aB C x y 0 3 := hk
      rw [f2 3 (by omega)] at hk
      simp only [q_pm]
      rw [f4 8 k (by omega) (by omega) (by omega), eJ _ (by omega) (by omega) (by omega)]; exact h.1 8 k hk
    | 9 =>
      have hk : k < q_aB C x y 0 3 := hk
      rw [f2 3 (by omega)] at hk
      simp only [q_pm]
      rw [f4 9 k (by omega) (by omega) (by omega), eJ _ (by omega) (by omega) (by omega)]; exact h.1 9 k hk
    | 7 => exact absurd hk (Nat.not_lt_zero _)
    | n + 10 => exact absurd hk (Nat.not_lt_zero _)
  · rw [f2 2 (by omega)] at hk
    rw [f4 7 k (by omega) (by omega) (by omega), Nat.add_assoc, eK (8 + k) (by omega) (by omega), ← Nat.add_assoc]; exact h.2.1 k hk
  · rw [f2 3 (by omega)] at hk
    rw [f4 10 k (by omega) (by omega) (by omega), Nat.add_assoc, eK (15 + k) (by omega) (by omega), ← Nat.add_assoc]; exact h.2.2 k hk
theorem q_aB_ok {C : q_N} (ok : q_ok C) (hn : C 0 0 < 6) {x y : Nat} (hx : x ≤ 9999) (hy : y ≤ 99) : q_ok (q_aB C x y) := by
  obtain ⟨f1, f2, f3, f4, g1, g2⟩ := q_aB_f C x y
  obtain ⟨o0, o1, o2, o3, o4, o5, o6, o7, o8, o9, o10⟩ := ok
  refine ⟨?_, ?_, ?_, ?_, ?_, ?_, ?_, ?_, ?_, ?_, ?_⟩
  · rw [f1]; omega
  · rw [f2 1 (by omega)]; exact o1
  · rw [f2 2 (by omega)]; exact o2
  · rw [f2 3 (by omega)]; exact o3
  · rw [f2 4 (by omega)]; exact o4
  · rw [f2 5 (by omega)]; exact o5
  · rw [f2 6 (by omega), f2 2 (by omega)]; exact o6
  · intro k hk
    rw [f1] at hk
    by_cases z : k = C 0 0
    · subst z; rw [g1, g2]; exact ⟨hx, hy⟩
    · rw [f3 1 k (by omega) z, f3 2 k (by omega) z]; exact o7 k (by omega)
  · intro k hk
    rw [f2 1 (by omega)] at hk
    rw [f4 3 k (by omega) (by omega) (by omega)]; exact o8 k hk
  · intro k hk
    rw [f2 2 (by omega)] at hk
    rw [f1, f2 1 (by omega), f4 4 k (by omega) (by omega) (by omega), f4 5 k (by omega) (by omega) (by omega), f4 6 k (by omega) (by omega) (by omega), f4 7 k (by omega) (by omega) (by omega)]
    have := o9 k hk
    exact ⟨by omega, this.2⟩
  · intro k hk
    rw [f2 3 (by omega)] at hk
    rw [f1, f4 8 k (by omega) (by omega) (by omega), f4 9 k (by omega) (by omega) (by omega), f4 10 k (by omega) (by omega) (by omega)]
    have := o10 k hk
    exact ⟨by omega, this.2⟩
def q_aK (C : q_N) (x : Nat) : q_N := z2 (z2 C 3 (C 0 1) x) 0 1 (C 0 1 + 1)
theorem q_aK_f (C : q_N) (x : Nat) : q_aK C x 0 1 = C 0 1 + 1 ∧ (∀ k, k ≠ 1 → q_aK C x 0 k = C 0 k) ∧ (∀ r k, r ≠ 0 → k ≠ C 0 1 → q_aK C x r k = C r k) ∧ (∀ r k, r ≠ 0 → r ≠ 3 → q_aK C x r k = C r k) ∧ q_aK C x 3 (C 0 1) = x := by
  unfold q_aK
  refine ⟨q_zs, fun k hk => ?_, fun r k h1 h2 => ?_, fun r k h0 h3 => ?_, ?_⟩
  · rw [q_zo (by omega), q_zo (by omega)]
  · rw [q_zo (by omega), q_zo (by omega)]
  · rw [q_zo (by omega), q_zo (by omega)]
  · rw [q_zo (by omega), q_zs]
theorem q_aK_sx {C : q_N} {d : Nat} {I : z_I} {L : z_L} (h : q_sx C d I L) (x : Nat) : q_sx (q_aK C x) d (z2 (z2 I (d + 3) (C 0 1) (nI x)) d 11 (nI (C 0 1 + 1))) L := by
  obtain ⟨f1, f2, f3, f4, g3⟩ := q_aK_f C x
  refine ⟨fun r k hk => ?_, fun k hk => ?_, fun k hk => ?_⟩
  · match r with
    | 0 =>
      by_cases z : k = 1
      · subst z; rw [f1]; exact q_zs
      · rw [f2 k z]
        have e := h.1 0 k hk
        simp only [q_px] at e ⊢
        rw [q_zo (by omega), q_zo (by omega)]; exact e
    | 1 => rw [f4 1 k (by omega) (by omega), q_zo (by omega), q_zo (by omega)]; exact h.1 1 k (by have hk : k < q_aK C x 0 0 := hk; rw [f2 0 (by omega)] at hk; exact hk)
    | 2 => rw [f4 2 k (by omega) (by omega), q_zo (by omega), q_zo (by omega)]; exact h.1 2 k (by have hk : k < q_aK C x 0 0 := hk; rw [f2 0 (by omega)] at hk; exact hk)
    | 3 =>
      have hk : k < q_aK C x 0 1 := hk
      rw [f1] at hk
      simp only [q_px]
      by_cases z : k = C 0 1
      · subst z; rw [g3, q_zo (by omega), q_zs]
      · rw [f3 3 k (by omega) z, q_zo (by omega), q_zo (by omega)]; exact h.1 3 k (show k < C 0 1 by omega)
    | 4 => rw [f4 4 k (by omega) (by omega), q_zo (by omega), q_zo (by omega)]; exact h.1 4 k (by have hk : k < q_aK C x 0 2 := hk; rw [f2 2 (by omega)] at hk; exact hk)
    | 5 => rw [f4 5 k (by omega) (by omega), q_zo (by omega), q_zo (by omega)]; exact h.1 5 k (by have hk : k < q_aK C x 0 2 := hk; rw [f2 2 (by omega)] at hk; exact hk)
    | 6 => rw [f4 6 k (by omega) (by omega), q_zo (by omega), q_zo (by omega)]; exact h.1 6 k (by have hk : k < q_aK C x 0 2 := hk; rw [f2 2 (by omega)] at hk; exact hk)
    | 8 => rw [f4 8 k (by omega) (by omega), q_zo (by omega), q_zo (by omega)]; exact h.1 8 k (by have hk : k < q_aK C x 0 3 := hk; rw [f2 3 (by omega)] at hk; exact hk)
    | 9 => rw [f4 9 k (by omega) (by omega), q_zo (by omega), q_zo (by omega)]; exact h.1 9 k (by have hk : k < q_aK C x 0 3 := hk; rw [f2 3 (by omega)] at hk; exact hk)
    | 7 => exact absurd hk (Nat.not_lt_zero _)
    | n + 10 => exact absurd hk (Nat.not_lt_zero _)
  · rw [f2 2 (by omega)] at hk
    rw [f4 7 k (by omega) (by omega)]; exact h.2.1 k hk
  · rw [f2 3 (by omega)] at hk
    rw [f4 10 k (by omega) (by omega)]; exact h.2.2 k hk
theorem q_aK_sm {C : q_N} {o m : Nat} {J J' : z_I} {K K' : z_L} (h : q_sm C o m J K) (ok : q_ok C) (hn : C 0 1 < 8) {x : Nat} (e3 : J' 1 (o + (22 + C 0 1)) = nI x) (e0 : J' 1 (o + 1) = nI (C 0 1 + 1)) (eJ : ∀ k, k < 60 → k ≠ 1 → (k < 22 + C 0 1 ∨ 22 + C 0 1 + 1 ≤ k) → J' 1 (o + k) = J 1 (o + k)) (eK : ∀ k, 8 ≤ k → k < 19 → K' 2 (m + k) = K 2 (m + k)) : q_sm (q_aK C x) o m J' K' := by
  obtain ⟨f1, f2, f3, f4, g3⟩ := q_aK_f C x
  obtain ⟨o0, o1, o2, o3, -⟩ := id ok
  refine ⟨fun r k hk => ?_, fun k hk => ?_, fun k hk => ?_⟩
  · match r with
    | 0 =>
      have hk : k < 7 := hk
      by_cases z : k = 1
      · subst z; rw [f1]; exact e0
      · rw [f2 k z]
        have e := h.1 0 k hk
        simp only [q_pm] at e ⊢
        rw [eJ k (by omega) z (by omega)]; exact e
    | 1 =>
      have hk : k < q_aK C x 0 0 := hk
      rw [f2 0 (by omega)] at hk
      simp only [q_pm]
      rw [f4 1 k (by omega) (by omega), eJ _ (by omega) (by omega) (by omega)]; exact h.1 1 k hk
    | 2 =>
      have hk : k < q_aK C x 0 0 := hk
      rw [f2 0 (by omega)] at hk
      simp only [q_pm]
      rw [f4 2 k (by omega) (by omega), eJ _ (by omega) (by omega) (by omega)]; exact h.1 2 k hk
    | 3 =>
      have hk : k < q_aK C x 0 1 := hk
      rw [f1] at hk
      simp only [q_pm]
      by_cases z : k = C 0 1
      · subst z; rw [g3]; exact e3
      · rw [f3 3 k (by omega) z, eJ _ (by omega) (by omega) (by omega)]; exact h.1 3 k (show k < C 0 1 by omega)
    | 4 =>
      have hk : k < q_aK C x 0 2 := hk
      rw [f2 2 (by omega)] at hk
      simp only [q_pm]
      rw [f4 4 k (by omega) (by omega), eJ _ (by omega) (by omega) (by omega)]; exact h.1 4 k hk
    | 5 =>
      have hk : k < q_aK C x 0 2 := hk
      rw [f2 2 (by omega)] at hk
      simp only [q_pm]
      rw [f4 5 k (by omega) (by omega), eJ _ (by omega) (by omega) (by omega)]; exact h.1 5 k hk
    | 6 =>
      have hk : k < q_aK C x 0 2 := hk
      rw [f2 2 (by omega)] at hk
      simp only [q_pm]
      rw [f4 6 k (by omega) (by omega), eJ _ (by omega) (by omega) (by omega)]; exact h.1 6 k hk
    | 8 =>
      have hk : k < q_aK C x 0 3 := hk
      rw [f2 3 (by omega)] at hk
      simp only [q_pm]
      rw [f4 8 k (by omega) (by omega), eJ _ (by omega) (by omega) (by omega)]; exact h.1 8 k hk
    | 9 =>
      have hk : k < q_aK C x 0 3 := hk
      rw [f2 3 (by omega)] at hk
      simp only [q_pm]
      rw [f4 9 k (by omega) (by omega), eJ _ (by omega) (by omega) (by omega)]; exact h.1 9 k hk
    | 7 => exact absurd hk (Nat.not_lt_zero _)
    | n + 10 => exact absurd hk (Nat.not_lt_zero _)
  · rw [f2 2 (by omega)] at hk
    rw [f4 7 k (by omega) (by omega), Nat.add_assoc, eK (8 + k) (by omega) (by omega), ← Nat.add_assoc]; exact h.2.1 k hk
  · rw [f2 3 (by omega)] at hk
    rw [f4 10 k (by omega) (by omega), Nat.add_assoc, eK (15 + k) (by omega) (by omega), ← Nat.add_assoc]; exact h.2.2 k hk
theorem q_aK_ok {C : q_N} (ok : q_ok C) (hn : C 0 1 < 8) {x : Nat} (hx : 1 ≤ x ∧ x ≤ 20) : q_ok (q_aK C x) := by
  obtain ⟨f1, f2, f3, f4, g3⟩ := q_aK_f C x
  obtain ⟨o0, o1, o2, o3, o4, o5, o6, o7, o8, o9, o10⟩ := ok
  refine ⟨?_, ?_, ?_, ?_, ?_, ?_, ?_, ?_, ?_, ?_, ?_⟩
  · rw [f2 0 (by omega)]; exact o0
  · rw [f1]; omega
  · rw [f2 2 (by omega)]; exact o2
  · rw [f2 3 (by omega)]; exact o3
  · rw [f2 4 (by omega)]; exact o4
  · rw [f2 5 (by omega)]; exact o5
  · rw [f2 6 (by omega), f2 2 (by omega)]; exact o6
  · intro k hk
    rw [f2 0 (by omega)] at hk
    rw [f4 1 k (by omega) (by omega), f4 2 k (by omega) (by omega)]; exact o7 k hk
  · intro k hk
    rw [f1] at hk
    by_cases z : k = C 0 1
    · subst z; rw [g3]; exact hx
    · rw [f3 3 k (by omega) z]; exact o8 k (by omega)
  · intro k hk
    rw [f2 2 (by omega)] at hk
    rw [f2 0 (by omega), f1, f4 4 k (by omega) (by omega), f4 5 k (by omega) (by omega), f4 6 k (by omega) (by omega), f4 7 k (by omega) (by omega)]
    have := o9 k hk
    exact ⟨this.1, this.2.1, this.2.2.1, by rw [Nat.pow_succ]; omega, this.2.2.2.2⟩
  · intro k hk
    rw [f2 3 (by omega)] at hk
    rw [f2 0 (by omega), f4 8 k (by omega) (by omega), f4 9 k (by omega) (by omega), f4 10 k (by omega) (by omega)]
    exact o10 k hk
def q_aS (C : q_N) (x y w : Nat) : q_N := z2 (z2 (z2 (z2 C 8 (C 0 3) x) 9 (C 0 3) y) 10 (C 0 3) w) 0 3 (C 0 3 + 1)
theorem q_aS_f (C : q_N) (x y w : Nat) : q_aS C x y w 0 3 = C 0 3 + 1 ∧ (∀ k, k ≠ 3 → q_aS C x y w 0 k = C 0 k) ∧ (∀ r k, r ≠ 0 → k ≠ C 0 3 → q_aS C x y w r k = C r k) ∧ (∀ r k, r ≠ 0 → r ≠ 8 → r ≠ 9 → r ≠ 10 → q_aS C x y w r k = C r k) ∧ q_aS C x y w 8 (C 0 3) = x ∧ q_aS C x y w 9 (C 0 3) = y ∧ q_aS C x y w 10 (C 0 3) = w := by
  unfold q_aS
  refine ⟨q_zs, fun k hk => ?_, fun r k h1 h2 => ?_, fun r k h0 h8 h9 h10 => ?_, ?_, ?_, ?_⟩
  · rw [q_zo (by omega), q_zo (by omega), q_zo (by omega), q_zo (by omega)]
  · rw [q_zo (by omega), q_zo (by omega), q_zo (by omega), q_zo (by omega)]
  · rw [q_zo (by omega), q_zo (by omega), q_zo (by omega), q_zo (by omega)]
  · rw [q_zo (by omega), q_zo (by omega), q_zo (by omega), q_zs]
  · rw [q_zo (by omega), q_zo (by omega), q_zs]
  · rw [q_zo (by omega), q_zs]
theorem q_aS_sx {C : q_N} {d : Nat} {I : z_I} {L : z_L} (h : q_sx C d I L) (x y w : Nat) : q_sx (q_aS C x y w) d (z2 (z2 (z2 I (d + 8) (C 0 3) (nI x)) (d + 9) (C 0 3) (nI y)) d 13 (nI (C 0 3 + 1))) (z2 L (d + 10) (C 0 3) (lN w)) := by
  obtain ⟨f1, f2, f3, f4, g8, g9, g10⟩ := q_aS_f C x y w
  refine ⟨fun r k hk => ?_, fun k hk => ?_, fun k hk => ?_⟩
  · match r with
    | 0 =>
      by_cases z : k = 3
      · subst z; rw [f1]; exact q_zs
      · rw [f2 k z]
        have e := h.1 0 k hk
        simp only [q_px] at e ⊢
        rw [q_zo (by omega), q_zo (by omega), q_zo (by omega)]; exact e
    | 1 => rw [f4 1 k (by omega) (by omega) (by omega) (by omega), q_zo (by omega), q_zo (by omega), q_zo (by omega)]; exact h.1 1 k (by have hk : k < q_aS C x y w 0 0 := hk; rw [f2 0 (by omega)] at hk; exact hk)
    | 2 => rw [f4 2 k (by omega) (by omega) (by omega) (by omega), q_zo (by omega), q_zo (by omega), q_zo (by omega)]; exact h.1 2 k (by have hk : k < q_aS C x y w 0 0 := hk; rw [f2 0 (by omega)] at hk; exact hk)
    | 3 => rw [f4 3 k (by omega) (by omega) (by omega) (by omega), q_zo (by omega), q_zo (by omega), q_zo (by omega)]; exact h.1 3 k (by have hk : k < q_aS C x y w 0 1 := hk; rw [f2 1 (by omega)] at hk; exact hk)
    | 4 => rw [f4 4 k (by omega) (by omega) (by omega) (by omega), q_zo (by omega), q_zo (by omega), q_zo (by omega)]; exact h.1 4 k (by have hk : k < q_aS C x y w 0 2 := hk; rw [f2 2 (by omega)] at hk; exact hk)
    | 5 => rw [f4 5 k (by omega) (by omega) (by omega) (by omega), q_zo (by omega), q_zo (by omega), q_zo (by omega)]; exact h.1 5 k (by have hk : k < q_aS C x y w 0 2 := hk; rw [f2 2 (by omega)] at hk; exact hk)
    | 6 => rw [f4 6 k (by omega) (by omega) (by omega) (by omega), q_zo (by omega), q_zo (by omega), q_zo (by omega)]; exact h.1 6 k (by have hk : k < q_aS C x y w 0 2 := hk; rw [f2 2 (by omega)] at hk; exact hk)
    | 8 =>
      have hk : k < q_aS C x y w 0 3 := hk
      rw [f1] at hk
      simp only [q_px]
      by_cases z : k = C 0 3
      · subst z; rw [g8, q_zo (by omega), q_zo (by omega), q_zs]
      · rw [f3 8 k (by omega) z, q_zo (by omega), q_zo (by omega), q_zo (by omega)]; exact h.1 8 k (show k < C 0 3 by omega)
    | 9 =>
      have hk : k < q_aS C x y w 0 3 := hk
      rw [f1] at hk
      simp only [q_px]
      by_cases z : k = C 0 3
      · subst z; rw [g9, q_zo (by omega), q_zs]
      · rw [f3 9 k (by omega) z, q_zo (by omega), q_zo (by omega), q_zo (by omega)]; exact h.1 9 k (show k < C 0 3 by omega)
    | 7 => exact absurd hk (Nat.not_lt_zero _)
    | n + 10 => exact absurd hk (Nat.not_lt_zero _)
  · rw [f2 2 (by omega)] at hk
    rw [f4 7 k (by omega) (by omega) (by omega) (by omega), q_zo (by omega)]; exact h.2.1 k hk
  · rw [f1] at hk
    by_cases z : k = C 0 3
    · subst z; rw [g10, q_zs]
    · rw [f3 10 k (by omega) z, q_zo (by omega)]; exact h.2.2 k (by omega)
theorem q_aS_sm {C : q_N} {o m : Nat} {J J' : z_I} {K K' : z_L} (h : q_sm C o m J K) (ok : q_ok C) (hn : C 0 3 < 4) {x y w : Nat} (e8 : J' 1 (o + (51 + 2 * C 0 3)) = nI x) (e9 : J' 1 (o + (52 + 2 * C 0 3)) = nI y) (e0 : J' 1 (o + 3) = nI (C 0 3 + 1)) (eJ : ∀ k, k < 60 → k ≠ 3 → (k < 51 + 2 * C 0 3 ∨ 51 + 2 * C 0 3 + 2 ≤ k) → J' 1 (o + k) = J 1 (o + k)) (eN : K' 2 (m + 15 + C 0 3) = lN (q_cv w)) (eK : ∀ k, k < 19 → k ≠ 15 + C 0 3 → K' 2 (m + k) = K 2 (m + k)) : q_sm (q_aS C x y w) o m J' K' := by
  obtain ⟨f1, f2, f3, f4, g8, g9, g10⟩ := q_aS_f C x y w
  obtain ⟨o0, o1, o2, o3, -⟩ := id ok
  refine ⟨fun r k hk => ?_, fun k hk => ?_, fun k hk => ?_⟩
  · match r with
    | 0 =>
      have hk : k < 7 := hk
      by_cases z : k = 3
      · subst z; rw [f1]; exact e0
      · rw [f2 k z]
        have e := h.1 0 k hk
        simp only [q_pm] at e ⊢
        rw [eJ k (by omega) z (by omega)]; exact e
    | 1 =>
      have hk : k < q_aS C x y w 0 0 := hk
      rw [f2 0 (by omega)] at hk
      simp only [q_pm]
      rw [f4 1 k (by omega) (by omega) (by omega) (by omega), eJ _ (by omega) (by omega) (by omega)]; exact h.1 1 k hk
    | 2 =>
      have hk : k < q_aS C x y w 0 0 := hk
      rw [f2 0 (by omega)] at hk
      simp only [q_pm]
      rw [f4 2 k (by omega) (by omega) (by omega) (by omega), eJ _ (by omega) (by omega) (by omega)]; exact h.1 2 k hk
    | 3 =>
      have hk : k < q_aS C x y w 0 1 := hk
      rw [f2 1 (by omega)] at hk
      simp only [q_pm]
      rw [f4 3 k (by omega) (by omega) (by omega) (by omega), eJ _ (by omega) (by omega) (by omega)]; exact h.1 3 k hk
    | 4 =>
      have hk : k < q_aS C x y w 0 2 := hk
      rw [f2 2 (by omega)] at hk
      simp only [q_pm]
      rw [f4 4 k (by omega) (by omega) (by omega) (by omega), eJ _ (by omega) (by omega) (by omega)]; exact h.1 4 k hk
    | 5 =>
      have hk : k < q_aS C x y w 0 2 := hk
      rw [f2 2 (by omega)] at hk
      simp only [q_pm]
      rw [f4 5 k (by omega) (by omega) (by omega) (by omega), eJ _ (by omega) (by omega) (by omega)]; exact h.1 5 k hk
    | 6 =>
      have hk : k < q_aS C x y w 0 2 := hk
      rw [f2 2 (by omega)] at hk
      simp only [q_pm]
      rw [f4 6 k (by omega) (by omega) (by omega) (by omega), eJ _ (by omega) (by omega) (by omega)]; exact h.1 6 k hk
    | 8 =>
      have hk : k < q_aS C x y w 0 3 := hk
      rw [f1] at hk
      simp only [q_pm]
      by_cases z : k = C 0 3
      · subst z; rw [g8]; exact e8
      · rw [f3 8 k (by omega) z, eJ _ (by omega) (by omega) (by omega)]; exact h.1 8 k (show k < C 0 3 by omega)
    | 9 =>
      have hk : k < q_aS C x y w 0 3 := hk
      rw [f1] at hk
      simp only [q_pm]
      by_cases z : k = C 0 3
      · subst z; rw [g9]; exact e9
      · rw [f3 9 k (by omega) z, eJ _ (by omega) (by omega) (by omega)]; exact h.1 9 k (show k < C 0 3 by omega)
    | 7 => exact absurd hk (Nat.not_lt_zero _)
    | n + 10 => exact absurd hk (Nat.not_lt_zero _)
  · rw [f2 2 (by omega)] at hk
    rw [f4 7 k (by omega) (by omega) (by omega) (by omega), Nat.add_assoc, eK (8 + k) (by omega) (by omega), ← Nat.add_assoc]; exact h.2.1 k hk
  · rw [f1] at hk
    by_cases z : k = C 0 3
    · subst z; rw [g10]; exact eN
    · rw [f3 10 k (by omega) z, Nat.add_assoc, eK (15 + k) (by omega) (by omega), ← Nat.add_assoc]; exact h.2.2 k (by omega)
theorem q_aS_ok {C : q_N} (ok : q_ok C) (hn : C 0 3 < 4) {x y w : Nat} (hx : x < C 0 0) (hy : y ≤ 9999) (hw : w < 27 ^ 8) : q_ok (q_aS C x y w) := by
  obtain ⟨f1, f2, f3, f4, g8, g9, g10⟩ := q_aS_f C x y w
  obtain ⟨o0, o1, o2, o3, o4, o5, o6, o7, o8, o9, o10⟩ := ok
  refine ⟨?_, ?_, ?_, ?_, ?_, ?_, ?_, ?_, ?_, ?_, ?_⟩
  · rw [f2 0 (by omega)]; exact o0
  · rw [f2 1 (by omega)]; exact o1
  · rw [f2 2 (by omega)]; exact o2
  · rw [f1]; omega
  · rw [f2 4 (by omega)]; exact o4
  · rw [f2 5 (by omega)]; exact o5
  · rw [f2 6 (by omega), f2 2 (by omega)]; exact o6
  · intro k hk
    rw [f2 0 (by omega)] at hk
    rw [f4 1 k (by omega) (by omega) (by omega) (by omega), f4 2 k (by omega) (by omega) (by omega) (by omega)]; exact o7 k hk
  · intro k hk
    rw [f2 1 (by omega)] at hk
    rw [f4 3 k (by omega) (by omega) (by omega) (by omega)]; exact o8 k hk
  · intro k hk
    rw [f2 2 (by omega)] at hk
    rw [f2 0 (by omega), f2 1 (by omega), f4 4 k (by omega) (by omega) (by omega) (by omega), f4 5 k (by omega) (by omega) (by omega) (by omega), f4 6 k (by omega) (by omega) (by omega) (by omega), f4 7 k (by omega) (by omega) (by omega) (by omega)]
    exact o9 k hk
  · intro k hk
    rw [f1] at hk
    rw [f2 0 (by omega)]
    by_cases z : k = C 0 3
    · subst z; rw [g8, g9, g10]; exact ⟨hx, hy, hw⟩
    · rw [f3 8 k (by omega) z, f3 9 k (by omega) z, f3 10 k (by omega) z]; exact o10 k (by omega)
