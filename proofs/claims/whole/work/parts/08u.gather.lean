/-! gather, brisk -/
theorem q_sum_mono (f : Nat → Nat) {a b : Nat} (h : a ≤ b) : q_sum f a ≤ q_sum f b := by
  induction b with
  | zero => have : a = 0 := by omega
            subst this; exact Nat.le_refl _
  | succ b ih =>
    by_cases z : a = b + 1
    · subst z; exact Nat.le_refl _
    · have := ih (by omega)
      rw [q_sum]; omega
def q_gc (st low high : Nat) : Nat := (st - low) + (high - st) + min (st - low) (high - st)
def q_gu (C : q_N) (low high : Nat) : Nat := q_sum (C 1) (high + 1) - q_sum (C 1) low
/-- a way that may be walked by so many steps -/
def q_gw (C : q_N) (st s low high : Nat) : Prop := low ≤ st ∧ st ≤ high ∧ high < C 0 0 ∧ q_gc st low high ≤ s
theorem q_gu_le {C : q_N} (ok : q_ok C) {low high : Nat} (h : high < C 0 0) : q_gu C low high ≤ 59994 := by
  have h1 : q_sum (C 1) (high + 1) ≤ (high + 1) * 9999 := q_sum_le (fun k hk => (ok.2.2.2.2.2.2.2.1 k (by omega)).1)
  have := ok.1
  unfold q_gu
  omega
theorem x0_reap14 {C : q_N} {c : Nat} {I : z_I} {L : z_L} (h : q_sx C c I L) (ok : q_ok C) {st s low a : Nat} (hst : st < C 0 0) (hl : low ≤ st) (hs : s ≤ 12) {k84 : Int32 → Option Int32} (ha : a ≤ 59994 ∧ (∀ lo hi, lo < low → q_gw C st s lo hi → q_gu C lo hi ≤ a) ∧ (a = 0 ∨ ∃ lo hi, q_gw C st s lo hi ∧ q_gu C lo hi = a)) : ∃ a', (a' ≤ 59994 ∧ (∀ lo hi, lo < low + 1 → q_gw C st s lo hi → q_gu C lo hi ≤ a') ∧ (a' = 0 ∨ ∃ lo hi, q_gw C st s lo hi ∧ q_gu C lo hi = a')) ∧ g_X0_reapedWithin_14 c (nI st) (nI s) (nI low) I k84 z_fuel (nI a) (nI st) = k84 (nI a') := by
  obtain ⟨o0, o1, o2, o3, -⟩ := id ok
  obtain ⟨a', ⟨p1, p2, p3⟩, e⟩ := q_lpC (G := fun n k (a : Nat) => g_X0_reapedWithin_14 c (nI st) (nI s) (nI low) I k84 n (nI a) (nI k)) (K := fun a => k84 (nI a)) (N := C 0 0) (k0 := st) (n := z_fuel) (a := a) (fun k a => a ≤ 59994 ∧ (∀ lo hi, (lo < low ∨ lo = low ∧ hi < k) → q_gw C st s lo hi → q_gu C lo hi ≤ a) ∧ (a = 0 ∨ ∃ lo hi, q_gw C st s lo hi ∧ q_gu C lo hi = a)) (fun n k a hk0 hk hp => by
    obtain ⟨p1, p2, p3⟩ := hp
    have hgu := q_gu_le ok (low := low) hk
    have s1 := x0_sumOf (I := I) (d := c + 1) (N := 6) (M := k + 1) (f := C 1) (by omega) (by omega) (fun j hj => h.a1 (by omega))
    have s2 := x0_sumOf (I := I) (d := c + 1) (N := 6) (M := low) (f := C 1) (by omega) (by omega) (fun j hj => h.a1 (by omega))
    have hmo := q_sum_mono (C 1) (a := low) (b := k + 1) (by omega)
    have hfB := h.f.1
    by_cases z : s < (st - low) + (k - st) + min (st - low) (k - st)
    · refine ⟨a, ⟨p1, fun lo hi hq hw => ?_, p3⟩, ?_⟩
      · by_cases y : lo = low ∧ hi = k
        · obtain ⟨rfl, rfl⟩ := y
          have := hw.2.2.2
          unfold q_gc at this
          omega
        · exact p2 lo hi (by omega) hw
      · show g_X0_reapedWithin_14 c (nI st) (nI s) (nI low) I k84 (n + 1) (nI a) (nI k) = _
        simp (disch := omega) only [g_X0_reapedWithin_14, hfB, ql_0, ql_1, ql_2, ql_3, ql_4, ql_5, ql_6, ql_7, ql_8, ql_9, ql_10, ql_11, ql_12, ql_13, ql_14, ql_15, ql_16, ql_17, ql_18, ql_19, ql_20, ql_21, ql_22, ql_23, ql_24, ql_27, ql_30, ql_31, ql_32, ql_40, ql_48, ql_51, ql_52, ql_57, ql_59, ql_60, ql_61, ql_62, ql_76, ql_84, ql_91, ql_97, ql_99, ql_100, ql_120, ql_122, ql_127, ql_128, ql_200, ql_255, ql_256, ql_300, ql_420, ql_428, ql_640, ql_900, ql_896, ql_999, ql_1712, ql_1716, ql_1734, ql_1772, ql_1800, ql_1805, ql_1811, ql_1822, ql_2132, ql_2140, ql_3229, ql_9999, ql_11453, ql_65536, ql_100000, ql_1000000, nI_add, pk_mul, q_and, q_or, q_xor, nI_clamp, q_in, q_neg1, q_nno, q_nno', q_annN, q_sh1, q_tbN, nI_leI, nI_ltI, nI_eq, pk_sub, ↓reduceIte, if_pos, if_neg, q_zlt, q_bs, q_min, z]
    · refine ⟨max a (q_gu C low k), ⟨by omega, fun lo hi hq hw => ?_, ?_⟩, ?_⟩
      · by_cases y : lo = low ∧ hi = k
        · obtain ⟨rfl, rfl⟩ := y
          omega
        · have := p2 lo hi (by omega) hw
          omega
      · by_cases y : a ≤ q_gu C low k
        · right
          exact ⟨low, k, ⟨hl, hk0, hk, by unfold q_gc; omega⟩, by omega⟩
        · rcases p3 with p3 | ⟨lo, hi, w1, w2⟩
          · omega
          · exact Or.inr ⟨lo, hi, w1, by omega⟩
      · show g_X0_reapedWithin_14 c (nI st) (nI s) (nI low) I k84 (n + 1) (nI a) (nI k) = _
        have hgd : q_sum (C 1) (k + 1) - q_sum (C 1) low = q_gu C low k := rfl
        have hq2 : q_sum (C 1) low ≤ q_sum (C 1) (k + 1) := hmo
        simp (disch := omega) only [g_X0_reapedWithin_14, hfB, ql_0, ql_1, ql_2, ql_3, ql_4, ql_5, ql_6, ql_7, ql_8, ql_9, ql_10, ql_11, ql_12, ql_13, ql_14, ql_15, ql_16, ql_17, ql_18, ql_19, ql_20, ql_21, ql_22, ql_23, ql_24, ql_27, ql_30, ql_31, ql_32, ql_40, ql_48, ql_51, ql_52, ql_57, ql_59, ql_60, ql_61, ql_62, ql_76, ql_84, ql_91, ql_97, ql_99, ql_100, ql_120, ql_122, ql_127, ql_128, ql_200, ql_255, ql_256, ql_300, ql_420, ql_428, ql_640, ql_900, ql_896, ql_999, ql_1712, ql_1716, ql_1734, ql_1772, ql_1800, ql_1805, ql_1811, ql_1822, ql_2132, ql_2140, ql_3229, ql_9999, ql_11453, ql_65536, ql_100000, ql_1000000, nI_add, pk_mul, q_and, q_or, q_xor, nI_clamp, q_in, q_neg1, q_nno, q_nno', q_annN, q_sh1, q_tbN, nI_leI, nI_ltI, nI_eq, pk_sub, ↓reduceIte, if_pos, if_neg, q_zlt, q_bs, q_min, z, s1, s2, hgd, q_max]) (fun n a _ => by
    show g_X0_reapedWithin_14 c (nI st) (nI s) (nI low) I k84 (n + 1) (nI a) (nI (C 0 0)) = _
    have hfB := h.f.1
    simp (disch := omega) only [g_X0_reapedWithin_14, hfB, ql_0, ql_1, ql_2, ql_3, ql_4, ql_5, ql_6, ql_7, ql_8, ql_9, ql_10, ql_11, ql_12, ql_13, ql_14, ql_15, ql_16, ql_17, ql_18, ql_19, ql_20, ql_21, ql_22, ql_23, ql_24, ql_27, ql_30, ql_31, ql_32, ql_40, ql_48, ql_51, ql_52, ql_57, ql_59, ql_60, ql_61, ql_62, ql_76, ql_84, ql_91, ql_97, ql_99, ql_100, ql_120, ql_122, ql_127, ql_128, ql_200, ql_255, ql_256, ql_300, ql_420, ql_428, ql_640, ql_900, ql_896, ql_999, ql_1712, ql_1716, ql_1734, ql_1772, ql_1800, ql_1805, ql_1811, ql_1822, ql_2132, ql_2140, ql_3229, ql_9999, ql_11453, ql_65536, ql_100000, ql_1000000, nI_add, pk_mul, q_and, q_or, q_xor, nI_clamp, q_in, q_neg1, q_nno, q_nno', q_annN, q_sh1, q_tbN, nI_leI, nI_ltI, nI_eq, pk_sub, ↓reduceIte, if_pos, if_neg, q_zlt, q_bs]) (by omega) (q_fu (by omega)) ⟨ha.1, fun lo hi hq hw => ha.2.1 lo hi (by rcases hq with hq | ⟨rfl, hq⟩; exact hq; have := hw.2.1; omega) hw, ha.2.2⟩
  exact ⟨a', ⟨p1, fun lo hi hq hw => p2 lo hi (by have := hw.2.2.1; omega) hw, p3⟩, e⟩
theorem x0_reaped {C : q_N} {c : Nat} {I : z_I} {L : z_L} (h : q_sx C c I L) (ok : q_ok C) {st s : Nat} (hst : st < C 0 0) (hs : s ≤ 12) : ∃ v, f_X0_reapedWithin I c (nI st) (nI s) = some (nI v) ∧ v ≤ 59994 ∧ (∀ lo hi, q_gw C st s lo hi → q_gu C lo hi ≤ v) ∧ ∃ lo hi, q_gw C st s lo hi ∧ q_gu C lo hi = v := by
  obtain ⟨o0, o1, o2, o3, -⟩ := id ok
  obtain ⟨v, ⟨p1, p2, p3⟩, e⟩ := q_lpC (G := fun n k (a : Nat) => g_X0_reapedWithin_5 c (nI st) (nI s) I n (nI a) (nI k)) (K := fun a => some (nI a)) (N := st + 1) (k0 := 0) (n := z_fuel) (a := 0) (fun k a => a ≤ 59994 ∧ (∀ lo hi, lo < k → q_gw C st s lo hi → q_gu C lo hi ≤ a) ∧ (a = 0 ∨ ∃ lo hi, q_gw C st s lo hi ∧ q_gu C lo hi = a)) (fun n k a hk0 hk hp => by
    obtain ⟨a', hp', e⟩ := x0_reap14 h ok hst (low := k) (by omega) hs (k84 := fun v3_5 => g_X0_reapedWithin_5 c (nI st) (nI s) I n v3_5 (nI (k + 1))) hp
    refine ⟨a', hp', ?_⟩
    show g_X0_reapedWithin_5 c (nI st) (nI s) I (n + 1) (nI a) (nI k) = _
    simp (disch := omega) only [g_X0_reapedWithin_5, ql_0, ql_1, ql_2, ql_3, ql_4, ql_5, ql_6, ql_7, ql_8, ql_9, ql_10, ql_11, ql_12, ql_13, ql_14, ql_15, ql_16, ql_17, ql_18, ql_19, ql_20, ql_21, ql_22, ql_23, ql_24, ql_27, ql_30, ql_31, ql_32, ql_40, ql_48, ql_51, ql_52, ql_57, ql_59, ql_60, ql_61, ql_62, ql_76, ql_84, ql_91, ql_97, ql_99, ql_100, ql_120, ql_122, ql_127, ql_128, ql_200, ql_255, ql_256, ql_300, ql_420, ql_428, ql_640, ql_900, ql_896, ql_999, ql_1712, ql_1716, ql_1734, ql_1772, ql_1800, ql_1805, ql_1811, ql_1822, ql_2132, ql_2140, ql_3229, ql_9999, ql_11453, ql_65536, ql_100000, ql_1000000, nI_add, pk_mul, q_and, q_or, q_xor, nI_clamp, q_in, q_neg1, q_nno, q_nno', q_annN, q_sh1, q_tbN, nI_leI, nI_ltI, nI_eq, pk_sub, ↓reduceIte, if_pos, if_neg, q_zlt, q_bs]
    exact e) (fun n a _ => by
    show g_X0_reapedWithin_5 c (nI st) (nI s) I (n + 1) (nI a) (nI (st + 1)) = _
    simp (disch := omega) only [g_X0_reapedWithin_5, ql_0, ql_1, ql_2, ql_3, ql_4, ql_5, ql_6, ql_7, ql_8, ql_9, ql_10, ql_11, ql_12, ql_13, ql_14, ql_15, ql_16, ql_17, ql_18, ql_19, ql_20, ql_21, ql_22, ql_23, ql_24, ql_27, ql_30, ql_31, ql_32, ql_40, ql_48, ql_51, ql_52, ql_57, ql_59, ql_60, ql_61, ql_62, ql_76, ql_84, ql_91, ql_97, ql_99, ql_100, ql_120, ql_122, ql_127, ql_128, ql_200, ql_255, ql_256, ql_300, ql_420, ql_428, ql_640, ql_900, ql_896, ql_999, ql_1712, ql_1716, ql_1734, ql_1772, ql_1800, ql_1805, ql_1811, ql_1822, ql_2132, ql_2140, ql_3229, ql_9999, ql_11453, ql_65536, ql_100000, ql_1000000, nI_add, pk_mul, q_and, q_or, q_xor, nI_clamp, q_in, q_neg1, q_nno, q_nno', q_annN, q_sh1, q_tbN, nI_leI, nI_ltI, nI_eq, pk_sub, ↓reduceIte, if_pos, if_neg, q_zlt, q_bs]) (by omega) (q_fu (by omega)) ⟨by omega, fun lo hi hq _ => by omega, Or.inl rfl⟩
  refine ⟨v, e, p1, fun lo hi hw => p2 lo hi (by have := hw.1; omega) hw, ?_⟩
  have w0 : q_gw C st s st st := ⟨Nat.le_refl _, Nat.le_refl _, hst, by unfold q_gc; omega⟩
  rcases p3 with p3 | p3
  · have := p2 st st (by omega) w0
    exact ⟨st, st, w0, by omega⟩
  · exact p3
theorem q_zz0 {α : Type} {f : Nat → Nat → α} {a s t : Nat} {x y x' y' : α} (h : s ≠ t) : z2 (z2 (z2 (z2 f a s x) a t y) a s x') a t y' = z2 (z2 f a s x') a t y' := by
  funext d k
  by_cases z1 : d = a ∧ k = t
  · obtain ⟨r1, r2⟩ := z1
    subst r1 r2
    rw [q_zs, q_zs]
  · rw [q_zo (f := z2 (z2 (z2 f a s x) a t y) a s x') (by omega), q_zo (f := z2 f a s x') (by omega)]
    by_cases z2' : d = a ∧ k = s
    · obtain ⟨r1, r2⟩ := z2'
      subst r1 r2
      rw [q_zs, q_zs]
    · rw [q_zo (by omega), q_zo (by omega), q_zo (by omega), q_zo (by omega)]
/-- what the reference has found -/
def q_gM (J : z_I) : Option (Nat × Nat) → z_I
  | none => z2 (z2 J 0 32 q_no) 0 33 (nI 0)
  | some (g, t) => z2 (z2 J 0 32 (nI g)) 0 33 (nI t)
theorem q_gM_o {J : z_I} {a : Option (Nat × Nat)} {d k : Nat} (h : d ≠ 0 ∨ (k ≠ 32 ∧ k ≠ 33)) : q_gM J a d k = J d k := by
  cases a with
  | none => show z2 (z2 J 0 32 q_no) 0 33 (nI 0) d k = _; rw [q_zo (by omega), q_zo (by omega)]
  | some p => obtain ⟨g, t⟩ := p; show z2 (z2 J 0 32 (nI g)) 0 33 (nI t) d k = _; rw [q_zo (by omega), q_zo (by omega)]
theorem q_gM_s {J : z_I} {a : Option (Nat × Nat)} (g t : Nat) : z2 (z2 (q_gM J a) 0 32 (nI g)) 0 33 (nI t) = q_gM J (some (g, t)) := by
  cases a with
  | none => exact q_zz0 (by omega)
  | some p => obtain ⟨g', t'⟩ := p; exact q_zz0 (by omega)
/-- the best of some ways -/
def q_gB (C : q_N) (st s : Nat) (D : Nat → Nat → Prop) : Option (Nat × Nat) → Prop
  | none => ∀ lo hi, D lo hi → ¬ q_gw C st s lo hi
  | some (g, t) => (∀ lo hi, D lo hi → q_gw C st s lo hi → q_gu C lo hi < g ∨ (q_gu C lo hi = g ∧ t ≤ q_gc st lo hi)) ∧ ∃ lo hi, q_gw C st s lo hi ∧ q_gu C lo hi = g ∧ q_gc st lo hi = t
theorem q_gB.w {C : q_N} {st s : Nat} {D D' : Nat → Nat → Prop} {a : Option (Nat × Nat)} (h : q_gB C st s D a) (hd : ∀ lo hi, D' lo hi → q_gw C st s lo hi → D lo hi) : q_gB C st s D' a := by
  cases a with
  | none => exact fun lo hi h1 h2 => h lo hi (hd lo hi h1 h2) h2
  | some p => obtain ⟨g, t⟩ := p; exact ⟨fun lo hi h1 h2 => h.1 lo hi (hd lo hi h1 h2) h2, h.2⟩
theorem q_gB.b {C : q_N} (ok : q_ok C) {st s : Nat} {D : Nat → Nat → Prop} {g t : Nat} (h : q_gB C st s D (some (g, t))) : g ≤ 59994 ∧ t ≤ s := by
  obtain ⟨lo, hi, w, e1, e2⟩ := h.2
  have := q_gu_le ok (low := lo) w.2.2.1
  have := w.2.2.2
  omega
theorem m_gath69 {C : q_N} {m : Nat} {J : z_I} {K : z_L} (h : q_sm C 0 m J K) (ok : q_ok C) {low hi : Nat} (hl : low ≤ hi) (hh : hi < C 0 0) {x y z w : Int32} {k97 : Int32 → Option z_I} : g_X11_laysGather_69 x y z (nI hi) w J k97 z_fuel 0 (nI low) = k97 (nI (q_gu C low hi)) := by
  obtain ⟨o0, o1, o2, o3, -⟩ := id ok
  have key := q_lp (G := fun n k (a : Nat) => g_X11_laysGather_69 x y z (nI hi) w J k97 n (nI a) (nI k)) (N := hi + 1) (k0 := low) (r := k97 (nI (q_gu C low hi))) (n := z_fuel) (fun k => q_sum (C 1) k - q_sum (C 1) low) (fun n k hk0 hk => by
    have h1 := h.a1 (k := k) (by omega)
    have hmo := q_sum_mono (C 1) hk0
    have e : q_sum (C 1) (k + 1) - q_sum (C 1) low = q_sum (C 1) k - q_sum (C 1) low + C 1 k := by rw [q_sum]; omega
    show g_X11_laysGather_69 x y z (nI hi) w J k97 (n + 1) (nI (q_sum (C 1) k - q_sum (C 1) low)) (nI k) = _
    rw [e]
    simp (disch := omega) only [g_X11_laysGather_69, f_X11_bedRow, ql_0, ql_1, ql_2, ql_3, ql_4, ql_5, ql_6, ql_7, ql_8, ql_9, ql_10, ql_11, ql_12, ql_13, ql_14, ql_15, ql_16, ql_17, ql_18, ql_19, ql_20, ql_21, ql_22, ql_23, ql_24, ql_27, ql_30, ql_31, ql_32, ql_40, ql_48, ql_51, ql_52, ql_57, ql_59, ql_60, ql_61, ql_62, ql_76, ql_84, ql_91, ql_97, ql_99, ql_100, ql_120, ql_122, ql_127, ql_128, ql_200, ql_255, ql_256, ql_300, ql_420, ql_428, ql_640, ql_900, ql_896, ql_999, ql_1712, ql_1716, ql_1734, ql_1772, ql_1800, ql_1805, ql_1811, ql_1822, ql_2132, ql_2140, ql_3229, ql_9999, ql_11453, ql_65536, ql_100000, ql_1000000, nI_add, pk_mul, q_and, q_or, q_xor, nI_clamp, q_in, q_neg1, q_nno, q_nno', q_annN, q_sh1, q_tbN, nI_leI, nI_ltI, nI_eq, pk_sub, ↓reduceIte, if_pos, if_neg, q_zlt, q_bs, h1]) (fun n => by
    show g_X11_laysGather_69 x y z (nI hi) w J k97 (n + 1) (nI (q_sum (C 1) (hi + 1) - q_sum (C 1) low)) (nI (hi + 1)) = _
    simp (disch := omega) only [g_X11_laysGather_69, ql_0, ql_1, ql_2, ql_3, ql_4, ql_5, ql_6, ql_7, ql_8, ql_9, ql_10, ql_11, ql_12, ql_13, ql_14, ql_15, ql_16, ql_17, ql_18, ql_19, ql_20, ql_21, ql_22, ql_23, ql_24, ql_27, ql_30, ql_31, ql_32, ql_40, ql_48, ql_51, ql_52, ql_57, ql_59, ql_60, ql_61, ql_62, ql_76, ql_84, ql_91, ql_97, ql_99, ql_100, ql_120, ql_122, ql_127, ql_128, ql_200, ql_255, ql_256, ql_300, ql_420, ql_428, ql_640, ql_900, ql_896, ql_999, ql_1712, ql_1716, ql_1734, ql_1772, ql_1800, ql_1805, ql_1811, ql_1822, ql_2132, ql_2140, ql_3229, ql_9999, ql_11453, ql_65536, ql_100000, ql_1000000, nI_add, pk_mul, q_and, q_or, q_xor, nI_clamp, q_in, q_neg1, q_nno, q_nno', q_annN, q_sh1, q_tbN, nI_leI, nI_ltI, nI_eq, pk_sub, ↓reduceIte, if_pos, if_neg, q_zlt, q_bs]
    rfl) (by omega) (q_fu (by omega))
  rw [Nat.sub_self] at key
  exact key
theorem m_gath32 {C : q_N} {m : Nat} {J : z_I} {K : z_L} (h : q_sm C 0 m J K) (ok : q_ok C) {st s low : Nat} (hst : st < C 0 0) (hl : low ≤ st) (hs : s ≤ 12) {k151 : z_I → Option z_I} {a : Option (Nat × Nat)} (ha : q_gB C st s (fun lo _ => lo < low) a) : ∃ a', q_gB C st s (fun lo _ => lo < low + 1) a' ∧ g_X11_laysGather_32 (nI s) (nI st) (nI low) k151 z_fuel (nI st) (q_gM J a) = k151 (q_gM J a') := by
  obtain ⟨o0, o1, o2, o3, -⟩ := id ok
  obtain ⟨a', hp, e⟩ := q_lpC (G := fun n k (a : Option (Nat × Nat)) => g_X11_laysGather_32 (nI s) (nI st) (nI low) k151 n (nI k) (q_gM J a)) (K := fun a => k151 (q_gM J a)) (N := C 0 0) (k0 := st) (n := z_fuel) (a := a) (fun k a => q_gB C st s (fun lo hi => lo < low ∨ lo = low ∧ hi < k) a) (fun n k a hk0 hk hp => by
    have hM : q_sm C 0 m (q_gM J a) K := h.go ok (fun j _ _ => q_gM_o (by omega)) (fun _ _ _ => rfl)
    have hfB := hM.f.1
    have e69 := @m_gath69 C m (q_gM J a) K hM ok low k (by omega) hk
    have hgu := q_gu_le ok (low := low) hk
    have hcs : (k - low) + min (st - low) (k - st) = q_gc st low k := by unfold q_gc; omega
    have hcl : q_gc st low k ≤ 20 := by unfold q_gc; omega
    by_cases z : s < q_gc st low k
    · refine ⟨a, hp.w (fun lo hi hq hw => ?_), ?_⟩
      · by_cases y : lo = low ∧ hi = k
        · obtain ⟨rfl, rfl⟩ := y
          have := hw.2.2.2
          omega
        · show lo < low ∨ lo = low ∧ hi < k
          omega
      · show g_X11_laysGather_32 (nI s) (nI st) (nI low) k151 (n + 1) (nI k) (q_gM J a) = _
        simp (disch := omega) only [g_X11_laysGather_32, hfB, ql_0, ql_1, ql_2, ql_3, ql_4, ql_5, ql_6, ql_7, ql_8, ql_9, ql_10, ql_11, ql_12, ql_13, ql_14, ql_15, ql_16, ql_17, ql_18, ql_19, ql_20, ql_21, ql_22, ql_23, ql_24, ql_27, ql_30, ql_31, ql_32, ql_40, ql_48, ql_51, ql_52, ql_57, ql_59, ql_60, ql_61, ql_62, ql_76, ql_84, ql_91, ql_97, ql_99, ql_100, ql_120, ql_122, ql_127, ql_128, ql_200, ql_255, ql_256, ql_300, ql_420, ql_428, ql_640, ql_900, ql_896, ql_999, ql_1712, ql_1716, ql_1734, ql_1772, ql_1800, ql_1805, ql_1811, ql_1822, ql_2132, ql_2140, ql_3229, ql_9999, ql_11453, ql_65536, ql_100000, ql_1000000, nI_add, pk_mul, q_and, q_or, q_xor, nI_clamp, q_in, q_neg1, q_nno, q_nno', q_annN, q_sh1, q_tbN, nI_leI, nI_ltI, nI_eq, pk_sub, ↓reduceIte, if_pos, if_neg, q_zlt, q_bs, q_min, hcs, z] at e69 ⊢
        rw [e69]
    · have wk : q_gw C st s low k := ⟨hl, hk0, hk, by omega⟩
      have hnew : ∀ {g' : Nat} (_ : g' = q_gu C low k), (∀ lo hi, (lo < low ∨ lo = low ∧ hi < k) → q_gw C st s lo hi → q_gu C lo hi < q_gu C low k ∨ (q_gu C lo hi = q_gu C low k ∧ q_gc st low k ≤ q_gc st lo hi)) → q_gB C st s (fun lo hi => lo < low ∨ lo = low ∧ hi < k + 1) (some (q_gu C low k, q_gc st low k)) := fun _ H => ⟨fun lo hi hq hw => by
          by_cases y : lo = low ∧ hi = k
          · obtain ⟨rfl, rfl⟩ := y
            exact Or.inr ⟨rfl, Nat.le_refl _⟩
          · exact H lo hi (by omega) hw, low, k, wk, rfl, rfl⟩
      cases a with
      | none =>
        refine ⟨some (q_gu C low k, q_gc st low k), hnew rfl (fun lo hi hq hw => absurd hw (hp lo hi hq)), ?_⟩
        have r1 : q_gM J none 0 32 = q_no := by show z2 (z2 J 0 32 q_no) 0 33 (nI 0) 0 32 = _; rw [q_zo (by omega), q_zs]
        have r2 : ¬ nI (q_gu C low k) < q_no := fun y => by
          rw [Int32.lt_iff_toInt_lt, nI_toInt (by omega), show q_no.toInt = -1 from by decide] at y
          omega
        show g_X11_laysGather_32 (nI s) (nI st) (nI low) k151 (n + 1) (nI k) (q_gM J none) = _
        simp (disch := omega) only [g_X11_laysGather_32, hfB, ql_0, ql_1, ql_2, ql_3, ql_4, ql_5, ql_6, ql_7, ql_8, ql_9, ql_10, ql_11, ql_12, ql_13, ql_14, ql_15, ql_16, ql_17, ql_18, ql_19, ql_20, ql_21, ql_22, ql_23, ql_24, ql_27, ql_30, ql_31, ql_32, ql_40, ql_48, ql_51, ql_52, ql_57, ql_59, ql_60, ql_61, ql_62, ql_76, ql_84, ql_91, ql_97, ql_99, ql_100, ql_120, ql_122, ql_127, ql_128, ql_200, ql_255, ql_256, ql_300, ql_420, ql_428, ql_640, ql_900, ql_896, ql_999, ql_1712, ql_1716, ql_1734, ql_1772, ql_1800, ql_1805, ql_1811, ql_1822, ql_2132, ql_2140, ql_3229, ql_9999, ql_11453, ql_65536, ql_100000, ql_1000000, nI_add, pk_mul, q_and, q_or, q_xor, nI_clamp, q_in, q_neg1, q_nno, q_nno', q_annN, q_sh1, q_tbN, nI_leI, nI_ltI, nI_eq, pk_sub, ↓reduceIte, if_pos, if_neg, q_zlt, q_bs, q_min, hcs, z] at e69 ⊢
        rw [e69]
        simp (disch := omega) only [ql_0, ql_1, ql_2, ql_3, ql_4, ql_5, ql_6, ql_7, ql_8, ql_9, ql_10, ql_11, ql_12, ql_13, ql_14, ql_15, ql_16, ql_17, ql_18, ql_19, ql_20, ql_21, ql_22, ql_23, ql_24, ql_27, ql_30, ql_31, ql_32, ql_40, ql_48, ql_51, ql_52, ql_57, ql_59, ql_60, ql_61, ql_62, ql_76, ql_84, ql_91, ql_97, ql_99, ql_100, ql_120, ql_122, ql_127, ql_128, ql_200, ql_255, ql_256, ql_300, ql_420, ql_428, ql_640, ql_900, ql_896, ql_999, ql_1712, ql_1716, ql_1734, ql_1772, ql_1800, ql_1805, ql_1811, ql_1822, ql_2132, ql_2140, ql_3229, ql_9999, ql_11453, ql_65536, ql_100000, ql_1000000, nI_add, pk_mul, q_and, q_or, q_xor, nI_clamp, q_in, q_neg1, q_nno, q_nno', q_annN, q_sh1, q_tbN, nI_leI, nI_ltI, nI_eq, pk_sub, ↓reduceIte, if_pos, if_neg, q_zlt, q_bs, z, r1, r2, q_gM_s]
      | some p =>
        obtain ⟨g, t⟩ := p
        obtain ⟨b1, b2⟩ := q_gB.b ok hp
        have r1 : q_gM J (some (g, t)) 0 32 = nI g := by show z2 (z2 J 0 32 (nI g)) 0 33 (nI t) 0 32 = _; rw [q_zo (by omega), q_zs]
        have r2 : q_gM J (some (g, t)) 0 33 = nI t := q_zs
        have keep : (q_gu C low k < g ∨ (q_gu C low k = g ∧ t ≤ q_gc st low k)) → q_gB C st s (fun lo hi => lo < low ∨ lo = low ∧ hi < k + 1) (some (g, t)) := fun H => ⟨fun lo hi hq hw => by
          by_cases y : lo = low ∧ hi = k
          · obtain ⟨rfl, rfl⟩ := y
            exact H
          · exact hp.1 lo hi (by omega) hw, hp.2⟩
        by_cases y1 : q_gu C low k < g
        · refine ⟨some (g, t), keep (Or.inl y1), ?_⟩
          show g_X11_laysGather_32 (nI s) (nI st) (nI low) k151 (n + 1) (nI k) (q_gM J (some (g, t))) = _
          simp (disch := omega) only [g_X11_laysGather_32, hfB, ql_0, ql_1, ql_2, ql_3, ql_4, ql_5, ql_6, ql_7, ql_8, ql_9, ql_10, ql_11, ql_12, ql_13, ql_14, ql_15, ql_16, ql_17, ql_18, ql_19, ql_20, ql_21, ql_22, ql_23, ql_24, ql_27, ql_30, ql_31, ql_32, ql_40, ql_48, ql_51, ql_52, ql_57, ql_59, ql_60, ql_61, ql_62, ql_76, ql_84, ql_91, ql_97, ql_99, ql_100, ql_120, ql_122, ql_127, ql_128, ql_200, ql_255, ql_256, ql_300, ql_420, ql_428, ql_640, ql_900, ql_896, ql_999, ql_1712, ql_1716, ql_1734, ql_1772, ql_1800, ql_1805, ql_1811, ql_1822, ql_2132, ql_2140, ql_3229, ql_9999, ql_11453, ql_65536, ql_100000, ql_1000000, nI_add, pk_mul, q_and, q_or, q_xor, nI_clamp, q_in, q_neg1, q_nno, q_nno', q_annN, q_sh1, q_tbN, nI_leI, nI_ltI, nI_eq, pk_sub, ↓reduceIte, if_pos, if_neg, q_zlt, q_bs, q_min, hcs, z] at e69 ⊢
          rw [e69]
          simp (disch := omega) only [ql_0, ql_1, ql_2, ql_3, ql_4, ql_5, ql_6, ql_7, ql_8, ql_9, ql_10, ql_11, ql_12, ql_13, ql_14, ql_15, ql_16, ql_17, ql_18, ql_19, ql_20, ql_21, ql_22, ql_23, ql_24, ql_27, ql_30, ql_31, ql_32, ql_40, ql_48, ql_51, ql_52, ql_57, ql_59, ql_60, ql_61, ql_62, ql_76, ql_84, ql_91, ql_97, ql_99, ql_100, ql_120, ql_122, ql_127, ql_128, ql_200, ql_255, ql_256, ql_300, ql_420, ql_428, ql_640, ql_900, ql_896, ql_999, ql_1712, ql_1716, ql_1734, ql_1772, ql_1800, ql_1805, ql_1811, ql_1822, ql_2132, ql_2140, ql_3229, ql_9999, ql_11453, ql_65536, ql_100000, ql_1000000, nI_add, pk_mul, q_and, q_or, q_xor, nI_clamp, q_in, q_neg1, q_nno, q_nno', q_annN, q_sh1, q_tbN, nI_leI, nI_ltI, nI_eq, pk_sub, ↓reduceIte, if_pos, if_neg, q_zlt, q_bs, z, r1, y1]
        by_cases y2 : q_gu C low k = g
        · by_cases y3 : q_gc st low k < t
          · refine ⟨some (q_gu C low k, q_gc st low k), hnew rfl (fun lo hi hq hw => ?_), ?_⟩
            · rcases hp.1 lo hi hq hw with w | ⟨w1, w2⟩
              · left; omega
              · right; omega
            · show g_X11_laysGather_32 (nI s) (nI st) (nI low) k151 (n + 1) (nI k) (q_gM J (some (g, t))) = _
              simp (disch := omega) only [g_X11_laysGather_32, hfB, ql_0, ql_1, ql_2, ql_3, ql_4, ql_5, ql_6, ql_7, ql_8, ql_9, ql_10, ql_11, ql_12, ql_13, ql_14, ql_15, ql_16, ql_17, ql_18, ql_19, ql_20, ql_21, ql_22, ql_23, ql_24, ql_27, ql_30, ql_31, ql_32, ql_40, ql_48, ql_51, ql_52, ql_57, ql_59, ql_60, ql_61, ql_62, ql_76, ql_84, ql_91, ql_97, ql_99, ql_100, ql_120, ql_122, ql_127, ql_128, ql_200, ql_255, ql_256, ql_300, ql_420, ql_428, ql_640, ql_900, ql_896, ql_999, ql_1712, ql_1716, ql_1734, ql_1772, ql_1800, ql_1805, ql_1811, ql_1822, ql_2132, ql_2140, ql_3229, ql_9999, ql_11453, ql_65536, ql_100000, ql_1000000, nI_add, pk_mul, q_and, q_or, q_xor, nI_clamp, q_in, q_neg1, q_nno, q_nno', q_annN, q_sh1, q_tbN, nI_leI, nI_ltI, nI_eq, pk_sub, ↓reduceIte, if_pos, if_neg, q_zlt, q_bs, q_min, hcs, z] at e69 ⊢
              rw [e69]
              simp (disch := omega) only [ql_0, ql_1, ql_2, ql_3, ql_4, ql_5, ql_6, ql_7, ql_8, ql_9, ql_10, ql_11, ql_12, ql_13, ql_14, ql_15, ql_16, ql_17, ql_18, ql_19, ql_20, ql_21, ql_22, ql_23, ql_24, ql_27, ql_30, ql_31, ql_32, ql_40, ql_48, ql_51, ql_52, ql_57, ql_59, ql_60, ql_61, ql_62, ql_76, ql_84, ql_91, ql_97, ql_99, ql_100, ql_120, ql_122, ql_127, ql_128, ql_200, ql_255, ql_256, ql_300, ql_420, ql_428, ql_640, ql_900, ql_896, ql_999, ql_1712, ql_1716, ql_1734, ql_1772, ql_1800, ql_1805, ql_1811, ql_1822, ql_2132, ql_2140, ql_3229, ql_9999, ql_11453, ql_65536, ql_100000, ql_1000000, nI_add, pk_mul, q_and, q_or, q_xor, nI_clamp, q_in, q_neg1, q_nno, q_nno', q_annN, q_sh1, q_tbN, nI_leI, nI_ltI, nI_eq, pk_sub, ↓reduceIte, if_pos, if_neg, q_zlt, q_bs, z, r1, r2, y1, y2, y3, q_gM_s]
          · refine ⟨some (g, t), keep (Or.inr ⟨y2, by omega⟩), ?_⟩
            show g_X11_laysGather_32 (nI s) (nI st) (nI low) k151 (n + 1) (nI k) (q_gM J (some (g, t))) = _
            simp (disch := omega) only [g_X11_laysGather_32, hfB, ql_0, ql_1, ql_2, ql_3, ql_4, ql_5, ql_6, ql_7, ql_8, ql_9, ql_10, ql_11, ql_12, ql_13, ql_14, ql_15, ql_16, ql_17, ql_18, ql_19, ql_20, ql_21, ql_22, ql_23, ql_24, ql_27, ql_30, ql_31, ql_32, ql_40, ql_48, ql_51, ql_52, ql_57, ql_59, ql_60, ql_61, ql_62, ql_76, ql_84, ql_91, ql_97, ql_99, ql_100, ql_120, ql_122, ql_127, ql_128, ql_200, ql_255, ql_256, ql_300, ql_420, ql_428, ql_640, ql_900, ql_896, ql_999, ql_1712, ql_1716, ql_1734, ql_1772, ql_1800, ql_1805, ql_1811, ql_1822, ql_2132, ql_2140, ql_3229, ql_9999, ql_11453, ql_65536, ql_100000, ql_1000000, nI_add, pk_mul, q_and, q_or, q_xor, nI_clamp, q_in, q_neg1, q_nno, q_nno', q_annN, q_sh1, q_tbN, nI_leI, nI_ltI, nI_eq, pk_sub, ↓reduceIte, if_pos, if_neg, q_zlt, q_bs, q_min, hcs, z] at e69 ⊢
            rw [e69]
            simp (disch := omega) only [ql_0, ql_1, ql_2, ql_3, ql_4, ql_5, ql_6, ql_7, ql_8, ql_9, ql_10, ql_11, ql_12, ql_13, ql_14, ql_15, ql_16, ql_17, ql_18, ql_19, ql_20, ql_21, ql_22, ql_23, ql_24, ql_27, ql_30, ql_31, ql_32, ql_40, ql_48, ql_51, ql_52, ql_57, ql_59, ql_60, ql_61, ql_62, ql_76, ql_84, ql_91, ql_97, ql_99, ql_100, ql_120, ql_122, ql_127, ql_128, ql_200, ql_255, ql_256, ql_300, ql_420, ql_428, ql_640, ql_900, ql_896, ql_999, ql_1712, ql_1716, ql_1734, ql_1772, ql_1800, ql_1805, ql_1811, ql_1822, ql_2132, ql_2140, ql_3229, ql_9999, ql_11453, ql_65536, ql_100000, ql_1000000, nI_add, pk_mul, q_and, q_or, q_xor, nI_clamp, q_in, q_neg1, q_nno, q_nno', q_annN, q_sh1, q_tbN, nI_leI, nI_ltI, nI_eq, pk_sub, ↓reduceIte, if_pos, if_neg, q_zlt, q_bs, z, r1, r2, y1, y2, y3]
        · refine ⟨some (q_gu C low k, q_gc st low k), hnew rfl (fun lo hi hq hw => ?_), ?_⟩
          · rcases hp.1 lo hi hq hw with w | ⟨w1, w2⟩
            · left; omega
            · left; omega
          · show g_X11_laysGather_32 (nI s) (nI st) (nI low) k151 (n + 1) (nI k) (q_gM J (some (g, t))) = _
            simp (disch := omega) only [g_X11_laysGather_32, hfB, ql_0, ql_1, ql_2, ql_3, ql_4, ql_5, ql_6, ql_7, ql_8, ql_9, ql_10, ql_11, ql_12, ql_13, ql_14, ql_15, ql_16, ql_17, ql_18, ql_19, ql_20, ql_21, ql_22, ql_23, ql_24, ql_27, ql_30, ql_31, ql_32, ql_40, ql_48, ql_51, ql_52, ql_57, ql_59, ql_60, ql_61, ql_62, ql_76, ql_84, ql_91, ql_97, ql_99, ql_100, ql_120, ql_122, ql_127, ql_128, ql_200, ql_255, ql_256, ql_300, ql_420, ql_428, ql_640, ql_900, ql_896, ql_999, ql_1712, ql_1716, ql_1734, ql_1772, ql_1800, ql_1805, ql_1811, ql_1822, ql_2132, ql_2140, ql_3229, ql_9999, ql_11453, ql_65536, ql_100000, ql_1000000, nI_add, pk_mul, q_and, q_or, q_xor, nI_clamp, q_in, q_neg1, q_nno, q_nno', q_annN, q_sh1, q_tbN, nI_leI, nI_ltI, nI_eq, pk_sub, ↓reduceIte, if_pos, if_neg, q_zlt, q_bs, q_min, hcs, z] at e69 ⊢
            rw [e69]
            simp (disch := omega) only [ql_0, ql_1, ql_2, ql_3, ql_4, ql_5, ql_6, ql_7, ql_8, ql_9, ql_10, ql_11, ql_12, ql_13, ql_14, ql_15, ql_16, ql_17, ql_18, ql_19, ql_20, ql_21, ql_22, ql_23, ql_24, ql_27, ql_30, ql_31, ql_32, ql_40, ql_48, ql_51, ql_52, ql_57, ql_59, ql_60, ql_61, ql_62, ql_76, ql_84, ql_91, ql_97, ql_99, ql_100, ql_120, ql_122, ql_127, ql_128, ql_200, ql_255, ql_256, ql_300, ql_420, ql_428, ql_640, ql_900, ql_896, ql_999, ql_1712, ql_1716, ql_1734, ql_1772, ql_1800, ql_1805, ql_1811, ql_1822, ql_2132, ql_2140, ql_3229, ql_9999, ql_11453, ql_65536, ql_100000, ql_1000000, nI_add, pk_mul, q_and, q_or, q_xor, nI_clamp, q_in, q_neg1, q_nno, q_nno', q_annN, q_sh1, q_tbN, nI_leI, nI_ltI, nI_eq, pk_sub, ↓reduceIte, if_pos, if_neg, q_zlt, q_bs, z, r1, y1, y2, q_gM_s]) (fun n a _ => by
    have hM : q_sm C 0 m (q_gM J a) K := h.go ok (fun j _ _ => q_gM_o (by omega)) (fun _ _ _ => rfl)
    have hfB := hM.f.1
    show g_X11_laysGather_32 (nI s) (nI st) (nI low) k151 (n + 1) (nI (C 0 0)) (q_gM J a) = _
    simp (disch := omega) only [g_X11_laysGather_32, hfB, ql_0, ql_1, ql_2, ql_3, ql_4, ql_5, ql_6, ql_7, ql_8, ql_9, ql_10, ql_11, ql_12, ql_13, ql_14, ql_15, ql_16, ql_17, ql_18, ql_19, ql_20, ql_21, ql_22, ql_23, ql_24, ql_27, ql_30, ql_31, ql_32, ql_40, ql_48, ql_51, ql_52, ql_57, ql_59, ql_60, ql_61, ql_62, ql_76, ql_84, ql_91, ql_97, ql_99, ql_100, ql_120, ql_122, ql_127, ql_128, ql_200, ql_255, ql_256, ql_300, ql_420, ql_428, ql_640, ql_900, ql_896, ql_999, ql_1712, ql_1716, ql_1734, ql_1772, ql_1800, ql_1805, ql_1811, ql_1822, ql_2132, ql_2140, ql_3229, ql_9999, ql_11453, ql_65536, ql_100000, ql_1000000, nI_add, pk_mul, q_and, q_or, q_xor, nI_clamp, q_in, q_neg1, q_nno, q_nno', q_annN, q_sh1, q_tbN, nI_leI, nI_ltI, nI_eq, pk_sub, ↓reduceIte, if_pos, if_neg, q_zlt, q_bs]) (by omega) (q_fu (by omega)) (ha.w (fun lo hi hq hw => by
      rcases hq with hq | ⟨rfl, hq⟩
      · exact hq
      · have := hw.2.1; omega))
  exact ⟨a', hp.w (fun lo hi hq hw => by
    have := hw.2.2.1
    have hq : lo < low + 1 := hq
    show lo < low ∨ lo = low ∧ hi < C 0 0
    omega), e⟩
theorem m_gath {C : q_N} {m : Nat} {J : z_I} {K : z_L} (h : q_sm C 0 m J K) (ok : q_ok C) {sc s : Nat} (hsc : sc < C 0 3) (hs : s ≤ 12) : ∃ g t, f_X11_laysGather J (nI sc) (nI s) = some (q_gM J (some (g, t))) ∧ q_gB C (C 8 sc) s (fun _ _ => True) (some (g, t)) := by
  obtain ⟨o0, o1, o2, o3, -⟩ := id ok
  have hst := (ok.2.2.2.2.2.2.2.2.2.2 sc hsc).1
  have h8 := h.a8 hsc
  obtain ⟨a, hp, e⟩ := q_lpC (G := fun n k (a : Option (Nat × Nat)) => g_X11_laysGather_23 (nI s) (nI (C 8 sc)) n (nI k) (q_gM J a)) (K := fun a => some (q_gM J a)) (N := C 8 sc + 1) (k0 := 0) (n := z_fuel) (a := none) (fun k a => q_gB C (C 8 sc) s (fun lo _ => lo < k) a) (fun n k a hk0 hk hp => by
    obtain ⟨a', hp', e⟩ := m_gath32 h ok hst (low := k) (by omega) hs (k151 := fun I_12 => g_X11_laysGather_23 (nI s) (nI (C 8 sc)) n (nI (k + 1)) I_12) hp
    refine ⟨a', hp', ?_⟩
    show g_X11_laysGather_23 (nI s) (nI (C 8 sc)) (n + 1) (nI k) (q_gM J a) = _
    simp (disch := omega) only [g_X11_laysGather_23, ql_0, ql_1, ql_2, ql_3, ql_4, ql_5, ql_6, ql_7, ql_8, ql_9, ql_10, ql_11, ql_12, ql_13, ql_14, ql_15, ql_16, ql_17, ql_18, ql_19, ql_20, ql_21, ql_22, ql_23, ql_24, ql_27, ql_30, ql_31, ql_32, ql_40, ql_48, ql_51, ql_52, ql_57, ql_59, ql_60, ql_61, ql_62, ql_76, ql_84, ql_91, ql_97, ql_99, ql_100, ql_120, ql_122, ql_127, ql_128, ql_200, ql_255, ql_256, ql_300, ql_420, ql_428, ql_640, ql_900, ql_896, ql_999, ql_1712, ql_1716, ql_1734, ql_1772, ql_1800, ql_1805, ql_1811, ql_1822, ql_2132, ql_2140, ql_3229, ql_9999, ql_11453, ql_65536, ql_100000, ql_1000000, nI_add, pk_mul, q_and, q_or, q_xor, nI_clamp, q_in, q_neg1, q_nno, q_nno', q_annN, q_sh1, q_tbN, nI_leI, nI_ltI, nI_eq, pk_sub, ↓reduceIte, if_pos, if_neg, q_zlt, q_bs]
    exact e) (fun n a _ => by
    show g_X11_laysGather_23 (nI s) (nI (C 8 sc)) (n + 1) (nI (C 8 sc + 1)) (q_gM J a) = _
    simp (disch := omega) only [g_X11_laysGather_23, ql_0, ql_1, ql_2, ql_3, ql_4, ql_5, ql_6, ql_7, ql_8, ql_9, ql_10, ql_11, ql_12, ql_13, ql_14, ql_15, ql_16, ql_17, ql_18, ql_19, ql_20, ql_21, ql_22, ql_23, ql_24, ql_27, ql_30, ql_31, ql_32, ql_40, ql_48, ql_51, ql_52, ql_57, ql_59, ql_60, ql_61, ql_62, ql_76, ql_84, ql_91, ql_97, ql_99, ql_100, ql_120, ql_122, ql_127, ql_128, ql_200, ql_255, ql_256, ql_300, ql_420, ql_428, ql_640, ql_900, ql_896, ql_999, ql_1712, ql_1716, ql_1734, ql_1772, ql_1800, ql_1805, ql_1811, ql_1822, ql_2132, ql_2140, ql_3229, ql_9999, ql_11453, ql_65536, ql_100000, ql_1000000, nI_add, pk_mul, q_and, q_or, q_xor, nI_clamp, q_in, q_neg1, q_nno, q_nno', q_annN, q_sh1, q_tbN, nI_leI, nI_ltI, nI_eq, pk_sub, ↓reduceIte, if_pos, if_neg, q_zlt, q_bs]) (by omega) (q_fu (by omega)) (fun lo hi hq => by omega)
  have hp : q_gB C (C 8 sc) s (fun _ _ => True) a := hp.w (fun lo hi _ hw => by have := hw.1; show lo < C 8 sc + 1; omega)
  have w0 : q_gw C (C 8 sc) s (C 8 sc) (C 8 sc) := ⟨Nat.le_refl _, Nat.le_refl _, hst, by unfold q_gc; omega⟩
  cases a with
  | none => exact absurd w0 (hp _ _ trivial)
  | some p =>
    obtain ⟨g, t⟩ := p
    refine ⟨g, t, ?_, hp⟩
    simp (disch := omega) only [f_X11_laysGather, f_X11_scholarRow, ql_0, ql_1, ql_2, ql_3, ql_4, ql_5, ql_6, ql_7, ql_8, ql_9, ql_10, ql_11, ql_12, ql_13, ql_14, ql_15, ql_16, ql_17, ql_18, ql_19, ql_20, ql_21, ql_22, ql_23, ql_24, ql_27, ql_30, ql_31, ql_32, ql_40, ql_48, ql_51, ql_52, ql_57, ql_59, ql_60, ql_61, ql_62, ql_76, ql_84, ql_91, ql_97, ql_99, ql_100, ql_120, ql_122, ql_127, ql_128, ql_200, ql_255, ql_256, ql_300, ql_420, ql_428, ql_640, ql_900, ql_896, ql_999, ql_1712, ql_1716, ql_1734, ql_1772, ql_1800, ql_1805, ql_1811, ql_1822, ql_2132, ql_2140, ql_3229, ql_9999, ql_11453, ql_65536, ql_100000, ql_1000000, nI_add, pk_mul, q_and, q_or, q_xor, nI_clamp, q_in, q_neg1, q_nno, q_nno', q_annN, q_sh1, q_tbN, nI_leI, nI_ltI, nI_eq, pk_sub, ↓reduceIte, if_pos, if_neg, q_zlt, q_bs, h8]
    exact e
theorem q_gath {C : q_N} {st s g t v : Nat} (h : q_gB C st s (fun _ _ => True) (some (g, t))) (h1 : ∀ lo hi, q_gw C st s lo hi → q_gu C lo hi ≤ v) (h2 : ∃ lo hi, q_gw C st s lo hi ∧ q_gu C lo hi = v) : v = g := by
  obtain ⟨lo, hi, w, e1, e2⟩ := h.2
  obtain ⟨lo', hi', w', e'⟩ := h2
  have a1 := h1 lo hi w
  have a2 := h.1 lo' hi' trivial w'
  omega
theorem r_gather : s_gather q_R := by
  intro I L J K p0 p1 hR
  obtain ⟨C, T, mk, h⟩ := id hR
  obtain ⟨hx, hm, ok, -⟩ := h.o
  obtain ⟨o0, o1, o2, o3, -⟩ := id ok
  have hfr := q_from (p := p1) (a := 0) (b := 12) (by decide) (by decide)
  cases hb : q_hs (C 0 0 3) p0 with
  | false => exact q_end (-1) 1 (by simp only [f_X10_gather, x0_hasScholar hx, hb]; rfl) (by simp only [f_X11_gather, m_isScholar hm, hb]; rfl) hR
  | true =>
  cases hb2 : f_X10_isWithin p1 (nI 0) (nI 12) with
  | false =>
    rw [hb2] at hfr
    exact q_end (-1) 1 (by simp only [f_X10_gather, x0_hasScholar hx, hb, ql_0, ql_12, hb2]; rfl) (by simp only [f_X11_gather, m_isScholar hm, hb, qL_0, qL_12, hfr]; rfl) hR
  | true =>
    rw [hb2] at hfr
    obtain ⟨sc, hsc, rfl⟩ := q_hs_t hb (by omega)
    obtain ⟨s, -, hs, rfl⟩ := q_wi_t hb2 (by decide) (by decide)
    have hst := (ok.2.2.2.2.2.2.2.2.2.2 sc hsc).1
    obtain ⟨v, e1, v1, v2, v3⟩ := x0_reaped hx ok hst hs
    obtain ⟨g, t, e2, hg⟩ := m_gath hm ok hsc hs
    have hvg := q_gath hg v2 v3
    subst hvg
    have a8 : I 11 sc = nI (C 0 8 sc) := hx.a8 hsc
    have hR' : q_R I L (q_gM J (some (v, t))) K := (h.fr (fun _ _ _ => rfl) (fun _ _ _ => rfl) (fun d k y => q_gM_o (by unfold q_rJ at y; omega)) (fun _ _ _ => rfl)).r
    have r1 : q_gM J (some (v, t)) 0 32 = nI v := by show z2 (z2 J 0 32 (nI v)) 0 33 (nI t) 0 32 = _; rw [q_zo (by omega), q_zs]
    refine q_end (nI v) 0 (I := I) (J := q_gM J (some (v, t))) ?_ ?_ hR'
    · simp (disch := omega) only [f_X10_gather, x0_hasScholar hx, hb, ql_0, ql_1, ql_2, ql_3, ql_4, ql_5, ql_6, ql_7, ql_8, ql_9, ql_10, ql_11, ql_12, ql_13, ql_14, ql_15, ql_16, ql_17, ql_18, ql_19, ql_20, ql_21, ql_22, ql_23, ql_24, ql_27, ql_30, ql_31, ql_32, ql_40, ql_48, ql_51, ql_52, ql_57, ql_59, ql_60, ql_61, ql_62, ql_76, ql_84, ql_91, ql_97, ql_99, ql_100, ql_120, ql_122, ql_127, ql_128, ql_200, ql_255, ql_256, ql_300, ql_420, ql_428, ql_640, ql_900, ql_896, ql_999, ql_1712, ql_1716, ql_1734, ql_1772, ql_1800, ql_1805, ql_1811, ql_1822, ql_2132, ql_2140, ql_3229, ql_9999, ql_11453, ql_65536, ql_100000, ql_1000000, nI_add, pk_mul, q_and, q_or, q_xor, nI_clamp, q_in, q_neg1, q_nno, q_nno', q_annN, q_sh1, q_tbN, nI_leI, nI_ltI, nI_eq, pk_sub, ↓reduceIte, if_pos, if_neg, q_zlt, q_bs, hb2, a8, e1, f_X10_give]
    · simp (disch := omega) only [f_X11_gather, m_isScholar hm, hb, qL_0, qL_12, hfr, ql_0, ql_1, ql_2, ql_3, ql_4, ql_5, ql_6, ql_7, ql_8, ql_9, ql_10, ql_11, ql_12, ql_13, ql_14, ql_15, ql_16, ql_17, ql_18, ql_19, ql_20, ql_21, ql_22, ql_23, ql_24, ql_27, ql_30, ql_31, ql_32, ql_40, ql_48, ql_51, ql_52, ql_57, ql_59, ql_60, ql_61, ql_62, ql_76, ql_84, ql_91, ql_97, ql_99, ql_100, ql_120, ql_122, ql_127, ql_128, ql_200, ql_255, ql_256, ql_300, ql_420, ql_428, ql_640, ql_900, ql_896, ql_999, ql_1712, ql_1716, ql_1734, ql_1772, ql_1800, ql_1805, ql_1811, ql_1822, ql_2132, ql_2140, ql_3229, ql_9999, ql_11453, ql_65536, ql_100000, ql_1000000, nI_add, pk_mul, q_and, q_or, q_xor, nI_clamp, q_in, q_neg1, q_nno, q_nno', q_annN, q_sh1, q_tbN, nI_leI, nI_ltI, nI_eq, pk_sub, ↓reduceIte, if_pos, if_neg, q_zlt, q_bs, e2, r1, f_X11_gives]
theorem x_brisk {C : q_N} {I : z_I} {L : z_L} (h : q_sx C 3 I L) (ok : q_ok C) {st s g t : Nat} (hst : st < C 0 0) (hs : s ≤ 12) (hg : q_gB C st s (fun _ _ => True) (some (g, t))) : g_X10_brisk_51 (nI s) (nI st) (nI g) I z_fuel 0 = some (f_X10_give I (nI t)) := by
  obtain ⟨b1, b2⟩ := q_gB.b ok hg
  refine q_lp (G := fun n k (_ : Unit) => g_X10_brisk_51 (nI s) (nI st) (nI g) I n (nI k)) (N := t) (k0 := 0) (fun _ => ()) (fun n k _ hk => ?_) (fun n => ?_) (Nat.zero_le _) (q_fu (by omega))
  · show g_X10_brisk_51 (nI s) (nI st) (nI g) I (n + 1) (nI k) = _
    obtain ⟨v, e1, v1, v2, lo, hi, w, e⟩ := x0_reaped h ok hst (s := k) (by omega)
    have hvg : v < g := by
      have := hg.1 lo hi trivial ⟨w.1, w.2.1, w.2.2.1, by have := w.2.2.2; omega⟩
      have := w.2.2.2
      omega
    simp (disch := omega) only [g_X10_brisk_51, ql_0, ql_1, ql_2, ql_3, ql_4, ql_5, ql_6, ql_7, ql_8, ql_9, ql_10, ql_11, ql_12, ql_13, ql_14, ql_15, ql_16, ql_17, ql_18, ql_19, ql_20, ql_21, ql_22, ql_23, ql_24, ql_27, ql_30, ql_31, ql_32, ql_40, ql_48, ql_51, ql_52, ql_57, ql_59, ql_60, ql_61, ql_62, ql_76, ql_84, ql_91, ql_97, ql_99, ql_100, ql_120, ql_122, ql_127, ql_128, ql_200, ql_255, ql_256, ql_300, ql_420, ql_428, ql_640, ql_900, ql_896, ql_999, ql_1712, ql_1716, ql_1734, ql_1772, ql_1800, ql_1805, ql_1811, ql_1822, ql_2132, ql_2140, ql_3229, ql_9999, ql_11453, ql_65536, ql_100000, ql_1000000, nI_add, pk_mul, q_and, q_or, q_xor, nI_clamp, q_in, q_neg1, q_nno, q_nno', q_annN, q_sh1, q_tbN, nI_leI, nI_ltI, nI_eq, pk_sub, ↓reduceIte, if_pos, if_neg, q_zlt, q_bs, e1]
  · show g_X10_brisk_51 (nI s) (nI st) (nI g) I (n + 1) (nI t) = _
    by_cases z : s ≤ t
    · simp (disch := omega) only [g_X10_brisk_51, ql_0, ql_1, ql_2, ql_3, ql_4, ql_5, ql_6, ql_7, ql_8, ql_9, ql_10, ql_11, ql_12, ql_13, ql_14, ql_15, ql_16, ql_17, ql_18, ql_19, ql_20, ql_21, ql_22, ql_23, ql_24, ql_27, ql_30, ql_31, ql_32, ql_40, ql_48, ql_51, ql_52, ql_57, ql_59, ql_60, ql_61, ql_62, ql_76, ql_84, ql_91, ql_97, ql_99, ql_100, ql_120, ql_122, ql_127, ql_128, ql_200, ql_255, ql_256, ql_300, ql_420, ql_428, ql_640, ql_900, ql_896, ql_999, ql_1712, ql_1716, ql_1734, ql_1772, ql_1800, ql_1805, ql_1811, ql_1822, ql_2132, ql_2140, ql_3229, ql_9999, ql_11453, ql_65536, ql_100000, ql_1000000, nI_add, pk_mul, q_and, q_or, q_xor, nI_clamp, q_in, q_neg1, q_nno, q_nno', q_annN, q_sh1, q_tbN, nI_leI, nI_ltI, nI_eq, pk_sub, ↓reduceIte, if_pos, if_neg, q_zlt, q_bs, z]
    · obtain ⟨v, e1, v1, v2, -⟩ := x0_reaped h ok hst (s := t) (by omega)
      have hvg : g ≤ v := by
        obtain ⟨lo, hi, w, y1, y2⟩ := hg.2
        have := v2 lo hi ⟨w.1, w.2.1, w.2.2.1, by omega⟩
        omega
      simp (disch := omega) only [g_X10_brisk_51, ql_0, ql_1, ql_2, ql_3, ql_4, ql_5, ql_6, ql_7, ql_8, ql_9, ql_10, ql_11, ql_12, ql_13, ql_14, ql_15, ql_16, ql_17, ql_18, ql_19, ql_20, ql_21, ql_22, ql_23, ql_24, ql_27, ql_30, ql_31, ql_32, ql_40, ql_48, ql_51, ql_52, ql_57, ql_59, ql_60, ql_61, ql_62, ql_76, ql_84, ql_91, ql_97, ql_99, ql_100, ql_120, ql_122, ql_127, ql_128, ql_200, ql_255, ql_256, ql_300, ql_420, ql_428, ql_640, ql_900, ql_896, ql_999, ql_1712, ql_1716, ql_1734, ql_1772, ql_1800, ql_1805, ql_1811, ql_1822, ql_2132, ql_2140, ql_3229, ql_9999, ql_11453, ql_65536, ql_100000, ql_1000000, nI_add, pk_mul, q_and, q_or, q_xor, nI_clamp, q_in, q_neg1, q_nno, q_nno', q_annN, q_sh1, q_tbN, nI_leI, nI_ltI, nI_eq, pk_sub, ↓reduceIte, if_pos, if_neg, q_zlt, q_bs, e1]
theorem r_brisk : s_brisk q_R := by
  intro I L J K p0 p1 hR
  obtain ⟨C, T, mk, h⟩ := id hR
  obtain ⟨hx, hm, ok, -⟩ := h.o
  obtain ⟨o0, o1, o2, o3, -⟩ := id ok
  have hfr := q_from (p := p1) (a := 0) (b := 12) (by decide) (by decide)
  cases hb : q_hs (C 0 0 3) p0 with
  | false => exact q_end (-1) 1 (by simp only [f_X10_brisk, x0_hasScholar hx, hb]; rfl) (by simp only [f_X11_brisk, m_isScholar hm, hb]; rfl) hR
  | true =>
  cases hb2 : f_X10_isWithin p1 (nI 0) (nI 12) with
  | false =>
    rw [hb2] at hfr
    exact q_end (-1) 1 (by simp only [f_X10_brisk, x0_hasScholar hx, hb, ql_0, ql_12, hb2]; rfl) (by simp only [f_X11_brisk, m_isScholar hm, hb, qL_0, qL_12, hfr]; rfl) hR
  | true =>
    rw [hb2] at hfr
    obtain ⟨sc, hsc, rfl⟩ := q_hs_t hb (by omega)
    obtain ⟨s, -, hs, rfl⟩ := q_wi_t hb2 (by decide) (by decide)
    have hst := (ok.2.2.2.2.2.2.2.2.2.2 sc hsc).1
    obtain ⟨v, e1, v1, v2, v3⟩ := x0_reaped hx ok hst hs
    obtain ⟨g, t, e2, hg⟩ := m_gath hm ok hsc hs
    have hvg := q_gath hg v2 v3
    subst hvg
    have a8 : I 11 sc = nI (C 0 8 sc) := hx.a8 hsc
    have hR' : q_R I L (q_gM J (some (v, t))) K := (h.fr (fun _ _ _ => rfl) (fun _ _ _ => rfl) (fun d k y => q_gM_o (by unfold q_rJ at y; omega)) (fun _ _ _ => rfl)).r
    have r1 : q_gM J (some (v, t)) 0 33 = nI t := q_zs
    have hbk := x_brisk hx ok hst hs hg
    refine q_end (nI t) 0 (I := I) (J := q_gM J (some (v, t))) ?_ ?_ hR'
    · simp (disch := omega) only [f_X10_brisk, x0_hasScholar hx, hb, ql_0, ql_1, ql_2, ql_3, ql_4, ql_5, ql_6, ql_7, ql_8, ql_9, ql_10, ql_11, ql_12, ql_13, ql_14, ql_15, ql_16, ql_17, ql_18, ql_19, ql_20, ql_21, ql_22, ql_23, ql_24, ql_27, ql_30, ql_31, ql_32, ql_40, ql_48, ql_51, ql_52, ql_57, ql_59, ql_60, ql_61, ql_62, ql_76, ql_84, ql_91, ql_97, ql_99, ql_100, ql_120, ql_122, ql_127, ql_128, ql_200, ql_255, ql_256, ql_300, ql_420, ql_428, ql_640, ql_900, ql_896, ql_999, ql_1712, ql_1716, ql_1734, ql_1772, ql_1800, ql_1805, ql_1811, ql_1822, ql_2132, ql_2140, ql_3229, ql_9999, ql_11453, ql_65536, ql_100000, ql_1000000, nI_add, pk_mul, q_and, q_or, q_xor, nI_clamp, q_in, q_neg1, q_nno, q_nno', q_annN, q_sh1, q_tbN, nI_leI, nI_ltI, nI_eq, pk_sub, ↓reduceIte, if_pos, if_neg, q_zlt, q_bs, hb2, a8, e1]
      exact hbk
    · simp (disch := omega) only [f_X11_brisk, m_isScholar hm, hb, qL_0, qL_12, hfr, ql_0, ql_1, ql_2, ql_3, ql_4, ql_5, ql_6, ql_7, ql_8, ql_9, ql_10, ql_11, ql_12, ql_13, ql_14, ql_15, ql_16, ql_17, ql_18, ql_19, ql_20, ql_21, ql_22, ql_23, ql_24, ql_27, ql_30, ql_31, ql_32, ql_40, ql_48, ql_51, ql_52, ql_57, ql_59, ql_60, ql_61, ql_62, ql_76, ql_84, ql_91, ql_97, ql_99, ql_100, ql_120, ql_122, ql_127, ql_128, ql_200, ql_255, ql_256, ql_300, ql_420, ql_428, ql_640, ql_900, ql_896, ql_999, ql_1712, ql_1716, ql_1734, ql_1772, ql_1800, ql_1805, ql_1811, ql_1822, ql_2132, ql_2140, ql_3229, ql_9999, ql_11453, ql_65536, ql_100000, ql_1000000, nI_add, pk_mul, q_and, q_or, q_xor, nI_clamp, q_in, q_neg1, q_nno, q_nno', q_annN, q_sh1, q_tbN, nI_leI, nI_ltI, nI_eq, pk_sub, ↓reduceIte, if_pos, if_neg, q_zlt, q_bs, e2, r1, f_X11_gives]
