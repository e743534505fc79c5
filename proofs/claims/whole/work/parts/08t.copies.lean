/-! copies of a court, of terms; marks -/
theorem q_cpyR {α : Type} {f : Nat → Nat → α} {c p n : Nat} {d k : Nat} : zr f c (va_cpy (f p) (f c) 0 0 n) d k = if d = c ∧ k < n then f p k else f d k := by
  unfold zr
  by_cases h : d = c
  · subst h
    rw [if_pos rfl]
    by_cases h2 : k < n
    · rw [if_pos ⟨rfl, h2⟩, pk_cpy_in (Nat.zero_le _) (by omega)]
      congr 1
      omega
    · rw [if_neg (fun z => h2 z.2), pk_cpy_out (by omega)]
  · rw [if_neg h, if_neg (fun z => h z.1)]
/-- how many places of a row of a court are copied -/
def q_cn : Nat → Nat
  | 1 => 6
  | 2 => 6
  | 3 => 8
  | 4 => 7
  | 5 => 7
  | 6 => 7
  | 8 => 4
  | 9 => 4
  | _ => 0
theorem q_cps {f : z_I} {c n : Nat} {g : Nat → Int32} {k : Nat} (h : k < n) : zr f c (va_cpy g (f c) 0 0 n) c k = g k := by
  rw [q_zrs, pk_cpy_in (Nat.zero_le _) (by omega)]
  congr 1
  omega
theorem q_cpsL {f : z_L} {c n : Nat} {g : Nat → Int64} {k : Nat} (h : k < n) : zr f c (va_cpy g (f c) 0 0 n) c k = g k := by
  rw [q_zrs, pk_cpy_in (Nat.zero_le _) (by omega)]
  congr 1
  omega
theorem x0_copyI {I : z_I} {L : z_L} {c p : Nat} (hd : c + 10 < p ∨ p + 10 < c) : (∀ d k, d < c ∨ c + 10 < d → (f_X0_copyFrom I L c p).1 d k = I d k) ∧ (∀ r k, 1 ≤ r → r ≤ 9 → k < q_cn r → (f_X0_copyFrom I L c p).1 (c + r) k = I (p + r) k) ∧ (∀ k, k < 7 → (f_X0_copyFrom I L c p).1 c (10 + k) = I p (10 + k)) ∧ (∀ d k, d < c ∨ c + 10 < d → (f_X0_copyFrom I L c p).2 d k = L d k) ∧ (∀ k, k < 7 → (f_X0_copyFrom I L c p).2 (c + 7) k = L (p + 7) k) ∧ (∀ k, k < 4 → (f_X0_copyFrom I L c p).2 (c + 10) k = L (p + 10) k) := by
  simp only [f_X0_copyFrom, q_zlt]
  refine ⟨fun d k h => ?_, fun r k h1 h9 hk => ?_, fun k hk => ?_, fun d k h => ?_, fun k hk => ?_, fun k hk => ?_⟩
  · rw [q_zo (by omega), q_zo (by omega), q_zo (by omega), q_zo (by omega), q_zo (by omega), q_zo (by omega), q_zo (by omega), q_zro (by omega), q_zro (by omega), q_zro (by omega), q_zro (by omega), q_zro (by omega), q_zro (by omega), q_zro (by omega), q_zro (by omega)]
  · rw [q_zo (by omega), q_zo (by omega), q_zo (by omega), q_zo (by omega), q_zo (by omega), q_zo (by omega), q_zo (by omega)]
    match r, h1, h9 with
    | 1, _, _ => rw [q_zro (by omega), q_zro (by omega), q_zro (by omega), q_zro (by omega), q_zro (by omega), q_zro (by omega), q_zro (by omega), q_cps (show k < 6 from hk)]
    | 2, _, _ => rw [q_zro (by omega), q_zro (by omega), q_zro (by omega), q_zro (by omega), q_zro (by omega), q_zro (by omega), q_cps (show k < 6 from hk), q_zro (by omega)]
    | 3, _, _ => rw [q_zro (by omega), q_zro (by omega), q_zro (by omega), q_zro (by omega), q_zro (by omega), q_cps (show k < 8 from hk), q_zro (by omega), q_zro (by omega)]
    | 4, _, _ => rw [q_zro (by omega), q_zro (by omega), q_zro (by omega), q_zro (by omega), q_cps (show k < 7 from hk), q_zro (by omega), q_zro (by omega), q_zro (by omega)]
    | 5, _, _ => rw [q_zro (by omega), q_zro (by omega), q_zro (by omega), q_cps (show k < 7 from hk), q_zro (by omega), q_zro (by omega), q_zro (by omega), q_zro (by omega)]
    | 6, _, _ => rw [q_zro (by omega), q_zro (by omega), q_cps (show k < 7 from hk), q_zro (by omega), q_zro (by omega), q_zro (by omega), q_zro (by omega), q_zro (by omega)]
    | 8, _, _ => rw [q_zro (by omega), q_cps (show k < 4 from hk), q_zro (by omega), q_zro (by omega), q_zro (by omega), q_zro (by omega), q_zro (by omega), q_zro (by omega)]
    | 9, _, _ => rw [q_cps (show k < 4 from hk), q_zro (by omega), q_zro (by omega), q_zro (by omega), q_zro (by omega), q_zro (by omega), q_zro (by omega), q_zro (by omega)]
    | 7, _, _ => exact absurd hk (Nat.not_lt_zero _)
  · match k, hk with
    | 0, _ => simp (disch := omega) only [q_zs, q_zo, q_zro]
    | 1, _ => simp (disch := omega) only [q_zs, q_zo, q_zro]
    | 2, _ => simp (disch := omega) only [q_zs, q_zo, q_zro]
    | 3, _ => simp (disch := omega) only [q_zs, q_zo, q_zro]
    | 4, _ => simp (disch := omega) only [q_zs, q_zo, q_zro]
    | 5, _ => simp (disch := omega) only [q_zs, q_zo, q_zro]
    | 6, _ => simp (disch := omega) only [q_zs, q_zo, q_zro]
  · rw [q_zro (by omega), q_zro (by omega)]
  · rw [q_zro (by omega), q_cpsL hk]
  · rw [q_cpsL hk, q_zro (by omega)]
theorem x0_copy {C : q_N} {I : z_I} {L : z_L} {c p : Nat} (h : q_sx C p I L) (ok : q_ok C) (hd : c + 10 < p ∨ p + 10 < c) : q_sx C c (f_X0_copyFrom I L c p).1 (f_X0_copyFrom I L c p).2 := by
  obtain ⟨-, e2, e3, -, e5, e6⟩ := x0_copyI (I := I) (L := L) hd
  obtain ⟨o0, o1, o2, o3, -⟩ := id ok
  refine ⟨fun r k hk => ?_, fun k hk => ?_, fun k hk => ?_⟩
  · have e := h.1 r k hk
    match r with
    | 0 => exact (e3 k hk).trans e
    | 1 => exact (e2 1 k (by omega) (by omega) (show k < 6 by have hk : k < C 0 0 := hk; omega)).trans e
    | 2 => exact (e2 2 k (by omega) (by omega) (show k < 6 by have hk : k < C 0 0 := hk; omega)).trans e
    | 3 => exact (e2 3 k (by omega) (by omega) (show k < 8 by have hk : k < C 0 1 := hk; omega)).trans e
    | 4 => exact (e2 4 k (by omega) (by omega) (show k < 7 by have hk : k < C 0 2 := hk; omega)).trans e
    | 5 => exact (e2 5 k (by omega) (by omega) (show k < 7 by have hk : k < C 0 2 := hk; omega)).trans e
    | 6 => exact (e2 6 k (by omega) (by omega) (show k < 7 by have hk : k < C 0 2 := hk; omega)).trans e
    | 8 => exact (e2 8 k (by omega) (by omega) (show k < 4 by have hk : k < C 0 3 := hk; omega)).trans e
    | 9 => exact (e2 9 k (by omega) (by omega) (show k < 4 by have hk : k < C 0 3 := hk; omega)).trans e
    | 7 => exact absurd hk (Nat.not_lt_zero _)
    | n + 10 => exact absurd hk (Nat.not_lt_zero _)
  · exact (e5 k (by omega)).trans (h.2.1 k hk)
  · exact (e6 k (by omega)).trans (h.2.2 k hk)
theorem x5_copyI {I : z_I} {t p : Nat} (hd : t + 5 < p ∨ p + 5 < t) : (∀ d k, d < t ∨ t + 5 < d → f_X5_copyFrom I t p d k = I d k) ∧ (∀ r k, 1 ≤ r → r ≤ 5 → k < 60 → f_X5_copyFrom I t p (t + r) k = I (p + r) k) ∧ f_X5_copyFrom I t p t 5 = zb (zn (I p 5)) ∧ f_X5_copyFrom I t p t 6 = I p 6 ∧ f_X5_copyFrom I t p t 7 = I p 7 := by
  simp only [f_X5_copyFrom, q_zlt]
  refine ⟨fun d k h => ?_, fun r k h1 h5 hk => ?_, ?_, ?_, ?_⟩
  · rw [q_zo (by omega), q_zo (by omega), q_zo (by omega), q_zro (by omega), q_zro (by omega), q_zro (by omega), q_zro (by omega), q_zro (by omega)]
  · rw [q_zo (by omega), q_zo (by omega), q_zo (by omega)]
    match r, h1, h5 with
    | 1, _, _ => rw [q_zro (by omega), q_zro (by omega), q_zro (by omega), q_zro (by omega), q_cps hk]
    | 2, _, _ => rw [q_zro (by omega), q_zro (by omega), q_zro (by omega), q_cps hk, q_zro (by omega)]
    | 3, _, _ => rw [q_zro (by omega), q_zro (by omega), q_cps hk, q_zro (by omega), q_zro (by omega)]
    | 4, _, _ => rw [q_zro (by omega), q_cps hk, q_zro (by omega), q_zro (by omega), q_zro (by omega)]
    | 5, _, _ => rw [q_cps hk, q_zro (by omega), q_zro (by omega), q_zro (by omega), q_zro (by omega)]
  · simp (disch := omega) only [q_zs, q_zo, q_zro]
  · simp (disch := omega) only [q_zs, q_zo, q_zro]
  · simp (disch := omega) only [q_zs, q_zo, q_zro]
theorem x5_copy {T C : q_N} {I : z_I} {t p : Nat} (h : q_tx T p I) (ok : q_tok T C) (hd : t + 5 < p ∨ p + 5 < t) : q_tx T t (f_X5_copyFrom I t p) := by
  obtain ⟨-, e2, e3, e4, e5⟩ := x5_copyI (I := I) hd
  obtain ⟨h1, h2, h3, h4⟩ := h
  refine ⟨?_, e4.trans h2, e5.trans h3, fun r e hr hr2 he => (e2 r e hr hr2 (by have := ok.2.2.1; omega)).trans (h4 r e hr hr2 he)⟩
  rw [e3, h1]
  rcases Nat.le_one_iff_eq_zero_or_eq_one.1 ok.1 with z | z <;> (rw [z]; rfl)
theorem m_copies {J : z_I} {K : z_L} {a b : Nat} (ha : a ≤ 3) (hb : b ≤ 3) (hne : a ≠ b) : ∃ J' K', f_X11_copies J K (nI a) (nI b) = some (J', K') ∧ (∀ k, k < 428 → J' 1 (428 * b + k) = J 1 (428 * a + k)) ∧ (∀ d k, d ≠ 1 ∨ k < 428 * b ∨ 428 * b + 428 ≤ k → J' d k = J d k) ∧ (∀ k, k < 19 → K' 2 (19 * b + k) = K 2 (19 * a + k)) ∧ (∀ d k, d ≠ 2 ∨ k < 19 * b ∨ 19 * b + 19 ≤ k → K' d k = K d k) := by
  obtain ⟨J', ⟨p1, p2⟩, e1⟩ := q_lpC (G := fun n k (M : z_I) => g_X11_copies_2 (nI a) (nI b) K (fun I_4 => g_X11_copies_41 (nI a) (nI b) I_4 z_fuel (nI 0) K) n (nI k) M) (K := fun M => g_X11_copies_41 (nI a) (nI b) M z_fuel (nI 0) K) (N := 428) (k0 := 0) (n := z_fuel) (a := J) (fun k M => (∀ j, j < k → M 1 (428 * b + j) = J 1 (428 * a + j)) ∧ (∀ d j, d ≠ 1 ∨ j < 428 * b ∨ 428 * b + k ≤ j → M d j = J d j)) (fun n k M _ hk hp => by
    obtain ⟨p1, p2⟩ := hp
    refine ⟨z2 M 1 (428 * b + k) (M 1 (428 * a + k)), ⟨fun j hj => ?_, fun d j hj => ?_⟩, ?_⟩
    · by_cases z : j = k
      · subst z; rw [q_zs, p2 1 _ (by omega)]
      · rw [q_zo (by omega)]; exact p1 j (by omega)
    · rw [q_zo (by omega)]; exact p2 d j (by omega)
    · show g_X11_copies_2 (nI a) (nI b) K _ (n + 1) (nI k) M = _
      simp (disch := omega) only [g_X11_copies_2, ql_0, ql_1, ql_2, ql_3, ql_4, ql_5, ql_6, ql_7, ql_8, ql_9, ql_10, ql_11, ql_12, ql_13, ql_14, ql_15, ql_16, ql_17, ql_18, ql_19, ql_20, ql_21, ql_22, ql_23, ql_24, ql_27, ql_30, ql_31, ql_32, ql_40, ql_48, ql_51, ql_52, ql_57, ql_59, ql_60, ql_61, ql_62, ql_76, ql_84, ql_91, ql_97, ql_99, ql_100, ql_120, ql_122, ql_127, ql_128, ql_200, ql_255, ql_256, ql_300, ql_420, ql_428, ql_640, ql_900, ql_896, ql_999, ql_1712, ql_1716, ql_1734, ql_1772, ql_1800, ql_1805, ql_1811, ql_1822, ql_2132, ql_2140, ql_3229, ql_9999, ql_11453, ql_65536, ql_100000, ql_1000000, nI_add, pk_mul, q_and, q_or, q_xor, nI_clamp, q_in, q_neg1, q_nno, q_nno', q_annN, q_sh1, q_tbN, nI_leI, nI_ltI, nI_eq, pk_sub, ↓reduceIte, if_pos, if_neg, q_zlt, q_bs]) (fun n M _ => by
    show g_X11_copies_2 (nI a) (nI b) K _ (n + 1) (nI 428) M = _
    simp (disch := omega) only [g_X11_copies_2, ql_0, ql_1, ql_2, ql_3, ql_4, ql_5, ql_6, ql_7, ql_8, ql_9, ql_10, ql_11, ql_12, ql_13, ql_14, ql_15, ql_16, ql_17, ql_18, ql_19, ql_20, ql_21, ql_22, ql_23, ql_24, ql_27, ql_30, ql_31, ql_32, ql_40, ql_48, ql_51, ql_52, ql_57, ql_59, ql_60, ql_61, ql_62, ql_76, ql_84, ql_91, ql_97, ql_99, ql_100, ql_120, ql_122, ql_127, ql_128, ql_200, ql_255, ql_256, ql_300, ql_420, ql_428, ql_640, ql_900, ql_896, ql_999, ql_1712, ql_1716, ql_1734, ql_1772, ql_1800, ql_1805, ql_1811, ql_1822, ql_2132, ql_2140, ql_3229, ql_9999, ql_11453, ql_65536, ql_100000, ql_1000000, nI_add, pk_mul, q_and, q_or, q_xor, nI_clamp, q_in, q_neg1, q_nno, q_nno', q_annN, q_sh1, q_tbN, nI_leI, nI_ltI, nI_eq, pk_sub, ↓reduceIte, if_pos, if_neg, q_zlt, q_bs]) (by omega) (q_fu (by omega)) ⟨fun j hj => by omega, fun d j _ => rfl⟩
  obtain ⟨K', ⟨r1, r2⟩, e2⟩ := q_lpC (G := fun n k (M : z_L) => g_X11_copies_41 (nI a) (nI b) J' n (nI k) M) (K := fun M => some (J', M)) (N := 19) (k0 := 0) (n := z_fuel) (a := K) (fun k M => (∀ j, j < k → M 2 (19 * b + j) = K 2 (19 * a + j)) ∧ (∀ d j, d ≠ 2 ∨ j < 19 * b ∨ 19 * b + k ≤ j → M d j = K d j)) (fun n k M _ hk hp => by
    obtain ⟨p1, p2⟩ := hp
    refine ⟨z2 M 2 (19 * b + k) (M 2 (19 * a + k)), ⟨fun j hj => ?_, fun d j hj => ?_⟩, ?_⟩
    · by_cases z : j = k
      · subst z; rw [q_zs, p2 2 _ (by omega)]
      · rw [q_zo (by omega)]; exact p1 j (by omega)
    · rw [q_zo (by omega)]; exact p2 d j (by omega)
    · show g_X11_copies_41 (nI a) (nI b) J' (n + 1) (nI k) M = _
      simp (disch := omega) only [g_X11_copies_41, ql_0, ql_1, ql_2, ql_3, ql_4, ql_5, ql_6, ql_7, ql_8, ql_9, ql_10, ql_11, ql_12, ql_13, ql_14, ql_15, ql_16, ql_17, ql_18, ql_19, ql_20, ql_21, ql_22, ql_23, ql_24, ql_27, ql_30, ql_31, ql_32, ql_40, ql_48, ql_51, ql_52, ql_57, ql_59, ql_60, ql_61, ql_62, ql_76, ql_84, ql_91, ql_97, ql_99, ql_100, ql_120, ql_122, ql_127, ql_128, ql_200, ql_255, ql_256, ql_300, ql_420, ql_428, ql_640, ql_900, ql_896, ql_999, ql_1712, ql_1716, ql_1734, ql_1772, ql_1800, ql_1805, ql_1811, ql_1822, ql_2132, ql_2140, ql_3229, ql_9999, ql_11453, ql_65536, ql_100000, ql_1000000, nI_add, pk_mul, q_and, q_or, q_xor, nI_clamp, q_in, q_neg1, q_nno, q_nno', q_annN, q_sh1, q_tbN, nI_leI, nI_ltI, nI_eq, pk_sub, ↓reduceIte, if_pos, if_neg, q_zlt, q_bs]) (fun n M _ => by
    show g_X11_copies_41 (nI a) (nI b) J' (n + 1) (nI 19) M = _
    simp (disch := omega) only [g_X11_copies_41, ql_0, ql_1, ql_2, ql_3, ql_4, ql_5, ql_6, ql_7, ql_8, ql_9, ql_10, ql_11, ql_12, ql_13, ql_14, ql_15, ql_16, ql_17, ql_18, ql_19, ql_20, ql_21, ql_22, ql_23, ql_24, ql_27, ql_30, ql_31, ql_32, ql_40, ql_48, ql_51, ql_52, ql_57, ql_59, ql_60, ql_61, ql_62, ql_76, ql_84, ql_91, ql_97, ql_99, ql_100, ql_120, ql_122, ql_127, ql_128, ql_200, ql_255, ql_256, ql_300, ql_420, ql_428, ql_640, ql_900, ql_896, ql_999, ql_1712, ql_1716, ql_1734, ql_1772, ql_1800, ql_1805, ql_1811, ql_1822, ql_2132, ql_2140, ql_3229, ql_9999, ql_11453, ql_65536, ql_100000, ql_1000000, nI_add, pk_mul, q_and, q_or, q_xor, nI_clamp, q_in, q_neg1, q_nno, q_nno', q_annN, q_sh1, q_tbN, nI_leI, nI_ltI, nI_eq, pk_sub, ↓reduceIte, if_pos, if_neg, q_zlt, q_bs]) (by omega) (q_fu (by omega)) ⟨fun j hj => by omega, fun d j _ => rfl⟩
  exact ⟨J', K', e1.trans e2, p1, p2, r1, r2⟩
theorem q_sm.mv {C : q_N} {o m o' m' : Nat} {J J' : z_I} {K K' : z_L} (h : q_sm C o m J K) (ok : q_ok C) (hJ : ∀ k, k < 60 → J' 1 (o' + k) = J 1 (o + k)) (hK : ∀ k, k < 19 → K' 2 (m' + k) = K 2 (m + k)) : q_sm C o' m' J' K' := by
  obtain ⟨o0, o1, o2, o3, -⟩ := id ok
  refine ⟨fun r k hk => ?_, fun k hk => ?_, fun k hk => ?_⟩
  · rw [hJ _ (q_pm_lt ok hk)]; exact h.1 _ _ hk
  · rw [Nat.add_assoc, hK _ (by omega), ← Nat.add_assoc]; exact h.2.1 _ hk
  · rw [Nat.add_assoc, hK _ (by omega), ← Nat.add_assoc]; exact h.2.2 _ hk
theorem q_mc : ∀ i, i < 3 → [63, 80, 97].getD i 0 = 63 + 17 * i := by decide
theorem q_mt : ∀ i, i < 3 → [74, 91, 108].getD i 0 = 74 + 17 * i := by decide
theorem r_mark : s_mark q_R := by
  intro I L J K hR
  obtain ⟨C, T, mk, h⟩ := id hR
  obtain ⟨hx, hm, ok, tx, tm, tok⟩ := h.o
  obtain ⟨⟨h1, h2, h3, h4, h5⟩, h6, h7, ⟨h8, h9⟩, h10, h11, h12, h13⟩ := id h
  by_cases z : mk < 3
  · obtain ⟨a1, -, -, a4, -, -⟩ := x0_copyI (I := I) (L := L) (c := 63 + 17 * mk) (p := 3) (by omega)
    have ax := x0_copy (c := 63 + 17 * mk) (p := 3) hx ok (by omega)
    generalize hc : f_X0_copyFrom I L (63 + 17 * mk) 3 = cp at a1 a4 ax
    obtain ⟨I1, L1⟩ := cp
    simp only at a1 a4 ax
    have e19 : I1 0 19 = nI mk := by rw [a1 0 19 (by omega), h2]
    obtain ⟨b1, -⟩ := x5_copyI (I := I1) (t := 74 + 17 * mk) (p := 14) (by omega)
    have bt := x5_copy (I := I1) (t := 74 + 17 * mk) (p := 14) (tx.go (fun d k q1 q2 => a1 d k (by omega))) tok (by omega)
    generalize ht : f_X5_copyFrom I1 (74 + 17 * mk) 14 = I2 at b1 bt
    have e19' : I2 0 19 = nI mk := by rw [b1 0 19 (by omega), e19]
    obtain ⟨J1, K1, ec, c1, c2, c3, c4⟩ := m_copies (J := z2 J 0 45 (nI (mk + 1))) (K := K) (a := 0) (b := mk + 1) (by omega) (by omega) (by omega)
    have fI : ∀ d k, (d < 63 + 17 * mk ∨ 79 + 17 * mk < d) → (d ≠ 0 ∨ k ≠ 19) → z2 I2 0 19 (nI (mk + 1)) d k = I d k := fun d k q1 q2 => by rw [q_zo q2, b1 d k (by omega), a1 d k (by omega)]
    have fJ : ∀ d k, (d ≠ 1 ∨ k < 428 * (mk + 1) ∨ 428 * (mk + 1) + 428 ≤ k) → (d ≠ 0 ∨ k ≠ 45) → J1 d k = J d k := fun d k q1 q2 => by rw [c2 d k q1, q_zo q2]
    have e45 : J1 0 45 = nI (mk + 1) := by rw [c2 0 45 (by omega), q_zs]
    have hq : q_Q (z1 C (mk + 1) (C 0)) (z1 T (mk + 1) (T 0)) (mk + 1) (z2 I2 0 19 (nI (mk + 1))) L1 J1 K1 := by
      refine ⟨⟨by omega, q_zs, e45, ?_, ?_⟩, ?_, ?_, ⟨?_, ?_⟩, ?_, ?_, ?_, ?_⟩
      · rw [fI _ _ (by omega) (by omega), fJ _ _ (by omega) (by omega), h4]
      · rw [fI _ _ (by omega) (by omega), fJ _ _ (by omega) (by omega), h5]
      · rw [fI _ _ (by omega) (by omega), fJ _ _ (by omega) (by omega), h6]
      · exact h7.go (fI _ _ (by omega) (by omega)) (fun k => fI _ _ (by omega) (by omega)) (fJ _ _ (by omega) (by omega)) (fun k => fJ _ _ (by omega) (by omega))
      · rw [a4 _ _ (by omega), c4 _ _ (by omega), h8]
      · rw [a4 _ _ (by omega), c4 _ _ (by omega), h9]
      · exact fun i hi => (h10 i hi).go (fun k => fI _ _ (by omega) (by omega)) (fun k => a4 _ _ (by omega)) (fJ _ _ (by omega) (by omega)) (fJ _ _ (by omega) (by omega)) (fun k _ => c4 _ _ (by omega))
      · exact h11.go (fI _ _ (by omega) (by omega)) (fun k => fI _ _ (by omega) (by omega)) (fJ _ _ (by omega) (by omega)) (fun k => fJ _ _ (by omega) (by omega))
      · exact h12.go (fun k => a4 _ _ (by omega))
      · intro i hi
        by_cases y : i = mk + 1
        · subst y
          simp only [z1, ↓reduceIte, q_cc, q_cd]
          refine ⟨ax.go (fun d k q1 q2 => by rw [q_zo (by omega), b1 d k (by omega)]) (fun _ _ _ _ => rfl), hm.mv ok (fun k hk => ?_) (fun k hk => ?_), ok, bt.go (fun d k q1 q2 => q_zo (by omega)), tm.go tok (fun k hk _ => ?_), tok⟩
          · rw [c1 k (by omega), q_zo (by omega)]
          · rw [c3 k (by omega)]
          · rw [c1 k (by omega), q_zo (by omega)]
        · simp only [z1, if_neg y]
          have hb := q_cc_b (i := i) (by omega)
          have hb2 : i = 0 ∨ (q_cc i = 46 + 17 * i ∧ q_cd i = 57 + 17 * i) := by
            cases i with
            | zero => exact Or.inl rfl
            | succ i => right; simp only [q_cc, q_cd]; omega
          exact (h13 i (by omega)).go (fun e k q1 q2 => fI _ _ (by omega) (by omega)) (fun e k q1 q2 => a4 _ _ (by omega)) (fun e k q1 q2 => fI _ _ (by omega) (by omega)) (fun k q1 q2 => fJ _ _ (by omega) (by omega)) (fun k q1 q2 => c4 _ _ (by omega))
    refine ⟨(nI (mk + 1), z2 (z2 I2 0 19 (nI (mk + 1))) 0 15 0, L1), (nI (mk + 1), z2 J1 0 2 0, K1), ?_, ?_, rfl, (hq.st 0).r⟩
    · simp (disch := omega) only [f_X10_mark, h2, ql_0, ql_1, ql_2, ql_3, ql_4, ql_5, ql_6, ql_7, ql_8, ql_9, ql_10, ql_11, ql_12, ql_13, ql_14, ql_15, ql_16, ql_17, ql_18, ql_19, ql_20, ql_21, ql_22, ql_23, ql_24, ql_27, ql_30, ql_31, ql_32, ql_40, ql_48, ql_51, ql_52, ql_57, ql_59, ql_60, ql_61, ql_62, ql_76, ql_84, ql_91, ql_97, ql_99, ql_100, ql_120, ql_122, ql_127, ql_128, ql_200, ql_255, ql_256, ql_300, ql_420, ql_428, ql_640, ql_900, ql_896, ql_999, ql_1712, ql_1716, ql_1734, ql_1772, ql_1800, ql_1805, ql_1811, ql_1822, ql_2132, ql_2140, ql_3229, ql_9999, ql_11453, ql_65536, ql_100000, ql_1000000, nI_add, pk_mul, q_and, q_or, q_xor, nI_clamp, q_in, q_neg1, q_nno, q_nno', q_annN, q_sh1, q_tbN, nI_leI, nI_ltI, nI_eq, pk_sub, ↓reduceIte, if_pos, if_neg, q_zlt, q_bs, q_mc, q_mt, hc, e19, ht, e19', f_X10_give]
    · simp (disch := omega) only [f_X11_mark, h3, ql_0, ql_1, ql_2, ql_3, ql_4, ql_5, ql_6, ql_7, ql_8, ql_9, ql_10, ql_11, ql_12, ql_13, ql_14, ql_15, ql_16, ql_17, ql_18, ql_19, ql_20, ql_21, ql_22, ql_23, ql_24, ql_27, ql_30, ql_31, ql_32, ql_40, ql_48, ql_51, ql_52, ql_57, ql_59, ql_60, ql_61, ql_62, ql_76, ql_84, ql_91, ql_97, ql_99, ql_100, ql_120, ql_122, ql_127, ql_128, ql_200, ql_255, ql_256, ql_300, ql_420, ql_428, ql_640, ql_900, ql_896, ql_999, ql_1712, ql_1716, ql_1734, ql_1772, ql_1800, ql_1805, ql_1811, ql_1822, ql_2132, ql_2140, ql_3229, ql_9999, ql_11453, ql_65536, ql_100000, ql_1000000, nI_add, pk_mul, q_and, q_or, q_xor, nI_clamp, q_in, q_neg1, q_nno, q_nno', q_annN, q_sh1, q_tbN, nI_leI, nI_ltI, nI_eq, pk_sub, ↓reduceIte, if_pos, if_neg, q_zlt, q_bs, ec, e45, f_X11_gives]
  · have z : mk = 3 := by omega
    subst z
    refine q_end2 (-1) 4 (I := I) (J := J) ?_ ?_ hR
    · simp (disch := omega) only [f_X10_mark, h2, ql_0, ql_1, ql_2, ql_3, ql_4, ql_5, ql_6, ql_7, ql_8, ql_9, ql_10, ql_11, ql_12, ql_13, ql_14, ql_15, ql_16, ql_17, ql_18, ql_19, ql_20, ql_21, ql_22, ql_23, ql_24, ql_27, ql_30, ql_31, ql_32, ql_40, ql_48, ql_51, ql_52, ql_57, ql_59, ql_60, ql_61, ql_62, ql_76, ql_84, ql_91, ql_97, ql_99, ql_100, ql_120, ql_122, ql_127, ql_128, ql_200, ql_255, ql_256, ql_300, ql_420, ql_428, ql_640, ql_900, ql_896, ql_999, ql_1712, ql_1716, ql_1734, ql_1772, ql_1800, ql_1805, ql_1811, ql_1822, ql_2132, ql_2140, ql_3229, ql_9999, ql_11453, ql_65536, ql_100000, ql_1000000, nI_add, pk_mul, q_and, q_or, q_xor, nI_clamp, q_in, q_neg1, q_nno, q_nno', q_annN, q_sh1, q_tbN, nI_leI, nI_ltI, nI_eq, pk_sub, ↓reduceIte, if_pos, if_neg, q_zlt, q_bs, f_X10_refuse]
    · simp (disch := omega) only [f_X11_mark, h3, ql_0, ql_1, ql_2, ql_3, ql_4, ql_5, ql_6, ql_7, ql_8, ql_9, ql_10, ql_11, ql_12, ql_13, ql_14, ql_15, ql_16, ql_17, ql_18, ql_19, ql_20, ql_21, ql_22, ql_23, ql_24, ql_27, ql_30, ql_31, ql_32, ql_40, ql_48, ql_51, ql_52, ql_57, ql_59, ql_60, ql_61, ql_62, ql_76, ql_84, ql_91, ql_97, ql_99, ql_100, ql_120, ql_122, ql_127, ql_128, ql_200, ql_255, ql_256, ql_300, ql_420, ql_428, ql_640, ql_900, ql_896, ql_999, ql_1712, ql_1716, ql_1734, ql_1772, ql_1800, ql_1805, ql_1811, ql_1822, ql_2132, ql_2140, ql_3229, ql_9999, ql_11453, ql_65536, ql_100000, ql_1000000, nI_add, pk_mul, q_and, q_or, q_xor, nI_clamp, q_in, q_neg1, q_nno, q_nno', q_annN, q_sh1, q_tbN, nI_leI, nI_ltI, nI_eq, pk_sub, ↓reduceIte, if_pos, if_neg, q_zlt, q_bs, f_X11_refuse]
theorem r_undo : s_undo q_R := by
  intro I L J K hR
  obtain ⟨C, T, mk, h⟩ := id hR
  obtain ⟨⟨h1, h2, h3, h4, h5⟩, h6, h7, ⟨h8, h9⟩, h10, h11, h12, h13⟩ := id h
  cases mk with
  | zero =>
    refine q_end2 (-1) 6 (I := I) (J := J) ?_ ?_ hR
    · simp (disch := omega) only [f_X10_undo, h2, ql_0, ql_1, ql_2, ql_3, ql_4, ql_5, ql_6, ql_7, ql_8, ql_9, ql_10, ql_11, ql_12, ql_13, ql_14, ql_15, ql_16, ql_17, ql_18, ql_19, ql_20, ql_21, ql_22, ql_23, ql_24, ql_27, ql_30, ql_31, ql_32, ql_40, ql_48, ql_51, ql_52, ql_57, ql_59, ql_60, ql_61, ql_62, ql_76, ql_84, ql_91, ql_97, ql_99, ql_100, ql_120, ql_122, ql_127, ql_128, ql_200, ql_255, ql_256, ql_300, ql_420, ql_428, ql_640, ql_900, ql_896, ql_999, ql_1712, ql_1716, ql_1734, ql_1772, ql_1800, ql_1805, ql_1811, ql_1822, ql_2132, ql_2140, ql_3229, ql_9999, ql_11453, ql_65536, ql_100000, ql_1000000, nI_add, pk_mul, q_and, q_or, q_xor, nI_clamp, q_in, q_neg1, q_nno, q_nno', q_annN, q_sh1, q_tbN, nI_leI, nI_ltI, nI_eq, pk_sub, ↓reduceIte, if_pos, if_neg, q_zlt, q_bs, f_X10_refuse]
    · simp (disch := omega) only [f_X11_undo, h3, ql_0, ql_1, ql_2, ql_3, ql_4, ql_5, ql_6, ql_7, ql_8, ql_9, ql_10, ql_11, ql_12, ql_13, ql_14, ql_15, ql_16, ql_17, ql_18, ql_19, ql_20, ql_21, ql_22, ql_23, ql_24, ql_27, ql_30, ql_31, ql_32, ql_40, ql_48, ql_51, ql_52, ql_57, ql_59, ql_60, ql_61, ql_62, ql_76, ql_84, ql_91, ql_97, ql_99, ql_100, ql_120, ql_122, ql_127, ql_128, ql_200, ql_255, ql_256, ql_300, ql_420, ql_428, ql_640, ql_900, ql_896, ql_999, ql_1712, ql_1716, ql_1734, ql_1772, ql_1800, ql_1805, ql_1811, ql_1822, ql_2132, ql_2140, ql_3229, ql_9999, ql_11453, ql_65536, ql_100000, ql_1000000, nI_add, pk_mul, q_and, q_or, q_xor, nI_clamp, q_in, q_neg1, q_nno, q_nno', q_annN, q_sh1, q_tbN, nI_leI, nI_ltI, nI_eq, pk_sub, ↓reduceIte, if_pos, if_neg, q_zlt, q_bs, f_X11_refuse]
  | succ mk =>
    obtain ⟨hx, hm, ok, tx, tm, tok⟩ := h13 (mk + 1) (Nat.le_refl _)
    have hx : q_sx (C (mk + 1)) (63 + 17 * mk) (z2 I 0 19 (nI mk)) L := hx.go (fun d k q1 q2 => q_zo (by simp only [q_cc] at q1; omega)) (fun _ _ _ _ => rfl)
    have tx : q_tx (T (mk + 1)) (74 + 17 * mk) (z2 I 0 19 (nI mk)) := tx.go (fun d k q1 q2 => q_zo (by simp only [q_cd] at q1; omega))
    obtain ⟨a1, -, -, a4, -, -⟩ := x0_copyI (I := z2 I 0 19 (nI mk)) (L := L) (c := 3) (p := 63 + 17 * mk) (by omega)
    have ax := x0_copy (c := 3) (p := 63 + 17 * mk) hx ok (by omega)
    generalize hc : f_X0_copyFrom (z2 I 0 19 (nI mk)) L 3 (63 + 17 * mk) = cp at a1 a4 ax
    obtain ⟨I1, L1⟩ := cp
    simp only at a1 a4 ax
    have e19 : I1 0 19 = nI mk := by rw [a1 0 19 (by omega), q_zs]
    obtain ⟨b1, -⟩ := x5_copyI (I := I1) (t := 14) (p := 74 + 17 * mk) (by omega)
    have bt := x5_copy (I := I1) (t := 14) (p := 74 + 17 * mk) (tx.go (fun d k q1 q2 => a1 d k (by omega))) tok (by omega)
    generalize ht : f_X5_copyFrom I1 14 (74 + 17 * mk) = I2 at b1 bt
    have e19' : I2 0 19 = nI mk := by rw [b1 0 19 (by omega), e19]
    obtain ⟨J1, K1, ec, c1, c2, c3, c4⟩ := m_copies (J := J) (K := K) (a := mk + 1) (b := 0) (by omega) (by omega) (by omega)
    have fI : ∀ d k, (d < 3 ∨ 19 < d) → (d ≠ 0 ∨ k ≠ 19) → I2 d k = I d k := fun d k q1 q2 => by rw [b1 d k (by omega), a1 d k (by omega), q_zo q2]
    have fJ : ∀ d k, (d ≠ 1 ∨ 428 ≤ k) → (d ≠ 0 ∨ k ≠ 45) → z2 J1 0 45 (nI mk) d k = J d k := fun d k q1 q2 => by rw [q_zo q2, c2 d k (by omega)]
    have e45 : J1 0 45 = nI (mk + 1) := by rw [c2 0 45 (by omega), h3]
    have hq : q_Q (z1 C 0 (C (mk + 1))) (z1 T 0 (T (mk + 1))) mk I2 L1 (z2 J1 0 45 (nI mk)) K1 := by
      refine ⟨⟨by omega, e19', q_zs, ?_, ?_⟩, ?_, ?_, ⟨?_, ?_⟩, ?_, ?_, ?_, ?_⟩
      · rw [fI _ _ (by omega) (by omega), fJ _ _ (by omega) (by omega), h4]
      · rw [fI _ _ (by omega) (by omega), fJ _ _ (by omega) (by omega), h5]
      · rw [fI _ _ (by omega) (by omega), fJ _ _ (by omega) (by omega), h6]
      · exact h7.go (fI _ _ (by omega) (by omega)) (fun k => fI _ _ (by omega) (by omega)) (fJ _ _ (by omega) (by omega)) (fun k => fJ _ _ (by omega) (by omega))
      · rw [a4 _ _ (by omega), c4 _ _ (by omega), h8]
      · rw [a4 _ _ (by omega), c4 _ _ (by omega), h9]
      · exact fun i hi => (h10 i hi).go (fun k => fI _ _ (by omega) (by omega)) (fun k => a4 _ _ (by omega)) (fJ _ _ (by omega) (by omega)) (fJ _ _ (by omega) (by omega)) (fun k _ => c4 _ _ (by omega))
      · exact h11.go (fI _ _ (by omega) (by omega)) (fun k => fI _ _ (by omega) (by omega)) (fJ _ _ (by omega) (by omega)) (fun k => fJ _ _ (by omega) (by omega))
      · exact h12.go (fun k => a4 _ _ (by omega))
      · intro i hi
        by_cases y : i = 0
        · subst y
          simp only [z1, ↓reduceIte, q_cc, q_cd]
          refine ⟨ax.go (fun d k q1 q2 => b1 d k (by omega)) (fun _ _ _ _ => rfl), hm.mv ok (fun k hk => ?_) (fun k hk => ?_), ok, bt, tm.go tok (fun k hk _ => ?_), tok⟩
          · rw [q_zo (by omega)]; exact c1 k (by omega)
          · exact c3 k (by omega)
          · rw [q_zo (by omega)]; exact c1 k (by omega)
        · simp only [z1, if_neg y]
          have hb := q_cc_b (i := i) (by omega)
          exact (h13 i (by omega)).go (fun e k q1 q2 => fI _ _ (by omega) (by omega)) (fun e k q1 q2 => a4 _ _ (by omega)) (fun e k q1 q2 => fI _ _ (by omega) (by omega)) (fun k q1 q2 => fJ _ _ (by omega) (by omega)) (fun k q1 q2 => c4 _ _ (by omega))
    refine ⟨(nI mk, z2 I2 0 15 0, L1), (nI mk, z2 (z2 J1 0 45 (nI mk)) 0 2 0, K1), ?_, ?_, rfl, (hq.st 0).r⟩
    · simp (disch := omega) only [f_X10_undo, h2, ql_0, ql_1, ql_2, ql_3, ql_4, ql_5, ql_6, ql_7, ql_8, ql_9, ql_10, ql_11, ql_12, ql_13, ql_14, ql_15, ql_16, ql_17, ql_18, ql_19, ql_20, ql_21, ql_22, ql_23, ql_24, ql_27, ql_30, ql_31, ql_32, ql_40, ql_48, ql_51, ql_52, ql_57, ql_59, ql_60, ql_61, ql_62, ql_76, ql_84, ql_91, ql_97, ql_99, ql_100, ql_120, ql_122, ql_127, ql_128, ql_200, ql_255, ql_256, ql_300, ql_420, ql_428, ql_640, ql_900, ql_896, ql_999, ql_1712, ql_1716, ql_1734, ql_1772, ql_1800, ql_1805, ql_1811, ql_1822, ql_2132, ql_2140, ql_3229, ql_9999, ql_11453, ql_65536, ql_100000, ql_1000000, nI_add, pk_mul, q_and, q_or, q_xor, nI_clamp, q_in, q_neg1, q_nno, q_nno', q_annN, q_sh1, q_tbN, nI_leI, nI_ltI, nI_eq, pk_sub, ↓reduceIte, if_pos, if_neg, q_zlt, q_bs, Nat.add_sub_cancel, q_mc, q_mt, hc, e19, ht, e19', f_X10_give]
    · simp (disch := omega) only [f_X11_undo, h3, ql_0, ql_1, ql_2, ql_3, ql_4, ql_5, ql_6, ql_7, ql_8, ql_9, ql_10, ql_11, ql_12, ql_13, ql_14, ql_15, ql_16, ql_17, ql_18, ql_19, ql_20, ql_21, ql_22, ql_23, ql_24, ql_27, ql_30, ql_31, ql_32, ql_40, ql_48, ql_51, ql_52, ql_57, ql_59, ql_60, ql_61, ql_62, ql_76, ql_84, ql_91, ql_97, ql_99, ql_100, ql_120, ql_122, ql_127, ql_128, ql_200, ql_255, ql_256, ql_300, ql_420, ql_428, ql_640, ql_900, ql_896, ql_999, ql_1712, ql_1716, ql_1734, ql_1772, ql_1800, ql_1805, ql_1811, ql_1822, ql_2132, ql_2140, ql_3229, ql_9999, ql_11453, ql_65536, ql_100000, ql_1000000, nI_add, pk_mul, q_and, q_or, q_xor, nI_clamp, q_in, q_neg1, q_nno, q_nno', q_annN, q_sh1, q_tbN, nI_leI, nI_ltI, nI_eq, pk_sub, ↓reduceIte, if_pos, if_neg, q_zlt, q_bs, ec, e45, Nat.add_sub_cancel, f_X11_gives]
