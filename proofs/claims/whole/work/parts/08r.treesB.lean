/-! trees of all sets; think; what was lived -/
theorem q_subA {s t cs : Nat} (h : s &&& cs = s) : (s &&& t) &&& cs = s &&& t := by
  apply Nat.eq_of_testBit_eq
  intro i
  have := congrArg (fun z => Nat.testBit z i) h
  simp only [Nat.testBit_and] at this ⊢
  revert this
  cases s.testBit i <;> cases t.testBit i <;> cases cs.testBit i <;> simp
theorem q_subX {s t cs : Nat} (h : s &&& cs = s) : (s ^^^ (s &&& t)) &&& cs = s ^^^ (s &&& t) := by
  apply Nat.eq_of_testBit_eq
  intro i
  have := congrArg (fun z => Nat.testBit z i) h
  simp only [Nat.testBit_and, Nat.testBit_xor] at this ⊢
  revert this
  cases s.testBit i <;> cases t.testBit i <;> cases cs.testBit i <;> simp
theorem x9_grow {C : q_N} {I : z_I} {L : z_L} (h : q_sx C 3 I L) (ok : q_ok C) {cs : Nat} (h0 : 0 < cs) (hcs : cs < 256) (b : Bool) : ∃ I', f_X9_grow I (nI cs) b = some I' ∧ ((∀ d k, d ≠ 49 → d ≠ 50 → I' d k = I d k) ∧ I' 49 cs = q_eO (q_tz C b cs).1 ∧ I' 50 cs = q_eO (q_tz C b cs).2) := by
  have key := q_lpP (G := fun n k (a : z_I) => g_X9_grow_2 (nI cs) b n (nI k) a) (N := cs + 1) (k0 := 1) (n := z_fuel) (a := I) (Q := fun I' => (∀ d k, d ≠ 49 → d ≠ 50 → I' d k = I d k) ∧ I' 49 cs = q_eO (q_tz C b cs).1 ∧ I' 50 cs = q_eO (q_tz C b cs).2) (fun k I' => (∀ d j, d ≠ 49 → d ≠ 50 → I' d j = I d j) ∧ ∀ u, 0 < u → u < k → u &&& cs = u → I' 49 u = q_eO (q_tz C b u).1 ∧ I' 50 u = q_eO (q_tz C b u).2) (fun n k a hk0 hk hp => ?_) (fun n a hp => ?_) (by omega) (q_fu (by omega)) ⟨fun d j _ _ => rfl, fun u h1 h2 => by omega⟩
  · exact key
  · obtain ⟨p1, p2⟩ := hp
    have l2 : k ^^^ (k &&& cs) < 256 := q_xa_lt (n := 8) (by omega)
    by_cases z : k ^^^ (k &&& cs) = 0
    · have zs : k &&& cs = k := (q_xoz z).symm
      have hg := x9_growOne (h.go (I' := a) (L' := L) (fun d j a1 b1 => p1 d j (by omega) (by omega)) (fun _ _ _ _ => rfl)) ok (s := k) (by omega) (by omega) b (fun j hj z1 z2' => by
        obtain ⟨k1, k2⟩ := q_kids (C 6 j) (s := k) (by omega) z1 z2'
        exact ⟨(p2 _ (by omega) k1 (q_subA zs)).1, (p2 _ (by omega) k2 (q_subX zs)).1⟩)
      refine ⟨z2 (z2 a 49 k (q_eO (q_tz C b k).1)) 50 k (q_eO (q_tz C b k).2), ⟨fun d j d1 d2 => ?_, fun u h1 h2 h3 => ?_⟩, ?_⟩
      · rw [q_zo (Or.inl d2), q_zo (Or.inl d1)]; exact p1 d j d1 d2
      · by_cases y : u = k
        · subst y
          exact ⟨by rw [q_zo (by omega), q_zs], by rw [q_zs]⟩
        · obtain ⟨e1, e2⟩ := p2 u h1 (by omega) h3
          exact ⟨by rw [q_zo (by omega), q_zo (by omega), e1], by rw [q_zo (by omega), q_zo (by omega), e2]⟩
      · show g_X9_grow_2 (nI cs) b (n + 1) (nI k) a = _
        simp (disch := omega) only [g_X9_grow_2, ql_0, ql_1, ql_2, ql_3, ql_4, ql_5, ql_6, ql_7, ql_8, ql_9, ql_10, ql_11, ql_12, ql_13, ql_14, ql_15, ql_16, ql_17, ql_18, ql_19, ql_20, ql_21, ql_22, ql_23, ql_24, ql_27, ql_30, ql_31, ql_32, ql_40, ql_48, ql_51, ql_52, ql_57, ql_59, ql_60, ql_61, ql_62, ql_76, ql_84, ql_91, ql_97, ql_99, ql_100, ql_120, ql_122, ql_127, ql_128, ql_200, ql_255, ql_256, ql_300, ql_420, ql_428, ql_640, ql_900, ql_896, ql_999, ql_1712, ql_1716, ql_1734, ql_1772, ql_1800, ql_1805, ql_1811, ql_1822, ql_2132, ql_2140, ql_3229, ql_9999, ql_11453, ql_65536, ql_100000, ql_1000000, nI_add, pk_mul, q_and, q_or, q_xor, nI_clamp, q_in, q_neg1, q_nno, q_nno', q_annN, q_sh1, q_tbN, nI_leI, nI_ltI, nI_eq, pk_sub, ↓reduceIte, if_pos, if_neg, q_zlt, q_bs, z, hg]
    · refine ⟨a, ⟨p1, fun u h1 h2 h3 => ?_⟩, ?_⟩
      · by_cases y : u = k
        · subst y
          rw [h3, Nat.xor_self] at z
          exact absurd rfl z
        · exact p2 u h1 (by omega) h3
      · show g_X9_grow_2 (nI cs) b (n + 1) (nI k) a = _
        simp (disch := omega) only [g_X9_grow_2, ql_0, ql_1, ql_2, ql_3, ql_4, ql_5, ql_6, ql_7, ql_8, ql_9, ql_10, ql_11, ql_12, ql_13, ql_14, ql_15, ql_16, ql_17, ql_18, ql_19, ql_20, ql_21, ql_22, ql_23, ql_24, ql_27, ql_30, ql_31, ql_32, ql_40, ql_48, ql_51, ql_52, ql_57, ql_59, ql_60, ql_61, ql_62, ql_76, ql_84, ql_91, ql_97, ql_99, ql_100, ql_120, ql_122, ql_127, ql_128, ql_200, ql_255, ql_256, ql_300, ql_420, ql_428, ql_640, ql_900, ql_896, ql_999, ql_1712, ql_1716, ql_1734, ql_1772, ql_1800, ql_1805, ql_1811, ql_1822, ql_2132, ql_2140, ql_3229, ql_9999, ql_11453, ql_65536, ql_100000, ql_1000000, nI_add, pk_mul, q_and, q_or, q_xor, nI_clamp, q_in, q_neg1, q_nno, q_nno', q_annN, q_sh1, q_tbN, nI_leI, nI_ltI, nI_eq, pk_sub, ↓reduceIte, if_pos, if_neg, q_zlt, q_bs, z]
  · obtain ⟨p1, p2⟩ := hp
    refine ⟨a, ?_, p1, p2 cs h0 (by omega) (Nat.and_self _)⟩
    show g_X9_grow_2 (nI cs) b (n + 1) (nI (cs + 1)) a = _
    simp (disch := omega) only [g_X9_grow_2, ql_0, ql_1, ql_2, ql_3, ql_4, ql_5, ql_6, ql_7, ql_8, ql_9, ql_10, ql_11, ql_12, ql_13, ql_14, ql_15, ql_16, ql_17, ql_18, ql_19, ql_20, ql_21, ql_22, ql_23, ql_24, ql_27, ql_30, ql_31, ql_32, ql_40, ql_48, ql_51, ql_52, ql_57, ql_59, ql_60, ql_61, ql_62, ql_76, ql_84, ql_91, ql_97, ql_99, ql_100, ql_120, ql_122, ql_127, ql_128, ql_200, ql_255, ql_256, ql_300, ql_420, ql_428, ql_640, ql_900, ql_896, ql_999, ql_1712, ql_1716, ql_1734, ql_1772, ql_1800, ql_1805, ql_1811, ql_1822, ql_2132, ql_2140, ql_3229, ql_9999, ql_11453, ql_65536, ql_100000, ql_1000000, nI_add, pk_mul, q_and, q_or, q_xor, nI_clamp, q_in, q_neg1, q_nno, q_nno', q_annN, q_sh1, q_tbN, nI_leI, nI_ltI, nI_eq, pk_sub, ↓reduceIte, if_pos, if_neg, q_zlt, q_bs]
theorem m_laysTrees {C : q_N} {m : Nat} {J : z_I} {K : z_L} (h : q_sm C 0 m J K) (ok : q_ok C) (b : Bool) : ∃ J', f_X11_laysTrees J (!b) = some J' ∧ ((∀ d k, d ≠ 13 → d ≠ 14 → J' d k = J d k) ∧ ∀ u, 0 < u → u < 2 ^ C 0 1 → J' 13 u = q_eT (q_tz C b u).1 ∧ J' 14 u = q_eO (q_tz C b u).2) := by
  obtain ⟨o0, o1, o2, o3, -⟩ := id ok
  have hp2 : 2 ^ C 0 1 ≤ 256 := Nat.pow_le_pow_right (j := 8) (by decide) o1
  have hp1 : 1 ≤ 2 ^ C 0 1 := Nat.one_le_two_pow
  have hgo : ∀ {a : z_I}, (∀ d j, d ≠ 13 → d ≠ 14 → a d j = J d j) → q_sm C 0 m a K := fun p1 => h.go ok (fun j a1 b1 => p1 1 j (by omega) (by omega)) (fun _ _ _ => rfl)
  have key := q_lpP (G := fun n k (a : z_I) => g_X11_laysTrees_2 (!b) n (nI k) a) (N := 2 ^ C 0 1) (k0 := 1) (n := z_fuel) (a := J) (Q := fun J' => (∀ d k, d ≠ 13 → d ≠ 14 → J' d k = J d k) ∧ ∀ u, 0 < u → u < 2 ^ C 0 1 → J' 13 u = q_eT (q_tz C b u).1 ∧ J' 14 u = q_eO (q_tz C b u).2) (fun k J' => (∀ d j, d ≠ 13 → d ≠ 14 → J' d j = J d j) ∧ ∀ u, 0 < u → u < k → J' 13 u = q_eT (q_tz C b u).1 ∧ J' 14 u = q_eO (q_tz C b u).2) (fun n k a hk0 hk hp => ?_) (fun n a hp => ?_) (by omega) (q_fu (by omega)) ⟨fun d j _ _ => rfl, fun u h1 h2 => by omega⟩
  · exact key
  · obtain ⟨p1, p2⟩ := hp
    have hg := m_laysTree (hgo p1) ok (s := k) (by omega) (by omega) b (fun j hj z1 z2' => by
      obtain ⟨k1, k2⟩ := q_kids (C 6 j) (s := k) (by omega) z1 z2'
      exact ⟨(p2 _ (by omega) k1).1, (p2 _ (by omega) k2).1⟩)
    have ha := m_allCases (hgo p1) ok
    refine ⟨z2 (z2 a 13 k (q_eT (q_tz C b k).1)) 14 k (q_eO (q_tz C b k).2), ⟨fun d j d1 d2 => ?_, fun u h1 h2 => ?_⟩, ?_⟩
    · rw [q_zo (Or.inl d2), q_zo (Or.inl d1)]; exact p1 d j d1 d2
    · by_cases y : u = k
      · subst y
        exact ⟨by rw [q_zo (by omega), q_zs], by rw [q_zs]⟩
      · obtain ⟨e1, e2⟩ := p2 u h1 (by omega)
        exact ⟨by rw [q_zo (by omega), q_zo (by omega), e1], by rw [q_zo (by omega), q_zo (by omega), e2]⟩
    · show g_X11_laysTrees_2 (!b) (n + 1) (nI k) a = _
      simp (disch := omega) only [g_X11_laysTrees_2, ha, ql_0, ql_1, ql_2, ql_3, ql_4, ql_5, ql_6, ql_7, ql_8, ql_9, ql_10, ql_11, ql_12, ql_13, ql_14, ql_15, ql_16, ql_17, ql_18, ql_19, ql_20, ql_21, ql_22, ql_23, ql_24, ql_27, ql_30, ql_31, ql_32, ql_40, ql_48, ql_51, ql_52, ql_57, ql_59, ql_60, ql_61, ql_62, ql_76, ql_84, ql_91, ql_97, ql_99, ql_100, ql_120, ql_122, ql_127, ql_128, ql_200, ql_255, ql_256, ql_300, ql_420, ql_428, ql_640, ql_900, ql_896, ql_999, ql_1712, ql_1716, ql_1734, ql_1772, ql_1800, ql_1805, ql_1811, ql_1822, ql_2132, ql_2140, ql_3229, ql_9999, ql_11453, ql_65536, ql_100000, ql_1000000, nI_add, pk_mul, q_and, q_or, q_xor, nI_clamp, q_in, q_neg1, q_nno, q_nno', q_annN, q_sh1, q_tbN, nI_leI, nI_ltI, nI_eq, pk_sub, ↓reduceIte, if_pos, if_neg, q_zlt, q_bs, hg]
  · obtain ⟨p1, p2⟩ := hp
    have ha := m_allCases (hgo p1) ok
    refine ⟨a, ?_, p1, p2⟩
    show g_X11_laysTrees_2 (!b) (n + 1) (nI (2 ^ C 0 1)) a = _
    simp (disch := omega) only [g_X11_laysTrees_2, ha, ql_0, ql_1, ql_2, ql_3, ql_4, ql_5, ql_6, ql_7, ql_8, ql_9, ql_10, ql_11, ql_12, ql_13, ql_14, ql_15, ql_16, ql_17, ql_18, ql_19, ql_20, ql_21, ql_22, ql_23, ql_24, ql_27, ql_30, ql_31, ql_32, ql_40, ql_48, ql_51, ql_52, ql_57, ql_59, ql_60, ql_61, ql_62, ql_76, ql_84, ql_91, ql_97, ql_99, ql_100, ql_120, ql_122, ql_127, ql_128, ql_200, ql_255, ql_256, ql_300, ql_420, ql_428, ql_640, ql_900, ql_896, ql_999, ql_1712, ql_1716, ql_1734, ql_1772, ql_1800, ql_1805, ql_1811, ql_1822, ql_2132, ql_2140, ql_3229, ql_9999, ql_11453, ql_65536, ql_100000, ql_1000000, nI_add, pk_mul, q_and, q_or, q_xor, nI_clamp, q_in, q_neg1, q_nno, q_nno', q_annN, q_sh1, q_tbN, nI_leI, nI_ltI, nI_eq, pk_sub, ↓reduceIte, if_pos, if_neg, q_zlt, q_bs]
theorem q_tree {C T : Nat → q_N} {mk : Nat} {I : z_I} {L : z_L} {J : z_I} {K : z_L} (h : q_Q C T mk I L J K) (p0 : Int32) (b : Bool) : (f_X10_isSetOfSome I p0 = false ∧ (f_X11_areCases J p0.toInt64 = false ∨ p0 = 0)) ∨ ∃ cs, 0 < cs ∧ cs < 256 ∧ p0 = nI cs ∧ f_X10_isSetOfSome I p0 = true ∧ f_X11_areCases J p0.toInt64 = true ∧ ∃ I' J', f_X9_grow I p0 b = some I' ∧ f_X11_laysTrees J (!b) = some J' ∧ q_R I' L J' K ∧ I' 49 cs = q_eO (q_tz (C 0) b cs).1 ∧ I' 50 cs = q_eO (q_tz (C 0) b cs).2 ∧ J' 13 cs = q_eT (q_tz (C 0) b cs).1 ∧ J' 14 cs = q_eO (q_tz (C 0) b cs).2 := by
  obtain ⟨hx, hm, ok, -⟩ := h.o
  obtain ⟨o0, o1, o2, o3, -⟩ := id ok
  have hp2 := q_pow (n := C 0 0 1) (by omega)
  by_cases z : p0 = 0
  · exact Or.inl ⟨by unfold f_X10_isSetOfSome; rw [if_pos z], Or.inr z⟩
  cases hb : q_hs (2 ^ C 0 0 1) p0 with
  | false => exact Or.inl ⟨by unfold f_X10_isSetOfSome; rw [if_neg z, x0_hasCases hx ok, hb]; rfl, Or.inl (by rw [m_areCases hm ok, hb])⟩
  | true =>
    obtain ⟨cs, hcs, rfl⟩ := q_hs_t hb hp2
    have h8 := q_p8 o1 hcs
    have h0 : 0 < cs := Nat.pos_of_ne_zero (fun y => z (by rw [y]; rfl))
    obtain ⟨I', e1, f1, g1, g2⟩ := x9_grow hx ok h0 h8 b
    obtain ⟨J', e2, f2, g3⟩ := m_laysTrees hm ok b
    refine Or.inr ⟨cs, h0, h8, rfl, by unfold f_X10_isSetOfSome; rw [if_neg z, x0_hasCases hx ok, hb]; rfl, by rw [m_areCases hm ok, hb], I', J', e1, e2, (h.fr (fun d k y => f1 d k ?_ ?_) (fun _ _ _ => rfl) (fun d k y => f2 d k ?_ ?_) (fun _ _ _ => rfl)).r, g1, g2, g3 cs h0 hcs⟩ <;> first | (unfold q_rI at y; omega) | (unfold q_rJ at y; omega)
theorem q_least {I' : z_I} {L : z_L} {J' : z_I} {K : z_L} {A B : Option (Int32 × z_I)} (hR : q_R I' L J' K) (a : Option Nat) (ha : ∀ v, a = some v → v < 1000000) (hX : A = some (f_X10_giveIfAny I' (q_eO a))) (hM : B = if q_eT a < nI 1000000 then some (f_X11_gives J' (q_eT a)) else some (f_X11_refuse J' (nI 6))) : ∃ (qX : Int32 × z_I) (qM : Int32 × z_I), A = some qX ∧ B = some qM ∧ qX.1 = qM.1 ∧ q_R qX.2 L qM.2 K := by
  refine q_endO hR a (fun v hv => by have := ha v hv; omega) hX ?_
  rw [hM]
  cases a with
  | none => rw [if_neg (show ¬ q_eT none < nI 1000000 from nI_nlt (Nat.le_refl _) (by decide))]; rfl
  | some v =>
    have := ha v rfl
    rw [if_pos (show q_eT (some v) < nI 1000000 from nI_lt this (by decide))]
    simp (disch := omega) only [f_X11_orNone, q_eO, q_eT, ql_0, ql_1, ql_2, ql_3, ql_4, ql_5, ql_6, ql_7, ql_8, ql_9, ql_10, ql_11, ql_12, ql_13, ql_14, ql_15, ql_16, ql_17, ql_18, ql_19, ql_20, ql_21, ql_22, ql_23, ql_24, ql_27, ql_30, ql_31, ql_32, ql_40, ql_48, ql_51, ql_52, ql_57, ql_59, ql_60, ql_61, ql_62, ql_76, ql_84, ql_91, ql_97, ql_99, ql_100, ql_120, ql_122, ql_127, ql_128, ql_200, ql_255, ql_256, ql_300, ql_420, ql_428, ql_640, ql_900, ql_896, ql_999, ql_1712, ql_1716, ql_1734, ql_1772, ql_1800, ql_1805, ql_1811, ql_1822, ql_2132, ql_2140, ql_3229, ql_9999, ql_11453, ql_65536, ql_100000, ql_1000000, nI_add, pk_mul, q_and, q_or, q_xor, nI_clamp, q_in, q_neg1, q_nno, q_nno', q_annN, q_sh1, q_tbN, nI_leI, nI_ltI, nI_eq, pk_sub, ↓reduceIte, if_pos, if_neg, q_zlt, q_bs]
theorem q_tz_lt {C : q_N} (ok : q_ok C) {b : Bool} {s : Nat} (hs : s < 256) : ∀ v, (q_tz C b s).1 = some v → v < 1000000 := fun v hv => by
  have := (q_tz_le ok (b := b) hs).1 v hv
  have := q_pc8 hs
  omega
theorem r_deep : s_deep q_R := by
  intro I L J K p0 hR
  obtain ⟨C, T, mk, h⟩ := id hR
  rcases q_tree h p0 false with ⟨h1, h2⟩ | ⟨cs, h0, h8, rfl, h1, h2, I', J', e1, e2, hR', g1, g2, g3, g4⟩
  · refine q_end (-1) 1 (I := I) (J := J) (by simp only [f_X10_deep, h1]; rfl) ?_ hR
    rcases h2 with h2 | h2
    · simp only [f_X11_deep, f_X11_leastTree, h2]; rfl
    · subst h2; simp only [f_X11_deep, f_X11_leastTree]; split <;> rfl
  · refine q_least hR' (q_tz (C 0) false cs).1 (q_tz_lt h.o.2.2.1 h8) ?_ ?_
    · simp (disch := omega) only [f_X10_deep, h1, e1, ql_0, ql_1, ql_2, ql_3, ql_4, ql_5, ql_6, ql_7, ql_8, ql_9, ql_10, ql_11, ql_12, ql_13, ql_14, ql_15, ql_16, ql_17, ql_18, ql_19, ql_20, ql_21, ql_22, ql_23, ql_24, ql_27, ql_30, ql_31, ql_32, ql_40, ql_48, ql_51, ql_52, ql_57, ql_59, ql_60, ql_61, ql_62, ql_76, ql_84, ql_91, ql_97, ql_99, ql_100, ql_120, ql_122, ql_127, ql_128, ql_200, ql_255, ql_256, ql_300, ql_420, ql_428, ql_640, ql_900, ql_896, ql_999, ql_1712, ql_1716, ql_1734, ql_1772, ql_1800, ql_1805, ql_1811, ql_1822, ql_2132, ql_2140, ql_3229, ql_9999, ql_11453, ql_65536, ql_100000, ql_1000000, nI_add, pk_mul, q_and, q_or, q_xor, nI_clamp, q_in, q_neg1, q_nno, q_nno', q_annN, q_sh1, q_tbN, nI_leI, nI_ltI, nI_eq, pk_sub, ↓reduceIte, if_pos, if_neg, q_zlt, q_bs, g1]
    · simp (disch := omega) only [f_X11_deep, f_X11_leastTree, h2, e2, ql_0, ql_1, ql_2, ql_3, ql_4, ql_5, ql_6, ql_7, ql_8, ql_9, ql_10, ql_11, ql_12, ql_13, ql_14, ql_15, ql_16, ql_17, ql_18, ql_19, ql_20, ql_21, ql_22, ql_23, ql_24, ql_27, ql_30, ql_31, ql_32, ql_40, ql_48, ql_51, ql_52, ql_57, ql_59, ql_60, ql_61, ql_62, ql_76, ql_84, ql_91, ql_97, ql_99, ql_100, ql_120, ql_122, ql_127, ql_128, ql_200, ql_255, ql_256, ql_300, ql_420, ql_428, ql_640, ql_900, ql_896, ql_999, ql_1712, ql_1716, ql_1734, ql_1772, ql_1800, ql_1805, ql_1811, ql_1822, ql_2132, ql_2140, ql_3229, ql_9999, ql_11453, ql_65536, ql_100000, ql_1000000, nI_add, pk_mul, q_and, q_or, q_xor, nI_clamp, q_in, q_neg1, q_nno, q_nno', q_annN, q_sh1, q_tbN, nI_leI, nI_ltI, nI_eq, pk_sub, ↓reduceIte, if_pos, if_neg, q_zlt, q_bs, g3, Bool.not_false, Bool.not_true] at e2 ⊢
      simp (disch := omega) only [e2, g3, ql_0, ql_1, ql_2, ql_3, ql_4, ql_5, ql_6, ql_7, ql_8, ql_9, ql_10, ql_11, ql_12, ql_13, ql_14, ql_15, ql_16, ql_17, ql_18, ql_19, ql_20, ql_21, ql_22, ql_23, ql_24, ql_27, ql_30, ql_31, ql_32, ql_40, ql_48, ql_51, ql_52, ql_57, ql_59, ql_60, ql_61, ql_62, ql_76, ql_84, ql_91, ql_97, ql_99, ql_100, ql_120, ql_122, ql_127, ql_128, ql_200, ql_255, ql_256, ql_300, ql_420, ql_428, ql_640, ql_900, ql_896, ql_999, ql_1712, ql_1716, ql_1734, ql_1772, ql_1800, ql_1805, ql_1811, ql_1822, ql_2132, ql_2140, ql_3229, ql_9999, ql_11453, ql_65536, ql_100000, ql_1000000, nI_add, pk_mul, q_and, q_or, q_xor, nI_clamp, q_in, q_neg1, q_nno, q_nno', q_annN, q_sh1, q_tbN, nI_leI, nI_ltI, nI_eq, pk_sub, ↓reduceIte, if_pos, if_neg, q_zlt, q_bs]
      split <;> rfl
theorem r_dear : s_dear q_R := by
  intro I L J K p0 hR
  obtain ⟨C, T, mk, h⟩ := id hR
  rcases q_tree h p0 true with ⟨h1, h2⟩ | ⟨cs, h0, h8, rfl, h1, h2, I', J', e1, e2, hR', g1, g2, g3, g4⟩
  · refine q_end (-1) 1 (I := I) (J := J) (by simp only [f_X10_dear, h1]; rfl) ?_ hR
    rcases h2 with h2 | h2
    · simp only [f_X11_dear, f_X11_leastTree, h2]; rfl
    · subst h2; simp only [f_X11_dear, f_X11_leastTree]; split <;> rfl
  · refine q_least hR' (q_tz (C 0) true cs).1 (q_tz_lt h.o.2.2.1 h8) ?_ ?_
    · simp (disch := omega) only [f_X10_dear, h1, e1, ql_0, ql_1, ql_2, ql_3, ql_4, ql_5, ql_6, ql_7, ql_8, ql_9, ql_10, ql_11, ql_12, ql_13, ql_14, ql_15, ql_16, ql_17, ql_18, ql_19, ql_20, ql_21, ql_22, ql_23, ql_24, ql_27, ql_30, ql_31, ql_32, ql_40, ql_48, ql_51, ql_52, ql_57, ql_59, ql_60, ql_61, ql_62, ql_76, ql_84, ql_91, ql_97, ql_99, ql_100, ql_120, ql_122, ql_127, ql_128, ql_200, ql_255, ql_256, ql_300, ql_420, ql_428, ql_640, ql_900, ql_896, ql_999, ql_1712, ql_1716, ql_1734, ql_1772, ql_1800, ql_1805, ql_1811, ql_1822, ql_2132, ql_2140, ql_3229, ql_9999, ql_11453, ql_65536, ql_100000, ql_1000000, nI_add, pk_mul, q_and, q_or, q_xor, nI_clamp, q_in, q_neg1, q_nno, q_nno', q_annN, q_sh1, q_tbN, nI_leI, nI_ltI, nI_eq, pk_sub, ↓reduceIte, if_pos, if_neg, q_zlt, q_bs, g1]
    · simp (disch := omega) only [f_X11_dear, f_X11_leastTree, h2, e2, ql_0, ql_1, ql_2, ql_3, ql_4, ql_5, ql_6, ql_7, ql_8, ql_9, ql_10, ql_11, ql_12, ql_13, ql_14, ql_15, ql_16, ql_17, ql_18, ql_19, ql_20, ql_21, ql_22, ql_23, ql_24, ql_27, ql_30, ql_31, ql_32, ql_40, ql_48, ql_51, ql_52, ql_57, ql_59, ql_60, ql_61, ql_62, ql_76, ql_84, ql_91, ql_97, ql_99, ql_100, ql_120, ql_122, ql_127, ql_128, ql_200, ql_255, ql_256, ql_300, ql_420, ql_428, ql_640, ql_900, ql_896, ql_999, ql_1712, ql_1716, ql_1734, ql_1772, ql_1800, ql_1805, ql_1811, ql_1822, ql_2132, ql_2140, ql_3229, ql_9999, ql_11453, ql_65536, ql_100000, ql_1000000, nI_add, pk_mul, q_and, q_or, q_xor, nI_clamp, q_in, q_neg1, q_nno, q_nno', q_annN, q_sh1, q_tbN, nI_leI, nI_ltI, nI_eq, pk_sub, ↓reduceIte, if_pos, if_neg, q_zlt, q_bs, g3, Bool.not_false, Bool.not_true] at e2 ⊢
      simp (disch := omega) only [e2, g3, ql_0, ql_1, ql_2, ql_3, ql_4, ql_5, ql_6, ql_7, ql_8, ql_9, ql_10, ql_11, ql_12, ql_13, ql_14, ql_15, ql_16, ql_17, ql_18, ql_19, ql_20, ql_21, ql_22, ql_23, ql_24, ql_27, ql_30, ql_31, ql_32, ql_40, ql_48, ql_51, ql_52, ql_57, ql_59, ql_60, ql_61, ql_62, ql_76, ql_84, ql_91, ql_97, ql_99, ql_100, ql_120, ql_122, ql_127, ql_128, ql_200, ql_255, ql_256, ql_300, ql_420, ql_428, ql_640, ql_900, ql_896, ql_999, ql_1712, ql_1716, ql_1734, ql_1772, ql_1800, ql_1805, ql_1811, ql_1822, ql_2132, ql_2140, ql_3229, ql_9999, ql_11453, ql_65536, ql_100000, ql_1000000, nI_add, pk_mul, q_and, q_or, q_xor, nI_clamp, q_in, q_neg1, q_nno, q_nno', q_annN, q_sh1, q_tbN, nI_leI, nI_ltI, nI_eq, pk_sub, ↓reduceIte, if_pos, if_neg, q_zlt, q_bs]
      split <;> rfl
theorem r_askDeep : s_askDeep q_R := by
  intro I L J K p0 hR
  obtain ⟨C, T, mk, h⟩ := id hR
  have o2 := h.o.2.2.1.2.2.1
  rcases q_tree h p0 false with ⟨h1, h2⟩ | ⟨cs, h0, h8, rfl, h1, h2, I', J', e1, e2, hR', g1, g2, g3, g4⟩
  · refine q_end (-1) 1 (I := I) (J := J) (by simp only [f_X10_askDeep, h1]; rfl) ?_ hR
    rcases h2 with h2 | h2
    · simp only [f_X11_askDeep, f_X11_askedFirst, h2]; rfl
    · subst h2; simp only [f_X11_askDeep, f_X11_askedFirst]; split <;> rfl
  · refine q_endO hR' (q_tz (C 0) false cs).2 (fun v hv => by have := (q_tz_le h.o.2.2.1 h8).2 v hv; omega) ?_ ?_
    · simp (disch := omega) only [f_X10_askDeep, h1, e1, ql_0, ql_1, ql_2, ql_3, ql_4, ql_5, ql_6, ql_7, ql_8, ql_9, ql_10, ql_11, ql_12, ql_13, ql_14, ql_15, ql_16, ql_17, ql_18, ql_19, ql_20, ql_21, ql_22, ql_23, ql_24, ql_27, ql_30, ql_31, ql_32, ql_40, ql_48, ql_51, ql_52, ql_57, ql_59, ql_60, ql_61, ql_62, ql_76, ql_84, ql_91, ql_97, ql_99, ql_100, ql_120, ql_122, ql_127, ql_128, ql_200, ql_255, ql_256, ql_300, ql_420, ql_428, ql_640, ql_900, ql_896, ql_999, ql_1712, ql_1716, ql_1734, ql_1772, ql_1800, ql_1805, ql_1811, ql_1822, ql_2132, ql_2140, ql_3229, ql_9999, ql_11453, ql_65536, ql_100000, ql_1000000, nI_add, pk_mul, q_and, q_or, q_xor, nI_clamp, q_in, q_neg1, q_nno, q_nno', q_annN, q_sh1, q_tbN, nI_leI, nI_ltI, nI_eq, pk_sub, ↓reduceIte, if_pos, if_neg, q_zlt, q_bs, g2]
    · simp (disch := omega) only [f_X11_askDeep, f_X11_askedFirst, h2, e2, ql_0, ql_1, ql_2, ql_3, ql_4, ql_5, ql_6, ql_7, ql_8, ql_9, ql_10, ql_11, ql_12, ql_13, ql_14, ql_15, ql_16, ql_17, ql_18, ql_19, ql_20, ql_21, ql_22, ql_23, ql_24, ql_27, ql_30, ql_31, ql_32, ql_40, ql_48, ql_51, ql_52, ql_57, ql_59, ql_60, ql_61, ql_62, ql_76, ql_84, ql_91, ql_97, ql_99, ql_100, ql_120, ql_122, ql_127, ql_128, ql_200, ql_255, ql_256, ql_300, ql_420, ql_428, ql_640, ql_900, ql_896, ql_999, ql_1712, ql_1716, ql_1734, ql_1772, ql_1800, ql_1805, ql_1811, ql_1822, ql_2132, ql_2140, ql_3229, ql_9999, ql_11453, ql_65536, ql_100000, ql_1000000, nI_add, pk_mul, q_and, q_or, q_xor, nI_clamp, q_in, q_neg1, q_nno, q_nno', q_annN, q_sh1, q_tbN, nI_leI, nI_ltI, nI_eq, pk_sub, ↓reduceIte, if_pos, if_neg, q_zlt, q_bs, g4, Bool.not_false, Bool.not_true] at e2 ⊢
      simp (disch := omega) only [e2, g4, ql_0, ql_1, ql_2, ql_3, ql_4, ql_5, ql_6, ql_7, ql_8, ql_9, ql_10, ql_11, ql_12, ql_13, ql_14, ql_15, ql_16, ql_17, ql_18, ql_19, ql_20, ql_21, ql_22, ql_23, ql_24, ql_27, ql_30, ql_31, ql_32, ql_40, ql_48, ql_51, ql_52, ql_57, ql_59, ql_60, ql_61, ql_62, ql_76, ql_84, ql_91, ql_97, ql_99, ql_100, ql_120, ql_122, ql_127, ql_128, ql_200, ql_255, ql_256, ql_300, ql_420, ql_428, ql_640, ql_900, ql_896, ql_999, ql_1712, ql_1716, ql_1734, ql_1772, ql_1800, ql_1805, ql_1811, ql_1822, ql_2132, ql_2140, ql_3229, ql_9999, ql_11453, ql_65536, ql_100000, ql_1000000, nI_add, pk_mul, q_and, q_or, q_xor, nI_clamp, q_in, q_neg1, q_nno, q_nno', q_annN, q_sh1, q_tbN, nI_leI, nI_ltI, nI_eq, pk_sub, ↓reduceIte, if_pos, if_neg, q_zlt, q_bs]
theorem r_askDear : s_askDear q_R := by
  intro I L J K p0 hR
  obtain ⟨C, T, mk, h⟩ := id hR
  have o2 := h.o.2.2.1.2.2.1
  rcases q_tree h p0 true with ⟨h1, h2⟩ | ⟨cs, h0, h8, rfl, h1, h2, I', J', e1, e2, hR', g1, g2, g3, g4⟩
  · refine q_end (-1) 1 (I := I) (J := J) (by simp only [f_X10_askDear, h1]; rfl) ?_ hR
    rcases h2 with h2 | h2
    · simp only [f_X11_askDear, f_X11_askedFirst, h2]; rfl
    · subst h2; simp only [f_X11_askDear, f_X11_askedFirst]; split <;> rfl
  · refine q_endO hR' (q_tz (C 0) true cs).2 (fun v hv => by have := (q_tz_le h.o.2.2.1 h8).2 v hv; omega) ?_ ?_
    · simp (disch := omega) only [f_X10_askDear, h1, e1, ql_0, ql_1, ql_2, ql_3, ql_4, ql_5, ql_6, ql_7, ql_8, ql_9, ql_10, ql_11, ql_12, ql_13, ql_14, ql_15, ql_16, ql_17, ql_18, ql_19, ql_20, ql_21, ql_22, ql_23, ql_24, ql_27, ql_30, ql_31, ql_32, ql_40, ql_48, ql_51, ql_52, ql_57, ql_59, ql_60, ql_61, ql_62, ql_76, ql_84, ql_91, ql_97, ql_99, ql_100, ql_120, ql_122, ql_127, ql_128, ql_200, ql_255, ql_256, ql_300, ql_420, ql_428, ql_640, ql_900, ql_896, ql_999, ql_1712, ql_1716, ql_1734, ql_1772, ql_1800, ql_1805, ql_1811, ql_1822, ql_2132, ql_2140, ql_3229, ql_9999, ql_11453, ql_65536, ql_100000, ql_1000000, nI_add, pk_mul, q_and, q_or, q_xor, nI_clamp, q_in, q_neg1, q_nno, q_nno', q_annN, q_sh1, q_tbN, nI_leI, nI_ltI, nI_eq, pk_sub, ↓reduceIte, if_pos, if_neg, q_zlt, q_bs, g2]
    · simp (disch := omega) only [f_X11_askDear, f_X11_askedFirst, h2, e2, ql_0, ql_1, ql_2, ql_3, ql_4, ql_5, ql_6, ql_7, ql_8, ql_9, ql_10, ql_11, ql_12, ql_13, ql_14, ql_15, ql_16, ql_17, ql_18, ql_19, ql_20, ql_21, ql_22, ql_23, ql_24, ql_27, ql_30, ql_31, ql_32, ql_40, ql_48, ql_51, ql_52, ql_57, ql_59, ql_60, ql_61, ql_62, ql_76, ql_84, ql_91, ql_97, ql_99, ql_100, ql_120, ql_122, ql_127, ql_128, ql_200, ql_255, ql_256, ql_300, ql_420, ql_428, ql_640, ql_900, ql_896, ql_999, ql_1712, ql_1716, ql_1734, ql_1772, ql_1800, ql_1805, ql_1811, ql_1822, ql_2132, ql_2140, ql_3229, ql_9999, ql_11453, ql_65536, ql_100000, ql_1000000, nI_add, pk_mul, q_and, q_or, q_xor, nI_clamp, q_in, q_neg1, q_nno, q_nno', q_annN, q_sh1, q_tbN, nI_leI, nI_ltI, nI_eq, pk_sub, ↓reduceIte, if_pos, if_neg, q_zlt, q_bs, g4, Bool.not_false, Bool.not_true] at e2 ⊢
      simp (disch := omega) only [e2, g4, ql_0, ql_1, ql_2, ql_3, ql_4, ql_5, ql_6, ql_7, ql_8, ql_9, ql_10, ql_11, ql_12, ql_13, ql_14, ql_15, ql_16, ql_17, ql_18, ql_19, ql_20, ql_21, ql_22, ql_23, ql_24, ql_27, ql_30, ql_31, ql_32, ql_40, ql_48, ql_51, ql_52, ql_57, ql_59, ql_60, ql_61, ql_62, ql_76, ql_84, ql_91, ql_97, ql_99, ql_100, ql_120, ql_122, ql_127, ql_128, ql_200, ql_255, ql_256, ql_300, ql_420, ql_428, ql_640, ql_900, ql_896, ql_999, ql_1712, ql_1716, ql_1734, ql_1772, ql_1800, ql_1805, ql_1811, ql_1822, ql_2132, ql_2140, ql_3229, ql_9999, ql_11453, ql_65536, ql_100000, ql_1000000, nI_add, pk_mul, q_and, q_or, q_xor, nI_clamp, q_in, q_neg1, q_nno, q_nno', q_annN, q_sh1, q_tbN, nI_leI, nI_ltI, nI_eq, pk_sub, ↓reduceIte, if_pos, if_neg, q_zlt, q_bs]
theorem r_lived : s_lived q_R := by
  intro I L J K p0 hR
  obtain ⟨C, T, mk, h⟩ := id hR
  have hl := h.2.2.2.2.2.1
  cases hb : f_X10_isWithin p0 (nI 0) (nI 4) with
  | false =>
    refine q_end (-1) 1 (I := I) (J := J) ?_ ?_ hR
    · unfold f_X10_lived; rw [show f_X10_isWithin p0 0 4 = false from hb]; rfl
    · unfold f_X10_isWithin at hb
      unfold f_X11_lived
      by_cases z : p0 < 0
      · rw [if_pos z]; rfl
      · rw [if_neg z]
        rw [if_neg (show ¬ p0 < nI 0 from z)] at hb
        by_cases z2' : nI 4 < p0
        · rw [if_neg (show ¬ p0 ≤ 4 from Int32.not_le.2 z2')]; rfl
        · rw [if_neg z2'] at hb; cases hb
  | true =>
    obtain ⟨j, -, hj, rfl⟩ := q_wi_t hb (by decide) (by decide)
    rcases hl with ⟨a, b⟩ | ⟨a, b, c⟩
    · refine q_end (-1) 6 (I := I) (J := J) ?_ ?_ hR
      · unfold f_X10_lived; rw [show f_X10_isWithin (nI j) 0 4 = true from hb, a]; rfl
      · unfold f_X11_lived; rw [if_neg (nI_pos (by omega)), if_pos (show nI j ≤ 4 from nI_le hj (by decide)), b]; rfl
    · refine q_end (J 22 j) 0 (I := I) (J := J) ?_ ?_ hR
      · unfold f_X10_lived; rw [show f_X10_isWithin (nI j) 0 4 = true from hb, a, if_pos (show true = true from rfl), if_pos (show zn 1 = true from rfl), if_pos (q_in (by omega) (by decide)), nI_clamp (by omega), c j (by omega)]; rfl
      · unfold f_X11_lived; rw [if_neg (nI_pos (by omega)), if_pos (show nI j ≤ 4 from nI_le hj (by decide)), b, if_pos (show zn 1 = true from rfl), if_pos (q_in (by omega) (by decide)), nI_clamp (by omega)]; rfl
