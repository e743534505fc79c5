/-! the fewest that part all; think -/
theorem q_allK {β : Type} {G : Nat → Nat → Option β} {N : Nat} {p : Nat → Prop} {r0 r1 : Option β} (hs : ∀ n k, k < N → (p k ∧ G (n + 1) k = G n (k + 1)) ∨ (¬ p k ∧ G (n + 1) k = r0)) (he : ∀ n, G (n + 1) N = r1) : ∀ n k, k ≤ N → N - k < n → ((∀ j, k ≤ j → j < N → p j) ∧ G n k = r1) ∨ (¬ (∀ j, k ≤ j → j < N → p j) ∧ G n k = r0) := by
  intro n
  induction n with
  | zero => intro k _ h; omega
  | succ n ih =>
    intro k hk hn
    by_cases z : k = N
    · subst z
      exact Or.inl ⟨fun j a b => by omega, he n⟩
    · rcases hs n k (by omega) with ⟨h1, h2⟩ | ⟨h1, h2⟩
      · rw [h2]
        rcases ih (k + 1) (by omega) (by omega) with ⟨h3, h4⟩ | ⟨h3, h4⟩
        · refine Or.inl ⟨fun j a b => ?_, h4⟩
          by_cases y : j = k
          · subst y; exact h1
          · exact h3 j (by omega) b
        · exact Or.inr ⟨fun y => h3 (fun j a b => y j (by omega) b), h4⟩
      · exact Or.inr ⟨fun y => h1 (y k (Nat.le_refl _) (by omega)), h2⟩
theorem q_p27 {n : Nat} (h : n ≤ 7) : 2 ^ n ≤ 128 := Nat.pow_le_pow_right (j := 7) (by decide) h
theorem q_pg_b (C : q_N) (a b n c : Nat) : (q_pg C a b n).testBit c = true ↔ c < n ∧ (C 6 c).testBit a ≠ (C 6 c).testBit b := by
  induction n with
  | zero =>
    show (0 : Nat).testBit c = true ↔ _
    rw [Nat.zero_testBit]
    constructor
    · intro h; cases h
    · intro h; omega
  | succ n ih =>
    have e : q_pg C a b (n + 1) = if (C 6 n).testBit a = (C 6 n).testBit b then q_pg C a b n else q_pg C a b n ||| 2 ^ n := rfl
    rw [e]
    by_cases z : (C 6 n).testBit a = (C 6 n).testBit b
    · rw [if_pos z, ih]
      constructor
      · rintro ⟨h1, h2⟩; exact ⟨by omega, h2⟩
      · rintro ⟨h1, h2⟩
        refine ⟨?_, h2⟩
        by_cases y : c = n
        · subst y; exact absurd z h2
        · omega
    · rw [if_neg z, Nat.testBit_or, Nat.testBit_two_pow, Bool.or_eq_true, ih, decide_eq_true_iff]
      constructor
      · rintro (⟨h1, h2⟩ | h1)
        · exact ⟨by omega, h2⟩
        · subst h1; exact ⟨by omega, z⟩
      · rintro ⟨h1, h2⟩
        by_cases y : n = c
        · exact Or.inr y
        · exact Or.inl ⟨by omega, h2⟩
theorem q_pg_0 {C : q_N} {a b cl : Nat} (hb : b < C 0 1) : (q_pg C a b (C 0 2) &&& cl = 0) ↔ (q_pt C cl a).testBit b = true := by
  rw [q_pt_b]
  constructor
  · intro h
    refine ⟨hb, fun c hc hm => ?_⟩
    have h1 := congrArg (fun z => z.testBit c) h
    simp only [Nat.testBit_and, Nat.zero_testBit, hm, Bool.and_true] at h1
    by_cases z : (C 6 c).testBit b = (C 6 c).testBit a
    · exact z
    · have := (q_pg_b C a b (C 0 2) c).2 ⟨hc, fun y => z y.symm⟩
      rw [h1] at this; cases this
  · rintro ⟨-, h⟩
    apply Nat.eq_of_testBit_eq
    intro c
    rw [Nat.testBit_and, Nat.zero_testBit]
    cases hm : cl.testBit c with
    | false => rw [Bool.and_false]
    | true =>
      rw [Bool.and_true]
      cases hg : (q_pg C a b (C 0 2)).testBit c with
      | false => rfl
      | true =>
        obtain ⟨h1, h2⟩ := (q_pg_b C a b _ c).1 hg
        exact absurd (h c h1 hm).symm h2
/-- some claims part all of some cases -/
def q_PA (C : q_N) (cl cs : Nat) : Prop := ∀ a, a < C 0 1 → ∀ b, b < C 0 1 → cs.testBit a = true → cs.testBit b = true → (q_pt C cl a).testBit b = true → a = b
noncomputable def q_pab (C : q_N) (cl cs : Nat) : Bool := @decide (q_PA C cl cs) (Classical.propDecidable _)
theorem q_pab_t {C : q_N} {cl cs : Nat} : q_pab C cl cs = true ↔ q_PA C cl cs := @decide_eq_true_iff _ (Classical.propDecidable _)
theorem q_pab_of {C : q_N} {cl cs : Nat} {P : Prop} {A : Option Bool} (hp : P ↔ q_PA C cl cs) (h : (P ∧ A = some true) ∨ (¬ P ∧ A = some false)) : A = some (q_pab C cl cs) := by
  rcases h with ⟨h1, h2⟩ | ⟨h1, h2⟩
  · rw [h2, q_pab_t.2 (hp.1 h1)]
  · cases hb : q_pab C cl cs with
    | false => exact h2
    | true => exact absurd (hp.2 (q_pab_t.1 hb)) h1
theorem q_single {x cs w : Nat} (hx : x.testBit w = true) (hc : cs.testBit w = true) : (x &&& cs = 2 ^ w) ↔ ∀ j, x.testBit j = true → cs.testBit j = true → j = w := by
  constructor
  · intro h j h1 h2
    have e := congrArg (fun z => z.testBit j) h
    simp only [Nat.testBit_and, h1, h2, Nat.testBit_two_pow, Bool.and_true] at e
    exact (of_decide_eq_true e.symm).symm
  · intro h
    apply Nat.eq_of_testBit_eq
    intro j
    rw [Nat.testBit_and, Nat.testBit_two_pow]
    by_cases z : w = j
    · subst z; rw [hx, hc, decide_eq_true rfl]; rfl
    · rw [decide_eq_false z]
      cases h1 : x.testBit j with
      | false => rfl
      | true =>
        cases h2 : cs.testBit j with
        | false => rfl
        | true => exact absurd (h j h1 h2).symm z
theorem x0_isPartedWhole {C : q_N} {c : Nat} {I : z_I} {L : z_L} (h : q_sx C c I L) (ok : q_ok C) {cl cs : Nat} (hc : cs < 256) : f_X0_isPartedWhole I c (nI cs) (nI cl) = some (q_pab C cl cs) := by
  obtain ⟨o0, o1, o2, o3, -⟩ := id ok
  unfold f_X0_isPartedWhole
  have key := q_allK (G := fun n k => g_X0_isPartedWhole_2 c (nI cs) (nI cl) I n (nI k)) (N := C 0 1) (r0 := some false) (r1 := some true) (p := fun w => cs.testBit w = true → q_pt C cl w &&& cs = 2 ^ w) (fun n k hk => ?_) (fun n => ?_) z_fuel 0 (Nat.zero_le _) (q_fu (by omega))
  · refine q_pab_of ?_ key
    constructor
    · intro h1 a ha b hb ca cb hab
      exact ((q_single (q_pt_self ha) ca).1 (h1 a (Nat.zero_le _) ha ca) b hab cb).symm
    · intro h1 w _ hw cw
      refine (q_single (q_pt_self hw) cw).2 (fun j hj cj => ?_)
      exact (h1 w hw j ((q_pt_b C cl w j).1 hj).1 cw cj hj).symm
  · have hx' : f_X0_partUnder I c (nI cl) (nI k) = some (nI (q_pt C cl k)) := x0_partUnder h ok (by omega)
    have h8 : q_pt C cl k &&& cs < 256 := q_and_lt (q_pt8 ok cl k)
    have h9 : 2 ^ k < 2 ^ 31 := q_pow (by omega)
    cases hb : cs.testBit k with
    | false =>
      left
      refine ⟨fun z => (by cases z), ?_⟩
      simp (disch := omega) only [g_X0_isPartedWhole_2, h.f.2.1, hx', ql_0, ql_1, ql_2, ql_3, ql_4, ql_5, ql_6, ql_7, ql_8, ql_9, ql_10, ql_11, ql_12, ql_13, ql_14, ql_15, ql_16, ql_17, ql_18, ql_19, ql_20, ql_21, ql_22, ql_23, ql_24, ql_27, ql_30, ql_31, ql_32, ql_40, ql_48, ql_51, ql_52, ql_57, ql_59, ql_60, ql_61, ql_62, ql_76, ql_84, ql_91, ql_97, ql_99, ql_100, ql_120, ql_122, ql_127, ql_128, ql_200, ql_255, ql_256, ql_300, ql_420, ql_428, ql_640, ql_900, ql_896, ql_999, ql_1712, ql_1716, ql_1734, ql_1772, ql_1800, ql_1805, ql_1811, ql_1822, ql_2132, ql_2140, ql_3229, ql_9999, ql_11453, ql_65536, ql_100000, ql_1000000, nI_add, pk_mul, q_and, q_or, q_xor, nI_clamp, q_in, q_neg1, q_nno, q_nno', q_annN, q_sh1, q_tbN, nI_leI, nI_ltI, nI_eq, pk_sub, ↓reduceIte, if_pos, if_neg, q_zlt, q_bs, hb]
    | true =>
      by_cases z : q_pt C cl k &&& cs = 2 ^ k
      · left
        refine ⟨fun _ => z, ?_⟩
        simp (disch := omega) only [g_X0_isPartedWhole_2, h.f.2.1, hx', ql_0, ql_1, ql_2, ql_3, ql_4, ql_5, ql_6, ql_7, ql_8, ql_9, ql_10, ql_11, ql_12, ql_13, ql_14, ql_15, ql_16, ql_17, ql_18, ql_19, ql_20, ql_21, ql_22, ql_23, ql_24, ql_27, ql_30, ql_31, ql_32, ql_40, ql_48, ql_51, ql_52, ql_57, ql_59, ql_60, ql_61, ql_62, ql_76, ql_84, ql_91, ql_97, ql_99, ql_100, ql_120, ql_122, ql_127, ql_128, ql_200, ql_255, ql_256, ql_300, ql_420, ql_428, ql_640, ql_900, ql_896, ql_999, ql_1712, ql_1716, ql_1734, ql_1772, ql_1800, ql_1805, ql_1811, ql_1822, ql_2132, ql_2140, ql_3229, ql_9999, ql_11453, ql_65536, ql_100000, ql_1000000, nI_add, pk_mul, q_and, q_or, q_xor, nI_clamp, q_in, q_neg1, q_nno, q_nno', q_annN, q_sh1, q_tbN, nI_leI, nI_ltI, nI_eq, pk_sub, ↓reduceIte, if_pos, if_neg, q_zlt, q_bs, hb, z, reduceCtorEq]
      · right
        refine ⟨fun y => z (y rfl), ?_⟩
        simp (disch := omega) only [g_X0_isPartedWhole_2, h.f.2.1, hx', ql_0, ql_1, ql_2, ql_3, ql_4, ql_5, ql_6, ql_7, ql_8, ql_9, ql_10, ql_11, ql_12, ql_13, ql_14, ql_15, ql_16, ql_17, ql_18, ql_19, ql_20, ql_21, ql_22, ql_23, ql_24, ql_27, ql_30, ql_31, ql_32, ql_40, ql_48, ql_51, ql_52, ql_57, ql_59, ql_60, ql_61, ql_62, ql_76, ql_84, ql_91, ql_97, ql_99, ql_100, ql_120, ql_122, ql_127, ql_128, ql_200, ql_255, ql_256, ql_300, ql_420, ql_428, ql_640, ql_900, ql_896, ql_999, ql_1712, ql_1716, ql_1734, ql_1772, ql_1800, ql_1805, ql_1811, ql_1822, ql_2132, ql_2140, ql_3229, ql_9999, ql_11453, ql_65536, ql_100000, ql_1000000, nI_add, pk_mul, q_and, q_or, q_xor, nI_clamp, q_in, q_neg1, q_nno, q_nno', q_annN, q_sh1, q_tbN, nI_leI, nI_ltI, nI_eq, pk_sub, ↓reduceIte, if_pos, if_neg, q_zlt, q_bs, hb, z, reduceCtorEq]
  · simp (disch := omega) only [g_X0_isPartedWhole_2, h.f.2.1, ql_0, ql_1, ql_2, ql_3, ql_4, ql_5, ql_6, ql_7, ql_8, ql_9, ql_10, ql_11, ql_12, ql_13, ql_14, ql_15, ql_16, ql_17, ql_18, ql_19, ql_20, ql_21, ql_22, ql_23, ql_24, ql_27, ql_30, ql_31, ql_32, ql_40, ql_48, ql_51, ql_52, ql_57, ql_59, ql_60, ql_61, ql_62, ql_76, ql_84, ql_91, ql_97, ql_99, ql_100, ql_120, ql_122, ql_127, ql_128, ql_200, ql_255, ql_256, ql_300, ql_420, ql_428, ql_640, ql_900, ql_896, ql_999, ql_1712, ql_1716, ql_1734, ql_1772, ql_1800, ql_1805, ql_1811, ql_1822, ql_2132, ql_2140, ql_3229, ql_9999, ql_11453, ql_65536, ql_100000, ql_1000000, nI_add, pk_mul, q_and, q_or, q_xor, nI_clamp, q_in, q_neg1, q_nno, q_nno', q_annN, q_sh1, q_tbN, nI_leI, nI_ltI, nI_eq, pk_sub, ↓reduceIte, if_pos, if_neg, q_zlt, q_bs]
theorem m_partsAll {C : q_N} {m : Nat} {J : z_I} {K : z_L} (h : q_sm C 0 m J K) (ok : q_ok C) {cl cs : Nat} (hc : cs < 256) (hl : cl < 256) : f_X11_partsAll J (nI cl) (nI cs) = some (q_pab C cl cs) := by
  obtain ⟨o0, o1, o2, o3, -⟩ := id ok
  have inner : ∀ (r1 : Option Bool) (a : Nat), a < C 0 1 → ((∀ b, a + 1 ≤ b → b < C 0 1 → (cs.testBit a = true → cs.testBit b = true → (q_pt C cl a).testBit b = false)) ∧ g_X11_partsAll_17 (nI cl) (nI cs) (nI a) J r1 z_fuel (nI (a + 1)) = r1) ∨ (¬ (∀ b, a + 1 ≤ b → b < C 0 1 → (cs.testBit a = true → cs.testBit b = true → (q_pt C cl a).testBit b = false)) ∧ g_X11_partsAll_17 (nI cl) (nI cs) (nI a) J r1 z_fuel (nI (a + 1)) = some false) := by
    intro r1 a ha
    refine q_allK (G := fun n k => g_X11_partsAll_17 (nI cl) (nI cs) (nI a) J r1 n (nI k)) (N := C 0 1) (r0 := some false) (r1 := r1) (p := fun b => cs.testBit a = true → cs.testBit b = true → (q_pt C cl a).testBit b = false) (fun n k hk => ?_) (fun n => ?_) z_fuel (a + 1) (by omega) (q_fu (by omega))
    · have h0 := q_pg_0 (C := C) (a := a) (b := k) (cl := cl) hk
      have h8 : q_pg C a k (C 0 2) &&& cl < 2 ^ 31 := Nat.lt_of_le_of_lt Nat.and_le_right (by omega)
      cases hb : cs.testBit a with
      | false =>
        left
        refine ⟨fun z => (by cases z), ?_⟩
        simp (disch := omega) only [g_X11_partsAll_17, h.f.2.1, ql_0, ql_1, ql_2, ql_3, ql_4, ql_5, ql_6, ql_7, ql_8, ql_9, ql_10, ql_11, ql_12, ql_13, ql_14, ql_15, ql_16, ql_17, ql_18, ql_19, ql_20, ql_21, ql_22, ql_23, ql_24, ql_27, ql_30, ql_31, ql_32, ql_40, ql_48, ql_51, ql_52, ql_57, ql_59, ql_60, ql_61, ql_62, ql_76, ql_84, ql_91, ql_97, ql_99, ql_100, ql_120, ql_122, ql_127, ql_128, ql_200, ql_255, ql_256, ql_300, ql_420, ql_428, ql_640, ql_900, ql_896, ql_999, ql_1712, ql_1716, ql_1734, ql_1772, ql_1800, ql_1805, ql_1811, ql_1822, ql_2132, ql_2140, ql_3229, ql_9999, ql_11453, ql_65536, ql_100000, ql_1000000, nI_add, pk_mul, q_and, q_or, q_xor, nI_clamp, q_in, q_neg1, q_nno, q_nno', q_annN, q_sh1, q_tbN, nI_leI, nI_ltI, nI_eq, pk_sub, ↓reduceIte, if_pos, if_neg, q_zlt, q_bs, q_isIn, hb, Bool.false_eq_true]
      | true =>
        cases hb2 : cs.testBit k with
        | false =>
          left
          refine ⟨fun _ z => (by cases z), ?_⟩
          simp (disch := omega) only [g_X11_partsAll_17, h.f.2.1, ql_0, ql_1, ql_2, ql_3, ql_4, ql_5, ql_6, ql_7, ql_8, ql_9, ql_10, ql_11, ql_12, ql_13, ql_14, ql_15, ql_16, ql_17, ql_18, ql_19, ql_20, ql_21, ql_22, ql_23, ql_24, ql_27, ql_30, ql_31, ql_32, ql_40, ql_48, ql_51, ql_52, ql_57, ql_59, ql_60, ql_61, ql_62, ql_76, ql_84, ql_91, ql_97, ql_99, ql_100, ql_120, ql_122, ql_127, ql_128, ql_200, ql_255, ql_256, ql_300, ql_420, ql_428, ql_640, ql_900, ql_896, ql_999, ql_1712, ql_1716, ql_1734, ql_1772, ql_1800, ql_1805, ql_1811, ql_1822, ql_2132, ql_2140, ql_3229, ql_9999, ql_11453, ql_65536, ql_100000, ql_1000000, nI_add, pk_mul, q_and, q_or, q_xor, nI_clamp, q_in, q_neg1, q_nno, q_nno', q_annN, q_sh1, q_tbN, nI_leI, nI_ltI, nI_eq, pk_sub, ↓reduceIte, if_pos, if_neg, q_zlt, q_bs, q_isIn, hb, hb2, Bool.false_eq_true]
        | true =>
          cases hp : (q_pt C cl a).testBit k with
          | false =>
            left
            have z : ¬ q_pg C a k (C 0 2) &&& cl = 0 := fun y => by rw [h0.1 y] at hp; cases hp
            refine ⟨fun _ _ => rfl, ?_⟩
            simp (disch := omega) only [g_X11_partsAll_17, h.f.2.1, ql_0, ql_1, ql_2, ql_3, ql_4, ql_5, ql_6, ql_7, ql_8, ql_9, ql_10, ql_11, ql_12, ql_13, ql_14, ql_15, ql_16, ql_17, ql_18, ql_19, ql_20, ql_21, ql_22, ql_23, ql_24, ql_27, ql_30, ql_31, ql_32, ql_40, ql_48, ql_51, ql_52, ql_57, ql_59, ql_60, ql_61, ql_62, ql_76, ql_84, ql_91, ql_97, ql_99, ql_100, ql_120, ql_122, ql_127, ql_128, ql_200, ql_255, ql_256, ql_300, ql_420, ql_428, ql_640, ql_900, ql_896, ql_999, ql_1712, ql_1716, ql_1734, ql_1772, ql_1800, ql_1805, ql_1811, ql_1822, ql_2132, ql_2140, ql_3229, ql_9999, ql_11453, ql_65536, ql_100000, ql_1000000, nI_add, pk_mul, q_and, q_or, q_xor, nI_clamp, q_in, q_neg1, q_nno, q_nno', q_annN, q_sh1, q_tbN, nI_leI, nI_ltI, nI_eq, pk_sub, ↓reduceIte, if_pos, if_neg, q_zlt, q_bs, q_isIn, hb, hb2, m_partingOf h ok, z]
          | true =>
            right
            have z := h0.2 hp
            refine ⟨fun y => (by have := y rfl rfl; cases this), ?_⟩
            simp (disch := omega) only [g_X11_partsAll_17, h.f.2.1, ql_0, ql_1, ql_2, ql_3, ql_4, ql_5, ql_6, ql_7, ql_8, ql_9, ql_10, ql_11, ql_12, ql_13, ql_14, ql_15, ql_16, ql_17, ql_18, ql_19, ql_20, ql_21, ql_22, ql_23, ql_24, ql_27, ql_30, ql_31, ql_32, ql_40, ql_48, ql_51, ql_52, ql_57, ql_59, ql_60, ql_61, ql_62, ql_76, ql_84, ql_91, ql_97, ql_99, ql_100, ql_120, ql_122, ql_127, ql_128, ql_200, ql_255, ql_256, ql_300, ql_420, ql_428, ql_640, ql_900, ql_896, ql_999, ql_1712, ql_1716, ql_1734, ql_1772, ql_1800, ql_1805, ql_1811, ql_1822, ql_2132, ql_2140, ql_3229, ql_9999, ql_11453, ql_65536, ql_100000, ql_1000000, nI_add, pk_mul, q_and, q_or, q_xor, nI_clamp, q_in, q_neg1, q_nno, q_nno', q_annN, q_sh1, q_tbN, nI_leI, nI_ltI, nI_eq, pk_sub, ↓reduceIte, if_pos, if_neg, q_zlt, q_bs, q_isIn, hb, hb2, m_partingOf h ok, z]
    · simp (disch := omega) only [g_X11_partsAll_17, h.f.2.1, ql_0, ql_1, ql_2, ql_3, ql_4, ql_5, ql_6, ql_7, ql_8, ql_9, ql_10, ql_11, ql_12, ql_13, ql_14, ql_15, ql_16, ql_17, ql_18, ql_19, ql_20, ql_21, ql_22, ql_23, ql_24, ql_27, ql_30, ql_31, ql_32, ql_40, ql_48, ql_51, ql_52, ql_57, ql_59, ql_60, ql_61, ql_62, ql_76, ql_84, ql_91, ql_97, ql_99, ql_100, ql_120, ql_122, ql_127, ql_128, ql_200, ql_255, ql_256, ql_300, ql_420, ql_428, ql_640, ql_900, ql_896, ql_999, ql_1712, ql_1716, ql_1734, ql_1772, ql_1800, ql_1805, ql_1811, ql_1822, ql_2132, ql_2140, ql_3229, ql_9999, ql_11453, ql_65536, ql_100000, ql_1000000, nI_add, pk_mul, q_and, q_or, q_xor, nI_clamp, q_in, q_neg1, q_nno, q_nno', q_annN, q_sh1, q_tbN, nI_leI, nI_ltI, nI_eq, pk_sub, ↓reduceIte, if_pos, if_neg, q_zlt, q_bs]
  unfold f_X11_partsAll
  have key := q_allK (G := fun n k => g_X11_partsAll_2 (nI cl) (nI cs) J n (nI k)) (N := C 0 1) (r0 := some false) (r1 := some true) (p := fun a => ∀ b, a + 1 ≤ b → b < C 0 1 → (cs.testBit a = true → cs.testBit b = true → (q_pt C cl a).testBit b = false)) (fun n k hk => ?_) (fun n => ?_) z_fuel 0 (Nat.zero_le _) (q_fu (by omega))
  · refine q_pab_of ?_ key
    constructor
    · intro h1 a ha b hb ca cb hab
      rcases Nat.lt_trichotomy a b with z | z | z
      · have := h1 a (Nat.zero_le _) ha b z hb ca cb
        rw [hab] at this; cases this
      · exact z
      · have := h1 b (Nat.zero_le _) hb a z ha cb ca
        rw [q_pt_sym ha hab] at this; cases this
    · intro h1 a _ ha b hab hb ca cb
      cases hp : (q_pt C cl a).testBit b with
      | false => rfl
      | true => have := h1 a ha b hb ca cb hp; omega
  · have e : g_X11_partsAll_2 (nI cl) (nI cs) J (n + 1) (nI k) = g_X11_partsAll_17 (nI cl) (nI cs) (nI k) J (g_X11_partsAll_2 (nI cl) (nI cs) J n (nI (k + 1))) z_fuel (nI (k + 1)) := by
      simp (disch := omega) only [g_X11_partsAll_2, h.f.2.1, ql_0, ql_1, ql_2, ql_3, ql_4, ql_5, ql_6, ql_7, ql_8, ql_9, ql_10, ql_11, ql_12, ql_13, ql_14, ql_15, ql_16, ql_17, ql_18, ql_19, ql_20, ql_21, ql_22, ql_23, ql_24, ql_27, ql_30, ql_31, ql_32, ql_40, ql_48, ql_51, ql_52, ql_57, ql_59, ql_60, ql_61, ql_62, ql_76, ql_84, ql_91, ql_97, ql_99, ql_100, ql_120, ql_122, ql_127, ql_128, ql_200, ql_255, ql_256, ql_300, ql_420, ql_428, ql_640, ql_900, ql_896, ql_999, ql_1712, ql_1716, ql_1734, ql_1772, ql_1800, ql_1805, ql_1811, ql_1822, ql_2132, ql_2140, ql_3229, ql_9999, ql_11453, ql_65536, ql_100000, ql_1000000, nI_add, pk_mul, q_and, q_or, q_xor, nI_clamp, q_in, q_neg1, q_nno, q_nno', q_annN, q_sh1, q_tbN, nI_leI, nI_ltI, nI_eq, pk_sub, ↓reduceIte, if_pos, if_neg, q_zlt, q_bs]
    show (_ ∧ g_X11_partsAll_2 (nI cl) (nI cs) J (n + 1) (nI k) = g_X11_partsAll_2 (nI cl) (nI cs) J n (nI (k + 1))) ∨ (_ ∧ g_X11_partsAll_2 (nI cl) (nI cs) J (n + 1) (nI k) = some false)
    rw [e]
    exact inner _ k hk
  · simp (disch := omega) only [g_X11_partsAll_2, h.f.2.1, ql_0, ql_1, ql_2, ql_3, ql_4, ql_5, ql_6, ql_7, ql_8, ql_9, ql_10, ql_11, ql_12, ql_13, ql_14, ql_15, ql_16, ql_17, ql_18, ql_19, ql_20, ql_21, ql_22, ql_23, ql_24, ql_27, ql_30, ql_31, ql_32, ql_40, ql_48, ql_51, ql_52, ql_57, ql_59, ql_60, ql_61, ql_62, ql_76, ql_84, ql_91, ql_97, ql_99, ql_100, ql_120, ql_122, ql_127, ql_128, ql_200, ql_255, ql_256, ql_300, ql_420, ql_428, ql_640, ql_900, ql_896, ql_999, ql_1712, ql_1716, ql_1734, ql_1772, ql_1800, ql_1805, ql_1811, ql_1822, ql_2132, ql_2140, ql_3229, ql_9999, ql_11453, ql_65536, ql_100000, ql_1000000, nI_add, pk_mul, q_and, q_or, q_xor, nI_clamp, q_in, q_neg1, q_nno, q_nno', q_annN, q_sh1, q_tbN, nI_leI, nI_ltI, nI_eq, pk_sub, ↓reduceIte, if_pos, if_neg, q_zlt, q_bs]
def q_eO : Option Nat → Int32
  | none => q_no
  | some b => nI b
def q_lO : Option Nat → Int32
  | none => nI 8
  | some b => nI (q_pc b)
noncomputable def q_fwF (C : q_N) (cs : Nat) (k : Nat) (a : Option Nat) : Option Nat := match a with
  | none => if q_pab C k cs then some k else none
  | some b => if q_pc b ≤ q_pc k then some b else if q_pab C k cs then some k else some b
noncomputable def q_fw (C : q_N) (cs : Nat) (n : Nat) : Option Nat := q_it (q_fwF C cs) none n
theorem q_fw_lt {C : q_N} {cs n : Nat} : ∀ b, q_fw C cs n = some b → b < n := by
  induction n with
  | zero => intro b h; cases h
  | succ n ih =>
    intro b h
    have e : q_fw C cs (n + 1) = q_fwF C cs n (q_fw C cs n) := rfl
    rw [e] at h
    unfold q_fwF at h
    cases ha : q_fw C cs n with
    | none =>
      rw [ha] at h
      simp only [] at h
      split at h
      · cases h; omega
      · cases h
    | some d =>
      rw [ha] at h
      simp only [] at h
      have := ih d ha
      split at h
      · cases h; omega
      · split at h
        · cases h; omega
        · cases h; omega
theorem x_fewest {C : q_N} {I : z_I} {L : z_L} (h : q_sx C 3 I L) (ok : q_ok C) {cs : Nat} (hc : cs < 256) : f_X10_fewestThatPart I (nI cs) = some (q_eO (q_fw C cs (2 ^ C 0 2))) := by
  obtain ⟨o0, o1, o2, o3, -⟩ := id ok
  have hp : 2 ^ C 0 2 ≤ 128 := q_p27 o2
  unfold f_X10_fewestThatPart
  refine q_lp (G := fun n k (a : Option Nat) => g_X10_fewestThatPart_8 (nI cs) I n (q_eO a) (q_lO a) (nI k)) (fun k => q_fw C cs k) (fun n k _ hk => ?_) (fun n => ?_) (Nat.zero_le (2 ^ C 0 2)) (q_fu (by omega))
  · have e : q_fw C cs (k + 1) = q_fwF C cs k (q_fw C cs k) := rfl
    rw [e]
    have hl := q_fw_lt (C := C) (cs := cs) (n := k)
    have p7 := q_pc7 k (by omega)
    generalize q_fw C cs k = a at hl ⊢
    cases a with
    | none =>
      cases hb : q_pab C k cs <;> simp (disch := omega) only [g_X10_fewestThatPart_8, q_eO, q_lO, q_fwF, h.f.2.2.1, ql_0, ql_1, ql_2, ql_3, ql_4, ql_5, ql_6, ql_7, ql_8, ql_9, ql_10, ql_11, ql_12, ql_13, ql_14, ql_15, ql_16, ql_17, ql_18, ql_19, ql_20, ql_21, ql_22, ql_23, ql_24, ql_27, ql_30, ql_31, ql_32, ql_40, ql_48, ql_51, ql_52, ql_57, ql_59, ql_60, ql_61, ql_62, ql_76, ql_84, ql_91, ql_97, ql_99, ql_100, ql_120, ql_122, ql_127, ql_128, ql_200, ql_255, ql_256, ql_300, ql_420, ql_428, ql_640, ql_900, ql_896, ql_999, ql_1712, ql_1716, ql_1734, ql_1772, ql_1800, ql_1805, ql_1811, ql_1822, ql_2132, ql_2140, ql_3229, ql_9999, ql_11453, ql_65536, ql_100000, ql_1000000, nI_add, pk_mul, q_and, q_or, q_xor, nI_clamp, q_in, q_neg1, q_nno, q_nno', q_annN, q_sh1, q_tbN, nI_leI, nI_ltI, nI_eq, pk_sub, ↓reduceIte, if_pos, if_neg, q_zlt, q_bs, q_bitCount0, x0_isPartedWhole h ok, hb, Bool.false_eq_true]
    | some b =>
      have hb' := hl b rfl
      have pb := q_pc7 b (by omega)
      by_cases z : q_pc b ≤ q_pc k
      · simp (disch := omega) only [g_X10_fewestThatPart_8, q_eO, q_lO, q_fwF, h.f.2.2.1, ql_0, ql_1, ql_2, ql_3, ql_4, ql_5, ql_6, ql_7, ql_8, ql_9, ql_10, ql_11, ql_12, ql_13, ql_14, ql_15, ql_16, ql_17, ql_18, ql_19, ql_20, ql_21, ql_22, ql_23, ql_24, ql_27, ql_30, ql_31, ql_32, ql_40, ql_48, ql_51, ql_52, ql_57, ql_59, ql_60, ql_61, ql_62, ql_76, ql_84, ql_91, ql_97, ql_99, ql_100, ql_120, ql_122, ql_127, ql_128, ql_200, ql_255, ql_256, ql_300, ql_420, ql_428, ql_640, ql_900, ql_896, ql_999, ql_1712, ql_1716, ql_1734, ql_1772, ql_1800, ql_1805, ql_1811, ql_1822, ql_2132, ql_2140, ql_3229, ql_9999, ql_11453, ql_65536, ql_100000, ql_1000000, nI_add, pk_mul, q_and, q_or, q_xor, nI_clamp, q_in, q_neg1, q_nno, q_nno', q_annN, q_sh1, q_tbN, nI_leI, nI_ltI, nI_eq, pk_sub, ↓reduceIte, if_pos, if_neg, q_zlt, q_bs, q_bitCount0]
      · cases hb : q_pab C k cs <;> simp (disch := omega) only [g_X10_fewestThatPart_8, q_eO, q_lO, q_fwF, h.f.2.2.1, ql_0, ql_1, ql_2, ql_3, ql_4, ql_5, ql_6, ql_7, ql_8, ql_9, ql_10, ql_11, ql_12, ql_13, ql_14, ql_15, ql_16, ql_17, ql_18, ql_19, ql_20, ql_21, ql_22, ql_23, ql_24, ql_27, ql_30, ql_31, ql_32, ql_40, ql_48, ql_51, ql_52, ql_57, ql_59, ql_60, ql_61, ql_62, ql_76, ql_84, ql_91, ql_97, ql_99, ql_100, ql_120, ql_122, ql_127, ql_128, ql_200, ql_255, ql_256, ql_300, ql_420, ql_428, ql_640, ql_900, ql_896, ql_999, ql_1712, ql_1716, ql_1734, ql_1772, ql_1800, ql_1805, ql_1811, ql_1822, ql_2132, ql_2140, ql_3229, ql_9999, ql_11453, ql_65536, ql_100000, ql_1000000, nI_add, pk_mul, q_and, q_or, q_xor, nI_clamp, q_in, q_neg1, q_nno, q_nno', q_annN, q_sh1, q_tbN, nI_leI, nI_ltI, nI_eq, pk_sub, ↓reduceIte, if_pos, if_neg, q_zlt, q_bs, q_bitCount0, x0_isPartedWhole h ok, hb, Bool.false_eq_true]
  · simp (disch := omega) only [g_X10_fewestThatPart_8, h.f.2.2.1, ql_0, ql_1, ql_2, ql_3, ql_4, ql_5, ql_6, ql_7, ql_8, ql_9, ql_10, ql_11, ql_12, ql_13, ql_14, ql_15, ql_16, ql_17, ql_18, ql_19, ql_20, ql_21, ql_22, ql_23, ql_24, ql_27, ql_30, ql_31, ql_32, ql_40, ql_48, ql_51, ql_52, ql_57, ql_59, ql_60, ql_61, ql_62, ql_76, ql_84, ql_91, ql_97, ql_99, ql_100, ql_120, ql_122, ql_127, ql_128, ql_200, ql_255, ql_256, ql_300, ql_420, ql_428, ql_640, ql_900, ql_896, ql_999, ql_1712, ql_1716, ql_1734, ql_1772, ql_1800, ql_1805, ql_1811, ql_1822, ql_2132, ql_2140, ql_3229, ql_9999, ql_11453, ql_65536, ql_100000, ql_1000000, nI_add, pk_mul, q_and, q_or, q_xor, nI_clamp, q_in, q_neg1, q_nno, q_nno', q_annN, q_sh1, q_tbN, nI_leI, nI_ltI, nI_eq, pk_sub, ↓reduceIte, if_pos, if_neg, q_zlt, q_bs]
theorem m_fewest {C : q_N} {m : Nat} {J : z_I} {K : z_L} (h : q_sm C 0 m J K) (ok : q_ok C) {cs : Nat} (hc : cs < 256) : f_X11_fewestOf J (nI cs) = some (q_eO (q_fw C cs (2 ^ C 0 2))) := by
  obtain ⟨o0, o1, o2, o3, -⟩ := id ok
  have hp : 2 ^ C 0 2 ≤ 128 := q_p27 o2
  unfold f_X11_fewestOf
  refine q_lp (G := fun n k (a : Option Nat) => g_X11_fewestOf_4 (nI cs) J n (q_eO a) (nI k)) (fun k => q_fw C cs k) (fun n k _ hk => ?_) (fun n => ?_) (Nat.zero_le (2 ^ C 0 2)) (q_fu (by omega))
  · have e : q_fw C cs (k + 1) = q_fwF C cs k (q_fw C cs k) := rfl
    rw [e]
    have hl := q_fw_lt (C := C) (cs := cs) (n := k)
    have p7 := q_pc7 k (by omega)
    generalize q_fw C cs k = a at hl ⊢
    cases a with
    | none =>
      cases hb : q_pab C k cs <;> simp (disch := omega) only [g_X11_fewestOf_4, q_eO, q_fwF, h.f.2.2.1, ql_0, ql_1, ql_2, ql_3, ql_4, ql_5, ql_6, ql_7, ql_8, ql_9, ql_10, ql_11, ql_12, ql_13, ql_14, ql_15, ql_16, ql_17, ql_18, ql_19, ql_20, ql_21, ql_22, ql_23, ql_24, ql_27, ql_30, ql_31, ql_32, ql_40, ql_48, ql_51, ql_52, ql_57, ql_59, ql_60, ql_61, ql_62, ql_76, ql_84, ql_91, ql_97, ql_99, ql_100, ql_120, ql_122, ql_127, ql_128, ql_200, ql_255, ql_256, ql_300, ql_420, ql_428, ql_640, ql_900, ql_896, ql_999, ql_1712, ql_1716, ql_1734, ql_1772, ql_1800, ql_1805, ql_1811, ql_1822, ql_2132, ql_2140, ql_3229, ql_9999, ql_11453, ql_65536, ql_100000, ql_1000000, nI_add, pk_mul, q_and, q_or, q_xor, nI_clamp, q_in, q_neg1, q_nno, q_nno', q_annN, q_sh1, q_tbN, nI_leI, nI_ltI, nI_eq, pk_sub, ↓reduceIte, if_pos, if_neg, q_zlt, q_bs, m_partsAll h ok, hb, Bool.false_eq_true]
    | some b =>
      have hb' := hl b rfl
      have pb := q_pc7 b (by omega)
      by_cases z : q_pc b ≤ q_pc k
      · simp (disch := omega) only [g_X11_fewestOf_4, q_eO, q_fwF, h.f.2.2.1, ql_0, ql_1, ql_2, ql_3, ql_4, ql_5, ql_6, ql_7, ql_8, ql_9, ql_10, ql_11, ql_12, ql_13, ql_14, ql_15, ql_16, ql_17, ql_18, ql_19, ql_20, ql_21, ql_22, ql_23, ql_24, ql_27, ql_30, ql_31, ql_32, ql_40, ql_48, ql_51, ql_52, ql_57, ql_59, ql_60, ql_61, ql_62, ql_76, ql_84, ql_91, ql_97, ql_99, ql_100, ql_120, ql_122, ql_127, ql_128, ql_200, ql_255, ql_256, ql_300, ql_420, ql_428, ql_640, ql_900, ql_896, ql_999, ql_1712, ql_1716, ql_1734, ql_1772, ql_1800, ql_1805, ql_1811, ql_1822, ql_2132, ql_2140, ql_3229, ql_9999, ql_11453, ql_65536, ql_100000, ql_1000000, nI_add, pk_mul, q_and, q_or, q_xor, nI_clamp, q_in, q_neg1, q_nno, q_nno', q_annN, q_sh1, q_tbN, nI_leI, nI_ltI, nI_eq, pk_sub, ↓reduceIte, if_pos, if_neg, q_zlt, q_bs, m_bits]
      · cases hb : q_pab C k cs <;> simp (disch := omega) only [g_X11_fewestOf_4, q_eO, q_fwF, h.f.2.2.1, ql_0, ql_1, ql_2, ql_3, ql_4, ql_5, ql_6, ql_7, ql_8, ql_9, ql_10, ql_11, ql_12, ql_13, ql_14, ql_15, ql_16, ql_17, ql_18, ql_19, ql_20, ql_21, ql_22, ql_23, ql_24, ql_27, ql_30, ql_31, ql_32, ql_40, ql_48, ql_51, ql_52, ql_57, ql_59, ql_60, ql_61, ql_62, ql_76, ql_84, ql_91, ql_97, ql_99, ql_100, ql_120, ql_122, ql_127, ql_128, ql_200, ql_255, ql_256, ql_300, ql_420, ql_428, ql_640, ql_900, ql_896, ql_999, ql_1712, ql_1716, ql_1734, ql_1772, ql_1800, ql_1805, ql_1811, ql_1822, ql_2132, ql_2140, ql_3229, ql_9999, ql_11453, ql_65536, ql_100000, ql_1000000, nI_add, pk_mul, q_and, q_or, q_xor, nI_clamp, q_in, q_neg1, q_nno, q_nno', q_annN, q_sh1, q_tbN, nI_leI, nI_ltI, nI_eq, pk_sub, ↓reduceIte, if_pos, if_neg, q_zlt, q_bs, m_bits, m_partsAll h ok, hb, Bool.false_eq_true]
  · simp (disch := omega) only [g_X11_fewestOf_4, h.f.2.2.1, ql_0, ql_1, ql_2, ql_3, ql_4, ql_5, ql_6, ql_7, ql_8, ql_9, ql_10, ql_11, ql_12, ql_13, ql_14, ql_15, ql_16, ql_17, ql_18, ql_19, ql_20, ql_21, ql_22, ql_23, ql_24, ql_27, ql_30, ql_31, ql_32, ql_40, ql_48, ql_51, ql_52, ql_57, ql_59, ql_60, ql_61, ql_62, ql_76, ql_84, ql_91, ql_97, ql_99, ql_100, ql_120, ql_122, ql_127, ql_128, ql_200, ql_255, ql_256, ql_300, ql_420, ql_428, ql_640, ql_900, ql_896, ql_999, ql_1712, ql_1716, ql_1734, ql_1772, ql_1800, ql_1805, ql_1811, ql_1822, ql_2132, ql_2140, ql_3229, ql_9999, ql_11453, ql_65536, ql_100000, ql_1000000, nI_add, pk_mul, q_and, q_or, q_xor, nI_clamp, q_in, q_neg1, q_nno, q_nno', q_annN, q_sh1, q_tbN, nI_leI, nI_ltI, nI_eq, pk_sub, ↓reduceIte, if_pos, if_neg, q_zlt, q_bs]
theorem r_fewest : s_fewest q_R := by
  intro I L J K p0 hR
  obtain ⟨C, T, mk, h⟩ := id hR
  obtain ⟨hx, hm, ok, -⟩ := h.o
  obtain ⟨o0, o1, o2, o3, -⟩ := id ok
  have hp2 := q_pow (n := C 0 0 1) (by omega)
  cases hb : q_hs (2 ^ C 0 0 1) p0 with
  | false => exact q_end (-1) 1 (by simp only [f_X10_fewest, x0_hasCases hx ok, hb]; rfl) (by simp only [f_X11_fewest, m_areCases hm ok, hb]; rfl) hR
  | true =>
    obtain ⟨cs, hcs, rfl⟩ := q_hs_t hb hp2
    have h8 := q_p8 o1 hcs
    have e1 := x_fewest hx ok h8
    have e2 := m_fewest hm ok h8
    have hl := q_fw_lt (C := C 0) (cs := cs) (n := 2 ^ C 0 0 2)
    have hp : 2 ^ C 0 0 2 ≤ 128 := q_p27 o2
    cases ha : q_fw (C 0) cs (2 ^ C 0 0 2) with
    | none =>
      rw [ha] at e1 e2
      refine q_end (-1) 6 (I := I) (J := J) ?_ ?_ hR
      · simp (disch := omega) only [f_X10_fewest, x0_hasCases hx ok, hb, e1, q_eO, ql_0, ql_1, ql_2, ql_3, ql_4, ql_5, ql_6, ql_7, ql_8, ql_9, ql_10, ql_11, ql_12, ql_13, ql_14, ql_15, ql_16, ql_17, ql_18, ql_19, ql_20, ql_21, ql_22, ql_23, ql_24, ql_27, ql_30, ql_31, ql_32, ql_40, ql_48, ql_51, ql_52, ql_57, ql_59, ql_60, ql_61, ql_62, ql_76, ql_84, ql_91, ql_97, ql_99, ql_100, ql_120, ql_122, ql_127, ql_128, ql_200, ql_255, ql_256, ql_300, ql_420, ql_428, ql_640, ql_900, ql_896, ql_999, ql_1712, ql_1716, ql_1734, ql_1772, ql_1800, ql_1805, ql_1811, ql_1822, ql_2132, ql_2140, ql_3229, ql_9999, ql_11453, ql_65536, ql_100000, ql_1000000, nI_add, pk_mul, q_and, q_or, q_xor, nI_clamp, q_in, q_neg1, q_nno, q_nno', q_annN, q_sh1, q_tbN, nI_leI, nI_ltI, nI_eq, pk_sub, ↓reduceIte, if_pos, if_neg, q_zlt, q_bs, f_X10_refuse]
      · simp (disch := omega) only [f_X11_fewest, m_areCases hm ok, hb, e2, q_eO, ql_0, ql_1, ql_2, ql_3, ql_4, ql_5, ql_6, ql_7, ql_8, ql_9, ql_10, ql_11, ql_12, ql_13, ql_14, ql_15, ql_16, ql_17, ql_18, ql_19, ql_20, ql_21, ql_22, ql_23, ql_24, ql_27, ql_30, ql_31, ql_32, ql_40, ql_48, ql_51, ql_52, ql_57, ql_59, ql_60, ql_61, ql_62, ql_76, ql_84, ql_91, ql_97, ql_99, ql_100, ql_120, ql_122, ql_127, ql_128, ql_200, ql_255, ql_256, ql_300, ql_420, ql_428, ql_640, ql_900, ql_896, ql_999, ql_1712, ql_1716, ql_1734, ql_1772, ql_1800, ql_1805, ql_1811, ql_1822, ql_2132, ql_2140, ql_3229, ql_9999, ql_11453, ql_65536, ql_100000, ql_1000000, nI_add, pk_mul, q_and, q_or, q_xor, nI_clamp, q_in, q_neg1, q_nno, q_nno', q_annN, q_sh1, q_tbN, nI_leI, nI_ltI, nI_eq, pk_sub, ↓reduceIte, if_pos, if_neg, q_zlt, q_bs, f_X11_refuse]
    | some b =>
      rw [ha] at e1 e2
      have hb' := hl b ha
      refine q_end (nI (q_pc b)) 0 (I := I) (J := J) ?_ ?_ hR
      · simp (disch := omega) only [f_X10_fewest, x0_hasCases hx ok, hb, e1, q_eO, ql_0, ql_1, ql_2, ql_3, ql_4, ql_5, ql_6, ql_7, ql_8, ql_9, ql_10, ql_11, ql_12, ql_13, ql_14, ql_15, ql_16, ql_17, ql_18, ql_19, ql_20, ql_21, ql_22, ql_23, ql_24, ql_27, ql_30, ql_31, ql_32, ql_40, ql_48, ql_51, ql_52, ql_57, ql_59, ql_60, ql_61, ql_62, ql_76, ql_84, ql_91, ql_97, ql_99, ql_100, ql_120, ql_122, ql_127, ql_128, ql_200, ql_255, ql_256, ql_300, ql_420, ql_428, ql_640, ql_900, ql_896, ql_999, ql_1712, ql_1716, ql_1734, ql_1772, ql_1800, ql_1805, ql_1811, ql_1822, ql_2132, ql_2140, ql_3229, ql_9999, ql_11453, ql_65536, ql_100000, ql_1000000, nI_add, pk_mul, q_and, q_or, q_xor, nI_clamp, q_in, q_neg1, q_nno, q_nno', q_annN, q_sh1, q_tbN, nI_leI, nI_ltI, nI_eq, pk_sub, ↓reduceIte, if_pos, if_neg, q_zlt, q_bs, q_bitCount0, f_X10_give]
      · simp (disch := omega) only [f_X11_fewest, m_areCases hm ok, hb, e2, q_eO, ql_0, ql_1, ql_2, ql_3, ql_4, ql_5, ql_6, ql_7, ql_8, ql_9, ql_10, ql_11, ql_12, ql_13, ql_14, ql_15, ql_16, ql_17, ql_18, ql_19, ql_20, ql_21, ql_22, ql_23, ql_24, ql_27, ql_30, ql_31, ql_32, ql_40, ql_48, ql_51, ql_52, ql_57, ql_59, ql_60, ql_61, ql_62, ql_76, ql_84, ql_91, ql_97, ql_99, ql_100, ql_120, ql_122, ql_127, ql_128, ql_200, ql_255, ql_256, ql_300, ql_420, ql_428, ql_640, ql_900, ql_896, ql_999, ql_1712, ql_1716, ql_1734, ql_1772, ql_1800, ql_1805, ql_1811, ql_1822, ql_2132, ql_2140, ql_3229, ql_9999, ql_11453, ql_65536, ql_100000, ql_1000000, nI_add, pk_mul, q_and, q_or, q_xor, nI_clamp, q_in, q_neg1, q_nno, q_nno', q_annN, q_sh1, q_tbN, nI_leI, nI_ltI, nI_eq, pk_sub, ↓reduceIte, if_pos, if_neg, q_zlt, q_bs, m_bits, f_X11_gives]
theorem r_fewestSet : s_fewestSet q_R := by
  intro I L J K p0 hR
  obtain ⟨C, T, mk, h⟩ := id hR
  obtain ⟨hx, hm, ok, -⟩ := h.o
  obtain ⟨o0, o1, o2, o3, -⟩ := id ok
  have hp2 := q_pow (n := C 0 0 1) (by omega)
  cases hb : q_hs (2 ^ C 0 0 1) p0 with
  | false => exact q_end (-1) 1 (by simp only [f_X10_fewestSet, x0_hasCases hx ok, hb]; rfl) (by simp only [f_X11_fewestSet, m_areCases hm ok, hb]; rfl) hR
  | true =>
    obtain ⟨cs, hcs, rfl⟩ := q_hs_t hb hp2
    have h8 := q_p8 o1 hcs
    have e1 := x_fewest hx ok h8
    have e2 := m_fewest hm ok h8
    have hl := q_fw_lt (C := C 0) (cs := cs) (n := 2 ^ C 0 0 2)
    have hp : 2 ^ C 0 0 2 ≤ 128 := q_p27 o2
    cases ha : q_fw (C 0) cs (2 ^ C 0 0 2) with
    | none =>
      rw [ha] at e1 e2
      refine q_end (-1) 6 (I := I) (J := J) ?_ ?_ hR
      · simp (disch := omega) only [f_X10_fewestSet, x0_hasCases hx ok, hb, e1, q_eO, ql_0, ql_1, ql_2, ql_3, ql_4, ql_5, ql_6, ql_7, ql_8, ql_9, ql_10, ql_11, ql_12, ql_13, ql_14, ql_15, ql_16, ql_17, ql_18, ql_19, ql_20, ql_21, ql_22, ql_23, ql_24, ql_27, ql_30, ql_31, ql_32, ql_40, ql_48, ql_51, ql_52, ql_57, ql_59, ql_60, ql_61, ql_62, ql_76, ql_84, ql_91, ql_97, ql_99, ql_100, ql_120, ql_122, ql_127, ql_128, ql_200, ql_255, ql_256, ql_300, ql_420, ql_428, ql_640, ql_900, ql_896, ql_999, ql_1712, ql_1716, ql_1734, ql_1772, ql_1800, ql_1805, ql_1811, ql_1822, ql_2132, ql_2140, ql_3229, ql_9999, ql_11453, ql_65536, ql_100000, ql_1000000, nI_add, pk_mul, q_and, q_or, q_xor, nI_clamp, q_in, q_neg1, q_nno, q_nno', q_annN, q_sh1, q_tbN, nI_leI, nI_ltI, nI_eq, pk_sub, ↓reduceIte, if_pos, if_neg, q_zlt, q_bs, f_X10_giveIfAny, f_X10_refuse]
      · simp (disch := omega) only [f_X11_fewestSet, m_areCases hm ok, hb, e2, q_eO, ql_0, ql_1, ql_2, ql_3, ql_4, ql_5, ql_6, ql_7, ql_8, ql_9, ql_10, ql_11, ql_12, ql_13, ql_14, ql_15, ql_16, ql_17, ql_18, ql_19, ql_20, ql_21, ql_22, ql_23, ql_24, ql_27, ql_30, ql_31, ql_32, ql_40, ql_48, ql_51, ql_52, ql_57, ql_59, ql_60, ql_61, ql_62, ql_76, ql_84, ql_91, ql_97, ql_99, ql_100, ql_120, ql_122, ql_127, ql_128, ql_200, ql_255, ql_256, ql_300, ql_420, ql_428, ql_640, ql_900, ql_896, ql_999, ql_1712, ql_1716, ql_1734, ql_1772, ql_1800, ql_1805, ql_1811, ql_1822, ql_2132, ql_2140, ql_3229, ql_9999, ql_11453, ql_65536, ql_100000, ql_1000000, nI_add, pk_mul, q_and, q_or, q_xor, nI_clamp, q_in, q_neg1, q_nno, q_nno', q_annN, q_sh1, q_tbN, nI_leI, nI_ltI, nI_eq, pk_sub, ↓reduceIte, if_pos, if_neg, q_zlt, q_bs, f_X11_orNone, f_X11_refuse]
    | some b =>
      rw [ha] at e1 e2
      have hb' := hl b ha
      refine q_end (nI b) 0 (I := I) (J := J) ?_ ?_ hR
      · simp (disch := omega) only [f_X10_fewestSet, x0_hasCases hx ok, hb, e1, q_eO, ql_0, ql_1, ql_2, ql_3, ql_4, ql_5, ql_6, ql_7, ql_8, ql_9, ql_10, ql_11, ql_12, ql_13, ql_14, ql_15, ql_16, ql_17, ql_18, ql_19, ql_20, ql_21, ql_22, ql_23, ql_24, ql_27, ql_30, ql_31, ql_32, ql_40, ql_48, ql_51, ql_52, ql_57, ql_59, ql_60, ql_61, ql_62, ql_76, ql_84, ql_91, ql_97, ql_99, ql_100, ql_120, ql_122, ql_127, ql_128, ql_200, ql_255, ql_256, ql_300, ql_420, ql_428, ql_640, ql_900, ql_896, ql_999, ql_1712, ql_1716, ql_1734, ql_1772, ql_1800, ql_1805, ql_1811, ql_1822, ql_2132, ql_2140, ql_3229, ql_9999, ql_11453, ql_65536, ql_100000, ql_1000000, nI_add, pk_mul, q_and, q_or, q_xor, nI_clamp, q_in, q_neg1, q_nno, q_nno', q_annN, q_sh1, q_tbN, nI_leI, nI_ltI, nI_eq, pk_sub, ↓reduceIte, if_pos, if_neg, q_zlt, q_bs, f_X10_giveIfAny, f_X10_give]
      · simp (disch := omega) only [f_X11_fewestSet, m_areCases hm ok, hb, e2, q_eO, ql_0, ql_1, ql_2, ql_3, ql_4, ql_5, ql_6, ql_7, ql_8, ql_9, ql_10, ql_11, ql_12, ql_13, ql_14, ql_15, ql_16, ql_17, ql_18, ql_19, ql_20, ql_21, ql_22, ql_23, ql_24, ql_27, ql_30, ql_31, ql_32, ql_40, ql_48, ql_51, ql_52, ql_57, ql_59, ql_60, ql_61, ql_62, ql_76, ql_84, ql_91, ql_97, ql_99, ql_100, ql_120, ql_122, ql_127, ql_128, ql_200, ql_255, ql_256, ql_300, ql_420, ql_428, ql_640, ql_900, ql_896, ql_999, ql_1712, ql_1716, ql_1734, ql_1772, ql_1800, ql_1805, ql_1811, ql_1822, ql_2132, ql_2140, ql_3229, ql_9999, ql_11453, ql_65536, ql_100000, ql_1000000, nI_add, pk_mul, q_and, q_or, q_xor, nI_clamp, q_in, q_neg1, q_nno, q_nno', q_annN, q_sh1, q_tbN, nI_leI, nI_ltI, nI_eq, pk_sub, ↓reduceIte, if_pos, if_neg, q_zlt, q_bs, f_X11_orNone, f_X11_gives]
