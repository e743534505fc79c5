/-! the whole of a court's text -/
theorem q_piB0 : ∀ k, k < 23 → k = 0 ∨ k = 1 ∨ k = 4 ∨ k = 6 ∨ k = 10 ∨ (5 ≤ q_pi k ∧ q_pi k < 23) := by decide +kernel
theorem q_piB (k : Nat) (hk : k < 23) (h0 : k ≠ 0) (h1 : k ≠ 1) (h4 : k ≠ 4) (h6 : k ≠ 6) (h10 : k ≠ 10) : 5 ≤ q_pi k ∧ q_pi k < 23 := by
  have := q_piB0 k hk
  omega
theorem q_jk0 : ∀ k, k < 7 → k = 0 ∨ (q_jk k ≠ 0 ∧ q_jk k < 10) := by decide
theorem q_ctext {n : Nat} {B : Nat → Nat} (k50 : z_I → z_L → Option (Int32 × z_I × z_L)) : ∀ j i C N od f e kd va fu fu2 I L J K, n ≤ f + j → i ≤ f → j + 1 < fu → j + 1 < fu2 → q_ct n B C N od f e kd va I L J K → (∃ I' L' J' K' C' N' od' f' e' va', g_X1_takeText_22 (nI n) fu (nI i) I L = some (true, I', L') ∧ g_X11_court_31 k50 fu2 true J K = k50 J' K' ∧ q_ct n B C' N' od' f' e' 0 va' I' L' J' K' ∧ q_cf I L J K I' L' J' K') ∨ (∃ I' L' J' K', g_X1_takeText_22 (nI n) fu (nI i) I L = some (false, I', L') ∧ g_X11_court_31 k50 fu2 true J K = k50 J' K' ∧ q_b1 I' J' ∧ q_cf I L J K I' L' J' K') := by
  intro j
  induction j with
  | zero =>
    intro i C N od f e kd va fu fu2 I L J K hj hi hfu hfu2 h
    obtain ⟨fu, rfl⟩ : ∃ g, fu = g + 1 := ⟨fu - 1, by omega⟩
    obtain ⟨fu2, rfl⟩ : ∃ g, fu2 = g + 1 := ⟨fu2 - 1, by omega⟩
    have h1 := h.1
    have hfe := h1.fe
    have hkd : kd = 0 := Classical.byContradiction (fun y => by have := hfe.2.2.2 y; omega)
    subst hkd
    have hisO := h1.isO
    rw [decide_eq_true rfl] at hisO
    have b3 := h1.2.2.1.2.2
    refine Or.inl ⟨I, L, J, K, C, N, od, f, e, va, ?_, ?_, h, fun _ _ _ => rfl, fun _ _ _ => rfl, fun _ _ _ _ _ _ => rfl, fun _ _ _ => rfl⟩
    · rw [g_X1_takeText_22, if_neg (nI_nlt (by omega) (by omega)), hisO, if_pos rfl]
    · rw [g_X11_court_31, if_pos rfl, b3, if_pos (show nI (q_jk 0) = 0 from rfl)]
  | succ j ih =>
    intro i C N od f e kd va fu fu2 I L J K hj hi hfu hfu2 h
    obtain ⟨fu, rfl⟩ : ∃ g, fu = g + 1 := ⟨fu - 1, by omega⟩
    obtain ⟨fu2, rfl⟩ : ∃ g, fu2 = g + 1 := ⟨fu2 - 1, by omega⟩
    have h1 := h.1
    have h18 := h.2.2.2.2.2.1
    have hfe := h1.fe
    have hisO := h1.isO
    have hkh := h1.kh
    have hiw := h1.iw
    have b3 := h1.2.2.1.2.2
    have hin : ¬ nI n < nI i := nI_nlt (by omega) (by omega)
    by_cases y0 : kd = 0
    · subst y0
      rw [decide_eq_true rfl] at hisO
      refine Or.inl ⟨I, L, J, K, C, N, od, f, e, va, ?_, ?_, h, fun _ _ _ => rfl, fun _ _ _ => rfl, fun _ _ _ _ _ _ => rfl, fun _ _ _ => rfl⟩
      · rw [g_X1_takeText_22, if_neg hin, hisO, if_pos rfl]
      · rw [g_X11_court_31, if_pos rfl, b3, if_pos (show nI (q_jk 0) = 0 from rfl)]
    rw [decide_eq_false y0] at hisO
    have hjk : ¬ nI (q_jk kd) = 0 := by
      have h6 := h1.i5.1
      have := q_jk0 kd (by omega)
      rw [ql_0, nI_eq (by omega) (by omega)]
      omega
    have hM : g_X11_court_31 k50 (fu2 + 1) true J K = (f_X11_courtPart J K).bind (fun q6 => g_X11_court_31 k50 fu2 q6.1 q6.2.1 q6.2.2) := by
      rw [g_X11_court_31, if_pos rfl, b3, if_neg hjk]
    -- what follows a part
    have fin : ∀ {A R : Option (Bool × z_I × z_L)}, q_po n B f I L J K A R → f_X11_courtPart J K = R → g_X1_takeText_22 (nI n) (fu + 1) (nI i) I L = A.bind (fun q4 => if q4.1 = true then g_X1_takeText_22 (nI n) fu (nI i + 1) q4.2.1 q4.2.2 else some (false, q4.2.1, q4.2.2)) → (∃ I' L' J' K' C' N' od' f' e' va', g_X1_takeText_22 (nI n) (fu + 1) (nI i) I L = some (true, I', L') ∧ g_X11_court_31 k50 (fu2 + 1) true J K = k50 J' K' ∧ q_ct n B C' N' od' f' e' 0 va' I' L' J' K' ∧ q_cf I L J K I' L' J' K') ∨ (∃ I' L' J' K', g_X1_takeText_22 (nI n) (fu + 1) (nI i) I L = some (false, I', L') ∧ g_X11_court_31 k50 (fu2 + 1) true J K = k50 J' K' ∧ q_b1 I' J' ∧ q_cf I L J K I' L' J' K') := fun hpo eR eA => by
      rcases hpo with ⟨I1, L1, J1, K1, C1, N1, od1, f1, e1, kd1, va1, z1, z2', z3, z4, z5⟩ | ⟨I1, L1, J1, K1, z1, z2', z3, z4⟩
      · rw [eA, hM, eR, z1, z2', q_bs, q_bs, if_pos rfl, ql_1, nI_add]
        rcases ih (i + 1) C1 N1 od1 f1 e1 kd1 va1 fu fu2 I1 L1 J1 K1 (by omega) (by omega) (by omega) (by omega) z3 with ⟨I', L', J', K', C', N', od', f', e', va', r1, r2, r3, r4⟩ | ⟨I', L', J', K', r1, r2, r3, r4⟩
        · exact Or.inl ⟨I', L', J', K', C', N', od', f', e', va', r1, r2, r3, z5.tr r4⟩
        · exact Or.inr ⟨I', L', J', K', r1, r2, r3, z5.tr r4⟩
      · refine Or.inr ⟨I1, L1, J1, K1, ?_, ?_, z3, z4⟩
        · rw [eA, z1, q_bs]; rfl
        · obtain ⟨fu2, rfl⟩ : ∃ g, fu2 = g + 1 := ⟨fu2 - 1, by omega⟩
          rw [hM, eR, z2', q_bs, g_X11_court_31, if_neg (show ¬ (false = true) by decide)]
    obtain ⟨I1, J1, eX, eM, p1, p2, p3⟩ := q_fail h1 h18 (w := 2) (by omega) (fun _ => False)
    have bad : (∃ x, f_X11_inWords J = some x ∧ (x < 0 ∨ ¬ x ≤ 4)) → g_X1_takeText_22 (nI n) (fu + 1) (nI i) I L = some (false, I1, L) → (∃ I' L' J' K' C' N' od' f' e' va', g_X1_takeText_22 (nI n) (fu + 1) (nI i) I L = some (true, I', L') ∧ g_X11_court_31 k50 (fu2 + 1) true J K = k50 J' K' ∧ q_ct n B C' N' od' f' e' 0 va' I' L' J' K' ∧ q_cf I L J K I' L' J' K') ∨ (∃ I' L' J' K', g_X1_takeText_22 (nI n) (fu + 1) (nI i) I L = some (false, I', L') ∧ g_X11_court_31 k50 (fu2 + 1) true J K = k50 J' K' ∧ q_b1 I' J' ∧ q_cf I L J K I' L' J' K') := fun hx eA => by
      obtain ⟨x, x1, x2⟩ := hx
      refine Or.inr ⟨I1, L, J1, K, eA, ?_, p1, fun d k w => p2 d k (by omega), fun _ _ _ => rfl, fun d k a b c e => p3.F d k (by omega), fun _ _ _ => rfl⟩
      obtain ⟨fu2, rfl⟩ : ∃ g, fu2 = g + 1 := ⟨fu2 - 1, by omega⟩
      rw [hM, m_cpN x1 x2, ql_2, eM, q_bs, g_X11_court_31, if_neg (show ¬ (false = true) by decide)]
    by_cases y2 : kd = 2
    · subst y2
      rw [if_pos rfl] at hkh hiw
      have hv := (h1.c4 rfl).1
      by_cases c0 : va = 0
      · subst c0
        refine fin (q_pOdds h) rfl ?_
        rw [g_X1_takeText_22, if_neg hin, hisO, if_neg (by decide), hkh, if_pos (by decide)]
      by_cases c1 : va = 1
      · subst c1
        refine fin (q_pBed h) rfl ?_
        rw [g_X1_takeText_22, if_neg hin, hisO, if_neg (by decide), hkh, if_neg (by decide), if_pos (by decide)]
      by_cases c4 : va = 4
      · subst c4
        refine fin (q_pCase h) rfl ?_
        rw [g_X1_takeText_22, if_neg hin, hisO, if_neg (by decide), hkh, if_neg (by decide), if_neg (by decide), if_neg (by decide), if_neg (by decide), if_pos (by decide)]
      by_cases c6 : va = 6
      · subst c6
        refine fin (q_pClaim h) rfl ?_
        rw [g_X1_takeText_22, if_neg hin, hisO, if_neg (by decide), hkh, if_neg (by decide), if_neg (by decide), if_neg (by decide), if_neg (by decide), if_neg (by decide), if_neg (by decide), if_pos (by decide)]
      by_cases c10 : va = 10
      · subst c10
        refine fin (q_pSch h) rfl ?_
        rw [g_X1_takeText_22, if_neg hin, hisO, if_neg (by decide), hkh, if_neg (by decide), if_neg (by decide), if_neg (by decide), if_neg (by decide), if_neg (by decide), if_neg (by decide), if_neg (by decide), if_neg (by decide), if_neg (by decide), if_neg (by decide), if_pos (by decide)]
      obtain ⟨pb, pb2⟩ := q_piB va hv c0 c1 c4 c6 c10
      refine bad ⟨nI (q_pi va), hiw, Or.inr (by rw [ql_4, nI_leI (by omega) (by omega)]; omega)⟩ ?_
      rw [g_X1_takeText_22, if_neg hin, hisO, if_neg (by decide), hkh]
      simp (disch := omega) only [ql_0, ql_1, ql_2, ql_3, ql_4, ql_5, ql_6, ql_7, ql_8, ql_9, ql_10, ql_11, ql_12, ql_13, ql_14, ql_15, ql_16, ql_17, ql_18, ql_19, ql_20, ql_21, ql_22, ql_23, ql_24, ql_27, ql_30, ql_31, ql_32, ql_40, ql_48, ql_51, ql_52, ql_57, ql_59, ql_60, ql_61, ql_62, ql_76, ql_84, ql_91, ql_97, ql_99, ql_100, ql_120, ql_122, ql_127, ql_128, ql_200, ql_255, ql_256, ql_300, ql_420, ql_428, ql_640, ql_900, ql_896, ql_999, ql_1712, ql_1716, ql_1734, ql_1772, ql_1800, ql_1805, ql_1811, ql_1822, ql_2132, ql_2140, ql_3229, ql_9999, ql_11453, ql_65536, ql_100000, ql_1000000, nI_add, pk_mul, q_and, q_or, q_xor, nI_clamp, q_in, q_neg1, q_nno, q_nno', q_annN, q_sh1, q_tbN, nI_leI, nI_ltI, nI_eq, pk_sub, ↓reduceIte, if_pos, if_neg, q_zlt, q_bs, c0, c1, c4, c6, c10, eX, Bool.false_eq_true, ite_self]
    · rw [if_neg y2] at hkh hiw
      refine bad ⟨q_no, hiw, Or.inl (by decide)⟩ ?_
      rw [g_X1_takeText_22, if_neg hin, hisO, if_neg (by decide), hkh]
      simp (disch := omega) only [ql_0, ql_1, ql_2, ql_3, ql_4, ql_5, ql_6, ql_7, ql_8, ql_9, ql_10, ql_11, ql_12, ql_13, ql_14, ql_15, ql_16, ql_17, ql_18, ql_19, ql_20, ql_21, ql_22, ql_23, ql_24, ql_27, ql_30, ql_31, ql_32, ql_40, ql_48, ql_51, ql_52, ql_57, ql_59, ql_60, ql_61, ql_62, ql_76, ql_84, ql_91, ql_97, ql_99, ql_100, ql_120, ql_122, ql_127, ql_128, ql_200, ql_255, ql_256, ql_300, ql_420, ql_428, ql_640, ql_900, ql_896, ql_999, ql_1712, ql_1716, ql_1734, ql_1772, ql_1800, ql_1805, ql_1811, ql_1822, ql_2132, ql_2140, ql_3229, ql_9999, ql_11453, ql_65536, ql_100000, ql_1000000, nI_add, pk_mul, q_and, q_or, q_xor, nI_clamp, q_in, q_neg1, q_nno, q_nno', q_annN, q_sh1, q_tbN, nI_leI, nI_ltI, nI_eq, pk_sub, ↓reduceIte, if_pos, if_neg, q_zlt, q_bs, eX, Bool.false_eq_true]
/-! a byte as both have it -/
theorem q_byt0 : ∀ b, b < 256 → (b < 128 → (Int8.ofNat b).toInt32 = nI b) ∧ (128 ≤ b → (Int8.ofNat b).toInt32 < 0) ∧ (Int8.ofNat b).toInt32 &&& 255 = nI b := by decide +kernel
theorem q_bytE {x : Int32} (hx : x.toInt8.toInt32 = x) : x.toInt8.toBitVec.toNat < 256 ∧ (x.toInt8.toBitVec.toNat < 128 → x = nI x.toInt8.toBitVec.toNat) ∧ (128 ≤ x.toInt8.toBitVec.toNat → x < 0) ∧ x &&& 255 = nI x.toInt8.toBitVec.toNat := by
  have hb : x.toInt8.toBitVec.toNat < 256 := x.toInt8.toBitVec.isLt
  have he : Int8.ofNat x.toInt8.toBitVec.toNat = x.toInt8 := by
    apply Int8.toBitVec_inj.1
    show BitVec.ofNat 8 x.toInt8.toBitVec.toNat = _
    simp
  obtain ⟨h1, h2, h3⟩ := q_byt0 _ hb
  rw [he, hx] at h1 h2 h3
  exact ⟨hb, h1, h2, h3⟩
/-- other faults -/
theorem q_Q.txt {C T : Nat → q_N} {mk : Nat} {I : z_I} {L : z_L} {J : z_I} {K : z_L} (h : q_Q C T mk I L J K) (x y : Int32) : q_Q C T mk (z2 (z2 (z2 I 0 18 (nI 0)) 0 16 x) 0 17 y) L (z2 (z2 (z2 J 0 10 (nI 0)) 0 16 x) 0 17 y) K := by
  obtain ⟨⟨h1, h2, h3, h4, h5⟩, h6, h7, h8, h10, h11, h12, h13⟩ := h
  have fI : ∀ d k, d ≠ 0 ∨ (k ≠ 16 ∧ k ≠ 17 ∧ k ≠ 18) → z2 (z2 (z2 I 0 18 (nI 0)) 0 16 x) 0 17 y d k = I d k := fun d k z => by rw [q_zo (by omega), q_zo (by omega), q_zo (by omega)]
  have fJ : ∀ d k, d ≠ 0 ∨ (k ≠ 16 ∧ k ≠ 17 ∧ k ≠ 10) → z2 (z2 (z2 J 0 10 (nI 0)) 0 16 x) 0 17 y d k = J d k := fun d k z => by rw [q_zo (by omega), q_zo (by omega), q_zo (by omega)]
  refine ⟨⟨h1, ?_, ?_, ?_, ?_⟩, ?_, ⟨0, by omega, ?_, ?_, fun k hk => by omega⟩, h8, ?_, ?_, h12, ?_⟩
  · rw [fI _ _ (by omega), h2]
  · rw [fJ _ _ (by omega), h3]
  · rw [q_zo (by omega), q_zs, q_zo (by omega), q_zs]
  · rw [q_zs, q_zs]
  · rw [fI _ _ (by omega), fJ _ _ (by omega), h6]
  · rw [q_zo (by omega), q_zo (by omega), q_zs]
  · rw [q_zo (by omega), q_zo (by omega), q_zs]
  · exact fun i hi => (h10 i hi).go (fun k => fI _ _ (by omega)) (fun k => rfl) (fJ _ _ (by omega)) (fJ _ _ (by omega)) (fun k _ => rfl)
  · exact h11.go (fI _ _ (by omega)) (fun k => fI _ _ (by omega)) (fJ _ _ (by omega)) (fun k => fJ _ _ (by omega))
  · intro i hi
    have hb := q_cc_b (i := i) (by omega)
    exact (h13 i hi).go (fun e k a b => fI _ _ (by omega)) (fun e k a b => rfl) (fun e k a b => fI _ _ (by omega)) (fun k a b => fJ _ _ (by omega)) (fun k a b => rfl)
/-- a text begins -/
theorem q_begin {C T : Nat → q_N} {mk : Nat} {I : z_I} {L : z_L} {J : z_I} {K : z_L} (h : q_Q C T mk I L J K) {t n mx : Nat} (ht : t ≤ 900) (i18 : I 0 18 = nI t) (j10 : J 0 10 = nI t) (htx : ∀ k, k < t → I 2 k = J 6 k ∧ (I 2 k).toInt8.toInt32 = I 2 k) (hn : n ≤ t) (hmx : n ≤ mx) (hmx9 : mx ≤ 900) {I1 : z_I} (hI1 : ∀ d k, d = 2 → I1 d k = I d k) : ∃ B I' L' J' f e kd va, f_X7_open I1 L (nI n) = some (I', L') ∧ f_X11_begins J (nI n) (nI mx) = some (true, J') ∧ q_ls n B f e kd va I' L' J' ∧ (∀ d k, d ≠ 39 → I' d k = I1 d k) ∧ q_mL L L' ∧ J' 0 18 = nI 0 ∧ J' 0 17 = q_no ∧ J' 0 10 = nI 0 ∧ (∀ d k, d ≠ 7 → d ≠ 0 ∨ k < 10 ∨ k = 16 ∨ 19 < k → J' d k = J d k) := by
  have hrk := h.2.2.2.2.2.2.1
  obtain ⟨J2, ⟨g1, g2⟩, eJ⟩ := q_lpC (G := fun fu k (a : z_I) => g_X11_begins_26 (nI n) (fun I_5 => z_lt (z2 I_5 0 10 (0 : Int32)) fun I6 => z_lt (z2 I6 0 18 (0 : Int32)) fun I7 => z_lt (z2 I7 0 17 (-1 : Int32)) fun I8 => z_lt (z2 I8 0 14 (0 : Int32)) fun I9 => z_lt (z2 I9 0 19 (0 : Int32)) fun I10 => (f_X11_ahead I10).bind fun q11 => some (true, q11)) fu (nI k) a) (K := fun a => (f_X11_ahead (z2 (z2 (z2 (z2 (z2 a 0 10 (nI 0)) 0 18 (nI 0)) 0 17 q_no) 0 14 (nI 0)) 0 19 (nI 0))).bind fun q11 => some (true, q11)) (N := n) (k0 := 0) (n := z_fuel) (a := z2 J 0 11 (nI n)) (fun k a => (∀ d j, d ≠ 7 → a d j = z2 J 0 11 (nI n) d j) ∧ ∀ j, j < k → a 7 j = I 2 j) (fun fu k a _ hk hp => by
    refine ⟨z2 a 7 k (vp_nar .byte (a 6 k)), ⟨fun d j hd => by rw [q_zo (by omega)]; exact hp.1 d j hd, fun j hj => ?_⟩, ?_⟩
    · by_cases y : j = k
      · subst y
        rw [q_zs, hp.1 6 j (by omega), q_zo (by omega), ← (htx j (by omega)).1]
        exact (htx j (by omega)).2
      · rw [q_zo (by omega)]; exact hp.2 j (by omega)
    · show g_X11_begins_26 (nI n) _ (fu + 1) (nI k) a = _
      rw [g_X11_begins_26, if_neg (nI_ge hk (by omega)), if_pos (q_in (by omega) (by decide)), nI_clamp (by omega), q_zlt, ql_1, nI_add]) (fun fu a hp => by
    show g_X11_begins_26 (nI n) _ (fu + 1) (nI n) a = _
    rw [g_X11_begins_26, if_pos (nI_le (Nat.le_refl _) (by omega)), q_zlt, q_zlt, q_zlt, q_zlt, q_zlt]
    rfl) (Nat.zero_le _) (q_fu (by omega)) ⟨fun _ _ _ => rfl, fun j hj => by omega⟩
  generalize hI4 : z2 (z2 (z2 (z2 I1 39 2 (nI n)) 39 4 (nI 0)) 39 11 (nI 0)) 39 12 q_no = I4
  generalize hJ4 : z2 (z2 (z2 (z2 (z2 J2 0 10 (nI 0)) 0 18 (nI 0)) 0 17 q_no) 0 14 (nI 0)) 0 19 (nI 0) = J4 at eJ
  have gI : ∀ d k, d ≠ 39 → I4 d k = I1 d k := fun d k hd => by rw [← hI4, q_zo (by omega), q_zo (by omega), q_zo (by omega), q_zo (by omega)]
  have gJ : ∀ d k, d ≠ 0 ∨ (k ≠ 10 ∧ k ≠ 18 ∧ k ≠ 17 ∧ k ≠ 14 ∧ k ≠ 19) → J4 d k = J2 d k := fun d k hd => by rw [← hJ4, q_zo (by omega), q_zo (by omega), q_zo (by omega), q_zo (by omega), q_zo (by omega)]
  have hxt : q_xt n (fun k => (I 2 k).toInt8.toBitVec.toNat) I4 J4 := by
    refine ⟨by omega, ?_, ?_, fun k hk => ?_⟩
    · rw [← hI4, q_zo (by omega), q_zo (by omega), q_zo (by omega), q_zs]
    · rw [gJ 0 11 (by omega), g1 0 11 (by omega), q_zs]
    · rw [gI 2 k (by omega), hI1 2 k rfl, gJ 7 k (by omega), g2 k hk]
      exact q_bytE (htx k (by omega)).2
  obtain ⟨I', L', J', f, e, kd, va, m1, m2, m3, m4, m5, m6, m7⟩ := q_move hxt hrk (e := 0) (Nat.zero_le _) (by rw [← hI4, q_zo (by omega), q_zo (by omega), q_zs]) (by rw [← hJ4, q_zo (by omega), q_zs])
  refine ⟨_, I', L', J', f, e, kd, va, ?_, ?_, m3, fun d k hd => by rw [m5 d k (by omega), gI d k hd], m6, ?_, ?_, ?_, fun d k d1 d2 => ?_⟩
  · unfold f_X7_open
    rw [q_zlt, q_zlt, q_zlt, q_zlt, show z_min (nI n) 900 = nI n from by rw [ql_900, q_min (by omega) (by omega)]; congr 1; omega, show (0 : Int32) = nI 0 from rfl, show (-1 : Int32) = q_no from rfl, hI4, m1, q_bs]
  · unfold f_X11_begins
    rw [if_neg (nI_pos (by omega)), j10, if_neg (nI_nlt hn (by omega)), if_pos (nI_le hmx (by omega)), q_zlt]
    refine Eq.trans eJ ?_
    rw [m2, q_bs]
  · rw [m7 0 18 (by omega), ← hJ4, q_zo (by omega), q_zo (by omega), q_zo (by omega), q_zs]
  · rw [m7 0 17 (by omega), ← hJ4, q_zo (by omega), q_zo (by omega), q_zs]
  · rw [m7 0 10 (by omega), ← hJ4, q_zo (by omega), q_zo (by omega), q_zo (by omega), q_zo (by omega), q_zs]
  · by_cases y : d = 0
    · rw [m7 d k (by omega), gJ d k (by omega), g1 d k d1, q_zo (by omega)]
    · rw [m7 d k (by omega), gJ d k (by omega), g1 d k d1, q_zo (by omega)]
