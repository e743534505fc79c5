/-! terms: any step, an end, the text -/
theorem q_piL : ∀ k, k < 23 → k < 12 ∨ k = 19 → q_pi k < 12 ∨ q_pi k = 22 := by decide +kernel
theorem m_toN {J : z_I} {K : z_L} {r : Nat} {p : Int32} (hr : r = 16 ∨ r = 17 ∨ r = 20 ∨ r = 21) : f_X11_termOrder J K (nI r) p = some (true, J) := by
  unfold f_X11_termOrder
  rcases hr with rfl | rfl | rfl | rfl
  · rw [if_neg (by decide), if_neg (by decide), if_neg (by decide), if_neg (by decide), if_pos (by decide)]
  · rw [if_neg (by decide), if_neg (by decide), if_neg (by decide), if_neg (by decide), if_neg (by decide), if_pos (by decide)]
  · rw [if_neg (by decide), if_neg (by decide), if_neg (by decide), if_neg (by decide), if_neg (by decide), if_neg (by decide), if_neg (by decide), if_neg (by decide)]
  · rw [if_neg (by decide), if_neg (by decide), if_neg (by decide), if_neg (by decide), if_neg (by decide), if_neg (by decide), if_neg (by decide), if_neg (by decide)]
theorem q_tlT (I : z_I) (L : z_L) : q_tl (true, I, L) = (f_X7_takeSemicolon I L).bind fun q5 => if q5.1 = true then some (true, q5.2.1, q5.2.2) else some (false, q5.2.1, q5.2.2) := by
  unfold q_tl
  rw [if_pos rfl]
theorem q_tStep {n : Nat} {B : Nat → Nat} {C : q_N} {K : z_L} {f e kd va m s dp : Nat} {o : Nat → Nat} {I : z_I} {L : z_L} {J : z_I} (h : q_ttS n B C K f e kd va m s dp o I L J) (hne : ¬ (kd = 2 ∧ va = 21)) : q_to n B C K f I L J (f_X6_takeStep I L) (f_X11_termStep J K) := by
  have h1 := h.1
  have h18 := h.2.2.2.1.1
  have hkh := h1.kh
  have hiw := h1.iw
  by_cases y : kd = 2
  · subst y
    rw [if_pos rfl] at hkh hiw
    have hv := (h1.c4 rfl).1
    by_cases c : va < 12 ∨ va = 19
    · have hp := q_piL va hv c
      refine q_toF h1 h18 (w := 2) (by omega) (fun I' hI => ?_) (m_tsN hiw ?_)
      · rcases c with c | c
        · exact x_tsF hkh (x_cbL (show nI va < nI 12 from (nI_ltI (by omega) (by omega)).2 c)) hI
        · subst c; exact x_tsF hkh x_cb19 hI
      · rcases hp with hp | hp
        · exact Or.inl (show nI (q_pi va) < nI 12 from (nI_ltI (by omega) (by omega)).2 hp)
        · rw [hp]; exact Or.inr (by decide)
    by_cases c12 : va = 12
    · subst c12
      refine q_stpP h (by omega) rfl (Or.inl (by decide)) (A1 := fun I1 L1 => f_X6_takeName I1 L1 (nI m) 10 7 (I1 3 12)) (fun I1 L1 J1 f1 e1 kd1 va1 a b c => q_o12 a b c) (fun I1 L1 a b c => ?_)
      unfold f_X6_takeStep
      rw [a, b, if_pos rfl, c, q_bs, if_pos (by decide)]
      rfl
    by_cases c13 : va = 13
    · subst c13
      refine q_stpP h (by omega) rfl (Or.inl (by decide)) (A1 := fun I1 L1 => (f_X6_takeName I1 L1 (nI m) 13 4 (I1 3 13)).bind fun q8 => if q8.1 = true then f_X6_takeNumber q8.2.1 q8.2.2 (nI m) 0 ((q8.2.1 3 10) - 1) else some (false, q8.2.1, q8.2.2)) (fun I1 L1 J1 f1 e1 kd1 va1 a b c => q_o13 a b c) (fun I1 L1 a b c => ?_)
      unfold f_X6_takeStep
      rw [a, b, if_pos rfl, c, q_bs, if_neg (by decide), if_pos (by decide)]
      exact (q_bif (X := f_X6_takeName I1 L1 (nI m) 13 4 (I1 3 13)) (F := fun q8 => f_X6_takeNumber q8.2.1 q8.2.2 (nI m) 0 ((q8.2.1 3 10) - 1))).symm
    by_cases c14 : va = 14
    · subst c14
      refine q_stpP h (by omega) rfl (Or.inl (by decide)) (A1 := fun I1 L1 => f_X6_takeName I1 L1 (nI m) 13 4 (I1 3 13)) (fun I1 L1 J1 f1 e1 kd1 va1 a b c => q_o14 a b c) (fun I1 L1 a b c => ?_)
      unfold f_X6_takeStep
      rw [a, b, if_pos rfl, c, q_bs, if_neg (by decide), if_neg (by decide), if_pos (by decide)]
      rfl
    by_cases c15 : va = 15
    · subst c15
      refine q_stpP h (by omega) rfl (Or.inl (by decide)) (A1 := fun I1 L1 => f_X6_takeNumber I1 L1 (nI m) 1 40) (fun I1 L1 J1 f1 e1 kd1 va1 a b c => q_o15 a b c) (fun I1 L1 a b c => ?_)
      unfold f_X6_takeStep
      rw [a, b, if_pos rfl, c, q_bs, if_neg (by decide), if_neg (by decide), if_neg (by decide), if_pos (by decide)]
      rfl
    by_cases c16 : va = 16
    · subst c16
      refine q_stpP h (by omega) rfl (Or.inl (by decide)) (A1 := fun I1 L1 => some (true, I1, L1)) (fun I1 L1 J1 f1 e1 kd1 va1 a b c => q_o0 a c (by omega) rfl (m_toN (by decide))) (fun I1 L1 a b c => ?_)
      unfold f_X6_takeStep
      rw [a, b, if_pos rfl, c, q_bs, q_bs, q_tlT, if_neg (by decide), if_neg (by decide), if_neg (by decide), if_neg (by decide), if_pos (by decide)]
    by_cases c17 : va = 17
    · subst c17
      refine q_stpP h (by omega) rfl (Or.inl (by decide)) (A1 := fun I1 L1 => some (true, I1, L1)) (fun I1 L1 J1 f1 e1 kd1 va1 a b c => q_o0 a c (by omega) rfl (m_toN (by decide))) (fun I1 L1 a b c => ?_)
      unfold f_X6_takeStep
      rw [a, b, if_pos rfl, c, q_bs, q_bs, q_tlT, if_neg (by decide), if_neg (by decide), if_neg (by decide), if_neg (by decide), if_neg (by decide), if_pos (by decide)]
    by_cases c22 : va = 22
    · subst c22
      refine q_stpP h (by omega) rfl (Or.inr rfl) (A1 := fun I1 L1 => some (true, I1, L1)) (fun I1 L1 J1 f1 e1 kd1 va1 a b c => q_o0 a c (by omega) rfl (m_toN (by decide))) (fun I1 L1 a b c => ?_)
      unfold f_X6_takeStep
      rw [a, b, if_pos rfl, c, q_bs, q_bs, q_tlT, if_neg (by decide), if_neg (by decide), if_neg (by decide), if_neg (by decide), if_neg (by decide), if_neg (by decide), if_neg (by decide), if_neg (by decide), if_neg (by decide)]
    by_cases c18 : va = 18
    · subst c18
      refine q_stpO h (by omega) rfl (Or.inl rfl) (A1 := fun I1 L1 => f_X6_takeTest I1 L1 (nI m)) (fun I1 L1 J1 f1 e1 kd1 va1 a b c => q_oT a b c) (fun I1 L1 a b c => ?_)
      unfold f_X6_takeStep
      rw [a, b, if_pos rfl, c, q_bs, if_neg (by decide), if_neg (by decide), if_neg (by decide), if_neg (by decide), if_neg (by decide), if_neg (by decide), if_pos (by decide)]
      rfl
    have c20 : va = 20 := by omega
    subst c20
    refine q_stpO h (by omega) rfl (Or.inr rfl) (A1 := fun I1 L1 => f_X6_takeNumber I1 L1 (nI m) 1 99) (fun I1 L1 J1 f1 e1 kd1 va1 a b c => q_o20 a b c) (fun I1 L1 a b c => ?_)
    unfold f_X6_takeStep
    rw [a, b, if_pos rfl, c, q_bs, if_neg (by decide), if_neg (by decide), if_neg (by decide), if_neg (by decide), if_neg (by decide), if_neg (by decide), if_neg (by decide), if_neg (by decide), if_pos (by decide)]
    rfl
  · rw [if_neg y] at hkh hiw
    exact q_toF h1 h18 (w := 2) (by omega) (fun I' hI => x_tsF hkh (x_cbL (by decide)) hI) (m_tsN hiw (Or.inl (by decide)))
theorem q_sub1 (dp : Nat) : nI (dp + 1) - 1 = nI dp := by
  rw [ql_1, ← nI_add, Int32.add_sub_cancel]
theorem q_tEnd {n : Nat} {B : Nat → Nat} {C : q_N} {K : z_L} {f e m s dp : Nat} {o : Nat → Nat} {I : z_I} {L : z_L} {J : z_I} (h : q_ttS n B C K f e 2 21 m s dp o I L J) : q_to n B C K f I L J (f_X6_takeEnd I L) (f_X11_termStep J K) := by
  obtain ⟨h1, hk, ⟨hsx, hsm, ok⟩, ⟨h18, h17, h5⟩, ⟨g1, g2, g3, g4, g5, g6⟩, ⟨l1, l2, l3⟩, htr⟩ := h
  have hiw := h1.iw
  rw [if_pos rfl] at hiw
  have hts := m_tsE (K := K) hiw g4 g2 g6 l1 (fun w => by omega)
  by_cases y : dp = 0
  · refine q_toF h1 h18 (w := 2) (by omega) (fun I' hI => ?_) (hts.1 y)
    unfold f_X6_takeEnd
    rw [g5, if_pos (show nI dp = 0 by rw [y]; rfl), ql_2, hI]
  obtain ⟨dp, rfl⟩ : ∃ d, dp = d + 1 := ⟨dp - 1, by omega⟩
  have hm : m < 60 := by omega
  have tm : o dp < m := (htr.2.1.1 dp (by omega)).1
  have hR := hts.2 y
  obtain ⟨q1, q2, q3, q4⟩ := q_j1_f (J := J) (x := nI s) (r := 20) hm
  generalize hJb : q_j1 J (nI s) m 20 = Jb at q1 q2 q3 q4 hR
  have hfe := h1.fe
  generalize hIb : z2 (z2 (z2 (z2 (z2 I 43 4 (nI dp)) 34 m (nI 21)) 33 6 (nI (m + 1))) 38 (o dp) (nI m)) 38 m (nI (o dp)) = Ib
  have fIb : ∀ d k, d ≠ 43 ∨ k ≠ 4 → d ≠ 34 ∨ k ≠ m → d ≠ 33 ∨ k ≠ 6 → d ≠ 38 ∨ (k ≠ m ∧ k ≠ o dp) → Ib d k = I d k := fun d k d1 d2 d3 d4 => by rw [← hIb, q_zo (by omega), q_zo (by omega), q_zo (by omega), q_zo (by omega), q_zo (by omega)]
  have hls : q_ls n B f e 2 21 Ib L Jb := h1.go (fun d k w => fIb d k (by omega) (by omega) (by omega) (by omega)) rfl (fun d k w => q1 d k (by omega) (by omega))
  obtain ⟨I1, L1, J1, f1, e1, kd1, va1, m1, m2, m3, m4, m5, m6, m7⟩ := hls.mv hk
  have fI1 : ∀ d k, d ≠ 39 → I1 d k = Ib d k := fun d k hd => m5 d k (by omega)
  have hff : f < f1 := by have := hfe.2.2.2 (by omega); omega
  have hA : f_X6_takeEnd I L = (f_X7_takeSemicolon I1 L1).bind fun q12 => some (q12.1, q12.2.1, q12.2.2) := by
    unfold f_X6_takeEnd f_X6_addEntry
    rw [g5, if_neg (show ¬ nI (dp + 1) = 0 from fun w => by have := (nI_eq (a := dp + 1) (b := 0) (by omega) (by omega)).1 w; omega), q_sub1, q_zlt, if_pos (q_in (by omega) (by decide)), nI_clamp (by omega), (htr.1 dp (by omega)).1, q_zlt, show z2 I 43 4 (nI dp) 33 6 = nI m by rw [q_zo (by omega), g1], if_pos (q_in hm (by decide)), nI_clamp (by omega), q_zlt, q_zlt, q_bs, if_pos (q_in (by omega) (by decide))]
    dsimp only
    rw [nI_clamp (by omega), q_zlt, if_pos (q_in hm (by decide)), nI_clamp (by omega), q_zlt, q_pp m 1 (x := 1) (by decide), show (21 : Int32) = nI 21 from rfl, hIb, m1, q_bs]
  have j22 : J1 0 22 = nI (dp + 1) := by rw [m7 0 22 (by omega), q1 0 22 (by omega) (by omega), g6]
  have j8 : J1 8 dp = nI (o dp) := by rw [m7 8 dp (by omega), q1 8 dp (by omega) (by omega), (htr.1 dp (by omega)).2]
  generalize hJ2 : z2 (z2 (z2 J1 0 22 (nI dp)) 1 (1772 + 6 * m + 4) (nI (o dp))) 1 (1772 + 6 * o dp + 4) (nI m) = J2
  have hR2 : f_X11_termStep J K = (f_X11_wantSign J2 59).bind fun q => some (q.1, q.2) := by
    rw [hR]
    unfold q_kP
    rw [m2, q_bs, m_toN (by decide), q_bs, if_pos rfl]
    show q_fE m J1 = _
    unfold q_fE
    rw [j22, q_sub1, nI_clamp (show dp < 2 ^ 31 by omega), j8, q_zlt, if_pos (q_in (by omega) (by decide)), q_pp (1772 + 6 * m) 4 (x := 4) (by decide), if_pos (q_in (by omega) (by decide)), nI_clamp (by omega), q_zlt, show ((1772 : Int32) + (6 : Int32) * nI (o dp)) + (4 : Int32) = nI (1772 + 6 * o dp + 4) by rw [show (1772 : Int32) = nI 1772 from rfl, show (6 : Int32) = nI 6 from rfl, show (4 : Int32) = nI 4 from rfl, pk_mul, nI_add, nI_add], if_pos (q_in (by omega) (by decide)), nI_clamp (by omega), q_zlt, hJ2]
  have f2 : ∀ d k, d ≠ 0 ∨ k ≠ 22 → d ≠ 1 ∨ (k ≠ 1772 + 6 * m + 4 ∧ k ≠ 1772 + 6 * o dp + 4) → J2 d k = J1 d k := fun d k d1 d2 => by rw [← hJ2, q_zo (by omega), q_zo (by omega), q_zo (by omega)]
  have h3 : q_ls n B f1 e1 kd1 va1 I1 L1 J2 := m3.go (fun _ _ _ => rfl) rfl (fun d k w => f2 d k (by omega) (by omega))
  have j18 : J2 0 18 = nI 0 := by rw [f2 0 18 (by omega) (by omega), m7 0 18 (by omega), q1 0 18 (by omega) (by omega), h18]
  have hk1 : q_rk L1 := hk.mL m6
  have FJb : ∀ d k, d ≠ 0 ∨ k < 12 ∨ (15 < k ∧ k ≠ 22 ∧ k ≠ 23) → d ≠ 1 ∨ (k ≠ 1719 ∧ (k < 1772 + 6 * m ∨ 1772 + 6 * m + 6 ≤ k) ∧ k ≠ 1772 + 6 * o dp + 4) → J2 d k = J d k := fun d k d1 d2 => by rw [f2 d k (by omega) (by omega), m7 d k (by omega), q1 d k (by omega) (by omega)]
  rcases q_tSemi h3 hk1 j18 with ⟨I3, L3, J3, f3, e3, kd3, va3, c1, c2, c3, c4, c5, c6, c7, -⟩ | ⟨I3, L3, J3, c1, c2, c3, c4, c5, c6⟩
  · rw [c2, q_bs] at hR2
    rw [c1, q_bs] at hA
    have FI : ∀ d k, d ≠ 39 → I3 d k = Ib d k := fun d k d1 => by rw [c5 d k d1, fI1 d k d1]
    have hen : q_en C 21 m (1772 + 6 * m) I3 J3 := by
      obtain ⟨t2, x2⟩ := q_ex32 (I3 35 m)
      obtain ⟨t3, x3⟩ := q_ex32 (I3 36 m)
      obtain ⟨t4, x4⟩ := q_ex32 (I3 37 m)
      refine ⟨t2, t3, t4, ?_, x2, x3, x4, ⟨by unfold q_tk; omega, fun w => by omega, fun w => by omega, fun w => by omega, fun w => by omega, fun w => by omega, fun w => by omega, fun w => by omega⟩, ?_, fun w => by omega, fun w => by omega, fun w => by omega, fun w => by omega⟩
      · rw [FI 34 m (by omega), ← hIb, q_zo (by omega), q_zo (by omega), q_zo (by omega), q_zs]
      · rw [c7.F 1 _ (by omega), f2 1 _ (by omega) (by omega), m7 1 _ (by omega), q4]
        rfl
    have htr' := htr.close (I' := I3) (J' := J3) ok hm (fun d k d1 d2 d3 => by rw [FI d k (by omega), fIb d k (by omega) (by omega) (by omega) (by omega)]) (fun k k1 k2 => by rw [FI 38 k (by omega), fIb 38 k (by omega) (by omega) (by omega) (by omega)]) (by rw [FI 38 m (by omega), ← hIb, q_zs]) (by rw [FI 38 _ (by omega), ← hIb, q_zo (by omega), q_zs]) (fun k k1 k2 k3 => by rw [c7.F 1 k (by omega), FJb 1 k (by omega) (by omega)]) (by rw [c7.F 1 _ (by omega), ← hJ2, q_zs]) (by rw [c7.F 1 _ (by omega), ← hJ2, q_zo (by omega), q_zs]) hen (fun j hj => ⟨by rw [FI 44 j (by omega), fIb 44 j (by omega) (by omega) (by omega) (by omega)], by rw [c7.F 8 j (by omega), FJb 8 j (by omega) (by omega)]⟩)
    refine Or.inl ⟨I3, L3, J3, f3, e3, kd3, va3, m + 1, s, dp, o, hA, hR2, ⟨c3, hk1.mL c6, ⟨?_, ?_, ok⟩, ⟨?_, ?_, ?_⟩, ⟨?_, ?_, ?_, ?_, ?_, ?_⟩, ⟨by omega, l2, by omega⟩, htr'⟩, by omega, fun d k w => ?_, fun d k w => ?_, fun d k w1 w2 w3 w4 => ?_, fun _ _ _ => rfl⟩
    · exact hsx.go (fun d k a b => by rw [FI d k (by omega), fIb d k (by omega) (by omega) (by omega) (by omega)]) (fun d k a b => by rw [c6 d k (by omega), m6 d k (by omega)])
    · exact hsm.go ok (fun k a b => by rw [c7.F 1 k (by omega), FJb 1 k (by omega) (by omega)]) (fun _ _ _ => rfl)
    · rw [c7.F 0 18 (by omega), j18]
    · rw [c7.F 0 17 (by omega), FJb 0 17 (by omega) (by omega), h17]
    · rw [FI 33 5 (by omega), fIb 33 5 (by omega) (by omega) (by omega) (by omega), h5]
    · rw [FI 33 6 (by omega), ← hIb, q_zo (by omega), q_zo (by omega), q_zs]
    · rw [c7.F 1 1719 (by omega), f2 1 1719 (by omega) (by omega), m7 1 1719 (by omega), q3]
    · rw [FI 33 7 (by omega), fIb 33 7 (by omega) (by omega) (by omega) (by omega), g3]
    · rw [c7.F 0 23 (by omega), f2 0 23 (by omega) (by omega), m7 0 23 (by omega), q2]
    · rw [FI 43 4 (by omega), ← hIb, q_zo (by omega), q_zo (by omega), q_zo (by omega), q_zo (by omega), q_zs]
    · rw [c7.F 0 22 (by omega), ← hJ2, q_zo (by omega), q_zo (by omega), q_zs]
    · rw [FI d k (by omega), fIb d k (by omega) (by omega) (by omega) (by omega)]
    · rw [c6 d k (by omega), m6 d k (by omega)]
    · rw [c7.F d k (by omega), FJb d k (by omega) (by omega)]
  · rw [c2, q_bs] at hR2
    rw [c1, q_bs] at hA
    refine Or.inr ⟨I3, L3, J3, hA, hR2, c3, fun d k w => ?_, fun d k w => ?_, fun d k w1 w2 w3 w4 => ?_, fun _ _ _ => rfl⟩
    · rw [c4 d k (by omega), fI1 d k (by omega), fIb d k (by omega) (by omega) (by omega) (by omega)]
    · rw [c5 d k (by omega), m6 d k (by omega)]
    · rw [c6.F d k (by omega), FJb d k (by omega) (by omega)]
theorem q_ttext {n : Nat} {B : Nat → Nat} {C : q_N} {K : z_L} (kX : z_I → z_L → Option (Bool × z_I × z_L)) (k57 : z_I → Option (Int32 × z_I)) : ∀ j i f e kd va m s dp o fu fu2 I L J, n ≤ f + j → i ≤ f → j + 1 < fu → j + 1 < fu2 → q_ttS n B C K f e kd va m s dp o I L J → (∃ I' L' J' f' e' va' m' s' dp' o', g_X6_takeText_30 (nI n) kX fu (nI i) I L = kX I' L' ∧ g_X11_terms_38 K k57 fu2 true J = k57 J' ∧ q_ttS n B C K f' e' 0 va' m' s' dp' o' I' L' J' ∧ q_cf I L J K I' L' J' K) ∨ (∃ I' L' J', g_X6_takeText_30 (nI n) kX fu (nI i) I L = some (false, I', L') ∧ g_X11_terms_38 K k57 fu2 true J = k57 J' ∧ q_b1 I' J' ∧ q_cf I L J K I' L' J' K) := by
  intro j
  induction j with
  | zero =>
    intro i f e kd va m s dp o fu fu2 I L J hj hi hfu hfu2 h
    obtain ⟨fu, rfl⟩ : ∃ g, fu = g + 1 := ⟨fu - 1, by omega⟩
    obtain ⟨fu2, rfl⟩ : ∃ g, fu2 = g + 1 := ⟨fu2 - 1, by omega⟩
    have h1 := h.1
    have hfe := h1.fe
    have hkd : kd = 0 := Classical.byContradiction (fun y => by have := hfe.2.2.2 y; omega)
    subst hkd
    have hisO := h1.isO
    rw [decide_eq_true rfl] at hisO
    have b3 := h1.2.2.1.2.2
    refine Or.inl ⟨I, L, J, f, e, va, m, s, dp, o, ?_, ?_, h, fun _ _ _ => rfl, fun _ _ _ => rfl, fun _ _ _ _ _ _ => rfl, fun _ _ _ => rfl⟩
    · rw [g_X6_takeText_30, if_neg (nI_nlt (by omega) (by omega)), hisO, if_pos rfl]
    · rw [g_X11_terms_38, if_pos rfl, b3, if_pos (show nI (q_jk 0) = 0 from rfl)]
  | succ j ih =>
    intro i f e kd va m s dp o fu fu2 I L J hj hi hfu hfu2 h
    obtain ⟨fu, rfl⟩ : ∃ g, fu = g + 1 := ⟨fu - 1, by omega⟩
    obtain ⟨fu2, rfl⟩ : ∃ g, fu2 = g + 1 := ⟨fu2 - 1, by omega⟩
    have h1 := h.1
    have hfe := h1.fe
    have hisO := h1.isO
    have b3 := h1.2.2.1.2.2
    have hin : ¬ nI n < nI i := nI_nlt (by omega) (by omega)
    by_cases y0 : kd = 0
    · subst y0
      rw [decide_eq_true rfl] at hisO
      refine Or.inl ⟨I, L, J, f, e, va, m, s, dp, o, ?_, ?_, h, fun _ _ _ => rfl, fun _ _ _ => rfl, fun _ _ _ _ _ _ => rfl, fun _ _ _ => rfl⟩
      · rw [g_X6_takeText_30, if_neg hin, hisO, if_pos rfl]
      · rw [g_X11_terms_38, if_pos rfl, b3, if_pos (show nI (q_jk 0) = 0 from rfl)]
    rw [decide_eq_false y0] at hisO
    have hjk : ¬ nI (q_jk kd) = 0 := by
      have h6 := h1.i5.1
      have := q_jk0 kd (by omega)
      rw [ql_0, nI_eq (by omega) (by omega)]
      omega
    have hM : g_X11_terms_38 K k57 (fu2 + 1) true J = (f_X11_termStep J K).bind (fun q => g_X11_terms_38 K k57 fu2 q.1 q.2) := by
      rw [g_X11_terms_38, if_pos rfl, b3, if_neg hjk]
    have fin : ∀ {A : Option (Bool × z_I × z_L)}, q_to n B C K f I L J A (f_X11_termStep J K) → g_X6_takeText_30 (nI n) kX (fu + 1) (nI i) I L = A.bind (fun q => if q.1 = true then g_X6_takeText_30 (nI n) kX fu (nI i + 1) q.2.1 q.2.2 else some (false, q.2.1, q.2.2)) → (∃ I' L' J' f' e' va' m' s' dp' o', g_X6_takeText_30 (nI n) kX (fu + 1) (nI i) I L = kX I' L' ∧ g_X11_terms_38 K k57 (fu2 + 1) true J = k57 J' ∧ q_ttS n B C K f' e' 0 va' m' s' dp' o' I' L' J' ∧ q_cf I L J K I' L' J' K) ∨ (∃ I' L' J', g_X6_takeText_30 (nI n) kX (fu + 1) (nI i) I L = some (false, I', L') ∧ g_X11_terms_38 K k57 (fu2 + 1) true J = k57 J' ∧ q_b1 I' J' ∧ q_cf I L J K I' L' J' K) := fun hpo eA => by
      rcases hpo with ⟨I1, L1, J1, f1, e1, kd1, va1, m1, s1, dp1, o1, z1, z2', z3, z4, z5⟩ | ⟨I1, L1, J1, z1, z2', z3, z4⟩
      · rw [eA, hM, z1, z2', q_bs, q_bs, if_pos rfl, ql_1, nI_add]
        rcases ih (i + 1) f1 e1 kd1 va1 m1 s1 dp1 o1 fu fu2 I1 L1 J1 (by omega) (by omega) (by omega) (by omega) z3 with ⟨I', L', J', f', e', va', m', s', dp', o', r1, r2, r3, r4⟩ | ⟨I', L', J', r1, r2, r3, r4⟩
        · exact Or.inl ⟨I', L', J', f', e', va', m', s', dp', o', r1, r2, r3, z5.tr r4⟩
        · exact Or.inr ⟨I', L', J', r1, r2, r3, z5.tr r4⟩
      · refine Or.inr ⟨I1, L1, J1, ?_, ?_, z3, z4⟩
        · rw [eA, z1, q_bs]; rfl
        · obtain ⟨fu2, rfl⟩ : ∃ g, fu2 = g + 1 := ⟨fu2 - 1, by omega⟩
          rw [hM, z2', q_bs, g_X11_terms_38, if_neg (show ¬ (false = true) by decide)]
    have hat : f_X7_isAt I 21 = decide (kd = 2 ∧ va = 21) := h1.isAt (k := 21) (by omega)
    by_cases y : kd = 2 ∧ va = 21
    · obtain ⟨rfl, rfl⟩ := id y
      rw [decide_eq_true y] at hat
      refine fin (q_tEnd h) ?_
      rw [g_X6_takeText_30, if_neg hin, hisO, if_neg (by decide), hat, if_pos rfl]
    · rw [decide_eq_false y] at hat
      refine fin (q_tStep h y) ?_
      rw [g_X6_takeText_30, if_neg hin, hisO, if_neg (by decide), hat, if_neg (by decide)]
