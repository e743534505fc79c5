/-! claims of a text -/
theorem q_pcy : ∀ x, x < 256 → ∀ c, c < 8 → x.testBit c = false → q_pc (x ||| 2 ^ c) = q_pc x + 1 := by decide +kernel
/-- the cases of which a claim is true -/
theorem q_truth {n : Nat} {B : Nat → Nat} {K : z_L} {cs c w2 : Nat} {N : Nat → Nat} (hcs : cs ≤ 8) (hc : c < 7) (hw2 : w2 + 2 < 2132) (h1712 : 1772 ≤ w2 + 60) (k179 : z_I → Option (Bool × z_I × z_L)) (hNK : ∀ k, k < cs → K 2 (76 + k) = lN (q_cv (N k)) ∧ N k < 27 ^ 8) : ∀ j v2 s f e kd va fu fu2 I L J, v2 + j = 9 → q_ls n B f e kd va I L J → q_rk L → J 0 18 = nI 0 → I 22 11 = nI cs → J 1 1713 = nI cs → (∀ k, k < cs → L 42 k = lN (N k)) → I 28 c = nI s → J 1 (w2 + 2) = nI s → s < 2 ^ cs → q_pc s = v2 → j < fu → j < fu2 → (∃ I' L' J' f' e' kd' va' s', g_X1_takeTruths_2 (nI c) fu (nI v2) I L = (f_X7_takeSemicolon I' L').bind (fun q9 => some (q9.1, q9.2.1, q9.2.2)) ∧ g_X11_aClaim_91 (nI w2) 2132 K k179 fu2 J = k179 J' ∧ q_ls n B f' e' kd' va' I' L' J' ∧ f ≤ f' ∧ s' < 2 ^ cs ∧ I' 28 c = nI s' ∧ J' 1 (w2 + 2) = nI s' ∧ (∀ d k, d ≠ 39 → d ≠ 28 ∨ k ≠ c → I' d k = I d k) ∧ q_mL L L' ∧ (∀ d k, d ≠ 0 ∨ k < 12 ∨ 15 < k → d ≠ 1 ∨ (k ≠ w2 + 2 ∧ k ≠ 2132) → J' d k = J d k)) ∨ (∃ I' L' J', g_X1_takeTruths_2 (nI c) fu (nI v2) I L = some (false, I', L') ∧ g_X11_aClaim_91 (nI w2) 2132 K k179 fu2 J = some (false, J', K) ∧ q_b1 I' J' ∧ (∀ d k, d ≠ 39 → d ≠ 28 ∨ k ≠ c → I' d k = I d k) ∧ q_mL L L' ∧ (∀ d k, d ≠ 0 ∨ k < 12 ∨ k = 16 ∨ 18 < k → d ≠ 1 ∨ (k ≠ w2 + 2 ∧ k ≠ 2132) → J' d k = J d k)) := by
  intro j
  induction j with
  | zero =>
    intro v2 s f e kd va fu fu2 I L J hv h1 hk h18 i11 j13 hN is js hs hpc
    have h8 := q_p8 hcs hs
    have := q_pc8 h8
    omega
  | succ j ih =>
    intro v2 s f e kd va fu fu2 I L J hv h1 hk h18 i11 j13 hN is js hs hpc hfu hfu2
    have h8 := q_p8 hcs hs
    have hp8 := q_pc8 h8
    obtain ⟨fu, rfl⟩ : ∃ g, fu = g + 1 := ⟨fu - 1, by omega⟩
    obtain ⟨fu2, rfl⟩ : ∃ g, fu2 = g + 1 := ⟨fu2 - 1, by omega⟩
    have hv8 : ¬ (8 : Int32) < nI v2 := by rw [ql_8, nI_ltI (by omega) (by omega)]; omega
    have hisn := h1.isN
    have hnm := h1.nm
    by_cases y : kd = 3
    · subst y
      rw [decide_eq_true rfl] at hisn hnm
      obtain ⟨nh, hw, nL⟩ := h1.nh
      have a1 := x_idx (L := L) (c := 42) (cn := 8) (m := cs) (w := va) (N := N) hcs (by omega) (fun k hk => ⟨hN k hk, (hNK k hk).2⟩) hw
      have b1 := m_idx (J := J) (K := K) (b := 76) (m := cs) (w := va) (N := N) (by omega) hNK hw nh
      have hlt := fun c h => (q_find_m (p := fun k => decide (N k = va)) cs c h).1
      rw [show nI 76 = (76 : Int32) from rfl] at b1
      cases hr : q_ix N va cs with
      | none =>
        rw [hr] at a1 b1
        have a1 : f_X10_indexOfName L 42 8 (nI cs) (lN va) = some q_no := a1
        have b1 : f_X11_findHere J K 76 (nI cs) = some q_no := b1
        have hq : q_ls n B f e 3 va I L (z2 J 1 2132 q_no) := h1.go (fun _ _ _ => rfl) rfl (fun d k w => q_zo (by omega))
        obtain ⟨I1, J1, eX, eM, p1, p2, p3⟩ := q_fail hq (by rw [q_zo (by omega), h18]) (w := 3) (by omega) (fun _ => False)
        refine Or.inr ⟨I1, L, J1, ?_, ?_, p1, fun d k hd _ => p2 d k hd, q_mL.rf L, fun d k hd hd2 => by rw [p3.F d k hd, q_zo (by omega)]⟩
        · rw [g_X1_takeTruths_2, if_neg hv8, hisn, if_pos rfl, i11, nL, a1, q_bs, if_pos (show q_no = -1 from rfl), ql_3, eX]
        · have hold : f_X11_oldOne J K 76 (nI cs) 2132 = some (false, J1) := by
            unfold f_X11_oldOne
            rw [hnm, q_bs, if_pos rfl, b1, q_bs, if_pos (show zin 2132 2200 = true by decide), q_zlt, show (2132 : Int32).toNatClampNeg = 2132 from by decide, q_zs, if_pos (show q_no = -1 from rfl), ql_3, eM]
          rw [g_X11_aClaim_91, hnm, q_bs, if_pos rfl, j13, b1, q_bs, if_pos (show q_no = -1 from rfl), hold, q_bs, if_neg (show ¬ (false = true) by decide)]
      | some k =>
        have hkc : k < cs := hlt k hr
        rw [hr] at a1 b1
        have a1 : f_X10_indexOfName L 42 8 (nI cs) (lN va) = some (nI k) := a1
        have b1 : f_X11_findHere J K 76 (nI cs) = some (nI k) := b1
        have hkn : ¬ nI k = -1 := fun w => (q_nno (by omega)).1 w
        have hpl : nI w2 + 2 = nI (w2 + 2) := by rw [ql_2, nI_add]
        cases hb : s.testBit k with
        | true =>
          obtain ⟨I1, J1, eX, eM, p1, p2, p3⟩ := q_fail h1 h18 (w := 5) (by omega) (fun _ => False)
          refine Or.inr ⟨I1, L, J1, ?_, ?_, p1, fun d k hd _ => p2 d k hd, q_mL.rf L, fun d k hd hd2 => p3.F d k hd⟩
          · have hbit : ¬ nI s &&& ((1 : Int32) <<< (nI k &&& 31)) = 0 := fun w => by rw [(q_tb (by omega)).1 w] at hb; cases hb
            rw [g_X1_takeTruths_2, if_neg hv8, hisn, if_pos rfl, i11, nL, a1, q_bs, if_neg hkn, if_pos (q_in (by omega) (by decide)), nI_clamp (by omega), is, if_neg hbit, ql_5, eX]
          · have hin := q_isIn (n := s) (j := k) (by omega) (by omega)
            rw [hb] at hin
            rw [g_X11_aClaim_91, hnm, q_bs, if_pos rfl, j13, b1, q_bs, if_neg hkn, hpl, if_pos (q_in (by omega) (by decide)), nI_clamp (by omega), js, hin, if_pos rfl, ql_5, eM]
        | false =>
          have hq : q_ls n B f e 3 va (z2 I 28 c (nI (s ||| 2 ^ k))) L (z2 J 1 2132 (nI k)) := h1.go (fun d k w => q_zo (by omega)) rfl (fun d k w => q_zo (by omega))
          obtain ⟨I1, L1, J1, f1, e1, kd1, va1, m1, m2, m3, m4, m5, m6, m7⟩ := hq.mv hk
          have hfe := h1.fe.2.2.2 (by omega)
          have hs' : s ||| 2 ^ k < 2 ^ cs := q_orp hs hkc
          have hj1 : J1 1 (w2 + 2) = nI s := by rw [m7 1 _ (by omega), q_zo (by omega), js]
          have hls : q_ls n B f1 e1 kd1 va1 I1 L1 (z2 J1 1 (w2 + 2) (nI (s ||| 2 ^ k))) := m3.go (fun _ _ _ => rfl) rfl (fun d k w => q_zo (by omega))
          have hpc' := q_pcy s h8 k (by omega) hb
          have hshl := q_shl k (by omega)
          have hX : g_X1_takeTruths_2 (nI c) (fu + 1) (nI v2) I L = g_X1_takeTruths_2 (nI c) fu (nI (v2 + 1)) I1 L1 := by
            have hbit : nI s &&& ((1 : Int32) <<< (nI k &&& 31)) = 0 := (q_tb (by omega)).2 hb
            rw [g_X1_takeTruths_2, if_neg hv8, hisn, if_pos rfl, i11, nL, a1, q_bs, if_neg hkn, if_pos (q_in (by omega) (by decide)), nI_clamp (by omega), is, if_pos hbit, q_zlt, hshl, q_or, m1, q_bs, ql_1, nI_add]
          have hM : g_X11_aClaim_91 (nI w2) 2132 K k179 (fu2 + 1) J = g_X11_aClaim_91 (nI w2) 2132 K k179 fu2 (z2 J1 1 (w2 + 2) (nI (s ||| 2 ^ k))) := by
            have hin := q_isIn (n := s) (j := k) (by omega) (by omega)
            rw [hb] at hin
            have hold : f_X11_oldOne J K 76 (nI cs) 2132 = some (true, J1) := by
              unfold f_X11_oldOne
              rw [hnm, q_bs, if_pos rfl, b1, q_bs, if_pos (show zin 2132 2200 = true by decide), q_zlt, show (2132 : Int32).toNatClampNeg = 2132 from by decide, q_zs, if_neg hkn, m2, q_bs]
            rw [g_X11_aClaim_91, hnm, q_bs, if_pos rfl, j13, b1, q_bs, if_neg hkn, hpl, if_pos (q_in (by omega) (by decide)), nI_clamp (by omega), js, hin, if_neg (by decide), hold, q_bs, if_pos rfl, q_zlt, hshl]
            dsimp only
            rw [hj1, q_or]
          rw [hX, hM]
          rcases ih (v2 + 1) (s ||| 2 ^ k) f1 e1 kd1 va1 fu fu2 I1 L1 (z2 J1 1 (w2 + 2) (nI (s ||| 2 ^ k))) (by omega) hls (hk.mL m6) (by rw [q_zo (by omega), m7 0 18 (by omega), q_zo (by omega), h18]) (by rw [m5 22 11 (by omega), q_zo (by omega), i11]) (by rw [q_zo (by omega), m7 1 1713 (by omega), q_zo (by omega), j13]) (fun k hk => by rw [m6 42 k (by omega)]; exact hN k hk) (by rw [m5 28 c (by omega), q_zs]) q_zs hs' (by omega) (by omega) (by omega) with ⟨I', L', J', f', e', kd', va', s', r1, r2, r3, r4, r5, r6, r7, r8, r9, r10⟩ | ⟨I', L', J', r1, r2, r3, r4, r5, r6⟩
          · exact Or.inl ⟨I', L', J', f', e', kd', va', s', r1, r2, r3, by omega, r5, r6, r7, fun d k d1 d2 => by rw [r8 d k d1 d2, m5 d k (by omega), q_zo (by omega)], m6.tr r9, fun d k d1 d2 => by rw [r10 d k d1 d2, q_zo (by omega), m7 d k d1, q_zo (by omega)]⟩
          · exact Or.inr ⟨I', L', J', r1, r2, r3, fun d k d1 d2 => by rw [r4 d k d1 d2, m5 d k (by omega), q_zo (by omega)], m6.tr r5, fun d k d1 d2 => by rw [r6 d k d1 d2, q_zo (by omega), m7 d k (by omega), q_zo (by omega)]⟩
    · rw [decide_eq_false y] at hisn hnm
      refine Or.inl ⟨I, L, J, f, e, kd, va, s, ?_, ?_, h1, Nat.le_refl _, hs, is, js, fun _ _ _ _ => rfl, q_mL.rf L, fun _ _ _ _ => rfl⟩
      · rw [g_X1_takeTruths_2, if_neg hv8, hisn, if_neg (by decide)]
      · rw [g_X11_aClaim_91, hnm, q_bs, if_neg (by decide)]
theorem q_pClaim {n : Nat} {B : Nat → Nat} {C : q_N} {N : Nat → Nat} {od f e : Nat} {I : z_I} {L : z_L} {J : z_I} {K : z_L} (h : q_ct n B C N od f e 2 6 I L J K) : q_po n B f I L J K (f_X1_takeClaim I L) (f_X11_courtPart J K) := by
  obtain ⟨h1, hk, ⟨hx, hm, ok⟩, hN, ⟨o1, o2, o3⟩, h18, h17, h19⟩ := h
  obtain ⟨k0, k1, k2, k3, -⟩ := id ok
  have hiw := h1.iw
  rw [if_pos rfl] at hiw
  have hcp := m_cp3 (K := K) hiw
  have xc := hx.f.2.2.1
  have mb : J 1 1712 = nI (C 0 0) := hm.1 0 0 (by simp [q_bd])
  have mcs : J 1 1713 = nI (C 0 1) := hm.1 0 1 (by simp [q_bd])
  have mc : J 1 1714 = nI (C 0 2) := hm.1 0 2 (by simp [q_bd])
  by_cases y : C 0 2 = 7
  · obtain ⟨I1, J1, eX, eM, p1, p2, p3⟩ := q_fail h1 h18 (w := 6) (by omega) (fun _ => False)
    have hnf := m_newFull (J := J) (J1 := J1) (K := K) (ci := 2) (cnt := C 0 2) (mx := 7) (cM := 2) (mM := 7) (sM := 8) rfl rfl (by omega) (by omega) mc y eM
    refine q_poF (P := fun _ => False) (I' := I1) (L' := L) (J' := J1) (K' := K) ?_ ?_ p1 (fun d k y => p2 d k (by omega)) (fun _ _ _ => rfl) (fun d k a b c e => p3.F d k (by omega)) (fun _ _ _ => rfl)
    · unfold f_X1_takeClaim
      rw [xc, if_neg (show ¬ nI (C 0 2) < 7 by rw [y]; decide), ql_6, eX]
    · rw [hcp]
      unfold f_X11_aClaim
      rw [q_zlt, hnf, q_bs, if_neg (show ¬ (false = true) by decide), q_bs, if_neg (show ¬ (false = true) by decide)]
  · obtain ⟨I1, L1, J1, f1, e1, kd1, va1, m1, m2, m3, m4, m5, m6, m7⟩ := h1.mv hk
    have hfe := h1.fe.2.2.2 (by omega)
    have e18 : J1 0 18 = nI 0 := by rw [m7 0 18 (by omega), h18]
    have x1 : q_sx C 22 I1 L1 := hx.go (fun d k a b => m5 d k (by omega)) (fun d k a b => m6 d k (by omega))
    have y1 : q_sm C 1712 76 J1 K := hm.go ok (fun k a b => m7 1 k (by omega)) (fun _ _ _ => rfl)
    have hno := m_newOne (J := J) (J1 := J1) (K := K) (ci := 2) (cnt := C 0 2) (mx := 7) (cM := 2) (mM := 7) (sM := 8) rfl rfl (by omega) (by omega) mc (by omega) m2
    have hrow : (1712 : Int32) + f_X11_claimRow (J 1 1714) = nI (1742 + 3 * C 0 2) := by
      unfold f_X11_claimRow
      rw [mc, show (30 : Int32) = nI 30 from rfl, ql_3, pk_mul, nI_add, ql_1712, nI_add]
      congr 1
      omega
    have hXs : f_X1_takeClaim I L = (f_X1_takeNewName I1 L1).bind (fun q3 => if q3.1 = true then (f_X7_takeKeyword q3.2.1 q3.2.2 7).bind (fun q5 => if q5.1 = true then (f_X7_takeNumber q5.2.1 q5.2.2 0 ((q5.2.1 22 10) - 1)).bind (fun q7 => if q7.1 = true then (f_X7_takeNumberBehind q7.2.1 q7.2.2 8 1 9 1).bind (fun q9 => if q9.1 = true then (f_X0_addClaim q9.2.1 q9.2.2 22 (q9.2.2 41 4) (q7.2.1 39 9) (q9.2.1 39 9) 0).bind (fun q11 => (f_X7_takeKeyword q11.1 q11.2 9).bind (fun q13 => if q13.1 = true then (f_X1_takeTruths q13.2.1 q13.2.2 ((q13.2.1 22 12) - 1)).bind (fun q15 => if q15.1 = true then some (true, q15.2.1, q15.2.2) else some (false, q15.2.1, q15.2.2)) else some (false, q13.2.1, q13.2.2))) else some (false, q9.2.1, q9.2.2)) else some (false, q7.2.1, q7.2.2)) else some (false, q5.2.1, q5.2.2)) else some (false, q3.2.1, q3.2.2)) := by
      unfold f_X1_takeClaim
      rw [xc, if_pos (show nI (C 0 2) < 7 by rw [ql_7, nI_ltI (by omega) (by omega)]; omega), m1, q_bs]
    have hMs : f_X11_aClaim J K = (q_newT J1 K 2 8).bind (fun q3 => if q3.1 = true then (f_X11_wantWord q3.2.1 8).bind (fun q5 => if q5.1 = true then (f_X11_newBedTo q5.2 (nI (1742 + 3 * C 0 2))).bind (fun q7 => if q7.1 = true then (f_X11_perhaps q7.2 9 (nI (1742 + 3 * C 0 2) + 1) 1 9 1).bind (fun q9 => if q9.1 = true then (f_X11_wantWord q9.2 10).bind (fun q11 => if q11.1 = true then (if zin (nI (1742 + 3 * C 0 2) + 2) 2200 = true then z_lt (z2 q11.2 1 ((nI (1742 + 3 * C 0 2) + 2)).toNatClampNeg 0) (fun I14 => g_X11_aClaim_91 (nI (1742 + 3 * C 0 2)) 2132 q3.2.2 (fun I_33 => z_lt (z2 I_33 1 1714 ((I_33 1 1714) + 1)) (fun I36 => some (true, I36, q3.2.2))) z_fuel I14) else none) else some (false, q11.2, q3.2.2)) else some (false, q9.2, q3.2.2)) else some (false, q7.2, q3.2.2)) else some (false, q5.2, q3.2.2)) else some (false, q3.2.1, q3.2.2)) := by
      unfold f_X11_aClaim
      rw [q_zlt, hrow, hno]
    rcases q_nw m3 (hk.mL m6) e18 x1 y1 ok (fun k hk' => by rw [m6 42 k (by omega)]; exact hN k hk') (ci := 2) (sort := 8) (cnt := C 0 2) (cM := 2) (sM := 8) rfl rfl (by rw [m7 1 _ (by omega)]; exact mc) (by omega) (by omega) with ⟨I2, L2, J2, f2, e2, kd2, va2, w, z1, z2', z3, z4, z5, z6, z6', z6'', z7⟩ | ⟨I2, L2, J2, z1, z2', z3, z4, z5, z6⟩
    · have f18 : J2 0 18 = nI 0 := by rw [z7 0 18 (by omega), e18]
      have hk2 : q_rk L2 := (hk.mL m6).go (fun k => z6 40 k (by omega) (by omega))
      have fK : ∀ d k, d ≠ 2 ∨ k < 76 → z2 K 2 (76 + 8 + C 0 2) (lN (q_cv w)) d k = K d k := fun d k u => q_zo (by omega)
      rcases q_tWordL z3 hk2 f18 (kX := 7) (kM := 8) (k := 7) (by omega) rfl rfl with ⟨I3, L3, J3, f3, e3, kd3, va3, w1, w2, w3, w4, w5, w6, w7, -⟩ | ⟨I3, L3, J3, w1, w2, w3, w4, w5, w6⟩
      · have g18 : J3 0 18 = nI 0 := by rw [w7.F 0 18 (by omega), f18]
        have hb3 : J3 1 1712 = nI (C 0 0) := by rw [w7.F 1 1712 (by omega), z7 1 1712 (by omega), m7 1 1712 (by omega), mb]
        have hb3x : I3 22 10 = nI (C 0 0) := by rw [w5 22 10 (by omega), z5 22 10 (by omega), m5 22 10 (by omega)]; exact hx.f.1
        rcases q_tNumL w3 (hk2.mL w6) g18 (lo := 0) (hi := I3 22 10 - 1) (hiM := J3 1 1712 - 1) (pM := nI (1742 + 3 * C 0 2)) (a := 0) (m := C 0 0) (p := 1742 + 3 * C 0 2) (fun v hv => q_loC (by decide) hv) (fun v hv => by rw [hb3x]; exact q_hiB (by omega) hv) (by rw [hb3, hb3x]) rfl (by omega) with ⟨I4, L4, J4, f4, e4, kd4, va4, t1, t2, t3, t4, t5, t6, t7, v, v1, v2, v3, v4, v5⟩ | ⟨I4, L4, J4, t1, t2, t3, t4, t5, t6⟩
        · have hnb : f_X11_newBedTo J3 (nI (1742 + 3 * C 0 2)) = some (true, J4) := by unfold f_X11_newBedTo; rw [t2, q_bs]
          have i18 : J4 0 18 = nI 0 := by rw [t7 0 18 (by omega) (by omega), g18]
          rcases q_tPerL t3 ((hk2.mL w6).mL t6) i18 (kX := 8) (kM := 9) (lo := 1) (hi := 9) (wo := 1) (a := 1) (m := 10) (o := 1) (k := 8) (pM := nI (1742 + 3 * C 0 2) + 1) (p := 1743 + 3 * C 0 2) (by omega) rfl rfl (fun v hv => q_loC (by decide) hv) (fun v hv => q_hiC (by decide) hv) rfl (by omega) (by rw [ql_1, nI_add]; congr 1; omega) (by omega) with ⟨I5, L5, J5, f5, e5, kd5, va5, s1, s2, s3, s4, s5, s6, s7, u, u1, u2, u3, u4, u5⟩ | ⟨I5, L5, J5, s1, s2, s3, s4, s5, s6⟩
          · have tI : ∀ d k, d ≠ 39 → I5 d k = I d k := fun d k hd => by rw [s5 d k hd, t5 d k hd, w5 d k hd, z5 d k hd, m5 d k (by omega)]
            have tL : ∀ d k, d ≠ 39 ∨ k ≠ 8 → d ≠ 41 ∨ k ≠ 4 → L5 d k = L d k := fun d k hd hd2 => by rw [s6 d k hd, t6 d k hd, w6 d k hd, z6 d k hd hd2, m6 d k hd]
            have tJ : ∀ d k, d ≠ 0 ∨ k < 12 ∨ 15 < k → d ≠ 1 ∨ (k ≠ 1742 + 3 * C 0 2 ∧ k ≠ 1743 + 3 * C 0 2) → J5 d k = J d k := fun d k h1 h2 => by rw [s7 d k h1 (by omega), t7 d k h1 (by omega), w7.F d k h1, z7 d k h1, m7 d k h1]
            have nw5 : L5 41 4 = lN w := by rw [s6 41 4 (by omega), t6 41 4 (by omega), w6 41 4 (by omega), z6']
            have x4 : q_sx C 22 I5 L5 := hx.go (fun d k a b => tI d k (by omega)) (fun d k a b => tL d k (by omega) (by omega))
            have hadd : f_X0_addClaim I5 L5 22 (lN w) (nI v) (nI u) 0 = some (z2 (z2 (z2 (z2 I5 26 (C 0 2) (nI v)) 27 (C 0 2) (nI u)) 28 (C 0 2) (nI 0)) 22 12 (nI (C 0 2 + 1)), z2 L5 29 (C 0 2) (lN w)) := by
              unfold f_X0_addClaim
              rw [x4.f.2.2.1, if_pos (q_in (by omega) (by decide)), nI_clamp (by omega), q_zlt, q_zlt, q_zlt, q_zlt, q_zlt, ql_1, nI_add]
              rfl
            generalize hI6 : z2 (z2 (z2 (z2 I5 26 (C 0 2) (nI v)) 27 (C 0 2) (nI u)) 28 (C 0 2) (nI 0)) 22 12 (nI (C 0 2 + 1)) = I6 at hadd
            generalize hL6 : z2 L5 29 (C 0 2) (lN w) = L6 at hadd
            have gI : ∀ d k, (d < 22 ∨ 28 < d) → I6 d k = I5 d k := fun d k hd => by rw [← hI6, q_zo (by omega), q_zo (by omega), q_zo (by omega), q_zo (by omega)]
            have gL : ∀ d k, d ≠ 29 → L6 d k = L5 d k := fun d k hd => by rw [← hL6, q_zo (by omega)]
            have hls6 : q_ls n B f5 e5 kd5 va5 I6 L6 J5 := s3.go (fun d k w => gI d k (by omega)) (gL 39 8 (by omega)) (fun _ _ _ => rfl)
            have hk6 : q_rk L6 := ((hk2.mL w6).mL t6 |>.mL s6).go (fun k => gL 40 k (by omega))
            have j18 : J5 0 18 = nI 0 := by rw [s7 0 18 (by omega) (by omega), i18]
            rcases q_tWordL hls6 hk6 j18 (kX := 9) (kM := 10) (k := 9) (by omega) rfl rfl with ⟨I7, L7, J7, f7, e7, kd7, va7, b1, b2, b3, b4, b5, b6, b7, -⟩ | ⟨I7, L7, J7, b1, b2, b3, b4, b5, b6⟩
            · have hpl : nI (1742 + 3 * C 0 2) + 2 = nI (1744 + 3 * C 0 2) := by rw [ql_2, nI_add]; congr 1; omega
              have hls7 : q_ls n B f7 e7 kd7 va7 I7 L7 (z2 J7 1 (1744 + 3 * C 0 2) (nI 0)) := b3.go (fun _ _ _ => rfl) rfl (fun d k w => q_zo (by omega))
              have i7c : I7 22 12 = nI (C 0 2 + 1) := by rw [b5 22 12 (by omega), ← hI6, q_zs]
              have i7d : I7 22 12 - 1 = nI (C 0 2) := by rw [i7c, ql_1, pk_sub (by omega), Nat.add_sub_cancel]
              rcases q_truth (n := n) (B := B) (K := z2 K 2 (76 + 8 + C 0 2) (lN (q_cv w))) (cs := C 0 1) (c := C 0 2) (w2 := 1742 + 3 * C 0 2) (N := N) k1 (by omega) (by omega) (by omega) (fun I_33 => z_lt (z2 I_33 1 1714 ((I_33 1 1714) + 1)) (fun I36 => some (true, I36, z2 K 2 (76 + 8 + C 0 2) (lN (q_cv w))))) (fun k hk' => by rw [q_zo (by omega)]; exact (hN k hk').2) 9 0 0 f7 e7 kd7 va7 z_fuel z_fuel I7 L7 (z2 J7 1 (1744 + 3 * C 0 2) (nI 0)) (by omega) hls7 (hk6.mL b6) (by rw [q_zo (by omega), b7.F 0 18 (by omega), j18]) (by rw [b5 22 11 (by omega), ← hI6, q_zo (by omega), q_zo (by omega), q_zo (by omega), q_zo (by omega), tI 22 11 (by omega)]; exact hx.f.2.1) (by rw [q_zo (by omega), b7.F 1 1713 (by omega), tJ 1 1713 (by omega) (by omega), mcs]) (fun k hk' => by rw [b6 42 k (by omega), gL 42 k (by omega), tL 42 k (by omega) (by omega)]; exact (hN k hk').1) (by rw [b5 28 _ (by omega), ← hI6, q_zo (by omega), q_zs]) (by rw [show 1742 + 3 * C 0 2 + 2 = 1744 + 3 * C 0 2 by omega, q_zs]) (Nat.two_pow_pos _) rfl (q_fu (by omega)) (q_fu (by omega)) with ⟨I8, L8, J8, f8, e8, kd8, va8, s', r1, r2, r3, r4, r5, r6, r7, r8, r9, r10⟩ | ⟨I8, L8, J8, r1, r2, r3, r4, r5, r6⟩
              · have x8 : q_sx (q_aC C v u s' w) 22 I8 L8 := (q_aC_sx x4 v u s' w).go (fun d k a b => by
                  by_cases c1 : d = 28 ∧ k = C 0 2
                  · obtain ⟨rfl, rfl⟩ := c1
                    rw [r6, q_zo (by omega), q_zs]
                  · rw [r8 d k (by omega) (by omega), b5 d k (by omega), ← hI6]
                    by_cases c2 : d = 22 ∧ k = 12
                    · obtain ⟨rfl, rfl⟩ := c2; rw [q_zs, q_zs]
                    · by_cases c3 : d = 27 ∧ k = C 0 2
                      · obtain ⟨rfl, rfl⟩ := c3; rw [q_zo (by omega), q_zo (by omega), q_zs, q_zo (by omega), q_zo (by omega), q_zs]
                      · by_cases c4 : d = 26 ∧ k = C 0 2
                        · obtain ⟨rfl, rfl⟩ := c4; rw [q_zo (by omega), q_zo (by omega), q_zo (by omega), q_zs, q_zo (by omega), q_zo (by omega), q_zo (by omega), q_zs]
                        · rw [q_zo (by omega), q_zo (by omega), q_zo (by omega), q_zo (by omega), q_zo (by omega), q_zo (by omega), q_zo (by omega), q_zo (by omega)]) (fun d k a b => by rw [r9 d k (by omega), b6 d k (by omega), ← hL6])
                have ok8 := q_aC_ok ok (by omega) (b := v) (c := u) (s := s') (w := w) v2 (by omega) r5 z6''
                have tJ8 : ∀ d k, d ≠ 0 ∨ k < 12 ∨ 15 < k → d ≠ 1 ∨ (k ≠ 1742 + 3 * C 0 2 ∧ k ≠ 1743 + 3 * C 0 2 ∧ k ≠ 1744 + 3 * C 0 2 ∧ k ≠ 2132) → J8 d k = J d k := fun d k a b => by rw [r10 d k a (by omega), q_zo (by omega), b7.F d k a, tJ d k a (by omega)]
                have y8 := q_aC_sm (J' := z2 J8 1 1714 (nI (C 0 2 + 1))) (K' := z2 K 2 (76 + 8 + C 0 2) (lN (q_cv w))) (b := v) (c := u) (s := s') (w := w) hm ok (by omega) (by rw [show 1712 + (30 + 3 * C 0 2) = 1742 + 3 * C 0 2 by omega, q_zo (by omega), r10 1 _ (by omega) (by omega), q_zo (by omega), b7.F 1 _ (by omega), s7 1 _ (by omega) (by omega), v5]) (by rw [show 1712 + (31 + 3 * C 0 2) = 1743 + 3 * C 0 2 by omega, q_zo (by omega), r10 1 _ (by omega) (by omega), q_zo (by omega), b7.F 1 _ (by omega), u5]) (by rw [show 1712 + (32 + 3 * C 0 2) = 1742 + 3 * C 0 2 + 2 by omega, q_zo (by omega), r7]) q_zs (fun k a b c => by rw [q_zo (by omega), tJ8 1 _ (by omega) (by omega)]) q_zs (fun k a b => q_zo (by omega))
                obtain ⟨g1, g2, -⟩ := q_aC_f C v u s' w
                refine q_pEnd (I := I8) (L := L8) (J := z2 J8 1 1714 (nI (C 0 2 + 1))) (K := z2 K 2 (76 + 8 + C 0 2) (lN (q_cv w))) (C := q_aC C v u s' w) (N := N) (od := od) (f := f8) (e := e8) (kd := kd8) (va := va8) ⟨r3.go (fun _ _ _ => rfl) rfl (fun d k w => q_zo (by omega)), (hk6.mL b6).mL r9, ⟨x8, y8, ok8⟩, fun k hk' => ?_, ⟨?_, ?_, o3⟩, ?_, ?_, ?_⟩ (by omega) ⟨fun d k w => ?_, fun d k w => ?_, fun d k a1 a2 a3 a4 => ?_, fun d k a1 => fK d k a1⟩ ?_ ?_
                · rw [g2 1 (by omega)] at hk'
                  rw [q_zo (by omega), r9 42 k (by omega), b6 42 k (by omega), gL 42 k (by omega), tL 42 k (by omega) (by omega)]; exact hN k hk'
                · rw [r8 41 3 (by omega) (by omega), b5 41 3 (by omega), gI 41 3 (by omega), tI 41 3 (by omega), o1]
                · rw [q_zo (by omega), tJ8 0 20 (by omega) (by omega), o2]
                · rw [q_zo (by omega), tJ8 0 18 (by omega) (by omega), h18]
                · rw [q_zo (by omega), tJ8 0 17 (by omega) (by omega), h17]
                · rw [q_zo (by omega), tJ8 1 1719 (by omega) (by omega), h19]
                · rw [r8 d k (by omega) (by omega), b5 d k (by omega), gI d k (by omega), tI d k (by omega)]
                · rw [r9 d k (by omega), b6 d k (by omega), gL d k (by omega), tL d k (by omega) (by omega)]
                · rw [q_zo (by omega), tJ8 d k (by omega) (by omega)]
                · rw [hXs, z1, q_bs, if_pos rfl, w1, q_bs, if_pos rfl, t1, q_bs, if_pos rfl, s1, q_bs, if_pos rfl]
                  dsimp only
                  rw [v4, u4, nw5, hadd, q_bs]
                  dsimp only
                  rw [b1, q_bs, if_pos rfl]
                  dsimp only
                  rw [i7d]
                  unfold f_X1_takeTruths
                  rw [show (0 : Int32) = nI 0 from rfl, r1]
                  cases hts : f_X7_takeSemicolon I8 L8 with
                  | none => rfl
                  | some q =>
                    obtain ⟨qb, qI, qL⟩ := q
                    rw [q_bs, q_bs]
                    cases qb with
                    | true => rfl
                    | false => rfl
                · have hc8 : J8 1 1714 = nI (C 0 2) := by rw [tJ8 1 1714 (by omega) (by omega), mc]
                  rw [hcp, hMs, z2', q_bs, if_pos rfl, w2, q_bs, if_pos rfl, hnb, q_bs, if_pos rfl, s2, q_bs, if_pos rfl, b2, q_bs, if_pos rfl, hpl, if_pos (q_in (by omega) (by decide)), nI_clamp (by omega), q_zlt, show (0 : Int32) = nI 0 from rfl]
                  dsimp only
                  rw [r2, q_zlt, q_bs, if_pos rfl]
                  dsimp only
                  rw [hc8, ql_1, nI_add]
              · refine q_poF (P := fun _ => False) (I' := I8) (L' := L8) (J' := J8) (K' := z2 K 2 (76 + 8 + C 0 2) (lN (q_cv w))) ?_ ?_ r3 (fun d k u => ?_) (fun d k u => ?_) (fun d k a1 a2 a3 a4 => ?_) (fun d k u => fK d k u)
                · rw [hXs, z1, q_bs, if_pos rfl, w1, q_bs, if_pos rfl, t1, q_bs, if_pos rfl, s1, q_bs, if_pos rfl]
                  dsimp only
                  rw [v4, u4, nw5, hadd, q_bs]
                  dsimp only
                  rw [b1, q_bs, if_pos rfl]
                  dsimp only
                  rw [i7d]
                  unfold f_X1_takeTruths
                  rw [show (0 : Int32) = nI 0 from rfl, r1, q_bs]
                  rfl
                · rw [hcp, hMs, z2', q_bs, if_pos rfl, w2, q_bs, if_pos rfl, hnb, q_bs, if_pos rfl, s2, q_bs, if_pos rfl, b2, q_bs, if_pos rfl, hpl, if_pos (q_in (by omega) (by decide)), nI_clamp (by omega), q_zlt, show (0 : Int32) = nI 0 from rfl]
                  dsimp only
                  rw [r2, q_bs]
                  rfl
                · rw [r4 d k (by omega) (by omega), b5 d k (by omega), gI d k (by omega), tI d k (by omega)]
                · rw [r5 d k (by omega), b6 d k (by omega), gL d k (by omega), tL d k (by omega) (by omega)]
                · rw [r6 d k (by omega) (by omega), q_zo (by omega), b7.F d k (by omega), tJ d k (by omega) (by omega)]
            · refine q_poF (P := fun _ => False) (I' := I7) (L' := L7) (J' := J7) (K' := z2 K 2 (76 + 8 + C 0 2) (lN (q_cv w))) ?_ ?_ b3 (fun d k u => ?_) (fun d k u => ?_) (fun d k a1 a2 a3 a4 => ?_) (fun d k u => fK d k u)
              · rw [hXs, z1, q_bs, if_pos rfl, w1, q_bs, if_pos rfl, t1, q_bs, if_pos rfl, s1, q_bs, if_pos rfl]
                dsimp only
                rw [v4, u4, nw5, hadd, q_bs]
                dsimp only
                rw [b1, q_bs]
                rfl
              · rw [hcp, hMs, z2', q_bs, if_pos rfl, w2, q_bs, if_pos rfl, hnb, q_bs, if_pos rfl, s2, q_bs, if_pos rfl, b2, q_bs]
                rfl
              · rw [b4 d k (by omega), gI d k (by omega), tI d k (by omega)]
              · rw [b5 d k (by omega), gL d k (by omega), tL d k (by omega) (by omega)]
              · rw [b6.F d k (by omega), tJ d k (by omega) (by omega)]
          · refine q_poF (P := fun _ => False) (I' := I5) (L' := L5) (J' := J5) (K' := z2 K 2 (76 + 8 + C 0 2) (lN (q_cv w))) (by rw [hXs, z1, q_bs, if_pos rfl, w1, q_bs, if_pos rfl, t1, q_bs, if_pos rfl, s1, q_bs]; rfl) (by rw [hcp, hMs, z2', q_bs, if_pos rfl, w2, q_bs, if_pos rfl, hnb, q_bs, if_pos rfl, s2, q_bs]; rfl) s3 (fun d k u => ?_) (fun d k u => ?_) (fun d k a1 a2 a3 a4 => ?_) (fun d k u => fK d k u)
            · rw [s4 d k (by omega), t5 d k (by omega), w5 d k (by omega), z5 d k (by omega), m5 d k (by omega)]
            · rw [s5 d k (by omega), t6 d k (by omega), w6 d k (by omega), z6 d k (by omega) (by omega), m6 d k (by omega)]
            · rw [s6 d k (by omega) (by omega), t7 d k (by omega) (by omega), w7.F d k (by omega), z7 d k (by omega), m7 d k (by omega)]
        · have hnb : f_X11_newBedTo J3 (nI (1742 + 3 * C 0 2)) = some (false, J4) := by unfold f_X11_newBedTo; rw [t2, q_bs]
          refine q_poF (P := fun _ => False) (I' := I4) (L' := L4) (J' := J4) (K' := z2 K 2 (76 + 8 + C 0 2) (lN (q_cv w))) (by rw [hXs, z1, q_bs, if_pos rfl, w1, q_bs, if_pos rfl, t1, q_bs]; rfl) (by rw [hcp, hMs, z2', q_bs, if_pos rfl, w2, q_bs, if_pos rfl, hnb, q_bs]; rfl) t3 (fun d k u => ?_) (fun d k u => ?_) (fun d k a1 a2 a3 a4 => ?_) (fun d k u => fK d k u)
          · rw [t4 d k (by omega), w5 d k (by omega), z5 d k (by omega), m5 d k (by omega)]
          · rw [t5 d k (by omega), w6 d k (by omega), z6 d k (by omega) (by omega), m6 d k (by omega)]
          · rw [t6 d k (by omega) (by omega), w7.F d k (by omega), z7 d k (by omega), m7 d k (by omega)]
      · refine q_poF (P := fun _ => False) (I' := I3) (L' := L3) (J' := J3) (K' := z2 K 2 (76 + 8 + C 0 2) (lN (q_cv w))) (by rw [hXs, z1, q_bs, if_pos rfl, w1, q_bs]; rfl) (by rw [hcp, hMs, z2', q_bs, if_pos rfl, w2, q_bs]; rfl) w3 (fun d k u => ?_) (fun d k u => ?_) (fun d k a1 a2 a3 a4 => ?_) (fun d k u => fK d k u)
        · rw [w4 d k (by omega), z5 d k (by omega), m5 d k (by omega)]
        · rw [w5 d k (by omega), z6 d k (by omega) (by omega), m6 d k (by omega)]
        · rw [w6.F d k (by omega), z7 d k (by omega), m7 d k (by omega)]
    · refine q_poF (P := fun _ => False) (I' := I2) (L' := L2) (J' := J2) (K' := K) (by rw [hXs, z1, q_bs]; rfl) (by rw [hcp, hMs, z2', q_bs]; rfl) z3 (fun d k u => ?_) (fun d k u => ?_) (fun d k a1 a2 a3 a4 => ?_) (fun _ _ _ => rfl)
      · rw [z4 d k (by omega), m5 d k (by omega)]
      · rw [z5 d k (by omega) (by omega), m6 d k (by omega)]
      · rw [z6.F d k (by omega), m7 d k (by omega)]
