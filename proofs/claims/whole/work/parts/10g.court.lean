/-! a court's text, part by part -/
theorem q_fr.F {J J' : z_I} (h : q_fr (fun _ => False) J J') (d k : Nat) (hd : d ≠ 0 ∨ k < 12 ∨ 15 < k) : J' d k = J d k := h d k hd (Or.inr (fun y => y))
theorem q_fs.F {J J' : z_I} (h : q_fs (fun _ => False) J J') (d k : Nat) (hd : d ≠ 0 ∨ k < 12 ∨ k = 16 ∨ 18 < k) : J' d k = J d k := h d k hd (Or.inr (fun y => y))
theorem q_tPerL {n : Nat} {B : Nat → Nat} {f e kd va : Nat} {I : z_I} {L : z_L} {J : z_I} (h : q_ls n B f e kd va I L J) (hk : q_rk L) (h18 : J 0 18 = nI 0) {lo hi wo kX kM pM : Int32} {a m o k p : Nat} (hk23 : k < 23) (hX : kX = nI k) (hM : kM = nI (q_pi k)) (hlo : ∀ v, v ≤ 9999 → ((nI v < lo) ↔ v < a)) (hhi : ∀ v, v ≤ 9999 → ((nI v ≤ hi) ↔ v < m)) (hwo : wo = nI o) (ho : a ≤ o ∧ o < m ∧ o ≤ 9999) (hP : pM = nI p) (hp : p < 2200) : q_oc n B f I L J (fun k => k = p) (fun I' _ J' => ∃ v, a ≤ v ∧ v < m ∧ v ≤ 9999 ∧ I' 39 9 = nI v ∧ J' 1 p = nI v) (f_X7_takeNumberBehind I L kX lo hi wo) (f_X11_perhaps J kM pM lo hi wo) := by
  subst hX hM hP
  exact q_tPer h hk h18 hk23 hlo hhi hwo ho hp
theorem q_tNumL {n : Nat} {B : Nat → Nat} {f e kd va : Nat} {I : z_I} {L : z_L} {J : z_I} (h : q_ls n B f e kd va I L J) (hk : q_rk L) (h18 : J 0 18 = nI 0) {lo hi hiM pM : Int32} {a m p : Nat} (hlo : ∀ v, v ≤ 9999 → ((nI v < lo) ↔ v < a)) (hhi : ∀ v, v ≤ 9999 → ((nI v ≤ hi) ↔ v < m)) (hH : hiM = hi) (hP : pM = nI p) (hp : p < 2200) : q_oc n B f I L J (fun k => k = p) (fun I' _ J' => ∃ v, a ≤ v ∧ v < m ∧ v ≤ 9999 ∧ I' 39 9 = nI v ∧ J' 1 p = nI v) (f_X7_takeNumber I L lo hi) (f_X11_number J pM lo hiM) := by
  subst hH hP
  exact q_tNum h hk h18 hlo hhi hp
theorem q_tWordL {n : Nat} {B : Nat → Nat} {f e kd va : Nat} {I : z_I} {L : z_L} {J : z_I} (h : q_ls n B f e kd va I L J) (hk : q_rk L) (h18 : J 0 18 = nI 0) {kX kM : Int32} {k : Nat} (hk23 : k < 23) (hX : kX = nI k) (hM : kM = nI (q_pi k)) : q_oc n B f I L J (fun _ => False) (fun _ _ _ => True) (f_X7_takeKeyword I L kX) (f_X11_wantWord J kM) := by
  subst hX hM
  exact q_tWord h hk h18 hk23
/-- a text that is read, so far -/
def q_ct (n : Nat) (B : Nat → Nat) (C : q_N) (N : Nat → Nat) (od f e kd va : Nat) (I : z_I) (L : z_L) (J : z_I) (K : z_L) : Prop := q_ls n B f e kd va I L J ∧ q_rk L ∧ (q_sx C 22 I L ∧ q_sm C 1712 76 J K ∧ q_ok C) ∧ (∀ k, k < C 0 1 → L 42 k = lN (N k) ∧ K 2 (76 + k) = lN (q_cv (N k)) ∧ N k < 27 ^ 8) ∧ (I 41 3 = nI od ∧ J 0 20 = nI od ∧ od ≤ 1) ∧ (J 0 18 = nI 0 ∧ J 0 17 = q_no ∧ J 1 1719 = q_no)
/-- all that reading leaves as it was -/
def q_cf (I0 : z_I) (L0 : z_L) (J0 : z_I) (K0 : z_L) (I : z_I) (L : z_L) (J : z_I) (K : z_L) : Prop := (∀ d k, d < 22 ∨ 45 ≤ d → I d k = I0 d k) ∧ (∀ d k, d < 22 ∨ d = 40 ∨ 45 ≤ d → L d k = L0 d k) ∧ (∀ d k, d ≠ 0 ∨ k < 11 ∨ k = 16 ∨ 23 < k → d ≠ 1 ∨ k < 1712 → d ≠ 7 → d ≠ 8 → J d k = J0 d k) ∧ (∀ d k, d ≠ 2 ∨ k < 76 → K d k = K0 d k)
theorem q_cf.tr {I0 : z_I} {L0 : z_L} {J0 : z_I} {K0 : z_L} {I1 : z_I} {L1 : z_L} {J1 : z_I} {K1 : z_L} {I : z_I} {L : z_L} {J : z_I} {K : z_L} (h1 : q_cf I0 L0 J0 K0 I1 L1 J1 K1) (h2 : q_cf I1 L1 J1 K1 I L J K) : q_cf I0 L0 J0 K0 I L J K := ⟨fun d k h => by rw [h2.1 d k h, h1.1 d k h], fun d k h => by rw [h2.2.1 d k h, h1.2.1 d k h], fun d k a b c e => by rw [h2.2.2.1 d k a b c e, h1.2.2.1 d k a b c e], fun d k h => by rw [h2.2.2.2 d k h, h1.2.2.2 d k h]⟩
def q_po (n : Nat) (B : Nat → Nat) (f : Nat) (I : z_I) (L : z_L) (J : z_I) (K : z_L) (A R : Option (Bool × z_I × z_L)) : Prop := (∃ I' L' J' K' C' N' od' f' e' kd va, A = some (true, I', L') ∧ R = some (true, J', K') ∧ q_ct n B C' N' od' f' e' kd va I' L' J' K' ∧ f < f' ∧ q_cf I L J K I' L' J' K') ∨ (∃ I' L' J' K', A = some (false, I', L') ∧ R = some (false, J', K') ∧ q_b1 I' J' ∧ q_cf I L J K I' L' J' K')
/-- a fault ends it -/
theorem q_poF {n : Nat} {B : Nat → Nat} {f : Nat} {I : z_I} {L : z_L} {J : z_I} {K : z_L} {A R : Option (Bool × z_I × z_L)} {P : Nat → Prop} {I' : z_I} {L' : z_L} {J' : z_I} {K' : z_L} (eA : A = some (false, I', L')) (eR : R = some (false, J', K')) (hb : q_b1 I' J') (hI : ∀ d k, d < 22 ∨ 45 ≤ d → I' d k = I d k) (hL : ∀ d k, d < 22 ∨ d = 40 ∨ 45 ≤ d → L' d k = L d k) (hJ : ∀ d k, d ≠ 0 ∨ k < 11 ∨ k = 16 ∨ 23 < k → d ≠ 1 ∨ k < 1712 → d ≠ 7 → d ≠ 8 → J' d k = J d k) (hK : ∀ d k, d ≠ 2 ∨ k < 76 → K' d k = K d k) : q_po n B f I L J K A R := Or.inr ⟨I', L', J', K', eA, eR, hb, hI, hL, hJ, hK⟩
theorem m_cp1 {J : z_I} {K : z_L} (h : f_X11_inWords J = some (nI 1)) : f_X11_courtPart J K = (f_X11_aBed J).bind (fun q => if q.1 = true then (f_X11_wantSign q.2 59).bind (fun q' => if q'.1 = true then some (true, q'.2, K) else some (false, q'.2, K)) else some (false, q.2, K)) := by
  unfold f_X11_courtPart
  rw [h, q_bs, if_neg (by decide), if_pos (by decide), if_neg (by decide), if_neg (by decide), if_neg (by decide), if_pos (by decide)]
theorem m_cp2 {J : z_I} {K : z_L} (h : f_X11_inWords J = some (nI 2)) : f_X11_courtPart J K = (f_X11_aCase J K).bind (fun q => if q.1 = true then (f_X11_wantSign q.2.1 59).bind (fun q' => if q'.1 = true then some (true, q'.2, q.2.2) else some (false, q'.2, q.2.2)) else some (false, q.2.1, q.2.2)) := by
  unfold f_X11_courtPart
  rw [h, q_bs, if_neg (by decide), if_pos (by decide), if_neg (by decide), if_neg (by decide), if_neg (by decide), if_neg (by decide), if_pos (by decide)]
theorem m_cp3 {J : z_I} {K : z_L} (h : f_X11_inWords J = some (nI 3)) : f_X11_courtPart J K = (f_X11_aClaim J K).bind (fun q => if q.1 = true then (f_X11_wantSign q.2.1 59).bind (fun q' => if q'.1 = true then some (true, q'.2, q.2.2) else some (false, q'.2, q.2.2)) else some (false, q.2.1, q.2.2)) := by
  unfold f_X11_courtPart
  rw [h, q_bs, if_neg (by decide), if_pos (by decide), if_neg (by decide), if_neg (by decide), if_neg (by decide), if_neg (by decide), if_neg (by decide), if_pos (by decide)]
theorem m_cp4 {J : z_I} {K : z_L} (h : f_X11_inWords J = some (nI 4)) : f_X11_courtPart J K = (f_X11_aScholar J K).bind (fun q => if q.1 = true then (f_X11_wantSign q.2.1 59).bind (fun q' => if q'.1 = true then some (true, q'.2, q.2.2) else some (false, q'.2, q.2.2)) else some (false, q.2.1, q.2.2)) := by
  unfold f_X11_courtPart
  rw [h, q_bs, if_neg (by decide), if_pos (by decide), if_neg (by decide), if_neg (by decide), if_neg (by decide), if_neg (by decide), if_neg (by decide), if_neg (by decide)]
theorem m_cp0 {J : z_I} {K : z_L} (h : f_X11_inWords J = some (nI 0)) : f_X11_courtPart J K = if J 0 20 = 1 then some ((f_X11_fails J 5).1, (f_X11_fails J 5).2, K) else (f_X11_ahead (z2 J 0 20 1)).bind (fun q4 => (f_X11_number q4 1716 0 16).bind (fun q => if q.1 = true then (f_X11_wantSign q.2 59).bind (fun q' => if q'.1 = true then some (true, q'.2, K) else some (false, q'.2, K)) else some (false, q.2, K))) := by
  unfold f_X11_courtPart
  rw [h, q_bs, if_neg (by decide), if_pos (by decide), if_pos (by decide)]
  by_cases y : J 0 20 = 1
  · rw [if_pos y, if_pos y]
  · rw [if_neg y, if_neg y, if_pos (by decide), q_zlt]
    congr 1
theorem m_cpN {J : z_I} {K : z_L} {x : Int32} (h : f_X11_inWords J = some x) (hx : x < 0 ∨ ¬ x ≤ 4) : f_X11_courtPart J K = some ((f_X11_fails J 2).1, (f_X11_fails J 2).2, K) := by
  unfold f_X11_courtPart
  rw [h, q_bs]
  by_cases y : x < 0
  · rw [if_pos y]
  · rw [if_neg y, if_neg (by rcases hx with w | w; exact absurd w y; exact w)]
/-- a part ends by its sign -/
theorem q_pEnd {n : Nat} {B : Nat → Nat} {C : q_N} {N : Nat → Nat} {od f f0 e kd va : Nat} {I0 : z_I} {L0 : z_L} {J0 : z_I} {K0 : z_L} {I : z_I} {L : z_L} {J : z_I} {K : z_L} {A R : Option (Bool × z_I × z_L)} (h : q_ct n B C N od f e kd va I L J K) (hf : f0 < f) (hc : q_cf I0 L0 J0 K0 I L J K) (eA : A = (f_X7_takeSemicolon I L).bind (fun q => some (q.1, q.2.1, q.2.2))) (eR : R = (f_X11_wantSign J 59).bind (fun q' => if q'.1 = true then some (true, q'.2, K) else some (false, q'.2, K))) : q_po n B f0 I0 L0 J0 K0 A R := by
  obtain ⟨h1, hk, ⟨hx, hm, ok⟩, hN, ⟨o1, o2, o3⟩, h18, h17, h19⟩ := h
  rcases q_tSemi h1 hk h18 with ⟨I2, L2, J2, f2, e2, kd2, va2, z1, z2', z3, z4, z5, z6, z7, -⟩ | ⟨I2, L2, J2, z1, z2', z3, z4, z5, z6⟩
  · refine Or.inl ⟨I2, L2, J2, K, C, N, od, f2, e2, kd2, va2, by rw [eA, z1, q_bs], by rw [eR, z2', q_bs]; rfl, ⟨z3, hk.mL z6, ⟨hx.go (fun d k a b => z5 d k (by omega)) (fun d k a b => z6 d k (by omega)), hm.go ok (fun k a b => z7.F 1 k (by omega)) (fun _ _ _ => rfl), ok⟩, fun k hk' => by rw [z6 42 k (by omega)]; exact hN k hk', ⟨by rw [z5 41 3 (by omega), o1], by rw [z7.F 0 20 (by omega), o2], o3⟩, by rw [z7.F 0 18 (by omega), h18], by rw [z7.F 0 17 (by omega), h17], by rw [z7.F 1 1719 (by omega), h19]⟩, by omega, hc.tr ⟨fun d k y => z5 d k (by omega), fun d k y => z6 d k (by omega), fun d k a b c e => z7.F d k (by omega), fun _ _ _ => rfl⟩⟩
  · exact Or.inr ⟨I2, L2, J2, K, by rw [eA, z1, q_bs], by rw [eR, z2', q_bs]; rfl, z3, hc.tr ⟨fun d k y => z4 d k (by omega), fun d k y => z5 d k (by omega), fun d k a b c e => z6.F d k (by omega), fun _ _ _ => rfl⟩⟩
theorem q_pOdds {n : Nat} {B : Nat → Nat} {C : q_N} {N : Nat → Nat} {od f e : Nat} {I : z_I} {L : z_L} {J : z_I} {K : z_L} (h : q_ct n B C N od f e 2 0 I L J K) : q_po n B f I L J K (f_X1_takeOdds I L) (f_X11_courtPart J K) := by
  obtain ⟨h1, hk, ⟨hx, hm, ok⟩, hN, ⟨o1, o2, o3⟩, h18, h17, h19⟩ := h
  have hiw := h1.iw
  rw [if_pos rfl] at hiw
  have hcp := m_cp0 (K := K) hiw
  by_cases y : od = 1
  · subst y
    obtain ⟨I1, J1, eX, eM, p1, p2, p3⟩ := q_fail h1 h18 (w := 5) (by omega) (fun _ => False)
    rw [if_pos (show J 0 20 = 1 from o2)] at hcp
    refine q_poF (P := fun _ => False) (I' := I1) (L' := L) (J' := J1) (K' := K) ?_ ?_ p1 (fun d k y => p2 d k (by omega)) (fun _ _ _ => rfl) (fun d k a b c e => p3.F d k (by omega)) (fun _ _ _ => rfl)
    · unfold f_X1_takeOdds
      rw [o1, if_pos (show zn (nI 1) = true from rfl), ql_5, eX]
    · rw [hcp, ql_5, eM]
  · have hod : od = 0 := by omega
    subst hod
    rw [if_neg (show ¬ J 0 20 = 1 by rw [o2]; decide)] at hcp
    have hq : q_ls n B f e 2 0 (z2 I 41 3 (nI 1)) L (z2 J 0 20 (nI 1)) := h1.go (fun d k w => q_zo (by omega)) rfl (fun d k w => q_zo (by omega))
    obtain ⟨I1, L1, J1, f1, e1, kd1, va1, m1, m2, m3, m4, m5, m6, m7⟩ := hq.mv hk
    have hfe := h1.fe.2.2.2 (by omega)
    have hXs : f_X1_takeOdds I L = (f_X7_takeNumber I1 L1 0 16).bind (fun q4 => if q4.1 = true then (f_X7_takeSemicolon (z2 q4.2.1 22 14 (q4.2.1 39 9)) q4.2.2).bind (fun q7 => some (q7.1, q7.2.1, q7.2.2)) else some (false, q4.2.1, q4.2.2)) := by
      unfold f_X1_takeOdds
      rw [o1, if_neg (show ¬ zn (nI 0) = true by decide), q_zlt, show zb true = nI 1 from rfl, m1, q_bs]
      rfl
    have hMs : f_X11_courtPart J K = (f_X11_number J1 1716 0 16).bind (fun q => if q.1 = true then (f_X11_wantSign q.2 59).bind (fun q' => if q'.1 = true then some (true, q'.2, K) else some (false, q'.2, K)) else some (false, q.2, K)) := by
      rw [hcp, ql_1, m2, q_bs]
    rcases q_tNumL m3 (hk.mL m6) (by rw [m7 0 18 (by omega), q_zo (by omega), h18]) (lo := 0) (hi := 16) (hiM := 16) (pM := 1716) (a := 0) (m := 17) (p := 1716) (fun v hv => q_loC (by decide) hv) (fun v hv => q_hiC (by decide) hv) rfl rfl (by omega) with ⟨I2, L2, J2, f2, e2, kd2, va2, z1, z2', z3, z4, z5, z6, z7, v, v1, v2, v3, v4, v5⟩ | ⟨I2, L2, J2, z1, z2', z3, z4, z5, z6⟩
    · have x2 : q_sx C 22 I2 L2 := hx.go (fun d k a b => by rw [z5 d k (by omega), m5 d k (by omega), q_zo (by omega)]) (fun d k a b => by rw [z6 d k (by omega), m6 d k (by omega)])
      have x3 := x2.put (r := 0) (k := 4) (v := v) (by simp [q_bd]) (by omega)
      have y3 := hm.put ok (r := 0) (k := 4) (v := v) (by simp [q_bd]) (by omega)
      have ok3 : q_ok (z2 C 0 4 v) := by
        obtain ⟨k0, k1, k2, k3, k4, k5, k6, k7, k8, k9, k10⟩ := ok
        have e0 : ∀ i, i ≠ 4 → z2 C 0 4 v 0 i = C 0 i := fun i hi => q_zo (by omega)
        have e1 : ∀ r i, r ≠ 0 → z2 C 0 4 v r i = C r i := fun r i hi => q_zo (by omega)
        refine ⟨by rw [e0 0 (by omega)]; exact k0, by rw [e0 1 (by omega)]; exact k1, by rw [e0 2 (by omega)]; exact k2, by rw [e0 3 (by omega)]; exact k3, by rw [q_zs]; omega, by rw [e0 5 (by omega)]; exact k5, by rw [e0 6 (by omega), e0 2 (by omega)]; exact k6, fun k hk => ?_, fun k hk => ?_, fun k hk => ?_, fun k hk => ?_⟩
        · rw [e0 0 (by omega)] at hk; rw [e1 1 k (by omega), e1 2 k (by omega)]; exact k7 k hk
        · rw [e0 1 (by omega)] at hk; rw [e1 3 k (by omega)]; exact k8 k hk
        · rw [e0 2 (by omega)] at hk; rw [e0 0 (by omega), e0 1 (by omega), e1 4 k (by omega), e1 5 k (by omega), e1 6 k (by omega), e1 7 k (by omega)]; exact k9 k hk
        · rw [e0 3 (by omega)] at hk; rw [e0 0 (by omega), e1 8 k (by omega), e1 9 k (by omega), e1 10 k (by omega)]; exact k10 k hk
      refine q_pEnd (I := z2 I2 22 14 (nI v)) (L := L2) (J := J2) (K := K) (C := z2 C 0 4 v) (N := N) (od := 1) (f := f2) (e := e2) (kd := kd2) (va := va2) ⟨z3.go (fun d k w => q_zo (by omega)) rfl (fun _ _ _ => rfl), (hk.mL m6).mL z6, ⟨x3, y3.go ok3 (fun k a b => ?_) (fun _ _ _ => rfl), ok3⟩, fun k hk' => ?_, ⟨?_, ?_, by omega⟩, ?_, ?_, ?_⟩ (by omega) ⟨fun d k w => ?_, fun d k w => ?_, fun d k w1 w2 w3 w4 => ?_, fun _ _ _ => rfl⟩ ?_ ?_
      · by_cases w : k = 1716
        · subst w; rw [v5]; exact q_zs.symm
        · rw [z7 1 k (by omega) (by omega), m7 1 k (by omega), q_zo (by omega), q_zo (show (1 : Nat) ≠ 1 ∨ k ≠ 1712 + q_pm 0 4 by simp only [q_pm]; omega)]
      · rw [show z2 C 0 4 v 0 1 = C 0 1 from q_zo (by omega)] at hk'
        rw [z6 42 k (by omega), m6 42 k (by omega)]; exact hN k hk'
      · rw [q_zo (by omega), z5 41 3 (by omega), m5 41 3 (by omega), q_zs]
      · rw [z7 0 20 (by omega) (by omega), m7 0 20 (by omega), q_zs]
      · rw [z7 0 18 (by omega) (by omega), m7 0 18 (by omega), q_zo (by omega), h18]
      · rw [z7 0 17 (by omega) (by omega), m7 0 17 (by omega), q_zo (by omega), h17]
      · rw [z7 1 1719 (by omega) (by omega), m7 1 1719 (by omega), q_zo (by omega), h19]
      · rw [q_zo (by omega), z5 d k (by omega), m5 d k (by omega), q_zo (by omega)]
      · rw [z6 d k (by omega), m6 d k (by omega)]
      · rw [z7 d k (by omega) (by omega), m7 d k (by omega), q_zo (by omega)]
      · rw [hXs, z1, q_bs, if_pos rfl]
        dsimp only
        rw [v4]
      · rw [hMs, z2', q_bs, if_pos rfl]
    · refine q_poF (P := fun _ => False) (I' := I2) (L' := L2) (J' := J2) (K' := K) (by rw [hXs, z1, q_bs]; rfl) (by rw [hMs, z2', q_bs]; rfl) z3 (fun d k w => ?_) (fun d k w => ?_) (fun d k w1 w2 w3 w4 => ?_) (fun _ _ _ => rfl)
      · rw [z4 d k (by omega), m5 d k (by omega), q_zo (by omega)]
      · rw [z5 d k (by omega), m6 d k (by omega)]
      · rw [z6 d k (by omega) (by omega), m7 d k (by omega), q_zo (by omega)]
theorem q_pBed {n : Nat} {B : Nat → Nat} {C : q_N} {N : Nat → Nat} {od f e : Nat} {I : z_I} {L : z_L} {J : z_I} {K : z_L} (h : q_ct n B C N od f e 2 1 I L J K) : q_po n B f I L J K (f_X1_takeBed I L) (f_X11_courtPart J K) := by
  obtain ⟨h1, hk, ⟨hx, hm, ok⟩, hN, ⟨o1, o2, o3⟩, h18, h17, h19⟩ := h
  obtain ⟨k0, k1, k2, k3, -⟩ := id ok
  have hiw := h1.iw
  rw [if_pos rfl] at hiw
  have hcp := m_cp1 (K := K) hiw
  have xc := hx.f.1
  have mc : J 1 1712 = nI (C 0 0) := hm.1 0 0 (by simp [q_bd])
  have hfull : f_X11_isFull J 0 6 = some (decide (C 0 0 = 6)) := by
    unfold f_X11_isFull
    rw [show (1712 : Int32) + 0 = nI 1712 from rfl, if_pos (q_in (by omega) (by decide)), nI_clamp (by omega), mc]
    by_cases y : C 0 0 = 6
    · rw [if_pos (show nI (C 0 0) = 6 by rw [y]; rfl), decide_eq_true y]
    · rw [if_neg (show ¬ nI (C 0 0) = 6 by rw [ql_6, nI_eq (by omega) (by omega)]; exact y), decide_eq_false y]
  by_cases y : C 0 0 = 6
  · obtain ⟨I1, J1, eX, eM, p1, p2, p3⟩ := q_fail h1 h18 (w := 6) (by omega) (fun _ => False)
    rw [decide_eq_true y] at hfull
    refine q_poF (P := fun _ => False) (I' := I1) (L' := L) (J' := J1) (K' := K) ?_ ?_ p1 (fun d k y => p2 d k (by omega)) (fun _ _ _ => rfl) (fun d k a b c e => p3.F d k (by omega)) (fun _ _ _ => rfl)
    · unfold f_X1_takeBed
      rw [xc, if_neg (show ¬ nI (C 0 0) < 6 by rw [y]; decide), ql_6, eX]
    · rw [hcp]
      unfold f_X11_aBed
      rw [hfull, q_bs, if_pos rfl, ql_6, eM, q_bs]
      rfl
  · rw [decide_eq_false y] at hfull
    obtain ⟨I1, L1, J1, f1, e1, kd1, va1, m1, m2, m3, m4, m5, m6, m7⟩ := h1.mv hk
    have hfe := h1.fe.2.2.2 (by omega)
    have hrow : (1712 : Int32) + f_X11_bedRow (J 1 1712) = nI (1722 + 2 * C 0 0) := by
      unfold f_X11_bedRow
      rw [mc, ql_10, ql_2, pk_mul, nI_add, ql_1712, nI_add]
      congr 1
      omega
    have hrow2 : (1712 : Int32) + f_X11_bedRow (J 1 1712) + 1 = nI (1723 + 2 * C 0 0) := by
      rw [hrow, ql_1, nI_add]; congr 1; omega
    have hXs : f_X1_takeBed I L = (f_X7_takeNumberBehind I1 L1 2 0 99 0).bind (fun q3 => if q3.1 = true then (f_X7_takeNumberBehind q3.2.1 q3.2.2 3 0 99 0).bind (fun q5 => if q5.1 = true then (f_X0_addBed q5.2.1 22 (q3.2.1 39 9) (q5.2.1 39 9)).bind (fun q7 => (f_X7_takeSemicolon q7 q5.2.2).bind (fun q9 => some (q9.1, q9.2.1, q9.2.2))) else some (false, q5.2.1, q5.2.2)) else some (false, q3.2.1, q3.2.2)) := by
      unfold f_X1_takeBed
      rw [xc, if_pos (show nI (C 0 0) < 6 by rw [ql_6, nI_ltI (by omega) (by omega)]; omega), m1, q_bs]
    have hMs : f_X11_aBed J = (f_X11_perhaps J1 5 (nI (1722 + 2 * C 0 0)) 0 99 0).bind (fun q6 => if q6.1 = true then (f_X11_perhaps q6.2 6 (nI (1723 + 2 * C 0 0)) 0 99 0).bind (fun q8 => if q8.1 = true then some (true, z2 q8.2 1 1712 (q8.2 1 1712 + 1)) else some (false, q8.2)) else some (false, q6.2)) := by
      unfold f_X11_aBed
      rw [hfull, q_bs, if_neg (by decide), m2, q_bs, hrow, show nI (1722 + 2 * C 0 0) + 1 = nI (1723 + 2 * C 0 0) from by rw [← hrow, hrow2]]
      rfl
    have e18 : J1 0 18 = nI 0 := by rw [m7 0 18 (by omega), h18]
    rcases q_tPerL m3 (hk.mL m6) e18 (kX := 2) (kM := 5) (lo := 0) (hi := 99) (wo := 0) (a := 0) (m := 100) (o := 0) (k := 2) (p := 1722 + 2 * C 0 0) (by omega) rfl rfl (fun v hv => q_loC (by decide) hv) (fun v hv => q_hiC (by decide) hv) rfl (by omega) rfl (by omega) with ⟨I2, L2, J2, f2, e2, kd2, va2, z1, z2', z3, z4, z5, z6, z7, v, v1, v2, v3, v4, v5⟩ | ⟨I2, L2, J2, z1, z2', z3, z4, z5, z6⟩
    · rcases q_tPerL z3 ((hk.mL m6).mL z6) (by rw [z7 0 18 (by omega) (by omega), e18]) (kX := 3) (kM := 6) (lo := 0) (hi := 99) (wo := 0) (a := 0) (m := 100) (o := 0) (k := 3) (p := 1723 + 2 * C 0 0) (by omega) rfl rfl (fun v hv => q_loC (by decide) hv) (fun v hv => q_hiC (by decide) hv) rfl (by omega) rfl (by omega) with ⟨I3, L3, J3, f3, e3, kd3, va3, w1, w2, w3, w4, w5, w6, w7, u, u1, u2, u3, u4, u5⟩ | ⟨I3, L3, J3, w1, w2, w3, w4, w5, w6⟩
      · have tI : ∀ d k, d ≠ 39 → I3 d k = I d k := fun d k hd => by rw [w5 d k hd, z5 d k hd, m5 d k (by omega)]
        have tL : ∀ d k, d ≠ 39 ∨ k ≠ 8 → L3 d k = L d k := fun d k hd => by rw [w6 d k hd, z6 d k hd, m6 d k hd]
        have tJ : ∀ d k, d ≠ 0 ∨ k < 12 ∨ 15 < k → d ≠ 1 ∨ (k ≠ 1722 + 2 * C 0 0 ∧ k ≠ 1723 + 2 * C 0 0) → J3 d k = J d k := fun d k h1 h2 => by rw [w7 d k h1 (by omega), z7 d k h1 (by omega), m7 d k h1]
        have x3 : q_sx C 22 I3 L3 := hx.go (fun d k a b => tI d k (by omega)) (fun d k a b => tL d k (by omega))
        have x4 := q_aB_sx x3 v u
        have ok4 := q_aB_ok ok (by omega) (x := v) (y := u) (by omega) (by omega)
        have y4 := q_aB_sm (J' := z2 J3 1 1712 (nI (C 0 0 + 1))) (K' := K) (x := v) (y := u) hm ok (by omega) (by rw [show 1712 + (10 + 2 * C 0 0) = 1722 + 2 * C 0 0 by omega, q_zo (by omega), w7 1 _ (by omega) (by omega), v5]) (by rw [show 1712 + (11 + 2 * C 0 0) = 1723 + 2 * C 0 0 by omega, q_zo (by omega), u5]) q_zs (fun k a b c => by rw [q_zo (by omega), tJ 1 _ (by omega) (by omega)]) (fun _ _ _ => rfl)
        obtain ⟨g1, g2, -⟩ := q_aB_f C v u
        have hadd : f_X0_addBed I3 22 (nI v) (nI u) = some (z2 (z2 (z2 I3 23 (C 0 0) (nI v)) 24 (C 0 0) (nI u)) 22 10 (nI (C 0 0 + 1))) := by
          unfold f_X0_addBed
          rw [x3.f.1, if_pos (q_in (by omega) (by decide)), nI_clamp (by omega), q_zlt, q_zlt, q_zlt, ql_1, nI_add]
        refine q_pEnd (I := z2 (z2 (z2 I3 23 (C 0 0) (nI v)) 24 (C 0 0) (nI u)) 22 10 (nI (C 0 0 + 1))) (L := L3) (J := z2 J3 1 1712 (nI (C 0 0 + 1))) (K := K) (C := q_aB C v u) (N := N) (od := od) (f := f3) (e := e3) (kd := kd3) (va := va3) ⟨w3.go (fun d k w => by rw [q_zo (by omega), q_zo (by omega), q_zo (by omega)]) rfl (fun d k w => q_zo (by omega)), hk.go (fun k => tL 40 k (by omega)), ⟨x4, y4, ok4⟩, fun k hk' => ?_, ⟨?_, ?_, o3⟩, ?_, ?_, ?_⟩ (by omega) ⟨fun d k w => ?_, fun d k w => ?_, fun d k a1 a2 a3 a4 => ?_, fun _ _ _ => rfl⟩ ?_ ?_
        · rw [g2 1 (by omega)] at hk'
          rw [tL 42 k (by omega)]; exact hN k hk'
        · rw [q_zo (by omega), q_zo (by omega), q_zo (by omega), tI 41 3 (by omega), o1]
        · rw [q_zo (by omega), tJ 0 20 (by omega) (by omega), o2]
        · rw [q_zo (by omega), tJ 0 18 (by omega) (by omega), h18]
        · rw [q_zo (by omega), tJ 0 17 (by omega) (by omega), h17]
        · rw [q_zo (by omega), tJ 1 1719 (by omega) (by omega), h19]
        · rw [q_zo (by omega), q_zo (by omega), q_zo (by omega), tI d k (by omega)]
        · rw [tL d k (by omega)]
        · rw [q_zo (by omega), tJ d k (by omega) (by omega)]
        · rw [hXs, z1, q_bs, if_pos rfl, w1, q_bs, if_pos rfl]
          dsimp only
          rw [v4, u4, hadd, q_bs]
        · have hc3 : J3 1 1712 = nI (C 0 0) := by rw [tJ 1 1712 (by omega) (by omega), mc]
          rw [hcp, hMs, z2', q_bs, if_pos rfl, w2, q_bs, if_pos rfl, q_bs, if_pos rfl]
          dsimp only
          rw [hc3, ql_1, nI_add]
      · refine q_poF (P := fun _ => False) (I' := I3) (L' := L3) (J' := J3) (K' := K) (by rw [hXs, z1, q_bs, if_pos rfl, w1, q_bs]; rfl) (by rw [hcp, hMs, z2', q_bs, if_pos rfl, w2, q_bs]; rfl) w3 (fun d k w => ?_) (fun d k w => ?_) (fun d k a1 a2 a3 a4 => ?_) (fun _ _ _ => rfl)
        · rw [w4 d k (by omega), z5 d k (by omega), m5 d k (by omega)]
        · rw [w5 d k (by omega), z6 d k (by omega), m6 d k (by omega)]
        · rw [w6 d k (by omega) (by omega), z7 d k (by omega) (by omega), m7 d k (by omega)]
    · refine q_poF (P := fun _ => False) (I' := I2) (L' := L2) (J' := J2) (K' := K) (by rw [hXs, z1, q_bs]; rfl) (by rw [hcp, hMs, z2', q_bs]; rfl) z3 (fun d k w => ?_) (fun d k w => ?_) (fun d k a1 a2 a3 a4 => ?_) (fun _ _ _ => rfl)
      · rw [z4 d k (by omega), m5 d k (by omega)]
      · rw [z5 d k (by omega), m6 d k (by omega)]
      · rw [z6 d k (by omega) (by omega), m7 d k (by omega)]
