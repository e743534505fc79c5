/-! terms: what a step takes -/
def q_oe (n : Nat) (B : Nat → Nat) (f : Nat) (I : z_I) (L : z_L) (J : z_I) (r m q : Nat) (X : Nat → Prop) (A : Option (Bool × z_I × z_L)) (R : Option (Bool × z_I)) : Prop := (∃ I' L' J' f' e' kd va v, A = some (true, I', L') ∧ R = some (true, J') ∧ q_ls n B f' e' kd va I' L' J' ∧ f ≤ f' ∧ (∀ d k, d ≠ 39 → d ≠ r ∨ k ≠ m → I' d k = I d k) ∧ q_mL L L' ∧ q_fr (fun k => k = q) J J' ∧ X v ∧ I' r m = nI v ∧ J' 1 q = nI v) ∨ (∃ I' L' J', A = some (false, I', L') ∧ R = some (false, J') ∧ q_b1 I' J' ∧ (∀ d k, d ≠ 39 → d ≠ r ∨ k ≠ m → I' d k = I d k) ∧ q_mL L L' ∧ q_fs (fun k => k = q) J J')
theorem q_tNm {n : Nat} {B : Nat → Nat} {f e kd va : Nat} {I : z_I} {L : z_L} {J : z_I} {K : z_L} (h1 : q_ls n B f e kd va I L J) (hk : q_rk L) (h18 : J 0 18 = nI 0) {m c cn b cnt q : Nat} {N : Nat → Nat} (hm : m < 60) (hcn : cnt ≤ cn) (hcn9 : cn ≤ 9) (hbc : b + cnt ≤ 114) (hq : q < 2200) (hX : ∀ k, k < cnt → L c k = lN (N k) ∧ N k < 27 ^ 8) (hK : ∀ k, k < cnt → K 2 (b + k) = lN (q_cv (N k))) {cX bM cM qM : Int32} (ecX : cX = nI cnt) (ebM : bM = nI b) (ecM : cM = nI cnt) (eqM : qM = nI q) : q_oe n B f I L J 35 m q (fun v => v < cnt) (f_X6_takeName I L (nI m) c cn cX) (f_X11_oldOne J K bM cM qM) := by
  subst ecX ebM ecM eqM
  have hisn := h1.isN
  have hnm := h1.nm
  by_cases y : kd = 3
  · subst y
    rw [decide_eq_true rfl] at hisn hnm
    obtain ⟨nh, hw, nL⟩ := h1.nh
    have a1 := x_idx (L := L) (c := c) (cn := cn) (m := cnt) (w := va) (N := N) hcn (by omega) hX hw
    have b1 := m_idx (J := J) (K := K) (b := b) (m := cnt) (w := va) (N := N) hbc (fun k hk => ⟨hK k hk, (hX k hk).2⟩) hw nh
    have hlt := fun c h => (q_find_m (p := fun k => decide (N k = va)) cnt c h).1
    cases hr : q_ix N va cnt with
    | none =>
      rw [hr] at a1 b1
      have a1 : f_X10_indexOfName L c cn (nI cnt) (lN va) = some q_no := a1
      have b1 : f_X11_findHere J K (nI b) (nI cnt) = some q_no := b1
      have hq' : q_ls n B f e 3 va I L (z2 J 1 q q_no) := h1.go (fun _ _ _ => rfl) rfl (fun d k w => q_zo (by omega))
      obtain ⟨I1, J1, eX, eM, p1, p2, p3⟩ := q_fail hq' (by rw [q_zo (by omega), h18]) (w := 3) (by omega) (fun _ => False)
      refine Or.inr ⟨I1, L, J1, ?_, ?_, p1, fun d k hd _ => p2 d k hd, q_mL.rf L, fun d k hd hd2 => by rw [p3.F d k hd, q_zo (by omega)]⟩
      · unfold f_X6_takeName
        rw [hisn, if_pos rfl, nL, a1, q_bs, if_pos (show q_no = -1 from rfl), ql_3, eX]
      · unfold f_X11_oldOne
        rw [hnm, q_bs, if_pos rfl, b1, q_bs, if_pos (q_in hq (by decide)), nI_clamp (by omega), q_zlt, q_zs, if_pos (show q_no = -1 from rfl), ql_3, eM]
    | some k =>
      have hkc : k < cnt := hlt k hr
      rw [hr] at a1 b1
      have a1 : f_X10_indexOfName L c cn (nI cnt) (lN va) = some (nI k) := a1
      have b1 : f_X11_findHere J K (nI b) (nI cnt) = some (nI k) := b1
      have hkn : ¬ nI k = -1 := fun w => (q_nno (by omega)).1 w
      have hq' : q_ls n B f e 3 va (z2 I 35 m (nI k)) L (z2 J 1 q (nI k)) := h1.go (fun d k w => q_zo (by omega)) rfl (fun d k w => q_zo (by omega))
      obtain ⟨I1, L1, J1, f1, e1, kd1, va1, m1, m2, m3, m4, m5, m6, m7⟩ := hq'.mv hk
      have hfe := h1.fe
      refine Or.inl ⟨I1, L1, J1, f1, e1, kd1, va1, k, ?_, ?_, m3, by omega, fun d k d1 d2 => by rw [m5 d k (Or.inl d1), q_zo (by omega)], m6, fun d k d1 d2 => by rw [m7 d k d1, q_zo (by omega)], hkc, by rw [m5 35 m (by omega), q_zs], by rw [m7 1 q (by omega), q_zs]⟩
      · unfold f_X6_takeName
        rw [hisn, if_pos rfl, nL, a1, q_bs, if_neg hkn, if_pos (q_in hm (by decide)), nI_clamp (by omega), q_zlt, m1, q_bs]
      · unfold f_X11_oldOne
        rw [hnm, q_bs, if_pos rfl, b1, q_bs, if_pos (q_in hq (by decide)), nI_clamp (by omega), q_zlt, q_zs, if_neg hkn, m2, q_bs]
  · rw [decide_eq_false y] at hisn hnm
    obtain ⟨I1, J1, eX, eM, p1, p2, p3⟩ := q_fail h1 h18 (w := 2) (by omega) (fun k => k = q)
    refine Or.inr ⟨I1, L, J1, ?_, ?_, p1, fun d k hd _ => p2 d k hd, q_mL.rf L, p3⟩
    · unfold f_X6_takeName
      rw [hisn, if_neg (by decide), ql_2, eX]
    · unfold f_X11_oldOne
      rw [hnm, q_bs, if_neg (by decide), ql_2, eM]
/-- a number that comes to a row of the terms -/
theorem q_tNr {n : Nat} {B : Nat → Nat} {f e kd va : Nat} {I : z_I} {L : z_L} {J : z_I} (h1 : q_ls n B f e kd va I L J) (hk : q_rk L) (h18 : J 0 18 = nI 0) {r m q a b : Nat} {lo hi hiM qM : Int32} (hr : r < 39) (hr3 : 30 ≤ r) (hlo : ∀ v, v ≤ 9999 → ((nI v < lo) ↔ v < a)) (hhi : ∀ v, v ≤ 9999 → ((nI v ≤ hi) ↔ v < b)) (hH : hiM = hi) (eqM : qM = nI q) (hq : q < 2200) : q_oe n B f I L J r m q (fun v => a ≤ v ∧ v < b ∧ v ≤ 9999) ((f_X7_takeNumber I L lo hi).bind (fun q1 => if q1.1 = true then some (q1.1, z2 q1.2.1 r m (q1.2.1 39 9), q1.2.2) else some (q1.1, z2 q1.2.1 r m 0, q1.2.2))) (f_X11_number J qM lo hiM) := by
  rcases q_tNumL h1 hk h18 hlo hhi hH eqM hq with ⟨I2, L2, J2, f2, e2, kd2, va2, z1, z2', z3, z4, z5, z6, z7, v, v1, v2, v3, v4, v5⟩ | ⟨I2, L2, J2, z1, z2', z3, z4, z5, z6⟩
  · refine Or.inl ⟨z2 I2 r m (nI v), L2, J2, f2, e2, kd2, va2, v, ?_, z2', z3.go (fun d k w => q_zo (by omega)) rfl (fun _ _ _ => rfl), z4, fun d k d1 d2 => by rw [q_zo (by omega), z5 d k d1], z6, z7, ⟨v1, v2, v3⟩, q_zs, v5⟩
    rw [z1, q_bs, if_pos rfl]
    dsimp only
    rw [v4]
  · obtain ⟨w, fp, w1, w2, w3, w4, w5, w6, w7⟩ := z3
    refine Or.inr ⟨z2 I2 r m 0, L2, J2, ?_, z2', ⟨w, fp, w1, w2, w3, by rw [q_zo (by omega), w4], by rw [q_zo (by omega), w5], w6, w7⟩, fun d k d1 d2 => by rw [q_zo (by omega), z4 d k d1], z5, z6⟩
    rw [z1, q_bs, if_neg (show ¬ (false = true) by decide)]
theorem x6_num {I : z_I} {L : z_L} {m : Nat} {lo hi : Int32} (hm : m < 60) : f_X6_takeNumber I L (nI m) lo hi = (f_X7_takeNumber I L lo hi).bind (fun q1 => if q1.1 = true then some (q1.1, z2 q1.2.1 37 m (q1.2.1 39 9), q1.2.2) else some (q1.1, z2 q1.2.1 37 m 0, q1.2.2)) := by
  unfold f_X6_takeNumber
  congr 1
  funext q1
  rw [nI_clamp (by omega)]
  by_cases y : q1.1 = true
  · rw [if_pos y, if_pos y, if_pos (q_in hm (by decide)), q_zlt]
  · rw [if_neg y, if_neg y, if_pos (q_in hm (by decide)), q_zlt]
theorem x6_bed {I : z_I} {L : z_L} {m : Nat} (hm : m < 60) : f_X6_takeBedNumber I L (nI m) = (f_X7_takeNumber I L 0 (I 3 10 - 1)).bind (fun q1 => if q1.1 = true then some (q1.1, z2 q1.2.1 35 m (q1.2.1 39 9), q1.2.2) else some (q1.1, z2 q1.2.1 35 m 0, q1.2.2)) := by
  unfold f_X6_takeBedNumber
  congr 1
  funext q1
  rw [nI_clamp (by omega)]
  by_cases y : q1.1 = true
  · rw [if_pos y, if_pos y, if_pos (q_in hm (by decide)), q_zlt]
  · rw [if_neg y, if_neg y, if_pos (q_in hm (by decide)), q_zlt]
/-- a sign by which is compared; a number behind it -/
def q_cmpM (J : z_I) (p : Nat) : Option (Bool × z_I) := if (f_X11_isSign J (60 : Int32)) = true then (f_X11_ahead (z2 J 1 (p + 5) (J 0 15))).bind fun q13 => (f_X11_number q13 (nI (p + 2)) (0 : Int32) (9999 : Int32)).bind fun q15 => some (q15.1, q15.2) else if (f_X11_isSign J (62 : Int32)) = true then (f_X11_ahead (z2 J 1 (p + 5) (J 0 15))).bind fun q13 => (f_X11_number q13 (nI (p + 2)) (0 : Int32) (9999 : Int32)).bind fun q15 => some (q15.1, q15.2) else if (f_X11_isSign J (61 : Int32)) = true then (f_X11_ahead (z2 J 1 (p + 5) (J 0 15))).bind fun q13 => (f_X11_number q13 (nI (p + 2)) (0 : Int32) (9999 : Int32)).bind fun q15 => some (q15.1, q15.2) else some ((f_X11_fails J (2 : Int32)).1, (f_X11_fails J (2 : Int32)).2)
def q_cmpX (I : z_I) (L : z_L) (m : Nat) : Option (Bool × z_I × z_L) := (f_X7_takeComparing I L).bind fun q9 => if q9.1 = true then (f_X6_takeNumber (z2 q9.2.1 36 m (q9.2.1 39 10)) q9.2.2 (nI m) (0 : Int32) (9999 : Int32)).bind fun q13 => some (q13.1, q13.2.1, q13.2.2) else some (false, q9.2.1, q9.2.2)
theorem q_tCmp {n : Nat} {B : Nat → Nat} {f e kd va : Nat} {I : z_I} {L : z_L} {J : z_I} (h1 : q_ls n B f e kd va I L J) (hk : q_rk L) (h18 : J 0 18 = nI 0) {m p : Nat} (hm : m < 60) (hp : p + 5 < 2200) : (∃ I' L' J' f' e' kd' va' c v, q_cmpX I L m = some (true, I', L') ∧ q_cmpM J p = some (true, J') ∧ q_ls n B f' e' kd' va' I' L' J' ∧ f ≤ f' ∧ (∀ d k, d ≠ 39 → (d ≠ 36 ∧ d ≠ 37) ∨ k ≠ m → I' d k = I d k) ∧ q_mL L L' ∧ q_fr (fun k => k = p + 5 ∨ k = p + 2) J J' ∧ c ≤ 255 ∧ v ≤ 9999 ∧ I' 36 m = nI c ∧ J' 1 (p + 5) = nI c ∧ I' 37 m = nI v ∧ J' 1 (p + 2) = nI v) ∨ (∃ I' L' J', q_cmpX I L m = some (false, I', L') ∧ q_cmpM J p = some (false, J') ∧ q_b1 I' J' ∧ (∀ d k, d ≠ 39 → (d ≠ 36 ∧ d ≠ 37) ∨ k ≠ m → I' d k = I d k) ∧ q_mL L L' ∧ q_fs (fun k => k = p + 5 ∨ k = p + 2) J J') := by
  obtain ⟨i1, i2, i3⟩ := h1.i5
  have b3 := h1.2.2.1.2.2
  obtain ⟨I1, J1, eX, eM, p1, p2, p3⟩ := q_fail h1 h18 (w := 2) (by omega) (fun k => k = p + 5 ∨ k = p + 2)
  have bad : (∀ c : Int32, c = 60 ∨ c = 62 ∨ c = 61 → f_X11_isSign J c = false) → f_X7_takeComparing I L = some (false, I1, L) → q_cmpX I L m = some (false, I1, L) ∧ q_cmpM J p = some (false, J1) := fun hs hx => by
    unfold q_cmpX q_cmpM
    rw [hx, q_bs, if_neg (show ¬ (false = true) by decide), hs 60 (by decide), hs 62 (by decide), hs 61 (by decide), if_neg (show ¬ (false = true) by decide), if_neg (show ¬ (false = true) by decide), if_neg (show ¬ (false = true) by decide), ql_2, eM]
    exact ⟨rfl, rfl⟩
  by_cases z : kd = 6
  · obtain ⟨v1, v2, v3⟩ := h1.c9 z
    have j12 : J 0 12 = 4 := by rw [b3, z]; rfl
    have i5 : I 39 5 = 6 := by rw [i2, z]; rfl
    have hsg : ∀ c, c < 128 → f_X11_isSign J (nI c) = decide (va = c) := fun c hc => by
      unfold f_X11_isSign
      rw [if_pos j12, v3]
      by_cases w : va = c
      · rw [if_pos (by rw [w]), decide_eq_true w]
      · rw [if_neg (by rw [nI_eq (by omega) (by omega)]; exact w), decide_eq_false w]
    by_cases y : va = 59
    · obtain ⟨z1, z2'⟩ := bad (fun c hc => by
        rcases hc with rfl | rfl | rfl
        · exact (hsg 60 (by omega)).trans (decide_eq_false (by omega))
        · exact (hsg 62 (by omega)).trans (decide_eq_false (by omega))
        · exact (hsg 61 (by omega)).trans (decide_eq_false (by omega))) (by
        unfold f_X7_takeComparing
        rw [if_pos i5, v2, if_pos (show nI va = 59 by rw [y]; rfl), ql_2, eX])
      exact Or.inr ⟨I1, L, J1, z1, z2', p1, fun d k hd _ => p2 d k hd, q_mL.rf L, p3⟩
    · have hq : q_ls n B f e kd va (z2 I 39 10 (nI va)) L (z2 J 1 (p + 5) (nI va)) := h1.go (fun d k w => q_zo (by omega)) rfl (fun d k w => q_zo (by omega))
      obtain ⟨I2, L2, J2, f2, e2, kd2, va2, m1, m2, m3, m4, m5, m6, m7⟩ := hq.mv hk
      have hfe := h1.fe
      have hX : f_X7_takeComparing I L = some (true, I2, L2) := by
        unfold f_X7_takeComparing
        rw [if_pos i5, v2, if_neg (show ¬ nI va = 59 by rw [ql_59, nI_eq (by omega) (by omega)]; exact y), q_zlt, m1, q_bs]
      have hM : q_cmpM J p = (f_X11_number J2 (nI (p + 2)) 0 9999).bind (fun q15 => some (q15.1, q15.2)) := by
        unfold q_cmpM
        have h60 : f_X11_isSign J 60 = decide (va = 60) := hsg 60 (by omega)
        have h62 : f_X11_isSign J 62 = decide (va = 62) := hsg 62 (by omega)
        have h61 : f_X11_isSign J 61 = decide (va = 61) := hsg 61 (by omega)
        rw [h60, h62, h61, v3, m2, q_bs]
        by_cases y1 : va = 60
        · rw [if_pos (decide_eq_true y1)]
        · rw [if_neg (by rw [decide_eq_false y1]; decide)]
          by_cases y2 : va = 62
          · rw [if_pos (decide_eq_true y2)]
          · rw [if_neg (by rw [decide_eq_false y2]; decide), if_pos (decide_eq_true (by omega))]
      have i10 : I2 39 10 = nI va := by rw [m5 39 10 (by omega), q_zs]
      have hq3 : q_ls n B f2 e2 kd2 va2 (z2 I2 36 m (nI va)) L2 J2 := m3.go (fun d k w => q_zo (by omega)) rfl (fun _ _ _ => rfl)
      have e18 : J2 0 18 = nI 0 := by rw [m7 0 18 (by omega), q_zo (by omega), h18]
      rcases q_tNr hq3 (hk.mL m6) e18 (r := 37) (m := m) (lo := 0) (hi := 9999) (hiM := 9999) (qM := nI (p + 2)) (q := p + 2) (a := 0) (b := 10000) (by omega) (by omega) (fun v hv => q_loC (by decide) hv) (fun v hv => q_hiC (by decide) hv) rfl rfl (by omega) with ⟨I4, L4, J4, f4, e4, kd4, va4, v, t1, t2, t3, t4, t5, t6, t7, t8, t9, t10⟩ | ⟨I4, L4, J4, t1, t2, t3, t4, t5, t6⟩
      · refine Or.inl ⟨I4, L4, J4, f4, e4, kd4, va4, va, v, ?_, ?_, t3, by omega, fun d k d1 d2 => ?_, m6.tr t6, fun d k d1 d2 => ?_, by omega, t8.2.2, ?_, ?_, t9, t10⟩
        · unfold q_cmpX
          rw [hX, q_bs, if_pos rfl]
          dsimp only
          rw [i10, x6_num hm, t1, q_bs]
        · rw [hM, t2, q_bs]
        · rw [t5 d k d1 (by omega), q_zo (by omega), m5 d k (by omega), q_zo (by omega)]
        · rw [t7 d k d1 (by omega), m7 d k d1, q_zo (by omega)]
        · rw [t5 36 m (by omega) (by omega), q_zs]
        · rw [t7 1 (p + 5) (by omega) (by omega), m7 1 _ (by omega), q_zs]
      · refine Or.inr ⟨I4, L4, J4, ?_, ?_, t3, fun d k d1 d2 => ?_, m6.tr t5, fun d k d1 d2 => ?_⟩
        · unfold q_cmpX
          rw [hX, q_bs, if_pos rfl]
          dsimp only
          rw [i10, x6_num hm, t1, q_bs]
        · rw [hM, t2, q_bs]
        · rw [t4 d k d1 (by omega), q_zo (by omega), m5 d k (by omega), q_zo (by omega)]
        · rw [t6 d k d1 (by omega), m7 d k (by omega), q_zo (by omega)]
  · have j12 : ¬ J 0 12 = 4 := by
      rw [b3, ql_4]
      have h7 : ∀ k, k < 7 → k = 6 ∨ (q_jk k ≠ 4 ∧ q_jk k < 10) := by decide
      have := h7 kd (by omega)
      rw [nI_eq (by omega) (by omega)]
      omega
    obtain ⟨z1, z2'⟩ := bad (fun c _ => by unfold f_X11_isSign; rw [if_neg j12]) (by
      unfold f_X7_takeComparing
      rw [i2, if_neg (show ¬ nI kd = 6 from fun w => z ((i3 6 (by omega)).1 w)), ql_2, eX])
    exact Or.inr ⟨I1, L, J1, z1, z2', p1, fun d k hd _ => p2 d k hd, q_mL.rf L, p3⟩
/-! what a step's entry is: kind, thing, sign, number -/
def q_e1 (C : q_N) (t1 t2 t3 t4 : Nat) : Prop := q_tk t1 ∧ (t1 = 12 ∨ t1 = 19 → t2 < C 0 2) ∧ (t1 = 13 ∨ t1 = 14 ∨ t1 = 11 → t2 < C 0 3) ∧ (t1 = 2 → t2 < C 0 0) ∧ (t1 = 13 → t4 < C 0 0) ∧ (t1 = 15 → 1 ≤ t4 ∧ t4 ≤ 40) ∧ (t1 = 20 → 1 ≤ t4 ∧ t4 ≤ 99) ∧ (t1 = 2 ∨ t1 = 11 → t4 ≤ 9999 ∧ t3 ≤ 255)
def q_e2 (t1 t2 t3 t4 p : Nat) (J : z_I) : Prop := J 1 p = nI (q_kd t1) ∧ (t1 = 12 ∨ t1 = 13 ∨ t1 = 14 ∨ t1 = 19 ∨ t1 = 2 ∨ t1 = 11 → J 1 (p + 1) = nI t2) ∧ (t1 = 15 ∨ t1 = 20 → J 1 (p + 1) = nI t4) ∧ (t1 = 13 ∨ t1 = 2 ∨ t1 = 11 → J 1 (p + 2) = nI t4) ∧ (t1 = 2 ∨ t1 = 11 → J 1 (p + 5) = nI t3)
/-- an entry at its place in both memories -/
def q_en (C : q_N) (t1 m p : Nat) (I J : z_I) : Prop := ∃ t2 t3 t4, I 34 m = nI t1 ∧ I 35 m = nI t2 ∧ I 36 m = nI t3 ∧ I 37 m = nI t4 ∧ q_e1 C t1 t2 t3 t4 ∧ q_e2 t1 t2 t3 t4 p J
theorem q_ex32 (x : Int32) : ∃ t, x = nI t := ⟨(q_of32 x).choose, (q_of32 x).choose_spec.2⟩
