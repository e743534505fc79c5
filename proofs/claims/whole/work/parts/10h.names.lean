/-! a new name; cases, scholars -/
def q_newT (q3 : z_I) (L : z_L) (p0 p2 : Int32) : Option (Bool × z_I × z_L) :=
  (f_X11_isName q3).bind fun q5 =>
          if q5 = true then
            (f_X11_isOld q3 L).bind fun q7 =>
              if q7 = true then
                some ((f_X11_fails q3 (3 : Int32)).1, (f_X11_fails q3 (3 : Int32)).2, L)
              else
                if zin ((1712 : Int32) + p0) 2200 = true then
                  (f_X11_nameHere q3).bind fun q10 =>
                    if zin (((76 : Int32) + p2) + (q3 1 (((1712 : Int32) + p0)).toNatClampNeg)) 114 = true then
                      z_lt (z2 L 2 ((((76 : Int32) + p2) + (q3 1 (((1712 : Int32) + p0)).toNatClampNeg))).toNatClampNeg q10) fun L13 =>
                      (f_X11_ahead q3).bind fun q14 =>
                        some (true, q14, L13)
                    else none
                else none
          else
            some ((f_X11_fails q3 (2 : Int32)).1, (f_X11_fails q3 (2 : Int32)).2, L)
theorem q_eOn {a : Option Nat} (ha : ∀ c, a = some c → c < 100) : (q_eO a = -1) ↔ a = none := by
  cases a with
  | none => exact ⟨fun _ => rfl, fun _ => rfl⟩
  | some c =>
    have := ha c rfl
    exact ⟨fun w => absurd w (fun w => (q_nno (n := c) (by omega)).1 w), fun w => by cases w⟩
theorem q_ix_lt {N : Nat → Nat} {w m : Nat} (hm : m ≤ 100) : ∀ c, q_ix N w m = some c → c < 100 := fun c h => by
  have := (q_find_m m c h).1
  omega
theorem q_nw {n : Nat} {B : Nat → Nat} {f e kd va : Nat} {I : z_I} {L : z_L} {J : z_I} {K : z_L} {C : q_N} {N : Nat → Nat} (h1 : q_ls n B f e kd va I L J) (hk : q_rk L) (h18 : J 0 18 = nI 0) (hx : q_sx C 22 I L) (hm : q_sm C 1712 76 J K) (ok : q_ok C) (hN : ∀ k, k < C 0 1 → L 42 k = lN (N k) ∧ K 2 (76 + k) = lN (q_cv (N k)) ∧ N k < 27 ^ 8) {ci sort cnt : Nat} {cM sM : Int32} (hcM : cM = nI ci) (hsM : sM = nI sort) (hcnt : J 1 (1712 + ci) = nI cnt) (hci : ci ≤ 3) (hpl : 76 + sort + cnt < 114) : (∃ I' L' J' f' e' kd' va' w, f_X1_takeNewName I L = some (true, I', L') ∧ q_newT J K cM sM = some (true, J', z2 K 2 (76 + sort + cnt) (lN (q_cv w))) ∧ q_ls n B f' e' kd' va' I' L' J' ∧ f ≤ f' ∧ q_mI I I' ∧ (∀ d k, d ≠ 39 ∨ k ≠ 8 → d ≠ 41 ∨ k ≠ 4 → L' d k = L d k) ∧ L' 41 4 = lN w ∧ w < 27 ^ 8 ∧ (∀ d k, d ≠ 0 ∨ k < 12 ∨ 15 < k → J' d k = J d k)) ∨ (∃ I' L' J', f_X1_takeNewName I L = some (false, I', L') ∧ q_newT J K cM sM = some (false, J', K) ∧ q_b1 I' J' ∧ q_mI I I' ∧ (∀ d k, d ≠ 39 ∨ k ≠ 8 → d ≠ 41 ∨ k ≠ 4 → L' d k = L d k) ∧ q_fs (fun _ => False) J J') := by
  subst hcM hsM
  obtain ⟨k0, k1, k2, k3, -, -, -, -, -, k9, k10⟩ := id ok
  have hisn := h1.isN
  have hnm := h1.nm
  by_cases y : kd = 3
  · subst y
    obtain ⟨nh, hw, nL⟩ := h1.nh
    have c1 := hx.f.2.1
    have c2 := hx.f.2.2.1
    have c3 := hx.f.2.2.2.1
    have j1 : J 1 1713 = nI (C 0 1) := hm.1 0 1 (by simp [q_bd])
    have j2 : J 1 1714 = nI (C 0 2) := hm.1 0 2 (by simp [q_bd])
    have j3 : J 1 1715 = nI (C 0 3) := hm.1 0 3 (by simp [q_bd])
    have a1 := x_idx (L := z2 L 41 4 (lN va)) (c := 42) (cn := 8) (m := C 0 1) (w := va) (N := N) k1 (by omega) (fun k hk => by rw [q_zo (by omega)]; exact ⟨(hN k hk).1, (hN k hk).2.2⟩) hw
    have a2 := x_idx (L := z2 L 41 4 (lN va)) (c := 29) (cn := 7) (m := C 0 2) (w := va) (N := C 7) k2 (by omega) (fun k hk => by rw [q_zo (by omega)]; exact ⟨hx.2.1 k hk, (k9 k hk).2.2.2.2⟩) hw
    have a3 := x_idx (L := z2 L 41 4 (lN va)) (c := 32) (cn := 4) (m := C 0 3) (w := va) (N := C 10) k3 (by omega) (fun k hk => by rw [q_zo (by omega)]; exact ⟨hx.2.2 k hk, (k10 k hk).2.2⟩) hw
    have b1 := m_idx (J := J) (K := K) (b := 76) (m := C 0 1) (w := va) (N := N) (by omega) (fun k hk => (hN k hk).2) hw nh
    have b2 := m_idx (J := J) (K := K) (b := 84) (m := C 0 2) (w := va) (N := C 7) (by omega) (fun k hk => ⟨hm.2.1 k hk, (k9 k hk).2.2.2.2⟩) hw nh
    have b3 := m_idx (J := J) (K := K) (b := 91) (m := C 0 3) (w := va) (N := C 10) (by omega) (fun k hk => ⟨hm.2.2 k hk, (k10 k hk).2.2⟩) hw nh
    have n1 := q_eOn (q_ix_lt (N := N) (w := va) (m := C 0 1) (by omega))
    have n2 := q_eOn (q_ix_lt (N := C 7) (w := va) (m := C 0 2) (by omega))
    have n3 := q_eOn (q_ix_lt (N := C 10) (w := va) (m := C 0 3) (by omega))
    generalize q_ix N va (C 0 1) = r1 at a1 b1 n1
    generalize q_ix (C 7) va (C 0 2) = r2 at a2 b2 n2
    generalize q_ix (C 10) va (C 0 3) = r3 at a3 b3 n3
    have hold : f_X11_isOld J K = some (decide (¬ (r1 = none ∧ r2 = none ∧ r3 = none))) := by
      unfold f_X11_isOld
      rw [j1, j2, j3, show (76 : Int32) = nI 76 from rfl, b1, q_bs]
      by_cases y1 : r1 = none
      · rw [if_pos (n1.2 y1), show (84 : Int32) = nI 84 from rfl, b2, q_bs]
        by_cases y2 : r2 = none
        · rw [if_pos (n2.2 y2), show (91 : Int32) = nI 91 from rfl, b3, q_bs]
          by_cases y3 : r3 = none
          · rw [if_pos (n3.2 y3), decide_eq_false (fun w => w ⟨y1, y2, y3⟩)]
          · rw [if_neg (fun w => y3 (n3.1 w)), decide_eq_true (show ¬ (r1 = none ∧ r2 = none ∧ r3 = none) from fun w => y3 w.2.2)]
        · rw [if_neg (fun w => y2 (n2.1 w)), decide_eq_true (show ¬ (r1 = none ∧ r2 = none ∧ r3 = none) from fun w => y2 w.2.1)]
      · rw [if_neg (fun w => y1 (n1.1 w)), decide_eq_true (show ¬ (r1 = none ∧ r2 = none ∧ r3 = none) from fun w => y1 w.1)]
    rw [decide_eq_true rfl] at hisn hnm
    by_cases yo : r1 = none ∧ r2 = none ∧ r3 = none
    · rw [decide_eq_false (fun w => w yo)] at hold
      have hq : q_ls n B f e 3 va I (z2 L 41 4 (lN va)) J := h1.go (fun _ _ _ => rfl) (q_zo (by omega)) (fun _ _ _ => rfl)
      obtain ⟨I', L', J', f', e', kd', va', m1, m2, m3, m4, m5, m6, m7⟩ := hq.mv (hk.go (fun k => q_zo (by omega)))
      refine Or.inl ⟨I', L', J', f', e', kd', va', va, ?_, ?_, m3, by have := h1.fe; omega, fun d k hd => m5 d k (Or.inl hd), fun d k d1 d2 => by rw [m6 d k d1, q_zo (by omega)], by rw [m6 41 4 (by omega), q_zs], hw, m7⟩
      · unfold f_X1_takeNewName
        rw [hisn, if_pos rfl, nL, q_zlt, c1, a1, q_bs, if_pos (n1.2 yo.1), c2, a2, q_bs, if_pos (n2.2 yo.2.1), c3, a3, q_bs, if_pos (n3.2 yo.2.2), m1, q_bs]
      · unfold q_newT
        rw [hnm, q_bs, if_pos rfl, hold, q_bs, if_neg (by decide), show (1712 : Int32) + nI ci = nI (1712 + ci) from nI_add 1712 ci, if_pos (q_in (by omega) (by decide)), nh, q_bs, nI_clamp (by omega), hcnt, show (76 : Int32) + nI sort + nI cnt = nI (76 + sort + cnt) from by rw [show (76 : Int32) = nI 76 from rfl, nI_add, nI_add], if_pos (q_in hpl (by decide)), nI_clamp (by omega), q_zlt, m2, q_bs]
    · rw [decide_eq_true yo] at hold
      obtain ⟨I1, J1, eX, eM, p1, p2, p3⟩ := q_fail h1 h18 (w := 3) (by omega) (fun _ => False)
      refine Or.inr ⟨I1, z2 L 41 4 (lN va), J1, ?_, ?_, p1, p2, fun d k d1 d2 => q_zo (by omega), p3⟩
      · unfold f_X1_takeNewName
        rw [hisn, if_pos rfl, nL, q_zlt, c1, a1, q_bs]
        by_cases y1 : r1 = none
        · rw [if_pos (n1.2 y1), c2, a2, q_bs]
          by_cases y2 : r2 = none
          · rw [if_pos (n2.2 y2), c3, a3, q_bs, if_neg (fun w => yo ⟨y1, y2, n3.1 w⟩), ql_3, eX]
          · rw [if_neg (fun w => y2 (n2.1 w)), ql_3, eX]
        · rw [if_neg (fun w => y1 (n1.1 w)), ql_3, eX]
      · unfold q_newT
        rw [hnm, q_bs, if_pos rfl, hold, q_bs, if_pos rfl, ql_3, eM]
  · rw [decide_eq_false y] at hisn hnm
    obtain ⟨I1, J1, eX, eM, p1, p2, p3⟩ := q_fail h1 h18 (w := 2) (by omega) (fun _ => False)
    refine Or.inr ⟨I1, L, J1, ?_, ?_, p1, p2, fun _ _ _ _ => rfl, p3⟩
    · unfold f_X1_takeNewName
      rw [hisn, if_neg (by decide), ql_2, eX]
    · unfold q_newT
      rw [hnm, q_bs, if_neg (by decide), ql_2, eM]
theorem m_full {J : z_I} {ci cnt mx : Nat} {cM mM : Int32} (hcM : cM = nI ci) (hmM : mM = nI mx) (hci : ci ≤ 3) (hmx : mx ≤ 8) (hcnt : J 1 (1712 + ci) = nI cnt) (hle : cnt ≤ mx) : f_X11_isFull J cM mM = some (decide (cnt = mx)) := by
  subst hcM hmM
  unfold f_X11_isFull
  rw [show (1712 : Int32) + nI ci = nI (1712 + ci) from nI_add 1712 ci, if_pos (q_in (by omega) (by decide)), nI_clamp (by omega), hcnt]
  by_cases y : cnt = mx
  · rw [if_pos (by rw [y]), decide_eq_true y]
  · rw [if_neg (by rw [nI_eq (by omega) (by omega)]; exact y), decide_eq_false y]
theorem m_newOne {J J1 : z_I} {K : z_L} {ci cnt mx : Nat} {cM mM sM : Int32} (hcM : cM = nI ci) (hmM : mM = nI mx) (hci : ci ≤ 3) (hmx : mx ≤ 8) (hcnt : J 1 (1712 + ci) = nI cnt) (hlt : cnt < mx) (ha : f_X11_ahead J = some J1) : f_X11_newOne J K cM mM sM = q_newT J1 K cM sM := by
  unfold f_X11_newOne
  rw [m_full hcM hmM hci hmx hcnt (by omega), q_bs, if_neg (by rw [decide_eq_false (show ¬ cnt = mx by omega)]; decide), ha, q_bs]
  rfl
theorem m_newFull {J J1 : z_I} {K : z_L} {ci cnt mx : Nat} {cM mM sM : Int32} (hcM : cM = nI ci) (hmM : mM = nI mx) (hci : ci ≤ 3) (hmx : mx ≤ 8) (hcnt : J 1 (1712 + ci) = nI cnt) (he : cnt = mx) (hf : f_X11_fails J (nI 6) = (false, J1)) : f_X11_newOne J K cM mM sM = some (false, J1, K) := by
  unfold f_X11_newOne
  rw [m_full hcM hmM hci hmx hcnt (by omega), q_bs, if_pos (by rw [decide_eq_true he]), ql_6, hf]
theorem q_pCase {n : Nat} {B : Nat → Nat} {C : q_N} {N : Nat → Nat} {od f e : Nat} {I : z_I} {L : z_L} {J : z_I} {K : z_L} (h : q_ct n B C N od f e 2 4 I L J K) : q_po n B f I L J K (f_X1_takeCase I L) (f_X11_courtPart J K) := by
  obtain ⟨h1, hk, ⟨hx, hm, ok⟩, hN, ⟨o1, o2, o3⟩, h18, h17, h19⟩ := h
  obtain ⟨k0, k1, k2, k3, -⟩ := id ok
  have hiw := h1.iw
  rw [if_pos rfl] at hiw
  have hcp := m_cp2 (K := K) hiw
  have xc := hx.f.2.1
  have mc : J 1 1713 = nI (C 0 1) := hm.1 0 1 (by simp [q_bd])
  by_cases y : C 0 1 = 8
  · obtain ⟨I1, J1, eX, eM, p1, p2, p3⟩ := q_fail h1 h18 (w := 6) (by omega) (fun _ => False)
    have hnf := m_newFull (J := J) (J1 := J1) (K := K) (ci := 1) (cnt := C 0 1) (mx := 8) (cM := 1) (mM := 8) (sM := 0) rfl rfl (by omega) (by omega) mc y eM
    refine q_poF (P := fun _ => False) (I' := I1) (L' := L) (J' := J1) (K' := K) ?_ ?_ p1 (fun d k y => p2 d k (by omega)) (fun _ _ _ => rfl) (fun d k a b c e => p3.F d k (by omega)) (fun _ _ _ => rfl)
    · unfold f_X1_takeCase
      rw [xc, if_neg (show ¬ nI (C 0 1) < 8 by rw [y]; decide), ql_6, eX]
    · rw [hcp]
      unfold f_X11_aCase
      rw [hnf, q_bs, if_neg (show ¬ (false = true) by decide), q_bs, if_neg (show ¬ (false = true) by decide)]
  · obtain ⟨I1, L1, J1, f1, e1, kd1, va1, m1, m2, m3, m4, m5, m6, m7⟩ := h1.mv hk
    have hfe := h1.fe.2.2.2 (by omega)
    have e18 : J1 0 18 = nI 0 := by rw [m7 0 18 (by omega), h18]
    have x1 : q_sx C 22 I1 L1 := hx.go (fun d k a b => m5 d k (by omega)) (fun d k a b => m6 d k (by omega))
    have y1 : q_sm C 1712 76 J1 K := hm.go ok (fun k a b => m7 1 k (by omega)) (fun _ _ _ => rfl)
    have hno := m_newOne (J := J) (J1 := J1) (K := K) (ci := 1) (cnt := C 0 1) (mx := 8) (cM := 1) (mM := 8) (sM := 0) rfl rfl (by omega) (by omega) mc (by omega) m2
    have hXs : f_X1_takeCase I L = (f_X1_takeNewName I1 L1).bind (fun q3 => if q3.1 = true then (f_X7_takeKeyword q3.2.1 q3.2.2 5).bind (fun q5 => if q5.1 = true then (f_X7_takeNumber q5.2.1 q5.2.2 1 20).bind (fun q7 => if q7.1 = true then (if zin (q7.2.1 22 11) 8 = true then z_lt (z2 q7.2.2 42 ((q7.2.1 22 11)).toNatClampNeg (q7.2.2 41 4)) (fun L10 => (f_X0_addCase q7.2.1 22 (q7.2.1 39 9)).bind (fun q11 => (f_X7_takeSemicolon q11 L10).bind (fun q13 => some (q13.1, q13.2.1, q13.2.2)))) else none) else some (false, q7.2.1, q7.2.2)) else some (false, q5.2.1, q5.2.2)) else some (false, q3.2.1, q3.2.2)) := by
      unfold f_X1_takeCase
      rw [xc, if_pos (show nI (C 0 1) < 8 by rw [ql_8, nI_ltI (by omega) (by omega)]; omega), m1, q_bs]
    have hMs : f_X11_aCase J K = (q_newT J1 K 1 0).bind (fun q1 => if q1.1 = true then (f_X11_wantWord q1.2.1 7).bind (fun q3 => if q3.1 = true then (f_X11_number q3.2 (1734 + (q3.2 1 1713)) 1 20).bind (fun q6 => if q6.1 = true then some (true, z2 q6.2 1 1713 ((q6.2 1 1713) + 1), q1.2.2) else some (false, q6.2, q1.2.2)) else some (false, q3.2, q1.2.2)) else some (false, q1.2.1, q1.2.2)) := by
      unfold f_X11_aCase
      rw [hno]
      rfl
    rcases q_nw m3 (hk.mL m6) e18 x1 y1 ok (fun k hk' => by rw [m6 42 k (by omega)]; exact hN k hk') (ci := 1) (sort := 0) (cnt := C 0 1) (cM := 1) (sM := 0) rfl rfl (by rw [m7 1 _ (by omega)]; exact mc) (by omega) (by omega) with ⟨I2, L2, J2, f2, e2, kd2, va2, w, z1, z2', z3, z4, z5, z6, z6', z6'', z7⟩ | ⟨I2, L2, J2, z1, z2', z3, z4, z5, z6⟩
    · have f18 : J2 0 18 = nI 0 := by rw [z7 0 18 (by omega), e18]
      have hk2 : q_rk L2 := (hk.mL m6).go (fun k => z6 40 k (by omega) (by omega))
      rcases q_tWordL z3 hk2 f18 (kX := 5) (kM := 7) (k := 5) (by omega) rfl rfl with ⟨I3, L3, J3, f3, e3, kd3, va3, w1, w2, w3, w4, w5, w6, w7, -⟩ | ⟨I3, L3, J3, w1, w2, w3, w4, w5, w6⟩
      · have g18 : J3 0 18 = nI 0 := by rw [w7.F 0 18 (by omega), f18]
        have hc3 : J3 1 1713 = nI (C 0 1) := by rw [w7.F 1 1713 (by omega), z7 1 1713 (by omega), m7 1 1713 (by omega), mc]
        have hpl : (1734 : Int32) + J3 1 1713 = nI (1734 + C 0 1) := by rw [hc3, show (1734 : Int32) = nI 1734 from rfl, nI_add]
        rcases q_tNumL w3 (hk2.mL w6) g18 (lo := 1) (hi := 20) (hiM := 20) (pM := 1734 + J3 1 1713) (a := 1) (m := 21) (p := 1734 + C 0 1) (fun v hv => q_loC (by decide) hv) (fun v hv => q_hiC (by decide) hv) rfl hpl (by omega) with ⟨I4, L4, J4, f4, e4, kd4, va4, t1, t2, t3, t4, t5, t6, t7, v, v1, v2, v3, v4, v5⟩ | ⟨I4, L4, J4, t1, t2, t3, t4, t5, t6⟩
        · have tI : ∀ d k, d ≠ 39 → I4 d k = I d k := fun d k hd => by rw [t5 d k hd, w5 d k hd, z5 d k hd, m5 d k (by omega)]
          have tL : ∀ d k, d ≠ 39 ∨ k ≠ 8 → d ≠ 41 ∨ k ≠ 4 → L4 d k = L d k := fun d k hd hd2 => by rw [t6 d k hd, w6 d k hd, z6 d k hd hd2, m6 d k hd]
          have tJ : ∀ d k, d ≠ 0 ∨ k < 12 ∨ 15 < k → d ≠ 1 ∨ k ≠ 1734 + C 0 1 → J4 d k = J d k := fun d k h1 h2 => by rw [t7 d k h1 h2, w7.F d k h1, z7 d k h1, m7 d k h1]
          have nw4 : L4 41 4 = lN w := by rw [t6 41 4 (by omega), w6 41 4 (by omega), z6']
          have x4 : q_sx C 22 I4 L4 := hx.go (fun d k a b => tI d k (by omega)) (fun d k a b => tL d k (by omega) (by omega))
          have x5 := q_aK_sx x4 v
          have ok5 := q_aK_ok ok (by omega) (x := v) (by omega)
          have y5 := q_aK_sm (J' := z2 J4 1 1713 (nI (C 0 1 + 1))) (K' := z2 K 2 (76 + 0 + C 0 1) (lN (q_cv w))) (x := v) hm ok (by omega) (by rw [show 1712 + (22 + C 0 1) = 1734 + C 0 1 by omega, q_zo (by omega), v5]) q_zs (fun k a b c => by rw [q_zo (by omega), tJ 1 _ (by omega) (by omega)]) (fun k a b => q_zo (by omega))
          obtain ⟨g1, g2, -⟩ := q_aK_f C v
          have hadd : f_X0_addCase I4 22 (nI v) = some (z2 (z2 I4 25 (C 0 1) (nI v)) 22 11 (nI (C 0 1 + 1))) := by
            unfold f_X0_addCase
            rw [x4.f.2.1, if_pos (q_in (by omega) (by decide)), nI_clamp (by omega), q_zlt, q_zlt, ql_1, nI_add]
          refine q_pEnd (I := z2 (z2 I4 25 (C 0 1) (nI v)) 22 11 (nI (C 0 1 + 1))) (L := z2 L4 42 (C 0 1) (lN w)) (J := z2 J4 1 1713 (nI (C 0 1 + 1))) (K := z2 K 2 (76 + 0 + C 0 1) (lN (q_cv w))) (C := q_aK C v) (N := fun k => if k = C 0 1 then w else N k) (od := od) (f := f4) (e := e4) (kd := kd4) (va := va4) ⟨t3.go (fun d k w => by rw [q_zo (by omega), q_zo (by omega)]) (q_zo (by omega)) (fun d k w => q_zo (by omega)), hk.go (fun k => by rw [q_zo (by omega), tL 40 k (by omega) (by omega)]), ⟨x5.go (fun _ _ _ _ => rfl) (fun d k a b => q_zo (by omega)), y5, ok5⟩, fun k hk' => ?_, ⟨?_, ?_, o3⟩, ?_, ?_, ?_⟩ (by omega) ⟨fun d k w => ?_, fun d k w => ?_, fun d k a1 a2 a3 a4 => ?_, fun d k a1 => ?_⟩ ?_ ?_
          · rw [g1] at hk'
            dsimp only
            by_cases u : k = C 0 1
            · subst u; rw [if_pos rfl]; exact ⟨q_zs, by rw [Nat.add_zero]; exact q_zs, z6''⟩
            · rw [if_neg u, q_zo (by omega), q_zo (by omega), tL 42 k (by omega) (by omega)]; exact hN k (by omega)
          · rw [q_zo (by omega), q_zo (by omega), tI 41 3 (by omega), o1]
          · rw [q_zo (by omega), tJ 0 20 (by omega) (by omega), o2]
          · rw [q_zo (by omega), tJ 0 18 (by omega) (by omega), h18]
          · rw [q_zo (by omega), tJ 0 17 (by omega) (by omega), h17]
          · rw [q_zo (by omega), tJ 1 1719 (by omega) (by omega), h19]
          · rw [q_zo (by omega), q_zo (by omega), tI d k (by omega)]
          · rw [q_zo (by omega), tL d k (by omega) (by omega)]
          · rw [q_zo (by omega), tJ d k (by omega) (by omega)]
          · exact q_zo (by omega)
          · rw [hXs, z1, q_bs, if_pos rfl, w1, q_bs, if_pos rfl, t1, q_bs, if_pos rfl]
            dsimp only
            rw [v4, if_pos (show zin (I4 22 11) 8 = true by rw [x4.f.2.1]; exact q_in (by omega) (by decide)), x4.f.2.1, nI_clamp (by omega), q_zlt, hadd, q_bs, nw4]
          · have hc4 : J4 1 1713 = nI (C 0 1) := by rw [tJ 1 1713 (by omega) (by omega), mc]
            rw [hcp, hMs, z2', q_bs, if_pos rfl, w2, q_bs, if_pos rfl, t2, q_bs, if_pos rfl, q_bs, if_pos rfl]
            dsimp only
            rw [hc4, ql_1, nI_add]
        · refine q_poF (P := fun _ => False) (I' := I4) (L' := L4) (J' := J4) (K' := z2 K 2 (76 + 0 + C 0 1) (lN (q_cv w))) (by rw [hXs, z1, q_bs, if_pos rfl, w1, q_bs, if_pos rfl, t1, q_bs]; rfl) (by rw [hcp, hMs, z2', q_bs, if_pos rfl, w2, q_bs, if_pos rfl, t2, q_bs]; rfl) t3 (fun d k u => ?_) (fun d k u => ?_) (fun d k a1 a2 a3 a4 => ?_) (fun d k u => q_zo (by omega))
          · rw [t4 d k (by omega), w5 d k (by omega), z5 d k (by omega), m5 d k (by omega)]
          · rw [t5 d k (by omega), w6 d k (by omega), z6 d k (by omega) (by omega), m6 d k (by omega)]
          · rw [t6 d k (by omega) (by omega), w7.F d k (by omega), z7 d k (by omega), m7 d k (by omega)]
      · refine q_poF (P := fun _ => False) (I' := I3) (L' := L3) (J' := J3) (K' := z2 K 2 (76 + 0 + C 0 1) (lN (q_cv w))) (by rw [hXs, z1, q_bs, if_pos rfl, w1, q_bs]; rfl) (by rw [hcp, hMs, z2', q_bs, if_pos rfl, w2, q_bs]; rfl) w3 (fun d k u => ?_) (fun d k u => ?_) (fun d k a1 a2 a3 a4 => ?_) (fun d k u => q_zo (by omega))
        · rw [w4 d k (by omega), z5 d k (by omega), m5 d k (by omega)]
        · rw [w5 d k (by omega), z6 d k (by omega) (by omega), m6 d k (by omega)]
        · rw [w6.F d k (by omega), z7 d k (by omega), m7 d k (by omega)]
    · refine q_poF (P := fun _ => False) (I' := I2) (L' := L2) (J' := J2) (K' := K) (by rw [hXs, z1, q_bs]; rfl) (by rw [hcp, hMs, z2', q_bs]; rfl) z3 (fun d k u => ?_) (fun d k u => ?_) (fun d k a1 a2 a3 a4 => ?_) (fun _ _ _ => rfl)
      · rw [z4 d k (by omega), m5 d k (by omega)]
      · rw [z5 d k (by omega) (by omega), m6 d k (by omega)]
      · rw [z6.F d k (by omega), m7 d k (by omega)]
theorem q_pSch {n : Nat} {B : Nat → Nat} {C : q_N} {N : Nat → Nat} {od f e : Nat} {I : z_I} {L : z_L} {J : z_I} {K : z_L} (h : q_ct n B C N od f e 2 10 I L J K) : q_po n B f I L J K (f_X1_takeScholar I L) (f_X11_courtPart J K) := by
  obtain ⟨h1, hk, ⟨hx, hm, ok⟩, hN, ⟨o1, o2, o3⟩, h18, h17, h19⟩ := h
  obtain ⟨k0, k1, k2, k3, -⟩ := id ok
  have hiw := h1.iw
  rw [if_pos rfl] at hiw
  have hcp := m_cp4 (K := K) hiw
  have xc := hx.f.2.2.2.1
  have mb : J 1 1712 = nI (C 0 0) := hm.1 0 0 (by simp [q_bd])
  have mc : J 1 1715 = nI (C 0 3) := hm.1 0 3 (by simp [q_bd])
  by_cases y : C 0 3 = 4
  · obtain ⟨I1, J1, eX, eM, p1, p2, p3⟩ := q_fail h1 h18 (w := 6) (by omega) (fun _ => False)
    have hnf := m_newFull (J := J) (J1 := J1) (K := K) (ci := 3) (cnt := C 0 3) (mx := 4) (cM := 3) (mM := 4) (sM := 15) rfl rfl (by omega) (by omega) mc y eM
    refine q_poF (P := fun _ => False) (I' := I1) (L' := L) (J' := J1) (K' := K) ?_ ?_ p1 (fun d k y => p2 d k (by omega)) (fun _ _ _ => rfl) (fun d k a b c e => p3.F d k (by omega)) (fun _ _ _ => rfl)
    · unfold f_X1_takeScholar
      rw [xc, if_neg (show ¬ nI (C 0 3) < 4 by rw [y]; decide), ql_6, eX]
    · rw [hcp]
      unfold f_X11_aScholar
      rw [q_zlt, hnf, q_bs, if_neg (show ¬ (false = true) by decide), q_bs, if_neg (show ¬ (false = true) by decide)]
  · obtain ⟨I1, L1, J1, f1, e1, kd1, va1, m1, m2, m3, m4, m5, m6, m7⟩ := h1.mv hk
    have hfe := h1.fe.2.2.2 (by omega)
    have e18 : J1 0 18 = nI 0 := by rw [m7 0 18 (by omega), h18]
    have x1 : q_sx C 22 I1 L1 := hx.go (fun d k a b => m5 d k (by omega)) (fun d k a b => m6 d k (by omega))
    have y1 : q_sm C 1712 76 J1 K := hm.go ok (fun k a b => m7 1 k (by omega)) (fun _ _ _ => rfl)
    have hno := m_newOne (J := J) (J1 := J1) (K := K) (ci := 3) (cnt := C 0 3) (mx := 4) (cM := 3) (mM := 4) (sM := 15) rfl rfl (by omega) (by omega) mc (by omega) m2
    have hrow : (1712 : Int32) + f_X11_scholarRow (J 1 1715) = nI (1763 + 2 * C 0 3) := by
      unfold f_X11_scholarRow
      rw [mc, show (51 : Int32) = nI 51 from rfl, ql_2, pk_mul, nI_add, ql_1712, nI_add]
      congr 1
      omega
    have hXs : f_X1_takeScholar I L = (f_X1_takeNewName I1 L1).bind (fun q3 => if q3.1 = true then (f_X7_takeKeyword q3.2.1 q3.2.2 7).bind (fun q5 => if q5.1 = true then (f_X7_takeNumber q5.2.1 q5.2.2 0 ((q5.2.1 22 10) - 1)).bind (fun q7 => if q7.1 = true then (f_X7_takeNumberBehind q7.2.1 q7.2.2 11 0 999 0).bind (fun q9 => if q9.1 = true then (f_X0_addScholar q9.2.1 q9.2.2 22 (q9.2.2 41 4) (q7.2.1 39 9) (q9.2.1 39 9)).bind (fun q11 => (f_X7_takeSemicolon q11.1 q11.2).bind (fun q13 => some (q13.1, q13.2.1, q13.2.2))) else some (false, q9.2.1, q9.2.2)) else some (false, q7.2.1, q7.2.2)) else some (false, q5.2.1, q5.2.2)) else some (false, q3.2.1, q3.2.2)) := by
      unfold f_X1_takeScholar
      rw [xc, if_pos (show nI (C 0 3) < 4 by rw [ql_4, nI_ltI (by omega) (by omega)]; omega), m1, q_bs]
    have hMs : f_X11_aScholar J K = (q_newT J1 K 3 15).bind (fun q3 => if q3.1 = true then (f_X11_wantWord q3.2.1 8).bind (fun q5 => if q5.1 = true then (f_X11_newBedTo q5.2 (nI (1763 + 2 * C 0 3))).bind (fun q7 => if q7.1 = true then (f_X11_perhaps q7.2 11 (nI (1763 + 2 * C 0 3) + 1) 0 999 0).bind (fun q9 => if q9.1 = true then some (true, z2 q9.2 1 1715 ((q9.2 1 1715) + 1), q3.2.2) else some (false, q9.2, q3.2.2)) else some (false, q7.2, q3.2.2)) else some (false, q5.2, q3.2.2)) else some (false, q3.2.1, q3.2.2)) := by
      unfold f_X11_aScholar
      rw [q_zlt, hrow, hno]
      rfl
    rcases q_nw m3 (hk.mL m6) e18 x1 y1 ok (fun k hk' => by rw [m6 42 k (by omega)]; exact hN k hk') (ci := 3) (sort := 15) (cnt := C 0 3) (cM := 3) (sM := 15) rfl rfl (by rw [m7 1 _ (by omega)]; exact mc) (by omega) (by omega) with ⟨I2, L2, J2, f2, e2, kd2, va2, w, z1, z2', z3, z4, z5, z6, z6', z6'', z7⟩ | ⟨I2, L2, J2, z1, z2', z3, z4, z5, z6⟩
    · have f18 : J2 0 18 = nI 0 := by rw [z7 0 18 (by omega), e18]
      have hk2 : q_rk L2 := (hk.mL m6).go (fun k => z6 40 k (by omega) (by omega))
      rcases q_tWordL z3 hk2 f18 (kX := 7) (kM := 8) (k := 7) (by omega) rfl rfl with ⟨I3, L3, J3, f3, e3, kd3, va3, w1, w2, w3, w4, w5, w6, w7, -⟩ | ⟨I3, L3, J3, w1, w2, w3, w4, w5, w6⟩
      · have g18 : J3 0 18 = nI 0 := by rw [w7.F 0 18 (by omega), f18]
        have hb3 : J3 1 1712 = nI (C 0 0) := by rw [w7.F 1 1712 (by omega), z7 1 1712 (by omega), m7 1 1712 (by omega), mb]
        have hb3x : I3 22 10 = nI (C 0 0) := by rw [w5 22 10 (by omega), z5 22 10 (by omega), m5 22 10 (by omega)]; exact hx.f.1
        rcases q_tNumL w3 (hk2.mL w6) g18 (lo := 0) (hi := I3 22 10 - 1) (hiM := J3 1 1712 - 1) (pM := nI (1763 + 2 * C 0 3)) (a := 0) (m := C 0 0) (p := 1763 + 2 * C 0 3) (fun v hv => q_loC (by decide) hv) (fun v hv => by rw [hb3x]; exact q_hiB (by omega) hv) (by rw [hb3, hb3x]) rfl (by omega) with ⟨I4, L4, J4, f4, e4, kd4, va4, t1, t2, t3, t4, t5, t6, t7, v, v1, v2, v3, v4, v5⟩ | ⟨I4, L4, J4, t1, t2, t3, t4, t5, t6⟩
        · have hnb : f_X11_newBedTo J3 (nI (1763 + 2 * C 0 3)) = some (true, J4) := by unfold f_X11_newBedTo; rw [t2, q_bs]
          have i18 : J4 0 18 = nI 0 := by rw [t7 0 18 (by omega) (by omega), g18]
          rcases q_tPerL t3 ((hk2.mL w6).mL t6) i18 (kX := 11) (kM := 11) (lo := 0) (hi := 999) (wo := 0) (a := 0) (m := 1000) (o := 0) (k := 11) (pM := nI (1763 + 2 * C 0 3) + 1) (p := 1764 + 2 * C 0 3) (by omega) rfl rfl (fun v hv => q_loC (by decide) hv) (fun v hv => q_hiC (by decide) hv) rfl (by omega) (by rw [ql_1, nI_add]; congr 1; omega) (by omega) with ⟨I5, L5, J5, f5, e5, kd5, va5, s1, s2, s3, s4, s5, s6, s7, u, u1, u2, u3, u4, u5⟩ | ⟨I5, L5, J5, s1, s2, s3, s4, s5, s6⟩
          · have tI : ∀ d k, d ≠ 39 → I5 d k = I d k := fun d k hd => by rw [s5 d k hd, t5 d k hd, w5 d k hd, z5 d k hd, m5 d k (by omega)]
            have tL : ∀ d k, d ≠ 39 ∨ k ≠ 8 → d ≠ 41 ∨ k ≠ 4 → L5 d k = L d k := fun d k hd hd2 => by rw [s6 d k hd, t6 d k hd, w6 d k hd, z6 d k hd hd2, m6 d k hd]
            have tJ : ∀ d k, d ≠ 0 ∨ k < 12 ∨ 15 < k → d ≠ 1 ∨ (k ≠ 1763 + 2 * C 0 3 ∧ k ≠ 1764 + 2 * C 0 3) → J5 d k = J d k := fun d k h1 h2 => by rw [s7 d k h1 (by omega), t7 d k h1 (by omega), w7.F d k h1, z7 d k h1, m7 d k h1]
            have nw5 : L5 41 4 = lN w := by rw [s6 41 4 (by omega), t6 41 4 (by omega), w6 41 4 (by omega), z6']
            have x4 : q_sx C 22 I5 L5 := hx.go (fun d k a b => tI d k (by omega)) (fun d k a b => tL d k (by omega) (by omega))
            have x5 := q_aS_sx x4 v u w
            have ok5 := q_aS_ok ok (by omega) (x := v) (y := u) (w := w) v2 (by omega) z6''
            have y5 := q_aS_sm (J' := z2 J5 1 1715 (nI (C 0 3 + 1))) (K' := z2 K 2 (76 + 15 + C 0 3) (lN (q_cv w))) (x := v) (y := u) (w := w) hm ok (by omega) (by rw [show 1712 + (51 + 2 * C 0 3) = 1763 + 2 * C 0 3 by omega, q_zo (by omega), s7 1 _ (by omega) (by omega), v5]) (by rw [show 1712 + (52 + 2 * C 0 3) = 1764 + 2 * C 0 3 by omega, q_zo (by omega), u5]) q_zs (fun k a b c => by rw [q_zo (by omega), tJ 1 _ (by omega) (by omega)]) q_zs (fun k a b => q_zo (by omega))
            obtain ⟨g1, g2, -⟩ := q_aS_f C v u w
            have hadd : f_X0_addScholar I5 L5 22 (lN w) (nI v) (nI u) = some (z2 (z2 (z2 I5 30 (C 0 3) (nI v)) 31 (C 0 3) (nI u)) 22 13 (nI (C 0 3 + 1)), z2 L5 32 (C 0 3) (lN w)) := by
              unfold f_X0_addScholar
              rw [x4.f.2.2.2.1, if_pos (q_in (by omega) (by decide)), nI_clamp (by omega), q_zlt, q_zlt, q_zlt, q_zlt, ql_1, nI_add]
            refine q_pEnd (I := z2 (z2 (z2 I5 30 (C 0 3) (nI v)) 31 (C 0 3) (nI u)) 22 13 (nI (C 0 3 + 1))) (L := z2 L5 32 (C 0 3) (lN w)) (J := z2 J5 1 1715 (nI (C 0 3 + 1))) (K := z2 K 2 (76 + 15 + C 0 3) (lN (q_cv w))) (C := q_aS C v u w) (N := N) (od := od) (f := f5) (e := e5) (kd := kd5) (va := va5) ⟨s3.go (fun d k w => by rw [q_zo (by omega), q_zo (by omega), q_zo (by omega)]) (q_zo (by omega)) (fun d k w => q_zo (by omega)), hk.go (fun k => by rw [q_zo (by omega), tL 40 k (by omega) (by omega)]), ⟨x5, y5, ok5⟩, fun k hk' => ?_, ⟨?_, ?_, o3⟩, ?_, ?_, ?_⟩ (by omega) ⟨fun d k w => ?_, fun d k w => ?_, fun d k a1 a2 a3 a4 => ?_, fun d k a1 => ?_⟩ ?_ ?_
            · rw [g2 1 (by omega)] at hk'
              rw [q_zo (by omega), q_zo (by omega), tL 42 k (by omega) (by omega)]; exact hN k hk'
            · rw [q_zo (by omega), q_zo (by omega), q_zo (by omega), tI 41 3 (by omega), o1]
            · rw [q_zo (by omega), tJ 0 20 (by omega) (by omega), o2]
            · rw [q_zo (by omega), tJ 0 18 (by omega) (by omega), h18]
            · rw [q_zo (by omega), tJ 0 17 (by omega) (by omega), h17]
            · rw [q_zo (by omega), tJ 1 1719 (by omega) (by omega), h19]
            · rw [q_zo (by omega), q_zo (by omega), q_zo (by omega), tI d k (by omega)]
            · rw [q_zo (by omega), tL d k (by omega) (by omega)]
            · rw [q_zo (by omega), tJ d k (by omega) (by omega)]
            · exact q_zo (by omega)
            · rw [hXs, z1, q_bs, if_pos rfl, w1, q_bs, if_pos rfl, t1, q_bs, if_pos rfl, s1, q_bs, if_pos rfl]
              dsimp only
              rw [v4, u4, nw5, hadd, q_bs]
            · have hc5 : J5 1 1715 = nI (C 0 3) := by rw [tJ 1 1715 (by omega) (by omega), mc]
              rw [hcp, hMs, z2', q_bs, if_pos rfl, w2, q_bs, if_pos rfl, hnb, q_bs, if_pos rfl, s2, q_bs, if_pos rfl, q_bs, if_pos rfl]
              dsimp only
              rw [hc5, ql_1, nI_add]
          · refine q_poF (P := fun _ => False) (I' := I5) (L' := L5) (J' := J5) (K' := z2 K 2 (76 + 15 + C 0 3) (lN (q_cv w))) (by rw [hXs, z1, q_bs, if_pos rfl, w1, q_bs, if_pos rfl, t1, q_bs, if_pos rfl, s1, q_bs]; rfl) (by rw [hcp, hMs, z2', q_bs, if_pos rfl, w2, q_bs, if_pos rfl, hnb, q_bs, if_pos rfl, s2, q_bs]; rfl) s3 (fun d k u => ?_) (fun d k u => ?_) (fun d k a1 a2 a3 a4 => ?_) (fun d k u => q_zo (by omega))
            · rw [s4 d k (by omega), t5 d k (by omega), w5 d k (by omega), z5 d k (by omega), m5 d k (by omega)]
            · rw [s5 d k (by omega), t6 d k (by omega), w6 d k (by omega), z6 d k (by omega) (by omega), m6 d k (by omega)]
            · rw [s6 d k (by omega) (by omega), t7 d k (by omega) (by omega), w7.F d k (by omega), z7 d k (by omega), m7 d k (by omega)]
        · have hnb : f_X11_newBedTo J3 (nI (1763 + 2 * C 0 3)) = some (false, J4) := by unfold f_X11_newBedTo; rw [t2, q_bs]
          refine q_poF (P := fun _ => False) (I' := I4) (L' := L4) (J' := J4) (K' := z2 K 2 (76 + 15 + C 0 3) (lN (q_cv w))) (by rw [hXs, z1, q_bs, if_pos rfl, w1, q_bs, if_pos rfl, t1, q_bs]; rfl) (by rw [hcp, hMs, z2', q_bs, if_pos rfl, w2, q_bs, if_pos rfl, hnb, q_bs]; rfl) t3 (fun d k u => ?_) (fun d k u => ?_) (fun d k a1 a2 a3 a4 => ?_) (fun d k u => q_zo (by omega))
          · rw [t4 d k (by omega), w5 d k (by omega), z5 d k (by omega), m5 d k (by omega)]
          · rw [t5 d k (by omega), w6 d k (by omega), z6 d k (by omega) (by omega), m6 d k (by omega)]
          · rw [t6 d k (by omega) (by omega), w7.F d k (by omega), z7 d k (by omega), m7 d k (by omega)]
      · refine q_poF (P := fun _ => False) (I' := I3) (L' := L3) (J' := J3) (K' := z2 K 2 (76 + 15 + C 0 3) (lN (q_cv w))) (by rw [hXs, z1, q_bs, if_pos rfl, w1, q_bs]; rfl) (by rw [hcp, hMs, z2', q_bs, if_pos rfl, w2, q_bs]; rfl) w3 (fun d k u => ?_) (fun d k u => ?_) (fun d k a1 a2 a3 a4 => ?_) (fun d k u => q_zo (by omega))
        · rw [w4 d k (by omega), z5 d k (by omega), m5 d k (by omega)]
        · rw [w5 d k (by omega), z6 d k (by omega) (by omega), m6 d k (by omega)]
        · rw [w6.F d k (by omega), z7 d k (by omega), m7 d k (by omega)]
    · refine q_poF (P := fun _ => False) (I' := I2) (L' := L2) (J' := J2) (K' := K) (by rw [hXs, z1, q_bs]; rfl) (by rw [hcp, hMs, z2', q_bs]; rfl) z3 (fun d k u => ?_) (fun d k u => ?_) (fun d k a1 a2 a3 a4 => ?_) (fun _ _ _ => rfl)
      · rw [z4 d k (by omega), m5 d k (by omega)]
      · rw [z5 d k (by omega) (by omega), m6 d k (by omega)]
      · rw [z6.F d k (by omega), m7 d k (by omega)]
