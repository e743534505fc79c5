/-! terms: orders of two things, tests -/
theorem q_o13 {n : Nat} {B : Nat → Nat} {C : q_N} {f e kd va m p : Nat} {I : z_I} {L : z_L} {J : z_I} {K : z_L} (h1 : q_ls n B f e kd va I L J) (hk : q_rk L) (ho : q_oh C 13 m p I L J K) : q_oo n B C f I L J 13 m p ((f_X6_takeName I L (nI m) 13 4 (I 3 13)).bind fun q8 => if q8.1 = true then f_X6_takeNumber q8.2.1 q8.2.2 (nI m) 0 ((q8.2.1 3 10) - 1) else some (false, q8.2.1, q8.2.2)) (f_X11_termOrder J K (nI 13) (nI p)) := by
  have hR : f_X11_termOrder J K (nI 13) (nI p) = (f_X11_oldOne J K 15 (J 1 3) (nI p + 1)).bind fun q4 => if q4.1 = true then (f_X11_number q4.2 (nI p + 2) 0 ((q4.2 1 0) - 1)).bind fun q6 => if q6.1 = true then some (true, q6.2) else some (false, q6.2) else some (false, q4.2) := by
    unfold f_X11_termOrder f_X11_scholarTo f_X11_bedTo
    simp only [q_eta]
    rw [if_neg (show ¬ nI 13 = (12 : Int32) by decide), if_pos (show nI 13 = (13 : Int32) from rfl)]
  rw [hR]
  obtain ⟨o1, o2, o3, o4, o5, o6, o7, o8, o9⟩ := id ho
  rcases q_nmS h1 hk ho with ⟨I1, L1, J1, f1, e1, kd1, va1, v, a1, a2, a3, a4, a5, a6, a7, a8, a9, a10⟩ | ⟨I1, L1, J1, a1, a2, a3, a4, a5, a6⟩
  · rw [a1, a2, q_bs, q_bs, if_pos rfl, if_pos rfl]
    dsimp only
    have x10 : I1 3 10 = nI (C 0 0) := by rw [a5 3 10 (by omega) (by omega), o1.f.1]
    have j0 : J1 1 0 = nI (C 0 0) := by rw [a7 1 0 (by omega) (by omega), o2.f.1]
    have j18 : J1 0 18 = nI 0 := by rw [a7 0 18 (by omega) (by omega), o4]
    have c6 := o3.1
    rcases q_tNr a3 (hk.mL a6) j18 (r := 37) (m := m) (q := p + 2) (lo := 0) (hi := nI (C 0 0) - 1) (hiM := nI (C 0 0) - 1) (qM := nI p + 2) (a := 0) (b := C 0 0) (by omega) (by omega) (fun v hv => q_loC (by decide) hv) (fun v hv => q_hiB (by omega) hv) rfl (q_pp p 2 (by decide)) (by omega) with ⟨I2, L2, J2, f2, e2, kd2, va2, w, b1, b2, b3, b4, b5, b6, b7, b8, b9, b10⟩ | ⟨I2, L2, J2, b1, b2, b3, b4, b5, b6⟩
    · obtain ⟨t3, e3⟩ := q_ex32 (I2 36 m)
      refine Or.inl ⟨I2, L2, J2, f2, e2, kd2, va2, 13, ?_, ?_, b3, by omega, fun d k d1 d2 => by rw [b5 d k d1 (by omega), a5 d k d1 (by omega)], a6.tr b6, fun d k d1 d2 => by rw [b7 d k d1 (by omega), a7 d k d1 (by omega)], ⟨fun _ => rfl, fun w => by omega⟩, v, t3, w, ?_, ?_, e3, b9, ⟨by unfold q_tk; omega, fun w => by omega, fun _ => a8, fun w => by omega, fun _ => b8.2.1, fun w => by omega, fun w => by omega, fun w => by omega⟩, ?_, fun _ => ?_, fun w => by omega, fun _ => b10, fun w => by omega⟩
      · rw [x10, x6_num o7, b1]
      · rw [j0, b2, q_bs, if_pos rfl]
      · rw [b5 34 m (by omega) (by omega), a5 34 m (by omega) (by omega), o5]
      · rw [b5 35 m (by omega) (by omega), a9]
      · rw [b7 1 p (by omega) (by omega), a7 1 p (by omega) (by omega), o6]
      · rw [b7 1 (p + 1) (by omega) (by omega), a10]
    · refine Or.inr ⟨I2, L2, J2, ?_, ?_, b3, fun d k d1 d2 => by rw [b4 d k d1 (by omega), a5 d k d1 (by omega)], a6.tr b5, fun d k d1 d2 => by rw [b6 d k d1 (by omega), a7 d k (by omega) (by omega)]⟩
      · rw [x10, x6_num o7, b1]
      · rw [j0, b2, q_bs, if_neg (show ¬ (false = true) by decide)]
  · rw [a1, a2, q_bs, q_bs, if_neg (show ¬ (false = true) by decide), if_neg (show ¬ (false = true) by decide)]
    exact Or.inr ⟨I1, L1, J1, rfl, rfl, a3, fun d k d1 d2 => a4 d k d1 (by omega), a5, fun d k d1 d2 => a6 d k d1 (by omega)⟩
/-- a thing and a comparison -/
theorem q_oC {n : Nat} {B : Nat → Nat} {C : q_N} {f t m p : Nat} {I : z_I} {L : z_L} {J : z_I} {K : z_L} (hk : q_rk L) (ho : q_oh C t m p I L J K) (ht : t = 2 ∨ t = 11) {A : Option (Bool × z_I × z_L)} {R : Option (Bool × z_I)} (h : q_oe n B f I L J 35 m (p + 1) (fun v => (t = 2 → v < C 0 0) ∧ (t = 11 → v < C 0 3)) A R) : q_oo n B C f I L J 18 m p (A.bind fun q => if q.1 = true then q_cmpX q.2.1 q.2.2 m else some (false, q.2.1, q.2.2)) (R.bind fun q => if q.1 = true then q_cmpM q.2 p else some (false, q.2)) := by
  obtain ⟨o1, o2, o3, o4, o5, o6, o7, o8, o9⟩ := id ho
  rcases h with ⟨I1, L1, J1, f1, e1, kd1, va1, v, a1, a2, a3, a4, a5, a6, a7, a8, a9, a10⟩ | ⟨I1, L1, J1, a1, a2, a3, a4, a5, a6⟩
  · rw [a1, a2, q_bs, q_bs, if_pos rfl, if_pos rfl]
    dsimp only
    have j18 : J1 0 18 = nI 0 := by rw [a7 0 18 (by omega) (by omega), o4]
    rcases q_tCmp a3 (hk.mL a6) j18 (m := m) (p := p) o7 (by omega) with ⟨I2, L2, J2, f2, e2, kd2, va2, c, w, b1, b2, b3, b4, b5, b6, b7, b8, b9, b10, b11, b12, b13⟩ | ⟨I2, L2, J2, b1, b2, b3, b4, b5, b6⟩
    · refine Or.inl ⟨I2, L2, J2, f2, e2, kd2, va2, t, b1, b2, b3, by omega, fun d k d1 d2 => by rw [b5 d k d1 (by omega), a5 d k d1 (by omega)], a6.tr b6, fun d k d1 d2 => by rw [b7 d k d1 (by omega), a7 d k d1 (by omega)], ⟨fun w => by omega, fun _ => by omega⟩, v, c, w, ?_, ?_, b10, b12, ⟨by unfold q_tk; omega, fun w => by omega, fun w => a8.2 (by omega), fun w => a8.1 w, fun w => by omega, fun w => by omega, fun w => by omega, fun _ => ⟨b9, b8⟩⟩, ?_, fun _ => ?_, fun w => by omega, fun _ => b13, fun _ => b11⟩
      · rw [b5 34 m (by omega) (by omega), a5 34 m (by omega) (by omega), o5]
      · rw [b5 35 m (by omega) (by omega), a9]
      · rw [b7 1 p (by omega) (by omega), a7 1 p (by omega) (by omega), o6]
      · rw [b7 1 (p + 1) (by omega) (by omega), a10]
    · exact Or.inr ⟨I2, L2, J2, b1, b2, b3, fun d k d1 d2 => by rw [b4 d k d1 (by omega), a5 d k d1 (by omega)], a6.tr b5, fun d k d1 d2 => by rw [b6 d k d1 (by omega), a7 d k (by omega) (by omega)]⟩
  · rw [a1, a2, q_bs, q_bs, if_neg (show ¬ (false = true) by decide), if_neg (show ¬ (false = true) by decide)]
    exact Or.inr ⟨I1, L1, J1, rfl, rfl, a3, fun d k d1 d2 => a4 d k d1 (by omega), a5, fun d k d1 d2 => a6 d k d1 (by omega)⟩
theorem q_oo.tr {n : Nat} {B : Nat → Nat} {C : q_N} {f f1 t m p : Nat} {I I1 : z_I} {L L1 : z_L} {J J1 : z_I} {A A' : Option (Bool × z_I × z_L)} {R R' : Option (Bool × z_I)} (h : q_oo n B C f1 I1 L1 J1 t m p A R) (hf : f ≤ f1) (hI : q_fT m I I1) (hL : q_mL L L1) (hJ : q_fr (fun k => p ≤ k ∧ k < p + 6) J J1) (hA : A' = A) (hR : R' = R) : q_oo n B C f I L J t m p A' R' := by
  subst hA hR
  rcases h with ⟨I2, L2, J2, f2, e2, kd2, va2, t1, b1, b2, b3, b4, b5, b6, b7, b8⟩ | ⟨I2, L2, J2, b1, b2, b3, b4, b5, b6⟩
  · exact Or.inl ⟨I2, L2, J2, f2, e2, kd2, va2, t1, b1, b2, b3, by omega, fun d k d1 d2 => by rw [b5 d k d1 d2, hI d k d1 d2], hL.tr b6, hJ.tr b7 (fun _ h => h) (fun _ h => h), b8⟩
  · exact Or.inr ⟨I2, L2, J2, b1, b2, b3, fun d k d1 d2 => by rw [b4 d k d1 d2, hI d k d1 d2], hL.tr b5, hJ.ts b6 (fun _ h => h) (fun _ h => h)⟩
def q_jt (t : Nat) : Nat := if t = 19 then 22 else if t = 2 then 5 else 11
theorem q_oT {n : Nat} {B : Nat → Nat} {C : q_N} {f e kd va m p : Nat} {I : z_I} {L : z_L} {J : z_I} {K : z_L} (h1 : q_ls n B f e kd va I L J) (hk : q_rk L) (ho : q_oh C 18 m p I L J K) : q_oo n B C f I L J 18 m p (f_X6_takeTest I L (nI m)) (f_X11_termOrder J K (nI 18) (nI p)) := by
  have hR : f_X11_termOrder J K (nI 18) (nI p) = f_X11_test J K (nI p) := by
    unfold f_X11_termOrder
    rw [if_neg (show ¬ nI 18 = (12 : Int32) by decide), if_neg (show ¬ nI 18 = (13 : Int32) by decide), if_neg (show ¬ nI 18 = (14 : Int32) by decide), if_neg (show ¬ nI 18 = (15 : Int32) by decide), if_neg (show ¬ nI 18 = (16 : Int32) by decide), if_neg (show ¬ nI 18 = (17 : Int32) by decide), if_pos (show nI 18 = (18 : Int32) from rfl), q_eta]
  rw [hR]
  obtain ⟨o1, o2, o3, o4, o5, o6, o7, o8, o9⟩ := id ho
  have hkh := h1.kh
  have hiw := h1.iw
  have c6 := o3.1
  -- the word is taken
  have go : ∀ t, t = 19 ∨ t = 2 ∨ t = 11 → ∃ I1 L1 J1 f1 e1 kd1 va1, f_X7_move (z2 I 34 m (nI t)) L = some (I1, L1) ∧ f_X11_ahead (z2 J 1 p (nI (q_kd t))) = some J1 ∧ q_ls n B f1 e1 kd1 va1 I1 L1 J1 ∧ f ≤ f1 ∧ q_fT m I I1 ∧ q_mL L L1 ∧ q_fr (fun k => p ≤ k ∧ k < p + 6) J J1 ∧ q_oh C t m p I1 L1 J1 K := fun t ht => by
    have hq : q_ls n B f e kd va (z2 I 34 m (nI t)) L (z2 J 1 p (nI (q_kd t))) := h1.go (fun d k w => q_zo (by omega)) rfl (fun d k w => q_zo (by omega))
    obtain ⟨I1, L1, J1, f1, e1, kd1, va1, m1, m2, m3, m4, m5, m6, m7⟩ := hq.mv hk
    have hfe := h1.fe
    exact ⟨I1, L1, J1, f1, e1, kd1, va1, m1, m2, m3, by omega, fun d k d1 d2 => by rw [m5 d k (by omega), q_zo (by omega)], m6, fun d k d1 d2 => by rw [m7 d k d1, q_zo (by omega)], ho.go (fun d k d1 => by rw [m5 d k (by omega), q_zo (by omega)]) m6 (fun k hk => by rw [m7 1 k (by omega), q_zo (by omega)]) (by rw [m7 0 18 (by omega), q_zo (by omega)]) (by rw [m5 34 m (by omega), q_zs]) (by rw [m7 1 p (by omega), q_zs])⟩
  obtain ⟨I0, J0, eX, eM, p1, p2, p3⟩ := q_fail h1 o4 (w := 2) (by omega) (fun k => p ≤ k ∧ k < p + 6)
  have bad : f_X6_takeTest I L (nI m) = some ((f_X7_fail I 2).1, (f_X7_fail I 2).2, L) → f_X11_test J K (nI p) = some ((f_X11_fails J 2).1, (f_X11_fails J 2).2) → q_oo n B C f I L J 18 m p (f_X6_takeTest I L (nI m)) (f_X11_test J K (nI p)) := fun a b => by
    rw [a, b, ql_2, eX, eM]
    exact Or.inr ⟨I0, L, J0, rfl, rfl, p1, fun d k d1 _ => p2 d k d1, q_mL.rf L, p3⟩
  by_cases y : kd = 2
  · subst y
    rw [if_pos rfl] at hkh hiw
    have hv := (h1.c4 rfl).1
    by_cases c19 : va = 19
    · subst c19
      obtain ⟨I1, L1, J1, f1, e1, kd1, va1, g1, g2, g3, g4, g5, g6, g7, g8⟩ := go 19 (by omega)
      refine q_oo.tr (q_oe35 (q_nmC g3 (hk.mL g6) g8) g8 (by omega) (t0 := 18) ⟨fun w => by omega, fun _ => by omega⟩ rfl rfl (fun v t3 t4 hv => ⟨by unfold q_tk; omega, fun _ => hv, fun w => by omega, fun w => by omega, fun w => by omega, fun w => by omega, fun w => by omega, fun w => by omega⟩) (fun J' v t3 t4 a b => ⟨a, fun _ => b, fun w => by omega, fun w => by omega, fun w => by omega⟩)) g4 g5 g6 g7 ?_ ?_
      · unfold f_X6_takeTest
        rw [hkh, if_pos (show nI 19 = (19 : Int32) from rfl), if_pos (q_in o7 (by decide)), nI_clamp (by omega), q_zlt, g1, q_bs, if_pos (show nI 19 = (19 : Int32) from rfl), q_eta3]
      · unfold f_X11_test f_X11_claimTo
        rw [hiw, q_bs, if_neg (by decide), if_neg (by decide), if_pos (by decide), if_pos (q_in (by omega) (by decide)), nI_clamp (by omega), q_zlt, show (1800 : Int32) + nI (q_pi 19) = nI (q_kd 19) from by decide, g2, q_bs, if_pos (by decide), q_eta, q_eta]
    by_cases c2 : va = 2
    · subst c2
      obtain ⟨I1, L1, J1, f1, e1, kd1, va1, g1, g2, g3, g4, g5, g6, g7, g8⟩ := go 2 (by omega)
      have x10 : I1 3 10 = nI (C 0 0) := g8.1.f.1
      have j0 : J1 1 0 = nI (C 0 0) := g8.2.1.f.1
      have hn := q_tNr g3 (hk.mL g6) g8.2.2.2.1 (r := 35) (m := m) (q := p + 1) (lo := 0) (hi := I1 3 10 - 1) (hiM := J1 1 0 - 1) (qM := nI p + 1) (a := 0) (b := C 0 0) (by omega) (by omega) (fun v hv => q_loC (by decide) hv) (fun v hv => by rw [x10]; exact q_hiB (by omega) hv) (by rw [x10, j0]) (q_pp p 1 (by decide)) (by omega)
      rw [← x6_bed o7] at hn
      have hn' : q_oe n B f1 I1 L1 J1 35 m (p + 1) (fun v => ((2 : Nat) = 2 → v < C 0 0) ∧ ((2 : Nat) = 11 → v < C 0 3)) (f_X6_takeBedNumber I1 L1 (nI m)) (f_X11_number J1 (nI p + 1) 0 (J1 1 0 - 1)) := by
        rcases hn with ⟨I2, L2, J2, f2, e2, kd2, va2, w, b1, b2, b3, b4, b5, b6, b7, b8, b9, b10⟩ | hn
        · exact Or.inl ⟨I2, L2, J2, f2, e2, kd2, va2, w, b1, b2, b3, b4, b5, b6, b7, ⟨fun _ => b8.2.1, fun w => by omega⟩, b9, b10⟩
        · exact Or.inr hn
      refine q_oo.tr (q_oC (hk.mL g6) g8 (by omega) hn') g4 g5 g6 g7 ?_ ?_
      · unfold f_X6_takeTest q_cmpX
        rw [hkh, if_neg (show ¬ nI 2 = (19 : Int32) by decide), if_pos (show nI 2 = (2 : Int32) from rfl), if_pos (q_in o7 (by decide)), nI_clamp (by omega), q_zlt, g1, q_bs, if_neg (show ¬ nI 2 = (19 : Int32) by decide), if_pos (show nI 2 = (2 : Int32) from rfl)]
        rfl
      · unfold f_X11_test f_X11_bedTo q_cmpM
        rw [hiw, q_bs, if_pos (by decide), if_pos (q_in (by omega) (by decide)), nI_clamp (by omega), q_zlt, show (1800 : Int32) + nI (q_pi 2) = nI (q_kd 2) from by decide, g2, q_bs, if_neg (by decide), if_neg (by decide), q_eta, q_pp p 5 (x := 5) (by decide), q_pp p 2 (x := 2) (by decide), q_in (show p + 5 < 2200 by omega) (by decide), nI_clamp (show p + 5 < 2 ^ 31 by omega)]
        rfl
    by_cases c11 : va = 11
    · subst c11
      obtain ⟨I1, L1, J1, f1, e1, kd1, va1, g1, g2, g3, g4, g5, g6, g7, g8⟩ := go 11 (by omega)
      have hn := q_nmS g3 (hk.mL g6) g8
      have hn' : q_oe n B f1 I1 L1 J1 35 m (p + 1) (fun v => ((11 : Nat) = 2 → v < C 0 0) ∧ ((11 : Nat) = 11 → v < C 0 3)) (f_X6_takeName I1 L1 (nI m) 13 4 (I1 3 13)) (f_X11_oldOne J1 K 15 (J1 1 3) (nI p + 1)) := by
        rcases hn with ⟨I2, L2, J2, f2, e2, kd2, va2, w, b1, b2, b3, b4, b5, b6, b7, b8, b9, b10⟩ | hn
        · exact Or.inl ⟨I2, L2, J2, f2, e2, kd2, va2, w, b1, b2, b3, b4, b5, b6, b7, ⟨fun w => by omega, fun _ => b8⟩, b9, b10⟩
        · exact Or.inr hn
      refine q_oo.tr (q_oC (hk.mL g6) g8 (by omega) hn') g4 g5 g6 g7 ?_ ?_
      · unfold f_X6_takeTest q_cmpX
        rw [hkh, if_neg (show ¬ nI 11 = (19 : Int32) by decide), if_neg (show ¬ nI 11 = (2 : Int32) by decide), if_pos (show nI 11 = (11 : Int32) from rfl), if_pos (q_in o7 (by decide)), nI_clamp (by omega), q_zlt, g1, q_bs, if_neg (show ¬ nI 11 = (19 : Int32) by decide), if_neg (show ¬ nI 11 = (2 : Int32) by decide)]
        rfl
      · unfold f_X11_test f_X11_scholarTo q_cmpM
        rw [hiw, q_bs, if_neg (by decide), if_pos (by decide), if_pos (q_in (by omega) (by decide)), nI_clamp (by omega), q_zlt, show (1800 : Int32) + nI (q_pi 11) = nI (q_kd 11) from by decide, g2, q_bs, if_neg (by decide), if_pos (by decide), q_eta, q_pp p 5 (x := 5) (by decide), q_pp p 2 (x := 2) (by decide), q_in (show p + 5 < 2200 by omega) (by decide), nI_clamp (show p + 5 < 2 ^ 31 by omega)]
        rfl
    have hpi : ∀ k, k < 23 → k = 19 ∨ k = 2 ∨ k = 11 ∨ (q_pi k ≠ 22 ∧ q_pi k ≠ 5 ∧ q_pi k ≠ 11 ∧ q_pi k < 23) := by decide +kernel
    have hp := hpi va hv
    refine bad ?_ ?_
    · unfold f_X6_takeTest
      rw [hkh, if_neg (show ¬ nI va = (19 : Int32) from fun w => c19 ((nI_eq (by omega) (by omega)).1 w)), if_neg (show ¬ nI va = (2 : Int32) from fun w => c2 ((nI_eq (by omega) (by omega)).1 w)), if_neg (show ¬ nI va = (11 : Int32) from fun w => c11 ((nI_eq (by omega) (by omega)).1 w))]
    · unfold f_X11_test
      rw [hiw, q_bs, if_neg (show ¬ nI (q_pi va) = (5 : Int32) from fun w => by have := (nI_eq (b := 5) (by omega) (by omega)).1 w; omega), if_neg (show ¬ nI (q_pi va) = (11 : Int32) from fun w => by have := (nI_eq (b := 11) (by omega) (by omega)).1 w; omega), if_neg (show ¬ nI (q_pi va) = (22 : Int32) from fun w => by have := (nI_eq (b := 22) (by omega) (by omega)).1 w; omega)]
  · rw [if_neg y] at hkh hiw
    refine bad ?_ ?_
    · unfold f_X6_takeTest
      rw [hkh, if_neg (by decide), if_neg (by decide), if_neg (by decide)]
    · unfold f_X11_test
      rw [hiw, q_bs, if_neg (by decide), if_neg (by decide), if_neg (by decide)]
