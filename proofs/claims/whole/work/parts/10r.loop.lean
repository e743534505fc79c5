/-! terms: every step's word, the whole text -/
theorem q_toF {n : Nat} {B : Nat → Nat} {C : q_N} {K : z_L} {f e kd va : Nat} {I : z_I} {L : z_L} {J : z_I} {A : Option (Bool × z_I × z_L)} {R : Option (Bool × z_I)} (h1 : q_ls n B f e kd va I L J) (h18 : J 0 18 = nI 0) {w : Nat} (hw : 1 ≤ w ∧ w ≤ 9) (hA : ∀ I', f_X7_fail I (nI w) = (false, I') → A = some (false, I', L)) (hR : R = some ((f_X11_fails J (nI w)).1, (f_X11_fails J (nI w)).2)) : q_to n B C K f I L J A R := by
  obtain ⟨I0, J0, eX, eM, p1, p2, p3⟩ := q_fail h1 h18 hw (fun _ => False)
  rw [eM] at hR
  exact Or.inr ⟨I0, L, J0, hA I0 eX, hR, p1, fun d k w => p2 d k (by omega), fun _ _ _ => rfl, fun d k a b c e => p3.F d k (by omega), fun _ _ _ => rfl⟩
theorem x_tsF {I I' : z_I} {L : z_L} {p w : Int32} (hkh : f_X7_keywordHere I = p) (hc : f_X6_canBegin I p = ((f_X7_fail I w).1, (f_X7_fail I w).2)) (hf : f_X7_fail I w = (false, I')) : f_X6_takeStep I L = some (false, I', L) := by
  unfold f_X6_takeStep
  rw [hkh, hc, hf, if_neg (show ¬ (false = true) by decide)]
theorem x_cbL {I : z_I} {p : Int32} (h : p < 12) : f_X6_canBegin I p = ((f_X7_fail I 2).1, (f_X7_fail I 2).2) := by
  unfold f_X6_canBegin
  rw [if_pos h]
theorem x_cb19 {I : z_I} : f_X6_canBegin I (nI 19) = ((f_X7_fail I 2).1, (f_X7_fail I 2).2) := by
  unfold f_X6_canBegin
  rw [if_neg (by decide), if_neg (by decide), if_pos (by decide)]
theorem x_cb {I : z_I} {va s dp : Nat} (i7 : I 33 7 = nI s) (i43 : I 43 4 = nI dp) (hs : s ≤ 30) (hdp : dp ≤ 3) (hva : 12 ≤ va ∧ va ≤ 22 ∧ va ≠ 19) : (s = 30 → f_X6_canBegin I (nI va) = ((f_X7_fail I 6).1, (f_X7_fail I 6).2)) ∧ (s ≠ 30 → (va = 18 ∨ va = 20) → dp = 3 → f_X6_canBegin I (nI va) = ((f_X7_fail I 7).1, (f_X7_fail I 7).2)) ∧ (s ≠ 30 → ((va = 18 ∨ va = 20) → dp ≠ 3) → f_X6_canBegin I (nI va) = (true, I)) := by
  have h12 : ¬ nI va < (12 : Int32) := show ¬ nI va < nI 12 from nI_nlt (by omega) (by omega)
  have h22 : ¬ (22 : Int32) < nI va := show ¬ nI 22 < nI va from nI_nlt (by omega) (by omega)
  have h19 : ¬ nI va = (19 : Int32) := fun w => hva.2.2 ((nI_eq (by omega) (by omega)).1 w)
  have e18 : nI va = (18 : Int32) ↔ va = 18 := show nI va = nI 18 ↔ va = 18 from nI_eq (by omega) (by omega)
  have e20 : nI va = (20 : Int32) ↔ va = 20 := show nI va = nI 20 ↔ va = 20 from nI_eq (by omega) (by omega)
  have l30 : nI s < (30 : Int32) ↔ s < 30 := show nI s < nI 30 ↔ s < 30 from nI_ltI (by omega) (by omega)
  have l3 : nI dp < (3 : Int32) ↔ dp < 3 := show nI dp < nI 3 ↔ dp < 3 from nI_ltI (by omega) (by omega)
  unfold f_X6_canBegin
  rw [if_neg h12, if_neg h22, if_neg h19, i7, i43]
  refine ⟨fun y => ?_, fun y z x => ?_, fun y z => ?_⟩
  · rw [if_neg (show ¬ nI s < 30 by rw [l30]; omega)]
  · rw [if_pos (show nI s < 30 by rw [l30]; omega), if_neg (show ¬ nI dp < 3 by rw [l3]; omega)]
    rcases z with rfl | rfl
    · rw [if_pos (e18.2 rfl)]
    · rw [if_neg (show ¬ nI 20 = (18 : Int32) by decide), if_pos (e20.2 rfl)]
  · rw [if_pos (show nI s < 30 by rw [l30]; omega)]
    by_cases y1 : va = 18
    · rw [if_pos (e18.2 y1), if_pos (show nI dp < 3 by rw [l3]; have := z (Or.inl y1); omega)]
    · rw [if_neg (show ¬ nI va = 18 by rw [e18]; exact y1)]
      by_cases y2 : va = 20
      · rw [if_pos (e20.2 y2), if_pos (show nI dp < 3 by rw [l3]; have := z (Or.inr y2); omega)]
      · rw [if_neg (show ¬ nI va = 20 by rw [e20]; exact y2)]
def q_ib (I : z_I) (va m s : Nat) : z_I := z2 (z2 (z2 I 34 m (nI va)) 33 6 (nI (m + 1))) 33 7 (nI (s + 1))
def q_ibO (I : z_I) (va m s dp : Nat) : z_I := z2 (z2 (q_ib I va m s) 44 dp (nI m)) 43 4 (nI (dp + 1))
theorem x_beginP {I : z_I} {L : z_L} {va m s : Nat} (hva : va < 23) (h18 : va ≠ 18) (h20 : va ≠ 20) (i6 : I 33 6 = nI m) (i7 : I 33 7 = nI s) (hm : m < 60) : f_X6_begin I L (nI va) = (f_X7_move (q_ib I va m s) L).bind fun q => some (nI m, q.1, q.2) := by
  have e18 : ¬ nI va = (18 : Int32) := fun w => h18 ((nI_eq (by omega) (by omega)).1 w)
  have e20 : ¬ nI va = (20 : Int32) := fun w => h20 ((nI_eq (by omega) (by omega)).1 w)
  unfold f_X6_begin f_X6_addEntry q_ib
  rw [i6, if_pos (q_in hm (by decide)), nI_clamp (by omega), q_zlt, q_zlt, q_bs]
  dsimp only
  rw [q_zlt, if_neg e18, if_neg e20, q_zo (by omega), q_zo (by omega), i7, q_pp m 1 (x := 1) (by decide), q_pp s 1 (x := 1) (by decide)]
theorem x_beginO {I : z_I} {L : z_L} {va m s dp : Nat} (hva : va = 18 ∨ va = 20) (i6 : I 33 6 = nI m) (i7 : I 33 7 = nI s) (i43 : I 43 4 = nI dp) (hdp : dp < 3) (hm : m < 60) : f_X6_begin I L (nI va) = (f_X7_move (q_ibO I va m s dp) L).bind fun q => some (nI m, q.1, q.2) := by
  have he : ∀ v : Int32, z2 (z2 I 34 m v) 33 6 (nI m + 1) 43 4 = nI dp := fun v => by rw [q_zo (by omega), q_zo (by omega), i43]
  have h7 : ∀ v : Int32, z2 (z2 I 34 m v) 33 6 (nI m + 1) 33 7 = nI s := fun v => by rw [q_zo (by omega), q_zo (by omega), i7]
  unfold f_X6_begin f_X6_addEntry q_ibO q_ib
  rw [i6, if_pos (q_in hm (by decide)), nI_clamp (by omega), q_zlt, q_zlt, q_bs]
  dsimp only
  rcases hva with rfl | rfl
  · rw [q_zlt, if_pos (show nI 18 = (18 : Int32) from rfl), if_pos (by rw [he]; exact q_in hdp (by decide)), he, h7, nI_clamp (by omega), q_zlt, q_zlt, q_pp m 1 (x := 1) (by decide), q_pp s 1 (x := 1) (by decide), q_pp dp 1 (x := 1) (by decide)]
  · rw [q_zlt, if_neg (show ¬ nI 20 = (18 : Int32) by decide), if_pos (show nI 20 = (20 : Int32) from rfl), if_pos (by rw [he]; exact q_in hdp (by decide)), he, h7, nI_clamp (by omega), q_zlt, q_zlt, q_pp m 1 (x := 1) (by decide), q_pp s 1 (x := 1) (by decide), q_pp dp 1 (x := 1) (by decide)]
theorem q_bif {X : Option (Bool × z_I × z_L)} {F : Bool × z_I × z_L → Option (Bool × z_I × z_L)} : (X.bind fun q => if q.1 = true then F q else some (false, q.2.1, q.2.2)).bind q_tl = X.bind fun q => if q.1 = true then (F q).bind q_tl else some (false, q.2.1, q.2.2) := by
  cases X with
  | none => rfl
  | some q =>
    rw [q_bs, q_bs]
    by_cases y : q.1 = true
    · rw [if_pos y, if_pos y]
    · rw [if_neg y, if_neg y, q_bs, q_tl, if_neg (show ¬ (false = true) by decide)]
theorem m_ts30 {J : z_I} {K : z_L} {r : Nat} (h : f_X11_inWords J = some (nI r)) (hr : (12 ≤ r ∧ r ≤ 19) ∨ r = 21) (hs : J 0 23 = nI 30) : f_X11_termStep J K = some ((f_X11_fails J 6).1, (f_X11_fails J 6).2) := by
  have hne : ∀ k, k < 100 → k ≠ r → ¬ nI r = nI k := fun k hk hkr w => hkr ((nI_eq (by omega) (by omega)).1 w).symm
  have h20 : ¬ nI r = (20 : Int32) := hne 20 (by omega) (by omega)
  have h12 : ¬ nI r < (12 : Int32) := show ¬ nI r < nI 12 from nI_nlt (by omega) (by omega)
  have h21 : ¬ (21 : Int32) < nI r := show ¬ nI 21 < nI r from nI_nlt (by omega) (by omega)
  unfold f_X11_termStep
  rw [h, q_bs, q_zlt]
  by_cases y : r = 18
  · rw [if_pos (show nI r = (18 : Int32) by rw [y]; rfl), if_neg h12, if_neg h21, if_neg h20, if_neg h20, if_pos (show J 0 23 = (30 : Int32) from hs)]
  · rw [if_neg (show ¬ nI r = (18 : Int32) from hne 18 (by omega) (by omega))]
    by_cases z : r = 19
    · rw [if_pos (show nI r = (19 : Int32) by rw [z]; rfl), if_neg h12, if_neg h21, if_neg h20, if_neg h20, if_pos (show J 0 23 = (30 : Int32) from hs)]
    · rw [if_neg (show ¬ nI r = (19 : Int32) from hne 19 (by omega) (by omega)), if_neg h12, if_neg h21, if_neg h20, if_neg h20, if_pos (show J 0 23 = (30 : Int32) from hs)]
/-- a step that opens nothing -/
theorem q_stpP {n : Nat} {B : Nat → Nat} {C : q_N} {K : z_L} {f e va m s dp : Nat} {o : Nat → Nat} {I : z_I} {L : z_L} {J : z_I} {A1 : z_I → z_L → Option (Bool × z_I × z_L)} (h : q_ttS n B C K f e 2 va m s dp o I L J) (hva : (12 ≤ va ∧ va ≤ 17) ∨ va = 22) (hpi : q_pi va = q_kd va) (hkd : (12 ≤ q_kd va ∧ q_kd va ≤ 17) ∨ q_kd va = 21) (hord : ∀ I1 L1 J1 f1 e1 kd1 va1, q_ls n B f1 e1 kd1 va1 I1 L1 J1 → q_rk L1 → q_oh C va m (1772 + 6 * m) I1 L1 J1 K → q_oo n B C f1 I1 L1 J1 va m (1772 + 6 * m) (A1 I1 L1) (f_X11_termOrder J1 K (nI (q_kd va)) (nI (1772 + 6 * m)))) (hA : ∀ I1 L1, f_X7_keywordHere I = nI va → f_X6_canBegin I (nI va) = (true, I) → f_X6_begin I L (nI va) = some (nI m, I1, L1) → f_X6_takeStep I L = (A1 I1 L1).bind q_tl) : q_to n B C K f I L J (f_X6_takeStep I L) (f_X11_termStep J K) := by
  obtain ⟨h1, hk, ⟨hsx, hsm, ok⟩, ⟨h18, h17, h5⟩, ⟨g1, g2, g3, g4, g5, g6⟩, ⟨l1, l2, l3⟩, htr⟩ := id h
  have hkh := h1.kh
  have hiw := h1.iw
  rw [if_pos rfl] at hkh hiw
  rw [hpi] at hiw
  have hcb := x_cb g3 g5 l2 l1 (va := va) (by omega)
  by_cases y : s = 30
  · exact q_toF h1 h18 (w := 6) (by omega) (fun I' hI => x_tsF hkh (hcb.1 y) hI) (m_ts30 (K := K) hiw (by omega) (by rw [g4, y]))
  · have ym : m < 60 := by omega
    have hb := x_beginP (L := L) (va := va) (by omega) (by omega) (by omega) g1 g3 ym
    refine q_stp (Ib := q_ib I va m s) (dp' := dp) (G := fun a => a) (F := q_fP) h (by omega) (by omega) (fun d k d1 d2 d3 d4 => ?_) ?_ ?_ ?_ ?_ ?_ (fun j hj => ?_) (fun w => by omega) l1 (Or.inl ⟨rfl, by omega, by unfold q_op; omega, by omega⟩) hord (fun J2 h2 => ⟨rfl, fun _ _ _ _ => rfl, fun _ _ => rfl, h2, fun w => by omega⟩) (fun I1 L1 hmv => hA I1 L1 hkh (hcb.2.2 y (fun w => by omega)) (by rw [hb, hmv, q_bs])) ((m_tsP hiw hkd g4 l2 g2 ym).2 y)
    · unfold q_ib; rw [q_zo (by omega), q_zo (by omega), q_zo (by omega)]
    · unfold q_ib; rw [q_zo (by omega), q_zo (by omega), q_zs]
    · unfold q_ib; rw [q_zo (by omega), q_zo (by omega), q_zo (by omega)]
    · unfold q_ib; rw [q_zo (by omega), q_zs]
    · unfold q_ib; rw [q_zs]
    · unfold q_ib; rw [q_zo (by omega), q_zo (by omega), q_zo (by omega), g5]
    · unfold q_ib; rw [q_zo (by omega), q_zo (by omega), q_zo (by omega)]
/-- one that opens -/
theorem q_stpO {n : Nat} {B : Nat → Nat} {C : q_N} {K : z_L} {f e va m s dp : Nat} {o : Nat → Nat} {I : z_I} {L : z_L} {J : z_I} {A1 : z_I → z_L → Option (Bool × z_I × z_L)} (h : q_ttS n B C K f e 2 va m s dp o I L J) (hva : va = 18 ∨ va = 20) (hpi : q_pi va = q_kd va) (hkd : q_kd va = 18 ∨ q_kd va = 19) (hord : ∀ I1 L1 J1 f1 e1 kd1 va1, q_ls n B f1 e1 kd1 va1 I1 L1 J1 → q_rk L1 → q_oh C va m (1772 + 6 * m) I1 L1 J1 K → q_oo n B C f1 I1 L1 J1 va m (1772 + 6 * m) (A1 I1 L1) (f_X11_termOrder J1 K (nI (q_kd va)) (nI (1772 + 6 * m)))) (hA : ∀ I1 L1, f_X7_keywordHere I = nI va → f_X6_canBegin I (nI va) = (true, I) → f_X6_begin I L (nI va) = some (nI m, I1, L1) → f_X6_takeStep I L = (A1 I1 L1).bind q_tl) : q_to n B C K f I L J (f_X6_takeStep I L) (f_X11_termStep J K) := by
  obtain ⟨h1, hk, ⟨hsx, hsm, ok⟩, ⟨h18, h17, h5⟩, ⟨g1, g2, g3, g4, g5, g6⟩, ⟨l1, l2, l3⟩, htr⟩ := id h
  have hkh := h1.kh
  have hiw := h1.iw
  rw [if_pos rfl] at hkh hiw
  rw [hpi] at hiw
  have hcb := x_cb g3 g5 l2 l1 (va := va) (by omega)
  by_cases y : s = 30
  · exact q_toF h1 h18 (w := 6) (by omega) (fun I' hI => x_tsF hkh (hcb.1 y) hI) (m_ts30 (K := K) hiw (by omega) (by rw [g4, y]))
  · have ym : m < 60 := by omega
    have hts := m_tsO (K := K) hiw hkd g4 l2 g2 ym g6 l1
    by_cases z : dp = 3
    · exact q_toF h1 h18 (w := 7) (by omega) (fun I' hI => x_tsF hkh (hcb.2.1 y hva z) hI) (hts.2.1 y z)
    have hb := x_beginO (L := L) (va := va) hva g1 g3 g5 (by omega) ym
    refine q_stp (Ib := q_ibO I va m s dp) (dp' := dp + 1) (G := fun a => z2 (z2 a 8 dp (nI m)) 0 22 (nI (dp + 1))) (F := q_fO m) h (by omega) (by omega) (fun d k d1 d2 d3 d4 => ?_) ?_ ?_ ?_ ?_ ?_ (fun j hj => ?_) (fun _ => ?_) (by omega) (Or.inr ⟨rfl, hva⟩) hord (fun J2 h2 => ⟨?_, fun d k d1 d2 => ?_, fun j hj => ?_, q_zs, fun _ => ?_⟩) (fun I1 L1 hmv => hA I1 L1 hkh (hcb.2.2 y (fun _ => z)) (by rw [hb, hmv, q_bs])) (hts.2.2 y z)
    · unfold q_ibO q_ib; rw [q_zo (by omega), q_zo (by omega), q_zo (by omega), q_zo (by omega), q_zo (by omega)]
    · unfold q_ibO q_ib; rw [q_zo (by omega), q_zo (by omega), q_zo (by omega), q_zo (by omega), q_zs]
    · unfold q_ibO q_ib; rw [q_zo (by omega), q_zo (by omega), q_zo (by omega), q_zo (by omega), q_zo (by omega)]
    · unfold q_ibO q_ib; rw [q_zo (by omega), q_zo (by omega), q_zo (by omega), q_zs]
    · unfold q_ibO q_ib; rw [q_zo (by omega), q_zo (by omega), q_zs]
    · unfold q_ibO q_ib; rw [q_zs]
    · unfold q_ibO q_ib; rw [q_zo (by omega), q_zo (by omega), q_zo (by omega), q_zo (by omega), q_zo (by omega)]
    · unfold q_ibO q_ib; rw [q_zo (by omega), q_zs]
    · unfold q_fO q_fP
      rw [h2, if_pos (q_in (by omega) (by decide)), nI_clamp (by omega), q_zlt, q_zlt, q_pp dp 1 (x := 1) (by decide)]
    · rw [q_zo (by omega), q_zo (by omega)]
    · rw [q_zo (by omega), q_zo (by omega)]
    · rw [q_zo (by omega), q_zs]
