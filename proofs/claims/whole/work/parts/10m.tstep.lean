/-! terms: what the reference does at a step's word -/
theorem q_pp (p j : Nat) {x : Int32} (h : x = nI j) : nI p + x = nI (p + j) := by rw [h, nI_add]
def q_zr (a : z_I) (p : Nat) : z_I := z2 (z2 (z2 (z2 (z2 a 1 (p + 1) 0) 1 (p + 2) 0) 1 (p + 3) 0) 1 (p + 4) 0) 1 (p + 5) 0
theorem m_147 {v1 v2 v4 : Int32} {K : z_L} {p : Nat} (hp : p + 6 ≤ 2200) (G : z_I → Option (Bool × z_I)) (a : z_I) {n : Nat} (hn : 6 ≤ n) : g_X11_termStep_147 v1 v2 (nI p) v4 K G n 1 a = G (q_zr a p) := by
  obtain ⟨n, rfl⟩ : ∃ g, n = g + 6 := ⟨n - 6, by omega⟩
  rw [g_X11_termStep_147, if_neg (by decide), q_pp p 1 (by decide), if_pos (q_in (by omega) (by decide)), nI_clamp (by omega), q_zlt]
  rw [g_X11_termStep_147, if_neg (by decide), q_pp p 2 (by decide), if_pos (q_in (by omega) (by decide)), nI_clamp (by omega), q_zlt]
  rw [g_X11_termStep_147, if_neg (by decide), q_pp p 3 (by decide), if_pos (q_in (by omega) (by decide)), nI_clamp (by omega), q_zlt]
  rw [g_X11_termStep_147, if_neg (by decide), q_pp p 4 (by decide), if_pos (q_in (by omega) (by decide)), nI_clamp (by omega), q_zlt]
  rw [g_X11_termStep_147, if_neg (by decide), q_pp p 5 (by decide), if_pos (q_in (by omega) (by decide)), nI_clamp (by omega), q_zlt]
  rw [g_X11_termStep_147, if_pos (by decide)]
  rfl
/-- a new entry -/
def q_j1 (J : z_I) (x : Int32) (m r : Nat) : z_I := z2 (q_zr (z2 (z2 J 0 23 x) 1 (1772 + 6 * m) (nI r)) (1772 + 6 * m)) 1 1719 (nI (m + 1))
theorem q_j1_f {J : z_I} {x : Int32} {m r : Nat} (hm : m < 60) : (∀ d k, d ≠ 0 ∨ k ≠ 23 → d ≠ 1 ∨ (k ≠ 1719 ∧ (k < 1772 + 6 * m ∨ 1772 + 6 * m + 6 ≤ k)) → q_j1 J x m r d k = J d k) ∧ q_j1 J x m r 0 23 = x ∧ q_j1 J x m r 1 1719 = nI (m + 1) ∧ q_j1 J x m r 1 (1772 + 6 * m) = nI r := by
  unfold q_j1 q_zr
  refine ⟨fun d k h1 h2 => ?_, ?_, q_zs, ?_⟩
  · rw [q_zo (by omega), q_zo (by omega), q_zo (by omega), q_zo (by omega), q_zo (by omega), q_zo (by omega), q_zo (by omega), q_zo (by omega)]
  · rw [q_zo (by omega), q_zo (by omega), q_zo (by omega), q_zo (by omega), q_zo (by omega), q_zo (by omega), q_zo (by omega), q_zs]
  · rw [q_zo (by omega), q_zo (by omega), q_zo (by omega), q_zo (by omega), q_zo (by omega), q_zo (by omega), q_zs]
def q_kP (K : z_L) (r w4 : Int32) (F : z_I → Option (Bool × z_I)) (a : z_I) : Option (Bool × z_I) := (f_X11_ahead a).bind fun q => (f_X11_termOrder q K r w4).bind fun q' => if q'.1 = true then F q'.2 else some (false, q'.2)
theorem m_pre {J : z_I} {K : z_L} {x v1 v2 v4 : Int32} {m r : Nat} (hm : m < 60) (h19 : J 1 1719 = nI m) (G : z_I → Option (Bool × z_I)) : (z_lt (z2 J 0 23 x) fun I1 => if zin (nI (1772 + 6 * m)) 2200 = true then z_lt (z2 I1 1 (nI (1772 + 6 * m)).toNatClampNeg (nI r)) fun I2 => g_X11_termStep_147 v1 v2 (nI (1772 + 6 * m)) v4 K (fun a => z_lt (z2 a 1 1719 ((a 1 1719) + (1 : Int32))) G) z_fuel (1 : Int32) I2 else none) = G (q_j1 J x m r) := by
  rw [q_zlt, if_pos (q_in (by omega) (by decide)), nI_clamp (by omega), q_zlt, m_147 (by omega) _ _ (Nat.le_of_lt (q_fu (by omega))), q_zlt]
  unfold q_j1
  congr 2
  unfold q_zr
  rw [q_zo (by omega), q_zo (by omega), q_zo (by omega), q_zo (by omega), q_zo (by omega), q_zo (by omega), q_zo (by omega), h19, ql_1, nI_add]
theorem m_w4 {J : z_I} {m : Nat} (h19 : J 1 1719 = nI m) : (1772 : Int32) + (6 : Int32) * J 1 1719 = nI (1772 + 6 * m) := by
  rw [h19, show (1772 : Int32) = nI 1772 from rfl, show (6 : Int32) = nI 6 from rfl, pk_mul, nI_add]
def q_fP : z_I → Option (Bool × z_I) := fun a => (f_X11_wantSign a (59 : Int32)).bind fun q => some (q.1, q.2)
theorem m_tsP {J : z_I} {K : z_L} {r m s : Nat} (h : f_X11_inWords J = some (nI r)) (hr : (12 ≤ r ∧ r ≤ 17) ∨ r = 21) (hs : J 0 23 = nI s) (hs30 : s ≤ 30) (h19 : J 1 1719 = nI m) (hm : m < 60) : (s = 30 → f_X11_termStep J K = some ((f_X11_fails J 6).1, (f_X11_fails J 6).2)) ∧ (s ≠ 30 → f_X11_termStep J K = q_kP K (nI r) (nI (1772 + 6 * m)) q_fP (q_j1 J (nI (s + 1)) m r)) := by
  have hne : ∀ k, k < 100 → k ≠ r → ¬ nI r = nI k := fun k hk hkr w => hkr ((nI_eq (by omega) (by omega)).1 w).symm
  have h18 : ¬ nI r = (18 : Int32) := hne 18 (by omega) (by omega)
  have h19' : ¬ nI r = (19 : Int32) := hne 19 (by omega) (by omega)
  have h20 : ¬ nI r = (20 : Int32) := hne 20 (by omega) (by omega)
  have h12 : ¬ nI r < (12 : Int32) := (show ¬ nI r < nI 12 from nI_nlt (by omega) (by omega))
  have h21 : ¬ (21 : Int32) < nI r := (show ¬ nI 21 < nI r from nI_nlt (by omega) (by omega))
  unfold f_X11_termStep
  rw [h, q_bs, q_zlt, m_w4 h19, if_neg h18, if_neg h19', if_neg h12, if_neg h21, if_neg h20, if_neg h20, hs]
  refine ⟨fun y => ?_, fun y => ?_⟩
  · rw [if_pos (show nI s = (30 : Int32) by rw [y]; rfl)]
  · rw [if_neg (show ¬ nI s = (30 : Int32) from fun w => y ((nI_eq (by omega) (by omega)).1 w)), if_neg h20, q_pp s 1 (by decide)]
    refine (m_pre hm h19 _).trans ?_
    simp only [if_neg h20]
    rfl
def q_fO (m : Nat) : z_I → Option (Bool × z_I) := fun a => if zin (a 0 22) 3 = true then z_lt (z2 a 8 ((a 0 22)).toNatClampNeg (nI m)) fun I1 => z_lt (z2 I1 0 22 ((a 0 22) + (1 : Int32))) fun I2 => (f_X11_wantSign I2 (59 : Int32)).bind fun q => some (q.1, q.2) else none
theorem m_tsO {J : z_I} {K : z_L} {r m s dp : Nat} (h : f_X11_inWords J = some (nI r)) (hr : r = 18 ∨ r = 19) (hs : J 0 23 = nI s) (hs30 : s ≤ 30) (h19 : J 1 1719 = nI m) (hm : m < 60) (hd : J 0 22 = nI dp) (hd3 : dp ≤ 3) : (s = 30 → f_X11_termStep J K = some ((f_X11_fails J 6).1, (f_X11_fails J 6).2)) ∧ (s ≠ 30 → dp = 3 → f_X11_termStep J K = some ((f_X11_fails J 7).1, (f_X11_fails J 7).2)) ∧ (s ≠ 30 → dp ≠ 3 → f_X11_termStep J K = q_kP K (nI r) (nI (1772 + 6 * m)) (q_fO m) (q_j1 J (nI (s + 1)) m r)) := by
  have e30 : s ≠ 30 → ¬ nI s = (30 : Int32) := fun y w => y ((nI_eq (by omega) (by omega)).1 w)
  have e3 : dp ≠ 3 → ¬ nI dp = (3 : Int32) := fun y w => y ((nI_eq (by omega) (by omega)).1 w)
  unfold f_X11_termStep
  rw [h, q_bs, q_zlt, m_w4 h19]
  rcases hr with rfl | rfl
  · have h20 : ¬ nI 18 = (20 : Int32) := by decide
    rw [if_pos (show nI 18 = (18 : Int32) from rfl), if_neg (by decide), if_neg (by decide), if_neg h20, if_neg h20, hs, hd]
    refine ⟨fun y => ?_, fun y z => ?_, fun y z => ?_⟩
    · rw [if_pos (show nI s = (30 : Int32) by rw [y]; rfl)]
    · rw [if_neg (e30 y), if_pos (show nI dp = (3 : Int32) by rw [z]; rfl)]
    · rw [if_neg (e30 y), if_neg (e3 z), if_neg h20, q_pp s 1 (by decide)]
      refine (m_pre hm h19 _).trans ?_
      simp only [if_neg h20, h19]
      rfl
  · have h20 : ¬ nI 19 = (20 : Int32) := by decide
    rw [if_neg (show ¬ nI 19 = (18 : Int32) by decide), if_pos (show nI 19 = (19 : Int32) from rfl), if_neg (by decide), if_neg (by decide), if_neg h20, if_neg h20, hs, hd]
    refine ⟨fun y => ?_, fun y z => ?_, fun y z => ?_⟩
    · rw [if_pos (show nI s = (30 : Int32) by rw [y]; rfl)]
    · rw [if_neg (e30 y), if_pos (show nI dp = (3 : Int32) by rw [z]; rfl)]
    · rw [if_neg (e30 y), if_neg (e3 z), if_neg h20, q_pp s 1 (by decide)]
      refine (m_pre hm h19 _).trans ?_
      simp only [if_neg h20, h19]
      rfl
def q_fE (m : Nat) : z_I → Option (Bool × z_I) := fun a => z_lt (z2 a 0 22 ((a 0 22) - (1 : Int32))) fun I1 => if zin ((a 0 22) - (1 : Int32)) 3 = true then if zin (nI (1772 + 6 * m) + (4 : Int32)) 2200 = true then z_lt (z2 I1 1 ((nI (1772 + 6 * m) + (4 : Int32))).toNatClampNeg (a 8 (((a 0 22) - (1 : Int32))).toNatClampNeg)) fun I2 => if zin (((1772 : Int32) + ((6 : Int32) * (a 8 (((a 0 22) - (1 : Int32))).toNatClampNeg))) + (4 : Int32)) 2200 = true then z_lt (z2 I2 1 ((((1772 : Int32) + ((6 : Int32) * (a 8 (((a 0 22) - (1 : Int32))).toNatClampNeg))) + (4 : Int32))).toNatClampNeg (nI m)) fun I3 => (f_X11_wantSign I3 (59 : Int32)).bind fun q => some (q.1, q.2) else none else none else none
theorem m_tsE {J : z_I} {K : z_L} {m s dp : Nat} (h : f_X11_inWords J = some (nI 20)) (hs : J 0 23 = nI s) (h19 : J 1 1719 = nI m) (hd : J 0 22 = nI dp) (hd3 : dp ≤ 3) (hm : dp ≠ 0 → m < 60) : (dp = 0 → f_X11_termStep J K = some ((f_X11_fails J 2).1, (f_X11_fails J 2).2)) ∧ (dp ≠ 0 → f_X11_termStep J K = q_kP K (nI 20) (nI (1772 + 6 * m)) (q_fE m) (q_j1 J (nI s) m 20)) := by
  have e0 : dp ≠ 0 → ¬ nI dp = 0 := fun y w => y ((nI_eq (by omega) (by omega)).1 w)
  have h20 : nI 20 = (20 : Int32) := rfl
  unfold f_X11_termStep
  rw [h, q_bs, q_zlt, m_w4 h19, if_neg (show ¬ nI 20 = (18 : Int32) by decide), if_neg (show ¬ nI 20 = (19 : Int32) by decide), if_neg (by decide), if_neg (by decide), if_pos h20, hs, hd]
  refine ⟨fun y => ?_, fun y => ?_⟩
  · rw [if_pos (show nI dp = 0 by rw [y]; rfl)]
  · rw [if_neg (e0 y), if_pos h20, if_pos h20, q_pp s 0 (by decide)]
    refine (m_pre (hm y) h19 _).trans ?_
    simp only [if_pos h20, h19]
    rfl
theorem m_tsN {J : z_I} {K : z_L} {x : Int32} (h : f_X11_inWords J = some x) (hx : x < 12 ∨ 21 < x) : f_X11_termStep J K = some ((f_X11_fails J 2).1, (f_X11_fails J 2).2) := by
  unfold f_X11_termStep
  have h18 : ¬ x = 18 := fun w => by subst w; revert hx; decide
  have h19 : ¬ x = 19 := fun w => by subst w; revert hx; decide
  rw [h, q_bs, q_zlt, if_neg h18, if_neg h19]
  by_cases y : x < 12
  · rw [if_pos y]
  · rw [if_neg y, if_pos (hx.resolve_left y)]
