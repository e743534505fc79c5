/-! terms -/
theorem q_sm.go7 {C : q_N} {m : Nat} {J J' : z_I} {K : z_L} (h : q_sm C 0 m J K) (ok : q_ok C) (hJ : ∀ k, k < 60 → k ≠ 7 → J' 1 k = J 1 k) : q_sm C 0 m J' K := by
  refine ⟨fun r k hk => ?_, h.2.1, h.2.2⟩
  have h7 : q_pm r k ≠ 7 := by
    match r, hk with
    | 0, hk => have : k < 7 := hk; show k ≠ 7; omega
    | 1, _ => show 10 + 2 * k ≠ 7; omega
    | 2, _ => show 11 + 2 * k ≠ 7; omega
    | 3, _ => show 22 + k ≠ 7; omega
    | 4, _ => show 30 + 3 * k ≠ 7; omega
    | 5, _ => show 31 + 3 * k ≠ 7; omega
    | 6, _ => show 32 + 3 * k ≠ 7; omega
    | 7, hk => exact absurd hk (Nat.not_lt_zero _)
    | 8, _ => show 51 + 2 * k ≠ 7; omega
    | 9, _ => show 52 + 2 * k ≠ 7; omega
    | n + 10, hk => exact absurd hk (Nat.not_lt_zero _)
  rw [Nat.zero_add, hJ _ (q_pm_lt ok hk) h7, ← Nat.zero_add (q_pm r k)]
  exact h.1 _ _ hk
theorem m_t102 {J : z_I} {K : z_L} : ∃ J', ((∀ k, 60 ≤ k → k < 420 → J' 1 k = J 1 (1712 + k)) ∧ (∀ d k, d ≠ 1 ∨ k < 60 ∨ 420 ≤ k → J' d k = J d k)) ∧ g_X11_terms_102 K z_fuel (nI 60) J = some ((f_X11_taken J' (J' 0 23)).1, (f_X11_taken J' (J' 0 23)).2) := q_lpC (G := fun fu k (a : z_I) => g_X11_terms_102 K fu (nI k) a) (K := fun a => some ((f_X11_taken a (a 0 23)).1, (f_X11_taken a (a 0 23)).2)) (N := 420) (k0 := 60) (n := z_fuel) (a := J) (fun k a => (∀ j, 60 ≤ j → j < k → a 1 j = J 1 (1712 + j)) ∧ (∀ d j, d ≠ 1 ∨ j < 60 ∨ k ≤ j → a d j = J d j)) (fun fu k a _ hk hp => by
    refine ⟨z2 a 1 k (a 1 (1712 + k)), ⟨fun j hj1 hj => ?_, fun d j hj => ?_⟩, ?_⟩
    · by_cases y : j = k
      · subst y; rw [q_zs]; exact hp.2 1 _ (by omega)
      · rw [q_zo (by omega)]; exact hp.1 j hj1 (by omega)
    · rw [q_zo (by omega)]; exact hp.2 d j (by omega)
    · show g_X11_terms_102 K (fu + 1) (nI k) a = _
      rw [g_X11_terms_102, if_neg (show ¬ (420 : Int32) ≤ nI k by rw [ql_420, nI_leI (by omega) (by omega)]; omega), show (1712 : Int32) + nI k = nI (1712 + k) from nI_add 1712 k, if_pos (q_in (by omega) (by decide)), if_pos (q_in (by omega) (by decide)), nI_clamp (by omega), nI_clamp (by omega), q_zlt, q_pp k 1 (x := 1) (by decide)]) (fun fu a hp => by
    show g_X11_terms_102 K (fu + 1) (nI 420) a = _
    rw [g_X11_terms_102, if_pos (show (420 : Int32) ≤ nI 420 by decide)]) (by omega) (q_fu (by omega)) ⟨fun j _ hj => by omega, fun _ _ _ => rfl⟩
def q_TT (I : z_I) (m s : Nat) : q_N := fun r e => if r = 0 then (if e = 0 then 1 else if e = 1 then m else s) else q_tI I r e
theorem q_TT_ok {C : q_N} {m s : Nat} {o : Nat → Nat} {I J : z_I} (h : q_tr C m 0 o I J) (hs : s ≤ 30) (hm : m ≤ 60) : q_tok (q_TT I m s) C := by
  obtain ⟨h1, ⟨a, b, c, d⟩, h3, h4⟩ := h
  have cc : ∀ e, e < m → q_op (q_tI I 1 e) → e < q_tI I 5 e ∧ q_tI I 5 e < m ∧ q_tI I 1 (q_tI I 5 e) = 21 ∧ q_tI I 5 (q_tI I 5 e) = e ∧ (∀ f, e < f → f < q_tI I 5 e → q_op (q_tI I 1 f) → q_tI I 5 f < q_tI I 5 e) := fun e he ho => by
    rcases c e he ho with ⟨j, hj, -⟩ | ⟨c1, c2, c3, c4, c5, -⟩
    · exact absurd hj (Nat.not_lt_zero _)
    · exact ⟨c1, c2, c3, c4, c5⟩
  refine ⟨Nat.le_refl 1, fun w => absurd (show (1 : Nat) = 0 from w) (by decide), hm, hs, fun e he => (h3 e he).1, fun e he ho => ?_, fun e he hk => ?_, fun e f ef f5 e5 oe of' => ?_⟩
  · obtain ⟨c1, c2, c3, c4, -⟩ := cc e he ho
    exact ⟨c1, c2, c3, c4⟩
  · obtain ⟨d1, d2, d3, -⟩ := d e he hk
    exact ⟨d1, d2, d3⟩
  · have em : e < m := by
      have x1 : f < q_tI I 5 e := f5
      have x2 : q_tI I 5 e < m := e5
      omega
    exact (cc e em oe).2.2.2.2 f ef f5 of'
theorem q_TT_x {m s : Nat} {I : z_I} (i5 : I 33 5 = nI 1) (i6 : I 33 6 = nI m) (i7 : I 33 7 = nI s) : q_tx (q_TT I m s) 33 I := ⟨i5, i6, i7, fun r e r1 r5 he => by unfold q_TT; rw [if_neg (by omega)]; exact q_tI_n I r e⟩
theorem q_TT_m {C : q_N} {m s : Nat} {o : Nat → Nat} {I J J' : z_I} (h : q_tr C m 0 o I J) (hm : m ≤ 60) (j7 : J' 1 7 = nI m) (hJ : ∀ k, 60 ≤ k → k < 420 → J' 1 k = J 1 (1712 + k)) : q_tm (q_TT I m s) 0 J' := by
  refine Or.inr ⟨rfl, j7, fun e he => ?_⟩
  have em : e < m := he
  obtain ⟨e1, e2, e3, e4, e5⟩ := (h.2.2.1 e em).2
  have g : ∀ i, i < 6 → J' 1 (0 + 60 + 6 * e + i) = J 1 (1772 + 6 * e + i) := fun i hi => by
    rw [hJ _ (by omega) (by omega)]
    congr 1
    omega
  refine ⟨(g 0 (by omega)).trans e1, fun w => (g 1 (by omega)).trans (e2 w), fun w => (g 1 (by omega)).trans (e3 w), fun w => (g 2 (by omega)).trans (e4 w), fun w => (g 5 (by omega)).trans (e5 w), fun w => (g 4 (by omega)).trans (h.2.2.2 e em ?_)⟩
  have w' : q_tI I 1 e = 19 ∨ q_tI I 1 e = 2 ∨ q_tI I 1 e = 11 ∨ q_tI I 1 e = 20 ∨ q_tI I 1 e = 21 := w
  by_cases y : q_tI I 1 e = 21
  · exact Or.inl y
  · exact Or.inr ⟨by unfold q_op; omega, fun j hj => absurd hj (Nat.not_lt_zero _)⟩
def q_kX (I_9 : z_I) (L_10 : z_L) : Option (Bool × z_I × z_L) := if (I_9 43 4) = 0 then some (true, I_9, L_10) else some ((f_X7_fail I_9 (2 : Int32)).1, (f_X7_fail I_9 (2 : Int32)).2, L_10)
def q_k57 (K : z_L) (a : z_I) : Option (Int32 × z_I) := if (a 0 18) = 0 then if (a 0 22) ≤ 0 then if (a 0 18) = 0 then z_lt (z2 a 1 7 (a 1 1719)) fun I12 => g_X11_terms_102 K z_fuel (60 : Int32) I12 else some ((f_X11_taken a (a 0 23)).1, (f_X11_taken a (a 0 23)).2) else if ((f_X11_fails a (2 : Int32)).2 0 18) = 0 then z_lt (z2 (f_X11_fails a (2 : Int32)).2 1 7 ((f_X11_fails a (2 : Int32)).2 1 1719)) fun I18 => g_X11_terms_102 K z_fuel (60 : Int32) I18 else some ((f_X11_taken (f_X11_fails a (2 : Int32)).2 ((f_X11_fails a (2 : Int32)).2 0 23)).1, (f_X11_taken (f_X11_fails a (2 : Int32)).2 ((f_X11_fails a (2 : Int32)).2 0 23)).2) else if (a 0 18) = 0 then z_lt (z2 a 1 7 (a 1 1719)) fun I21 => g_X11_terms_102 K z_fuel (60 : Int32) I21 else some ((f_X11_taken a (a 0 23)).1, (f_X11_taken a (a 0 23)).2)
theorem r_terms : s_terms q_R := by
  intro I L J K p0 hR
  obtain ⟨C, T, mk, h⟩ := id hR
  obtain ⟨t, ht, i18, j10, htx⟩ := h.2.2.1
  have hrk := h.2.2.2.2.2.2.1
  obtain ⟨hsx, hsm, ok, -⟩ := h.2.2.2.2.2.2.2 0 (Nat.zero_le _)
  have hsx : q_sx (C 0) 3 I L := hsx
  have hsm : q_sm (C 0) 0 0 J K := hsm
  have hwi := q_wi_hs (p := p0) (n := t) (by omega)
  have no : f_X10_terms I L p0 = some ((f_X10_refuse I 1).1, (f_X10_refuse I 1).2, L) → f_X11_begins J p0 300 = some (false, J) → ∃ (qX : Int32 × z_I × z_L) (qM : Int32 × z_I), f_X10_terms I L p0 = some qX ∧ f_X11_terms J K p0 = some qM ∧ qX.1 = qM.1 ∧ q_R qX.2.1 qX.2.2 qM.2 K := fun a b => by
    refine ⟨(-1, z2 I 0 15 1, L), (-1, z2 J 0 2 1), a, ?_, rfl, hR.st 1⟩
    unfold f_X11_terms
    rw [b, q_bs, if_neg (show ¬ (false = true) by decide)]
    rfl
  cases hb : q_hs (t + 1) p0 with
  | false =>
    rw [hb] at hwi
    refine no ?_ (m_notBegin ht j10 hb)
    unfold f_X10_terms
    rw [i18, hwi, if_neg (show ¬ (false = true) by decide)]
  | true =>
    rw [hb] at hwi
    obtain ⟨n, hn, rfl⟩ := q_hs_t hb (by omega)
    by_cases n3 : 300 < n
    · have n3' : ¬ nI n ≤ 300 := show ¬ nI n ≤ nI 300 by rw [nI_leI (by omega) (by omega)]; omega
      refine no ?_ ?_
      · unfold f_X10_terms
        rw [i18, hwi, if_pos rfl, if_neg n3']
      · unfold f_X11_begins
        rw [if_neg (nI_pos (by omega)), j10, if_neg (nI_nlt (by omega) (by omega)), if_neg n3']
    generalize hI1 : z2 (z2 (f_X5_clear I 33) 33 5 (nI 1)) 43 4 (nI 0) = I1
    have hcl : f_X5_clear I 33 = z2 (z2 (z2 I 33 5 (nI 0)) 33 6 (nI 0)) 33 7 (nI 0) := by
      unfold f_X5_clear
      rw [q_zlt, q_zlt, q_zlt]
      rfl
    have hI1f : ∀ d k, d ≠ 33 → d ≠ 43 → I1 d k = I d k := fun d k h1 h2 => by
      rw [← hI1, hcl, q_zo (by omega), q_zo (by omega), q_zo (by omega), q_zo (by omega), q_zo (by omega)]
    obtain ⟨B, I2, L2, J2, f, e, kd, va, b1, b2, b3, b4, b5, b6, b7, b8, b9⟩ := q_begin h ht i18 j10 htx (n := n) (mx := 300) (by omega) (by omega) (by omega) (I1 := I1) (fun d k hd => hI1f d k (by omega) (by omega))
    generalize hJ3 : z2 (z2 (z2 J2 1 1719 (nI 0)) 0 22 (nI 0)) 0 23 (nI 0) = J3
    have fJ3 : ∀ d k, d ≠ 1 ∨ k ≠ 1719 → d ≠ 0 ∨ (k ≠ 22 ∧ k ≠ 23) → J3 d k = J2 d k := fun d k d1 d2 => by rw [← hJ3, q_zo (by omega), q_zo (by omega), q_zo (by omega)]
    have gJ : ∀ d k, d ≠ 7 → d ≠ 0 ∨ k < 10 ∨ k = 16 ∨ 23 < k → d ≠ 1 ∨ k ≠ 1719 → J3 d k = J d k := fun d k d1 d2 d3 => by rw [fJ3 d k (by omega) (by omega), b9 d k d1 (by omega)]
    have gI : ∀ d k, d < 22 ∨ 45 ≤ d → I2 d k = I d k := fun d k hd => by rw [b4 d k (by omega), hI1f d k (by omega) (by omega)]
    have hst : q_ttS n B (C 0) K f e kd va 0 0 0 (fun _ => 0) I2 L2 J3 := by
      refine ⟨b3.go (fun _ _ _ => rfl) rfl (fun d k w => fJ3 d k (by omega) (by omega)), hrk.mL b5, ⟨hsx.go (fun d k a b => gI d k (by omega)) (fun d k a b => b5 d k (by omega)), hsm.go ok (fun k a b => gJ 1 k (by omega) (by omega) (by omega)) (fun _ _ _ => rfl), ok⟩, ⟨?_, ?_, ?_⟩, ⟨?_, ?_, ?_, ?_, ?_, ?_⟩, ⟨by omega, by omega, by omega⟩, fun j hj => absurd hj (Nat.not_lt_zero _), ⟨fun j hj => absurd hj (Nat.not_lt_zero _), fun i j _ hj => absurd hj (Nat.not_lt_zero _), fun e he => absurd he (Nat.not_lt_zero _), fun e he => absurd he (Nat.not_lt_zero _)⟩, fun e he => absurd he (Nat.not_lt_zero _), fun e he => absurd he (Nat.not_lt_zero _)⟩
      · rw [fJ3 0 18 (by omega) (by omega), b6]
      · rw [fJ3 0 17 (by omega) (by omega), b7]
      · rw [b4 33 5 (by omega), ← hI1, q_zo (by omega), q_zs]
      · rw [b4 33 6 (by omega), ← hI1, hcl, q_zo (by omega), q_zo (by omega), q_zo (by omega), q_zs]
      · rw [← hJ3, q_zo (by omega), q_zo (by omega), q_zs]
      · rw [b4 33 7 (by omega), ← hI1, hcl, q_zo (by omega), q_zo (by omega), q_zs]
      · rw [← hJ3, q_zs]
      · rw [b4 43 4 (by omega), ← hI1, q_zs]
      · rw [← hJ3, q_zo (by omega), q_zs]
    have hX : f_X6_takeText I L (nI n) = g_X6_takeText_30 (nI n) q_kX z_fuel (nI 0) I2 L2 := by
      unfold f_X6_takeText
      rw [q_zlt, q_zlt, show zb true = nI 1 from rfl, show (0 : Int32) = nI 0 from rfl, hI1, b1, q_bs]
      rfl
    have hM : f_X11_terms J K (nI n) = g_X11_terms_38 K (q_k57 K) z_fuel true J3 := by
      unfold f_X11_terms
      rw [show (300 : Int32) = nI 300 from rfl, b2, q_bs, if_pos rfl, q_zlt, q_zlt, q_zlt, show z2 (z2 (z2 (true, J2).2 1 1719 (0 : Int32)) 0 22 (0 : Int32)) 0 23 (0 : Int32) = J3 from hJ3]
      rfl
    have n300 : nI n ≤ 300 := show nI n ≤ nI 300 from nI_le (by omega) (by omega)
    -- what is not taken
    have bad : ∀ I4 L4 J4, f_X6_takeText I L (nI n) = some (false, I4, L4) → f_X11_terms J K (nI n) = some ((f_X11_taken J4 (J4 0 23)).1, (f_X11_taken J4 (J4 0 23)).2) → q_b1 I4 J4 → q_cf I2 L2 J3 K I4 L4 J4 K → ∃ (qX : Int32 × z_I × z_L) (qM : Int32 × z_I), f_X10_terms I L (nI n) = some qX ∧ f_X11_terms J K (nI n) = some qM ∧ qX.1 = qM.1 ∧ q_R qX.2.1 qX.2.2 qM.2 K := fun I4 L4 J4 r1 r2 hb1 hcf => by
      obtain ⟨w, fp, w1, w2, w3, w4, w5, w6, w7⟩ := hb1
      obtain ⟨u1, u2, u3, -⟩ := hcf
      have htk : f_X11_taken J4 (J4 0 23) = (-1, z2 (z2 J4 0 16 (nI w)) 0 2 9) := by
        unfold f_X11_taken
        rw [q_zlt, w6, if_neg (show ¬ nI w ≤ 0 by rw [ql_0, nI_leI (by omega) (by omega)]; omega)]
        rfl
      have hq1 := h.txt (nI w) (nI fp)
      have hE := x_endF I4
      rw [w4, w5] at hE
      have hq2 := hq1.fr (I' := z2 (z2 (z2 I4 0 18 (nI 0)) 0 16 (nI w)) 0 17 (nI fp)) (L' := L4) (J' := z2 J4 0 16 (nI w)) (K' := K) (fun d k y => ?_) (fun d k y => ?_) (fun d k y => ?_) (fun d k y => rfl)
      · refine ⟨(-1, z2 (z2 (z2 (z2 I4 0 18 (nI 0)) 0 16 (nI w)) 0 17 (nI fp)) 0 15 9, L4), (-1, z2 (z2 J4 0 16 (nI w)) 0 2 9), ?_, ?_, rfl, (hq2.st 9).r⟩
        · unfold f_X10_terms
          rw [i18, hwi, if_pos rfl, if_pos n300, r1, q_bs, if_neg (show ¬ (false = true) by decide)]
          dsimp only
          rw [hE]
          rfl
        · rw [r2, htk]
      · have hu : d ≠ 0 ∨ (k ≠ 16 ∧ k ≠ 17 ∧ k ≠ 18) ∨ d = 0 ∧ k = 16 ∨ d = 0 ∧ k = 17 ∨ d = 0 ∧ k = 18 := by omega
        rcases hu with hu | hu | ⟨rfl, rfl⟩ | ⟨rfl, rfl⟩ | ⟨rfl, rfl⟩
        · rw [q_zo (by omega), q_zo (by omega), q_zo (by omega), q_zo (by omega), q_zo (by omega), q_zo (by omega), u1 d k (by unfold q_rI at y; omega), gI d k (by unfold q_rI at y; omega)]
        · rw [q_zo (by omega), q_zo (by omega), q_zo (by omega), q_zo (by omega), q_zo (by omega), q_zo (by omega), u1 d k (by unfold q_rI at y; omega), gI d k (by unfold q_rI at y; omega)]
        · rw [q_zo (by omega), q_zs, q_zo (by omega), q_zs]
        · rw [q_zs, q_zs]
        · rw [q_zo (by omega), q_zo (by omega), q_zs, q_zo (by omega), q_zo (by omega), q_zs]
      · rw [u2 d k (by unfold q_rL at y; omega), b5 d k (by unfold q_rL at y; omega)]
      · have hu : (d = 0 ∧ k = 16) ∨ (d = 0 ∧ k = 17) ∨ (d = 0 ∧ k = 10) ∨ (d ≠ 0 ∨ (k ≠ 16 ∧ k ≠ 17 ∧ k ≠ 10)) := by omega
        rcases hu with ⟨rfl, rfl⟩ | ⟨rfl, rfl⟩ | ⟨rfl, rfl⟩ | hu
        · rw [q_zs, q_zo (by omega), q_zs]
        · rw [q_zo (by omega), w7, q_zs]
        · rw [q_zo (by omega), u3 0 10 (by omega) (by omega) (by omega) (by omega), fJ3 0 10 (by omega) (by omega), b8, q_zo (by omega), q_zo (by omega), q_zs]
        · unfold q_rJ at y
          rw [q_zo (by omega), u3 d k (by omega) (by omega) (by omega) (by omega), gJ d k (by omega) (by omega) (by omega), q_zo (by omega), q_zo (by omega), q_zo (by omega)]
    rcases q_ttext (n := n) (B := B) (C := C 0) (K := K) q_kX (q_k57 K) n 0 f e kd va 0 0 0 (fun _ => 0) z_fuel z_fuel I2 L2 J3 (by omega) (Nat.zero_le _) (q_fu (by omega)) (q_fu (by omega)) hst with ⟨I4, L4, J4, f4, e4, va4, m, s, dp, o, r1, r2, ⟨s1, s2, ⟨s3, s4, s5⟩, ⟨s8, s9, s10⟩, ⟨g1, g2, g3, g4, g5, g6⟩, ⟨l1, l2, l3⟩, htr⟩, hcf⟩ | ⟨I4, L4, J4, r1, r2, hb1, hcf⟩
    · by_cases yd : dp = 0
      · subst yd
        obtain ⟨u1, u2, u3, -⟩ := hcf
        generalize hJ5 : z2 J4 1 7 (nI m) = J5
        obtain ⟨J6, ⟨a1, a2⟩, e6⟩ := m_t102 (J := J5) (K := K)
        have f5 : ∀ d k, d ≠ 1 ∨ k ≠ 7 → J5 d k = J4 d k := fun d k hd => by rw [← hJ5, q_zo hd]
        have hK : q_k57 K J4 = some ((f_X11_taken J6 (J6 0 23)).1, (f_X11_taken J6 (J6 0 23)).2) := by
          unfold q_k57
          rw [s8, if_pos (show nI 0 = 0 from rfl), g6, if_pos (show nI 0 ≤ 0 by decide), if_pos (show nI 0 = 0 from rfl), q_zlt, g2, hJ5]
          exact e6
        have j18 : J6 0 18 = nI 0 := by rw [a2 0 18 (by omega), f5 0 18 (by omega), s8]
        have j23 : J6 0 23 = nI s := by rw [a2 0 23 (by omega), f5 0 23 (by omega), g4]
        have htk : f_X11_taken J6 (J6 0 23) = (nI s, z2 (z2 J6 0 16 (nI 0)) 0 2 (nI 0)) := by
          unfold f_X11_taken
          rw [q_zlt, j18, if_pos (by decide), j23]
          rfl
        have hE := x_endT I4
        generalize hIe : z2 (z2 (z2 I4 0 18 (nI 0)) 0 16 (nI 0)) 0 17 q_no = Ie at hE
        have fIe : ∀ d k, d ≠ 0 → Ie d k = I4 d k := fun d k hd => by rw [← hIe, q_zo (by omega), q_zo (by omega), q_zo (by omega)]
        have hm60 : m ≤ 60 := by omega
        have htok := q_TT_ok (s := s) htr l2 hm60
        have htx4 : q_tx (q_TT I4 m s) 33 Ie := (q_TT_x s10 g1 g3).go (fun c k a b => fIe c k (by omega))
        obtain ⟨o1, -, -, -, o7⟩ := x5_copyI (I := Ie) (t := 14) (p := 33) (by omega)
        have ax := x5_copy (t := 14) (p := 33) htx4 htok (by omega)
        generalize hcp : f_X5_copyFrom Ie 14 33 = I7 at o1 o7 ax
        have x7 : q_sx (C 0) 3 I7 L4 := s3.go (fun d k a b => by rw [o1 d k (by omega), fIe d k (by omega)]) (fun _ _ _ _ => rfl)
        have y7 : q_sm (C 0) 0 0 (z2 J6 0 16 (nI 0)) K := s4.go7 ok (fun k hk h7 => by rw [q_zo (by omega), a2 1 k (by omega), f5 1 k (by omega)])
        have htm : q_tm (q_TT I4 m s) 0 (z2 J6 0 16 (nI 0)) := q_TT_m htr hm60 (by rw [q_zo (by omega), a2 1 7 (by omega), ← hJ5, q_zs]) (fun k k1 k2 => by rw [q_zo (by omega), a1 k k1 k2, f5 1 _ (by omega)])
        have hq1 := h.txt (nI 0) q_no
        have hq2 := hq1.set (C' := C 0) (T' := q_TT I4 m s) (I' := I7) (L' := L4) (J' := z2 J6 0 16 (nI 0)) (K' := K) ⟨x7, y7, ok, ax, htm, htok⟩ (fun d k y z => ?_) (fun d k y z => ?_) (fun d k y z => ?_) (fun d k y z => rfl)
        · refine ⟨(nI s, z2 I7 0 15 (nI 0), L4), (nI s, z2 (z2 J6 0 16 (nI 0)) 0 2 (nI 0)), ?_, ?_, rfl, (hq2.st (nI 0)).r⟩
          · unfold f_X10_terms
            rw [i18, hwi, if_pos rfl, if_pos n300, hX, r1, q_kX, g5, if_pos (show nI 0 = 0 from rfl), q_bs, if_pos rfl]
            dsimp only
            rw [hE, hcp, o7, fIe 33 7 (by omega), g3]
            rfl
          · rw [hM, r2, hK, htk]
        · rw [o1 d k (by omega), ← hIe]
          have hu : d ≠ 0 ∨ (k ≠ 16 ∧ k ≠ 17 ∧ k ≠ 18) ∨ d = 0 ∧ k = 16 ∨ d = 0 ∧ k = 17 ∨ d = 0 ∧ k = 18 := by omega
          rcases hu with hu | hu | ⟨rfl, rfl⟩ | ⟨rfl, rfl⟩ | ⟨rfl, rfl⟩
          · rw [q_zo (by omega), q_zo (by omega), q_zo (by omega), q_zo (by omega), q_zo (by omega), q_zo (by omega), u1 d k (by unfold q_rI at y; omega), gI d k (by unfold q_rI at y; omega)]
          · rw [q_zo (by omega), q_zo (by omega), q_zo (by omega), q_zo (by omega), q_zo (by omega), q_zo (by omega), u1 d k (by unfold q_rI at y; omega), gI d k (by unfold q_rI at y; omega)]
          · rw [q_zo (by omega), q_zs, q_zo (by omega), q_zs]
          · rw [q_zs, q_zs]
          · rw [q_zo (by omega), q_zo (by omega), q_zs, q_zo (by omega), q_zo (by omega), q_zs]
        · rw [u2 d k (by unfold q_rL at y; omega), b5 d k (by unfold q_rL at y; omega)]
        · have hu : (d = 0 ∧ k = 16) ∨ (d = 0 ∧ k = 17) ∨ (d = 0 ∧ k = 10) ∨ (d ≠ 0 ∨ (k ≠ 16 ∧ k ≠ 17 ∧ k ≠ 10)) := by omega
          rcases hu with ⟨rfl, rfl⟩ | ⟨rfl, rfl⟩ | ⟨rfl, rfl⟩ | hu
          · rw [q_zs, q_zo (by omega), q_zs]
          · rw [q_zo (by omega), a2 0 17 (by omega), f5 0 17 (by omega), s9, q_zs]
          · rw [q_zo (by omega), a2 0 10 (by omega), f5 0 10 (by omega), u3 0 10 (by omega) (by omega) (by omega) (by omega), fJ3 0 10 (by omega) (by omega), b8, q_zo (by omega), q_zo (by omega), q_zs]
          · unfold q_rJ at y
            rw [q_zo (by omega), a2 d k (by omega), f5 d k (by omega), u3 d k (by omega) (by omega) (by omega) (by omega), gJ d k (by omega) (by omega) (by omega), q_zo (by omega), q_zo (by omega), q_zo (by omega)]
      · obtain ⟨I5, J5, eX, eM, p1, p2, p3⟩ := q_fail s1 s8 (w := 2) (by omega) (fun _ => False)
        obtain ⟨w, fp, w1, w2, w3, w4, w5, w6, w7⟩ := id p1
        refine bad I5 L4 J5 ?_ ?_ p1 (hcf.tr ⟨fun d k w => p2 d k (by omega), fun _ _ _ => rfl, fun d k a b c e => p3.F d k (by omega), fun _ _ _ => rfl⟩)
        · rw [hX, r1, q_kX, g5, if_neg (show ¬ nI dp = 0 from fun w => yd ((nI_eq (b := 0) (by omega) (by omega)).1 w)), ql_2, eX]
        · rw [hM, r2]
          unfold q_k57
          rw [s8, if_pos (show nI 0 = 0 from rfl), g6, if_neg (show ¬ nI dp ≤ 0 by rw [ql_0, nI_leI (by omega) (by omega)]; omega), ql_2, eM]
          dsimp only
          rw [if_neg (show ¬ J5 0 18 = 0 by rw [w6]; exact fun v => by have := (nI_eq (b := 0) (by omega) (by omega)).1 v; omega)]
    · obtain ⟨w, fp, w1, w2, w3, w4, w5, w6, w7⟩ := id hb1
      have hw0 : ¬ J4 0 18 = 0 := by rw [w6]; exact fun v => by have := (nI_eq (b := 0) (by omega) (by omega)).1 v; omega
      refine bad I4 L4 J4 (hX.trans r1) ?_ hb1 hcf
      rw [hM, r2]
      unfold q_k57
      rw [if_neg hw0, if_neg hw0]
