/-! the next token, on both sides -/
def q_sgn4 (b : Nat) : Prop := b = 59 ∨ b = 60 ∨ b = 61 ∨ b = 62
theorem x7_mvE {n : Nat} {B : Nat → Nat} {I J : z_I} {L : z_L} (h : q_xt n B I J) {e : Nat} (he : e ≤ n) (i4 : I 39 4 = nI e) (hf : q_run (q_bl B) (n - e) e = n) : f_X7_move I L = some (z2 (z2 (z2 I 39 3 (nI n)) 39 4 (nI n)) 39 5 (nI 0), L) := by
  have h900 := h.1
  have h2 := h.2.1
  have r1 : z2 I 39 3 (nI n) 39 2 = nI n := by rw [q_zo (by omega), h2]
  have r2 : z2 I 39 3 (nI n) 39 3 = nI n := q_zs
  unfold f_X7_move
  rw [i4, q_zlt, x7_skip h he, hf, q_zlt, r1, r2, if_pos (nI_le (Nat.le_refl _) (by omega)), if_neg (nI_nlt (Nat.le_refl _) (by omega)), q_zlt]
  rfl
theorem x7_mvS {n : Nat} {B : Nat → Nat} {I J : z_I} {L : z_L} (h : q_xt n B I J) {e f : Nat} (he : e ≤ n) (i4 : I 39 4 = nI e) (hf : q_run (q_bl B) (n - e) e = f) (hn : f < n) (hl : q_lo B f = false) (hd : q_dg B f = false) : (q_sgn4 (B f) → f_X7_move I L = some (z2 (z2 (z2 (z2 (z2 I 39 3 (nI f)) 39 4 (nI f)) 39 7 (nI (B f))) 39 5 (nI 6)) 39 4 (nI (f + 1)), L)) ∧ (¬ q_sgn4 (B f) → f_X7_move I L = some (z2 (z2 (z2 (z2 (z2 I 39 3 (nI f)) 39 4 (nI f)) 39 7 (I 2 f)) 39 5 (nI 1)) 39 4 (nI (f + 1)), L)) := by
  have h900 := h.1
  have h2 := h.2.1
  have r1 : z2 I 39 3 (nI f) 39 2 = nI n := by rw [q_zo (by omega), h2]
  have r2 : z2 I 39 3 (nI f) 39 3 = nI f := q_zs
  have r3 : z2 I 39 3 (nI f) 2 f = I 2 f := q_zo (by omega)
  have r4 : z2 (z2 I 39 3 (nI f)) 39 4 (nI f) 39 3 = nI f := by rw [q_zo (by omega), q_zs]
  obtain ⟨c1, c2, c3⟩ := h.c hn
  have hl := of_decide_eq_false hl
  have hd := of_decide_eq_false hd
  have hm : f_X7_move I L = some (f_X7_scanSign (z2 (z2 I 39 3 (nI f)) 39 4 (nI f)) (I 2 f), L) := by
    unfold f_X7_move
    rw [i4, q_zlt, x7_skip h he, hf, q_zlt, r1, r2, if_neg (nI_ge hn (by omega)), if_pos (q_in (by omega) (by decide)), if_pos (nI_lt hn (by omega)), nI_clamp (by omega), r3]
    by_cases y1 : B f < 97 ∨ 128 ≤ B f
    · rw [if_pos (show I 2 f < 97 from (c2 97 (by omega)).2 y1)]
      by_cases y2 : B f < 48 ∨ 128 ≤ B f
      · rw [if_pos (show I 2 f < 48 from (c2 48 (by omega)).2 y2)]
      · rw [if_neg (show ¬ I 2 f < 48 from fun w => y2 ((c2 48 (by omega)).1 w)), if_pos (show 57 < I 2 f from (c3 57 (by omega)).2 (by omega))]
    · rw [if_neg (show ¬ I 2 f < 97 from fun w => y1 ((c2 97 (by omega)).1 w)), if_pos (show 122 < I 2 f from (c3 122 (by omega)).2 (by omega)), if_neg (show ¬ I 2 f < 48 from fun w => by have := (c2 48 (by omega)).1 w; omega), if_pos (show 57 < I 2 f from (c3 57 (by omega)).2 (by omega))]
  rw [hm]
  unfold f_X7_scanSign
  rw [q_zlt, r4]
  constructor
  · intro hs
    have rB := (h.2.2.2 f hn).2.1 (by unfold q_sgn4 at hs; omega)
    rw [rB]
    by_cases y1 : B f = 59
    · rw [if_pos (show nI (B f) = 59 by rw [y1]; rfl), q_zlt, q_zlt, ql_6, ql_1, nI_add]
    · rw [if_neg (show ¬ nI (B f) = 59 by rw [ql_59, nI_eq (by unfold q_sgn4 at hs; omega) (by omega)]; exact y1)]
      by_cases y2 : B f = 60
      · rw [if_pos (show nI (B f) = 60 by rw [y2]; rfl), q_zlt, q_zlt, ql_6, ql_1, nI_add]
      · rw [if_neg (show ¬ nI (B f) = 60 by rw [ql_60, nI_eq (by unfold q_sgn4 at hs; omega) (by omega)]; exact y2)]
        by_cases y3 : B f = 62
        · rw [if_pos (show nI (B f) = 62 by rw [y3]; rfl), q_zlt, q_zlt, ql_6, ql_1, nI_add]
        · rw [if_neg (show ¬ nI (B f) = 62 by rw [ql_62, nI_eq (by unfold q_sgn4 at hs; omega) (by omega)]; exact y3), if_pos (show nI (B f) = 61 by rw [show B f = 61 by unfold q_sgn4 at hs; omega]; rfl), q_zlt, q_zlt, ql_6, ql_1, nI_add]
  · intro hs
    unfold q_sgn4 at hs
    rw [if_neg (show ¬ I 2 f = 59 from fun w => hs (Or.inl ((c1 59 (by omega)).1 w))), if_neg (show ¬ I 2 f = 60 from fun w => hs (Or.inr (Or.inl ((c1 60 (by omega)).1 w)))), if_neg (show ¬ I 2 f = 62 from fun w => hs (Or.inr (Or.inr (Or.inr ((c1 62 (by omega)).1 w))))), if_neg (show ¬ I 2 f = 61 from fun w => hs (Or.inr (Or.inr (Or.inl ((c1 61 (by omega)).1 w))))), q_zlt, q_zlt, ql_1, nI_add]
theorem x7_mvD {n : Nat} {B : Nat → Nat} {I J : z_I} {L : z_L} (h : q_xt n B I J) {e f e' : Nat} (he : e ≤ n) (i4 : I 39 4 = nI e) (hf : q_run (q_bl B) (n - e) e = f) (hn : f < n) (hd : q_dg B f = true) (he' : q_run (q_dg B) (n - f) f = e') (hfe : f ≤ e') (hen : e' ≤ n) : f_X7_move I L = some (z2 (z2 (z2 (z2 (z2 I 39 3 (nI f)) 39 4 (nI f)) 39 7 (nI (q_va B f (e' - f)))) 39 4 (nI e')) 39 5 (nI (if e' - f ≤ 4 then 5 else 1)), L) := by
  have h900 := h.1
  have h2 := h.2.1
  have r1 : z2 I 39 3 (nI f) 39 2 = nI n := by rw [q_zo (by omega), h2]
  have r2 : z2 I 39 3 (nI f) 39 3 = nI f := q_zs
  have r3 : z2 I 39 3 (nI f) 2 f = I 2 f := q_zo (by omega)
  obtain ⟨c1, c2, c3⟩ := h.c hn
  have hd := of_decide_eq_true hd
  have h' : q_xt n B (z2 (z2 I 39 3 (nI f)) 39 4 (nI f)) J := h.go (fun d k y => by rw [q_zo (by omega), q_zo (by omega)]) (fun _ _ _ => rfl)
  have hid : z2 (z2 (z2 (z2 I 39 3 (nI f)) 39 4 (nI f)) 39 7 (nI 0)) 39 4 (nI f) = z2 (z2 (z2 I 39 3 (nI f)) 39 4 (nI f)) 39 7 (nI 0) := q_zid (by rw [q_zo (by omega), q_zs])
  have hsn : f_X7_scanNumber (z2 (z2 I 39 3 (nI f)) 39 4 (nI f)) = some (z2 (z2 (z2 (z2 (z2 I 39 3 (nI f)) 39 4 (nI f)) 39 7 (nI (q_va B f (e' - f)))) 39 4 (nI e')) 39 5 (nI (if e' - f ≤ 4 then 5 else 1))) := by
    have s1 : z2 (z2 (z2 (z2 I 39 3 (nI f)) 39 4 (nI f)) 39 7 (nI (q_va B f (e' - f)))) 39 4 (nI e') 39 4 = nI e' := q_zs
    have s2 : z2 (z2 (z2 (z2 I 39 3 (nI f)) 39 4 (nI f)) 39 7 (nI (q_va B f (e' - f)))) 39 4 (nI e') 39 3 = nI f := by rw [q_zo (by omega), q_zo (by omega), q_zo (by omega), q_zs]
    unfold f_X7_scanNumber
    rw [q_zlt, ql_0, ← hid, x7_dig h' (by omega), he', s1, s2, pk_sub hfe]
    by_cases y : e' - f ≤ 4
    · rw [if_pos (show nI (e' - f) ≤ 4 from nI_le y (by decide)), if_pos y, q_zlt]
      rfl
    · rw [if_neg (show ¬ nI (e' - f) ≤ 4 by rw [ql_4, nI_leI (by omega) (by omega)]; exact y), if_neg y, q_zlt]
      rfl
  unfold f_X7_move
  rw [i4, q_zlt, x7_skip h he, hf, q_zlt, r1, r2, if_neg (nI_ge hn (by omega)), if_pos (q_in (by omega) (by decide)), if_pos (nI_lt hn (by omega)), nI_clamp (by omega), r3, if_pos (show I 2 f < 97 from (c2 97 (by omega)).2 (by omega)), if_neg (show ¬ I 2 f < 48 from fun w => by have := (c2 48 (by omega)).1 w; omega), if_neg (show ¬ 57 < I 2 f from fun w => by have := (c3 57 (by omega)).1 w; omega), hsn, q_bs]
theorem x7_mvW {n : Nat} {B : Nat → Nat} {I J : z_I} {L : z_L} (h : q_xt n B I J) (hk : q_rk L) {e f e' : Nat} (he : e ≤ n) (i4 : I 39 4 = nI e) (hf : q_run (q_bl B) (n - e) e = f) (hn : f < n) (hl : q_lo B f = true) (he' : q_run (q_lo B) (n - f) f = e') (hfe : f ≤ e') (hen : e' ≤ n) (hlo : ∀ j, j < e' - f → q_lo B (f + j) = true) : (8 < e' - f → f_X7_move I L = some (z2 (z2 (z2 I 39 3 (nI f)) 39 4 (nI e')) 39 5 (nI 4), z2 L 39 8 (lN (q_co B f (e' - f))))) ∧ (e' - f ≤ 8 → (∀ k, k < 23 → q_co B f (e' - f) = q_kw.getD k 0 → f_X7_move I L = some (z2 (z2 (z2 (z2 (z2 I 39 3 (nI f)) 39 4 (nI e')) 39 5 (nI 3)) 39 5 (nI 2)) 39 6 (nI k), z2 L 39 8 (lN (q_co B f (e' - f))))) ∧ ((∀ k, k < 23 → q_co B f (e' - f) ≠ q_kw.getD k 0) → f_X7_move I L = some (z2 (z2 (z2 I 39 3 (nI f)) 39 4 (nI e')) 39 5 (nI 3), z2 L 39 8 (lN (q_co B f (e' - f)))))) := by
  have h900 := h.1
  have h2 := h.2.1
  have r1 : z2 I 39 3 (nI f) 39 2 = nI n := by rw [q_zo (by omega), h2]
  have r2 : z2 I 39 3 (nI f) 39 3 = nI f := q_zs
  have r3 : z2 I 39 3 (nI f) 2 f = I 2 f := q_zo (by omega)
  obtain ⟨c1, c2, c3⟩ := h.c hn
  have hl := of_decide_eq_true hl
  have h' : q_xt n B (z2 I 39 3 (nI f)) J := h.go (fun d k y => by rw [q_zo (by omega)]) (fun _ _ _ => rfl)
  have s1 : z2 (z2 I 39 3 (nI f)) 39 4 (nI e') 39 4 = nI e' := q_zs
  have s2 : z2 (z2 I 39 3 (nI f)) 39 4 (nI e') 39 3 = nI f := by rw [q_zo (by omega), q_zs]
  have hm : f_X7_move I L = (f_X7_scanWord (z2 (z2 I 39 3 (nI f)) 39 4 (nI f)) L).bind (fun q14 => some (q14.1, q14.2)) := by
    unfold f_X7_move
    rw [i4, q_zlt, x7_skip h he, hf, q_zlt, r1, r2, if_neg (nI_ge hn (by omega)), if_pos (q_in (by omega) (by decide)), if_pos (nI_lt hn (by omega)), nI_clamp (by omega), r3, if_neg (show ¬ I 2 f < 97 from fun w => by have := (c2 97 (by omega)).1 w; omega), if_neg (show ¬ 122 < I 2 f from fun w => by have := (c3 122 (by omega)).1 w; omega)]
  have hw : f_X7_scanWord (z2 (z2 I 39 3 (nI f)) 39 4 (nI f)) L = if nI (e' - f) ≤ 8 then g_X7_scanWord_112 (z2 L 39 8 (lN (q_co B f (e' - f)))) z_fuel (nI 0) (z2 (z2 (z2 I 39 3 (nI f)) 39 4 (nI e')) 39 5 (nI 3)) else some (z2 (z2 (z2 I 39 3 (nI f)) 39 4 (nI e')) 39 5 (nI 4), z2 L 39 8 (lN (q_co B f (e' - f)))) := by
    unfold f_X7_scanWord
    rw [q_zlt, show (0 : Int64) = lN 0 from rfl, x7_low h' (by omega), he', s1, s2, pk_sub hfe, q_zlt, q_zlt, ql_3, ql_4, ql_0]
  rw [hm, hw]
  constructor
  · intro y
    rw [if_neg (show ¬ nI (e' - f) ≤ 8 by rw [ql_8, nI_leI (by omega) (by omega)]; omega), q_bs]
  · intro y
    have h8 := q_co_8 hlo y
    have hk' : q_rk (z2 L 39 8 (lN (q_co B f (e' - f)))) := hk.go (fun k => q_zo (by omega))
    obtain ⟨a1, a2⟩ := x7_keys (I := z2 (z2 (z2 I 39 3 (nI f)) 39 4 (nI e')) 39 5 (nI 3)) hk' h8 q_zs
    rw [if_pos (show nI (e' - f) ≤ 8 from nI_le y (by decide))]
    exact ⟨fun k hk' he => by rw [a1 k hk' he, q_bs], fun hne => by rw [a2 hne, q_bs]⟩
/-! the reference -/
theorem m_mv {n : Nat} {B : Nat → Nat} {I J : z_I} (h : q_xt n B I J) {e f : Nat} (he : e ≤ n) (j14 : J 0 14 = nI e) (hf : q_run (q_bl B) (n - e) e = f) (hfn : f ≤ n) : (f = n → f_X11_ahead J = some (z2 (z2 (z2 (z2 J 0 14 (nI f)) 0 13 (nI f)) 0 15 q_no) 0 12 (nI 0))) ∧ (f < n → q_lo B f = true → ∀ e', q_run (q_lo B) (n - f) f = e' → f_X11_ahead J = some (z2 (z2 (z2 (z2 (z2 J 0 14 (nI f)) 0 13 (nI f)) 0 15 (nI (B f))) 0 14 (nI e')) 0 12 (nI 2))) ∧ (f < n → q_lo B f = false → q_dg B f = true → ∀ e', q_run (q_dg B) (n - f) f = e' → f ≤ e' → e' ≤ n → f_X11_ahead J = some (z2 (z2 (z2 (z2 (z2 (z2 J 0 14 (nI f)) 0 13 (nI f)) 0 15 (nI (B f))) 0 15 (nI (min 100000 (q_va B f (e' - f))))) 0 14 (nI e')) 0 12 (nI (if e' - f ≤ 4 then 3 else 1)))) ∧ (f < n → q_lo B f = false → q_dg B f = false → (q_sgn4 (B f) → f_X11_ahead J = some (z2 (z2 (z2 (z2 (z2 J 0 14 (nI f)) 0 13 (nI f)) 0 15 (nI (B f))) 0 14 (nI (f + 1))) 0 12 (nI 4))) ∧ (¬ q_sgn4 (B f) → f_X11_ahead J = some (z2 (z2 (z2 (z2 (z2 J 0 14 (nI f)) 0 13 (nI f)) 0 15 (nI (B f))) 0 14 (nI (f + 1))) 0 12 (nI 1)))) := by
  have h900 := h.1
  have hid : z2 J 0 14 (nI e) = J := q_zid j14
  have r2 : z2 J 0 14 (nI f) 0 14 = nI f := q_zs
  have h' : q_xt n B I (z2 (z2 J 0 14 (nI f)) 0 13 (nI f)) := h.go (fun _ _ _ => rfl) (fun d k y => by rw [q_zo (by omega), q_zo (by omega)])
  have hc : q_xt n B I (z2 (z2 (z2 J 0 14 (nI f)) 0 13 (nI f)) 0 15 (nI (B f))) := h'.go (fun _ _ _ => rfl) (fun d k y => q_zo (by omega))
  have rc : z2 (z2 (z2 J 0 14 (nI f)) 0 13 (nI f)) 0 15 (nI (B f)) 0 14 = nI f := by rw [q_zo (by omega), q_zo (by omega), q_zs]
  have hsm : B f < 256 → f_X11_isSmall (nI (B f)) = q_lo B f := fun hB => by
    unfold f_X11_isSmall q_lo
    by_cases y1 : B f < 97
    · rw [if_pos (show nI (B f) < 97 by rw [ql_97, nI_ltI (by omega) (by omega)]; exact y1), decide_eq_false (by omega)]
    · rw [if_neg (show ¬ nI (B f) < 97 by rw [ql_97, nI_ltI (by omega) (by omega)]; exact y1)]
      by_cases y2 : 122 < B f
      · rw [if_pos (show 122 < nI (B f) by rw [ql_122, nI_ltI (by omega) (by omega)]; exact y2), decide_eq_false (by omega)]
      · rw [if_neg (show ¬ 122 < nI (B f) by rw [ql_122, nI_ltI (by omega) (by omega)]; exact y2), decide_eq_true (by omega)]
  have hdg : B f < 256 → f_X11_isDigit (nI (B f)) = q_dg B f := fun hB => by
    unfold f_X11_isDigit q_dg
    by_cases y1 : B f < 48
    · rw [if_pos (show nI (B f) < 48 by rw [ql_48, nI_ltI (by omega) (by omega)]; exact y1), decide_eq_false (by omega)]
    · rw [if_neg (show ¬ nI (B f) < 48 by rw [ql_48, nI_ltI (by omega) (by omega)]; exact y1)]
      by_cases y2 : 57 < B f
      · rw [if_pos (show 57 < nI (B f) by rw [ql_57, nI_ltI (by omega) (by omega)]; exact y2), decide_eq_false (by omega)]
      · rw [if_neg (show ¬ 57 < nI (B f) by rw [ql_57, nI_ltI (by omega) (by omega)]; exact y2), decide_eq_true (by omega)]
  unfold f_X11_ahead
  rw [← hid, m_skip h he, hid, hf, q_zlt, r2]
  refine ⟨fun y => ?_, fun hn hl e' he' => ?_, fun hn hl hd e' he' hfe hen => ?_, fun hn hl hd => ?_⟩
  · subst y
    rw [h'.ov, q_bs, q_zlt, if_pos (show q_no = -1 from rfl), q_zlt]
    rfl
  · have hB := (h.2.2.2 f hn).1
    have hne : ¬ nI (B f) = -1 := fun w => (q_nno (by omega)).1 w
    rw [h'.by hn, q_bs, q_zlt, if_neg hne, hsm hB, hl, if_pos rfl, m_low hc hfn rc, he']
  · have hB := (h.2.2.2 f hn).1
    have hne : ¬ nI (B f) = -1 := fun w => (q_nno (by omega)).1 w
    have hid2 : z2 (z2 (z2 (z2 (z2 J 0 14 (nI f)) 0 13 (nI f)) 0 15 (nI (B f))) 0 15 (nI 0)) 0 14 (nI f) = z2 (z2 (z2 (z2 J 0 14 (nI f)) 0 13 (nI f)) 0 15 (nI (B f))) 0 15 (nI 0) := q_zid (by rw [q_zo (by omega), rc])
    have s1 : z2 (z2 (z2 (z2 (z2 J 0 14 (nI f)) 0 13 (nI f)) 0 15 (nI (B f))) 0 15 (nI (min 100000 (q_va B f (e' - f))))) 0 14 (nI e') 0 14 = nI e' := q_zs
    have s2 : z2 (z2 (z2 (z2 (z2 J 0 14 (nI f)) 0 13 (nI f)) 0 15 (nI (B f))) 0 15 (nI (min 100000 (q_va B f (e' - f))))) 0 14 (nI e') 0 13 = nI f := by rw [q_zo (by omega), q_zo (by omega), q_zo (by omega), q_zs]
    rw [h'.by hn, q_bs, q_zlt, if_neg hne, hsm hB, hl, if_neg (by decide), hdg hB, hd, if_pos rfl, q_zlt, ql_0, ← hid2, m_dig hc hfn, he', s1, s2, pk_sub hfe]
    by_cases y : e' - f ≤ 4
    · rw [if_pos (show nI (e' - f) ≤ 4 from nI_le y (by decide)), if_pos y, q_zlt]
      rfl
    · rw [if_neg (show ¬ nI (e' - f) ≤ 4 by rw [ql_4, nI_leI (by omega) (by omega)]; exact y), if_neg y, q_zlt]
      rfl
  · have hB := (h.2.2.2 f hn).1
    have hne : ¬ nI (B f) = -1 := fun w => (q_nno (by omega)).1 w
    rw [h'.by hn, q_bs, q_zlt, if_neg hne, hsm hB, hl, if_neg (by decide), hdg hB, hd, if_neg (by decide), q_zlt, ql_1, nI_add]
    constructor
    · intro hs
      unfold q_sgn4 at hs
      by_cases y1 : B f = 59
      · rw [if_pos (show nI (B f) = 59 by rw [y1]; rfl), q_zlt]
        rfl
      · rw [if_neg (show ¬ nI (B f) = 59 by rw [ql_59, nI_eq (by omega) (by omega)]; exact y1)]
        by_cases y2 : B f = 60
        · rw [if_pos (show nI (B f) = 60 by rw [y2]; rfl), q_zlt]
          rfl
        · rw [if_neg (show ¬ nI (B f) = 60 by rw [ql_60, nI_eq (by omega) (by omega)]; exact y2)]
          by_cases y3 : B f = 62
          · rw [if_pos (show nI (B f) = 62 by rw [y3]; rfl), q_zlt]
            rfl
          · rw [if_neg (show ¬ nI (B f) = 62 by rw [ql_62, nI_eq (by omega) (by omega)]; exact y3), if_pos (show nI (B f) = 61 by rw [show B f = 61 by omega]; rfl), q_zlt]
            rfl
    · intro hs
      unfold q_sgn4 at hs
      rw [if_neg (show ¬ nI (B f) = 59 by rw [ql_59, nI_eq (by omega) (by omega)]; omega), if_neg (show ¬ nI (B f) = 60 by rw [ql_60, nI_eq (by omega) (by omega)]; omega), if_neg (show ¬ nI (B f) = 62 by rw [ql_62, nI_eq (by omega) (by omega)]; omega), if_neg (show ¬ nI (B f) = 61 by rw [ql_61, nI_eq (by omega) (by omega)]; omega), q_zlt]
theorem q_move {n : Nat} {B : Nat → Nat} {I J : z_I} {L : z_L} (h : q_xt n B I J) (hk : q_rk L) {e : Nat} (he : e ≤ n) (i4 : I 39 4 = nI e) (j14 : J 0 14 = nI e) : ∃ I' L' J' f' e' kd va, f_X7_move I L = some (I', L') ∧ f_X11_ahead J = some J' ∧ q_ls n B f' e' kd va I' L' J' ∧ e ≤ f' ∧ (∀ d k, d ≠ 39 ∨ k < 3 ∨ 7 < k → I' d k = I d k) ∧ (∀ d k, d ≠ 39 ∨ k ≠ 8 → L' d k = L d k) ∧ (∀ d k, d ≠ 0 ∨ k < 12 ∨ 15 < k → J' d k = J d k) := by
  have h900 := h.1
  obtain ⟨p1, p2, p3, p4⟩ := q_run_p (q_bl B) (n - e) e
  generalize hf : q_run (q_bl B) (n - e) e = f at p1 p2 p3 p4
  have hfn : f ≤ n := by omega
  obtain ⟨mE, mW, mD, mS⟩ := m_mv h he j14 hf hfn
  have pack : ∀ {I' : z_I} {L' : z_L} {J' : z_I} {e' kd va : Nat}, f_X7_move I L = some (I', L') → f_X11_ahead J = some J' → q_kt n B f e' kd va I' L' J' → (∀ d k, d ≠ 39 ∨ k < 3 ∨ 7 < k → I' d k = I d k) → (∀ d k, d ≠ 39 ∨ k ≠ 8 → L' d k = L d k) → (∀ d k, d ≠ 0 ∨ k < 12 ∨ 15 < k → J' d k = J d k) → ∃ I' L' J' f' e' kd va, f_X7_move I L = some (I', L') ∧ f_X11_ahead J = some J' ∧ q_ls n B f' e' kd va I' L' J' ∧ e ≤ f' ∧ (∀ d k, d ≠ 39 ∨ k < 3 ∨ 7 < k → I' d k = I d k) ∧ (∀ d k, d ≠ 39 ∨ k ≠ 8 → L' d k = L d k) ∧ (∀ d k, d ≠ 0 ∨ k < 12 ∨ 15 < k → J' d k = J d k) := fun eX eM hk fI fL fJ => ⟨_, _, _, f, _, _, _, eX, eM, ⟨h.go (fun d k y => fI d k (by omega)) (fun d k y => fJ d k (by omega)), hk⟩, p1, fI, fL, fJ⟩
  by_cases hend : f = n
  · have eX := x7_mvE (L := L) h he i4 (hf.trans hend)
    have eM := mE hend
    rw [hend] at eM
    refine pack (e' := n) (kd := 0) (va := 0) eX eM ?_ (fun d k y => by rw [q_zo (by omega), q_zo (by omega), q_zo (by omega)]) (fun _ _ _ => rfl) (fun d k y => by rw [q_zo (by omega), q_zo (by omega), q_zo (by omega), q_zo (by omega)])
    refine ⟨⟨by omega, Nat.le_refl _, ?_, ?_, ?_, ?_⟩, ⟨by omega, q_zs, q_zs⟩, fun y => absurd rfl y, fun _ => hend, fun y => by omega, fun y => by omega, fun y => by omega, fun y => by omega, fun y => by omega, fun y => by omega, fun y => by omega⟩
    · rw [q_zo (by omega), q_zo (by omega), q_zs, hend]
    · rw [q_zo (by omega), q_zs]
    · rw [q_zo (by omega), q_zo (by omega), q_zs, hend]
    · rw [q_zo (by omega), q_zo (by omega), q_zo (by omega), q_zs]
  have hn : f < n := by omega
  have hB := (h.2.2.2 f hn).1
  cases hl : q_lo B f with
  | true =>
    obtain ⟨s1, s2, s3, s4⟩ := q_run_p (q_lo B) (n - f) f
    generalize he' : q_run (q_lo B) (n - f) f = e' at s1 s2 s3 s4
    have hlt : f < e' := Nat.lt_of_le_of_ne s1 (fun y => by
      have := s4 (by omega)
      rw [← y, hl] at this; cases this)
    have hlo : ∀ j, j < e' - f → q_lo B (f + j) = true := fun j hj => s3 (f + j) (by omega) (by omega)
    have eM := mW hn hl e' he'
    obtain ⟨xL, xS⟩ := x7_mvW h hk he i4 hf hn hl he' s1 (by omega) hlo
    have fJ : ∀ d k, d ≠ 0 ∨ k < 12 ∨ 15 < k → z2 (z2 (z2 (z2 (z2 J 0 14 (nI f)) 0 13 (nI f)) 0 15 (nI (B f))) 0 14 (nI e')) 0 12 (nI 2) d k = J d k := fun d k y => by rw [q_zo (by omega), q_zo (by omega), q_zo (by omega), q_zo (by omega), q_zo (by omega)]
    have j13' : z2 (z2 (z2 (z2 (z2 J 0 14 (nI f)) 0 13 (nI f)) 0 15 (nI (B f))) 0 14 (nI e')) 0 12 (nI 2) 0 13 = nI f := by rw [q_zo (by omega), q_zo (by omega), q_zo (by omega), q_zs]
    have j14' : z2 (z2 (z2 (z2 (z2 J 0 14 (nI f)) 0 13 (nI f)) 0 15 (nI (B f))) 0 14 (nI e')) 0 12 (nI 2) 0 14 = nI e' := by rw [q_zo (by omega), q_zs]
    by_cases y8 : 8 < e' - f
    · refine pack (e' := e') (kd := 4) (va := 0) (xL y8) eM ?_ (fun d k y => by rw [q_zo (by omega), q_zo (by omega), q_zo (by omega)]) (fun d k y => q_zo (by omega)) fJ
      refine ⟨⟨s1, by omega, ?_, ?_, j13', j14'⟩, ⟨by omega, q_zs, q_zs⟩, fun _ => hlt, fun y => by omega, fun _ => hlo, fun y => by omega, fun y => by omega, fun _ k hk y => ?_, fun _ => y8, fun y => by omega, fun y => by omega⟩
      · rw [q_zo (by omega), q_zo (by omega), q_zs]
      · rw [q_zo (by omega), q_zs]
      · obtain ⟨e1, e2, -⟩ := q_kwE k hk
        have := (q_co_i (e' - f) (q_kL (q_pi k)) hlo (q_kLo _ e2) (y.trans e1)).1
        have := (q_kSL _ e2).2.2.1
        omega
    · obtain ⟨xK, xN⟩ := xS (by omega)
      by_cases hx : ∃ k, k < 23 ∧ q_co B f (e' - f) = q_kw.getD k 0
      · obtain ⟨k, hk23, hke⟩ := hx
        refine pack (e' := e') (kd := 2) (va := k) (xK k hk23 hke) eM ?_ (fun d k y => by rw [q_zo (by omega), q_zo (by omega), q_zo (by omega), q_zo (by omega), q_zo (by omega)]) (fun d k y => q_zo (by omega)) fJ
        refine ⟨⟨s1, by omega, ?_, ?_, j13', j14'⟩, ⟨by omega, ?_, q_zs⟩, fun _ => hlt, fun y => by omega, fun _ => hlo, fun _ => ⟨hk23, q_zs, hke⟩, fun y => by omega, fun y => by omega, fun y => by omega, fun y => by omega, fun y => by omega⟩
        · rw [q_zo (by omega), q_zo (by omega), q_zo (by omega), q_zo (by omega), q_zs]
        · rw [q_zo (by omega), q_zo (by omega), q_zo (by omega), q_zs]
        · rw [q_zo (by omega), q_zs]
      · have hne : ∀ k, k < 23 → q_co B f (e' - f) ≠ q_kw.getD k 0 := fun k hk y => hx ⟨k, hk, y⟩
        refine pack (e' := e') (kd := 3) (va := q_co B f (e' - f)) (xN hne) eM ?_ (fun d k y => by rw [q_zo (by omega), q_zo (by omega), q_zo (by omega)]) (fun d k y => q_zo (by omega)) fJ
        refine ⟨⟨s1, by omega, ?_, ?_, j13', j14'⟩, ⟨by omega, q_zs, q_zs⟩, fun _ => hlt, fun y => by omega, fun _ => hlo, fun y => by omega, fun _ => ⟨by omega, q_zs, rfl⟩, fun _ => hne, fun y => by omega, fun y => by omega, fun y => by omega⟩
        · rw [q_zo (by omega), q_zo (by omega), q_zs]
        · rw [q_zo (by omega), q_zs]
  | false =>
    cases hd : q_dg B f with
    | true =>
      obtain ⟨s1, s2, s3, s4⟩ := q_run_p (q_dg B) (n - f) f
      generalize he' : q_run (q_dg B) (n - f) f = e' at s1 s2 s3 s4
      have hlt : f < e' := Nat.lt_of_le_of_ne s1 (fun y => by
        have := s4 (by omega)
        rw [← y, hd] at this; cases this)
      have eM := mD hn hl hd e' he' s1 (by omega)
      have eX := x7_mvD (L := L) h he i4 hf hn hd he' s1 (by omega)
      by_cases y4 : e' - f ≤ 4
      · rw [if_pos y4] at eM eX
        have hva := q_va_lt (B := B) (f := f) (e' - f) (fun j hj => s3 (f + j) (by omega) (by omega))
        have hv4 : 10 ^ (e' - f) ≤ 10 ^ 4 := Nat.pow_le_pow_right (by decide) y4
        have hmin : min 100000 (q_va B f (e' - f)) = q_va B f (e' - f) := by omega
        rw [hmin] at eM
        refine pack (e' := e') (kd := 5) (va := q_va B f (e' - f)) eX eM ?_ (fun d k y => by rw [q_zo (by omega), q_zo (by omega), q_zo (by omega), q_zo (by omega), q_zo (by omega)]) (fun _ _ _ => rfl) (fun d k y => by rw [q_zo (by omega), q_zo (by omega), q_zo (by omega), q_zo (by omega), q_zo (by omega), q_zo (by omega)])
        refine ⟨⟨s1, by omega, ?_, ?_, ?_, ?_⟩, ⟨by omega, q_zs, q_zs⟩, fun _ => hlt, fun y => by omega, fun y => by omega, fun y => by omega, fun y => by omega, fun y => by omega, fun y => by omega, fun _ => ⟨by omega, ?_, ?_⟩, fun y => by omega⟩
        · rw [q_zo (by omega), q_zo (by omega), q_zo (by omega), q_zo (by omega), q_zs]
        · rw [q_zo (by omega), q_zs]
        · rw [q_zo (by omega), q_zo (by omega), q_zo (by omega), q_zo (by omega), q_zs]
        · rw [q_zo (by omega), q_zs]
        · rw [q_zo (by omega), q_zo (by omega), q_zs]
        · rw [q_zo (by omega), q_zo (by omega), q_zs]
      · rw [if_neg y4] at eM eX
        refine pack (e' := e') (kd := 1) (va := 0) eX eM ?_ (fun d k y => by rw [q_zo (by omega), q_zo (by omega), q_zo (by omega), q_zo (by omega), q_zo (by omega)]) (fun _ _ _ => rfl) (fun d k y => by rw [q_zo (by omega), q_zo (by omega), q_zo (by omega), q_zo (by omega), q_zo (by omega), q_zo (by omega)])
        refine ⟨⟨s1, by omega, ?_, ?_, ?_, ?_⟩, ⟨by omega, q_zs, q_zs⟩, fun _ => hlt, fun y => by omega, fun y => by omega, fun y => by omega, fun y => by omega, fun y => by omega, fun y => by omega, fun y => by omega, fun y => by omega⟩
        · rw [q_zo (by omega), q_zo (by omega), q_zo (by omega), q_zo (by omega), q_zs]
        · rw [q_zo (by omega), q_zs]
        · rw [q_zo (by omega), q_zo (by omega), q_zo (by omega), q_zo (by omega), q_zs]
        · rw [q_zo (by omega), q_zs]
    | false =>
      obtain ⟨xS, xB⟩ := x7_mvS (L := L) h he i4 hf hn hl hd
      obtain ⟨mS1, mB1⟩ := mS hn hl hd
      by_cases ys : q_sgn4 (B f)
      · refine pack (e' := f + 1) (kd := 6) (va := B f) (xS ys) (mS1 ys) ?_ (fun d k y => by rw [q_zo (by omega), q_zo (by omega), q_zo (by omega), q_zo (by omega), q_zo (by omega)]) (fun _ _ _ => rfl) (fun d k y => by rw [q_zo (by omega), q_zo (by omega), q_zo (by omega), q_zo (by omega), q_zo (by omega)])
        refine ⟨⟨by omega, by omega, ?_, ?_, ?_, ?_⟩, ⟨by omega, ?_, q_zs⟩, fun _ => by omega, fun y => by omega, fun y => by omega, fun y => by omega, fun y => by omega, fun y => by omega, fun y => by omega, fun y => by omega, fun _ => ⟨ys, ?_, ?_⟩⟩
        · rw [q_zo (by omega), q_zo (by omega), q_zo (by omega), q_zo (by omega), q_zs]
        · exact q_zs
        · rw [q_zo (by omega), q_zo (by omega), q_zo (by omega), q_zs]
        · rw [q_zo (by omega), q_zs]
        · rw [q_zo (by omega), q_zs]
        · rw [q_zo (by omega), q_zo (by omega), q_zs]
        · rw [q_zo (by omega), q_zo (by omega), q_zs]
      · refine pack (e' := f + 1) (kd := 1) (va := 0) (xB ys) (mB1 ys) ?_ (fun d k y => by rw [q_zo (by omega), q_zo (by omega), q_zo (by omega), q_zo (by omega), q_zo (by omega)]) (fun _ _ _ => rfl) (fun d k y => by rw [q_zo (by omega), q_zo (by omega), q_zo (by omega), q_zo (by omega), q_zo (by omega)])
        refine ⟨⟨by omega, by omega, ?_, ?_, ?_, ?_⟩, ⟨by omega, ?_, q_zs⟩, fun _ => by omega, fun y => by omega, fun y => by omega, fun y => by omega, fun y => by omega, fun y => by omega, fun y => by omega, fun y => by omega, fun y => by omega⟩
        · rw [q_zo (by omega), q_zo (by omega), q_zo (by omega), q_zo (by omega), q_zs]
        · exact q_zs
        · rw [q_zo (by omega), q_zo (by omega), q_zo (by omega), q_zs]
        · rw [q_zo (by omega), q_zs]
        · rw [q_zo (by omega), q_zs]
