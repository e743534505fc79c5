/-! one token more -/
def q_kt (n : Nat) (B : Nat → Nat) (f e kd va : Nat) (I : z_I) (L : z_L) (J : z_I) : Prop := (f ≤ e ∧ e ≤ n ∧ I 39 3 = nI f ∧ I 39 4 = nI e ∧ J 0 13 = nI f ∧ J 0 14 = nI e) ∧ (kd ≤ 6 ∧ I 39 5 = nI kd ∧ J 0 12 = nI (q_jk kd)) ∧ (kd ≠ 0 → f < e) ∧ (kd = 0 → f = n) ∧ (kd = 2 ∨ kd = 3 ∨ kd = 4 → ∀ j, j < e - f → q_lo B (f + j) = true) ∧ (kd = 2 → va < 23 ∧ I 39 6 = nI va ∧ q_co B f (e - f) = q_kw.getD va 0) ∧ (kd = 3 → e - f ≤ 8 ∧ L 39 8 = lN va ∧ va = q_co B f (e - f)) ∧ (kd = 3 ∨ kd = 4 → ∀ k, k < 23 → q_co B f (e - f) ≠ q_kw.getD k 0) ∧ (kd = 4 → 8 < e - f) ∧ (kd = 5 → va ≤ 9999 ∧ I 39 7 = nI va ∧ J 0 15 = nI va) ∧ (kd = 6 → (va = 59 ∨ va = 60 ∨ va = 61 ∨ va = 62) ∧ I 39 7 = nI va ∧ J 0 15 = nI va)
/-- what isn't looked at by the tokens -/
def q_fI (I I' : z_I) : Prop := ∀ d k, d = 2 ∨ (d = 39 ∧ 2 ≤ k ∧ k ≤ 7) → I' d k = I d k
def q_fJ (J J' : z_I) : Prop := ∀ d k, d = 7 ∨ (d = 0 ∧ 11 ≤ k ∧ k ≤ 15) → J' d k = J d k
theorem q_xt.go {n : Nat} {B : Nat → Nat} {I J I' J' : z_I} (h : q_xt n B I J) (hI : ∀ d k, d = 2 ∨ (d = 39 ∧ k = 2) → I' d k = I d k) (hJ : ∀ d k, d = 7 ∨ (d = 0 ∧ k = 11) → J' d k = J d k) : q_xt n B I' J' := by
  obtain ⟨h1, h2, h3, h4⟩ := h
  exact ⟨h1, by rw [hI 39 2 (by omega), h2], by rw [hJ 0 11 (by omega), h3], fun k hk => by rw [hI 2 k (by omega), hJ 7 k (by omega)]; exact h4 k hk⟩
theorem q_kt.go {n : Nat} {B : Nat → Nat} {f e kd va : Nat} {I : z_I} {L : z_L} {J : z_I} (h : q_kt n B f e kd va I L J) {I' : z_I} {L' : z_L} {J' : z_I} (hI : q_fI I I') (hL : L' 39 8 = L 39 8) (hJ : q_fJ J J') : q_kt n B f e kd va I' L' J' := by
  obtain ⟨⟨a1, a2, a3, a4, a5, a6⟩, ⟨b1, b2, b3⟩, c1, c2, c3, c4, c5, c6, c7, c8, c9⟩ := h
  refine ⟨⟨a1, a2, by rw [hI _ _ (by omega), a3], by rw [hI _ _ (by omega), a4], by rw [hJ _ _ (by omega), a5], by rw [hJ _ _ (by omega), a6]⟩, ⟨b1, by rw [hI _ _ (by omega), b2], by rw [hJ _ _ (by omega), b3]⟩, c1, c2, c3, fun y => ?_, fun y => ?_, c6, c7, fun y => ?_, fun y => ?_⟩
  · rw [hI _ _ (by omega)]; exact c4 y
  · rw [hL]; exact c5 y
  · rw [hI _ _ (by omega), hJ _ _ (by omega)]; exact c8 y
  · rw [hI _ _ (by omega), hJ _ _ (by omega)]; exact c9 y
/-- text and token -/
def q_ls (n : Nat) (B : Nat → Nat) (f e kd va : Nat) (I : z_I) (L : z_L) (J : z_I) : Prop := q_xt n B I J ∧ q_kt n B f e kd va I L J
theorem q_ls.go {n : Nat} {B : Nat → Nat} {f e kd va : Nat} {I : z_I} {L : z_L} {J : z_I} (h : q_ls n B f e kd va I L J) {I' : z_I} {L' : z_L} {J' : z_I} (hI : q_fI I I') (hL : L' 39 8 = L 39 8) (hJ : q_fJ J J') : q_ls n B f e kd va I' L' J' := ⟨h.1.go (fun d k y => hI d k (by omega)) (fun d k y => hJ d k (by omega)), h.2.go hI hL hJ⟩
/-- blanks -/
theorem x7_skip {n : Nat} {B : Nat → Nat} {I J : z_I} {L : z_L} (h : q_xt n B I J) {e : Nat} (he : e ≤ n) (k60 : z_I → Option (z_I × z_L)) : g_X7_move_8 L k60 z_fuel (z2 I 39 3 (nI e)) = k60 (z2 I 39 3 (nI (q_run (q_bl B) (n - e) e))) := by
  have h900 := h.1
  have h2 := h.2.1
  refine q_lpR (G := fun fu (a : z_I) => g_X7_move_8 L k60 fu a) (n := n) (p0 := 0) (r := fun p => k60 (z2 I 39 3 (nI p))) (q_bl B) (fun p => z2 I 39 3 (nI p)) (fun fu p _ hp hb => ?_) (fun fu p _ hp hb => ?_) (n - e) e z_fuel (Nat.zero_le _) (by omega) (q_fu (by omega))
  · show g_X7_move_8 L k60 (fu + 1) (z2 I 39 3 (nI p)) = g_X7_move_8 L k60 fu (z2 I 39 3 (nI (p + 1)))
    have hb := of_decide_eq_true hb
    obtain ⟨c1, -, -⟩ := h.c hp
    have r1 : z2 I 39 3 (nI p) 39 2 = nI n := by rw [q_zo (by omega), h2]
    have r2 : z2 I 39 3 (nI p) 2 p = I 2 p := q_zo (by omega)
    have r3 : z2 I 39 3 (nI p) 39 3 = nI p := q_zs
    rw [g_X7_move_8, r1, r3, if_neg (nI_ge hp (by omega)), if_pos (q_in (by omega) (by decide)), nI_clamp (by omega), r2]
    by_cases y : B p = 10
    · rw [if_pos (show I 2 p = 10 from (c1 10 (by omega)).2 y), q_zlt, q_zz1, ql_1, nI_add]
    · rw [if_neg (show ¬ I 2 p = 10 from fun w => y ((c1 10 (by omega)).1 w)), if_pos (show I 2 p = 32 from (c1 32 (by omega)).2 (by omega)), q_zlt, q_zz1, ql_1, nI_add]
  · show g_X7_move_8 L k60 (fu + 1) (z2 I 39 3 (nI p)) = k60 (z2 I 39 3 (nI p))
    have r1 : z2 I 39 3 (nI p) 39 2 = nI n := by rw [q_zo (by omega), h2]
    have r2 : z2 I 39 3 (nI p) 2 p = I 2 p := q_zo (by omega)
    have r3 : z2 I 39 3 (nI p) 39 3 = nI p := q_zs
    rw [g_X7_move_8, r1, r3]
    by_cases y : p = n
    · rw [if_pos (nI_le (by omega) (by omega))]
    · have hb : q_bl B p = false := by rcases hb with w | w; exact absurd w y; exact w
      have hb := of_decide_eq_false hb
      obtain ⟨c1, -, -⟩ := h.c (p := p) (by omega)
      rw [if_neg (nI_ge (by omega) (by omega)), if_pos (q_in (by omega) (by decide)), nI_clamp (by omega), r2, if_neg (show ¬ I 2 p = 10 from fun w => hb (Or.inl ((c1 10 (by omega)).1 w))), if_neg (show ¬ I 2 p = 32 from fun w => hb (Or.inr ((c1 32 (by omega)).1 w)))]
theorem m_skip {n : Nat} {B : Nat → Nat} {I J : z_I} (h : q_xt n B I J) {e : Nat} (he : e ≤ n) (k39 : z_I → Option z_I) : g_X11_ahead_0 k39 z_fuel (z2 J 0 14 (nI e)) = k39 (z2 J 0 14 (nI (q_run (q_bl B) (n - e) e))) := by
  have h900 := h.1
  refine q_lpR (G := fun fu (a : z_I) => g_X11_ahead_0 k39 fu a) (n := n) (p0 := 0) (r := fun p => k39 (z2 J 0 14 (nI p))) (q_bl B) (fun p => z2 J 0 14 (nI p)) (fun fu p _ hp hb => ?_) (fun fu p _ hp hb => ?_) (n - e) e z_fuel (Nat.zero_le _) (by omega) (q_fu (by omega))
  · show g_X11_ahead_0 k39 (fu + 1) (z2 J 0 14 (nI p)) = g_X11_ahead_0 k39 fu (z2 J 0 14 (nI (p + 1)))
    have hb := of_decide_eq_true hb
    have h' : q_xt n B I (z2 J 0 14 (nI p)) := h.go (fun _ _ _ => rfl) (fun d k y => q_zo (by omega))
    have r3 : z2 J 0 14 (nI p) 0 14 = nI p := q_zs
    have hB := (h.2.2.2 p hp).1
    rw [g_X11_ahead_0, r3, h'.by hp, q_bs]
    by_cases y : B p = 32
    · rw [if_pos (show nI (B p) = 32 by rw [y]; rfl), q_zlt, q_zz1, ql_1, nI_add]
    · rw [if_neg (show ¬ nI (B p) = 32 by rw [ql_32, nI_eq (by omega) (by omega)]; exact y), q_bs, if_pos (show nI (B p) = 10 by rw [show B p = 10 by omega]; rfl), q_zlt, q_zz1, ql_1, nI_add]
  · show g_X11_ahead_0 k39 (fu + 1) (z2 J 0 14 (nI p)) = k39 (z2 J 0 14 (nI p))
    have h' : q_xt n B I (z2 J 0 14 (nI p)) := h.go (fun _ _ _ => rfl) (fun d k y => q_zo (by omega))
    have r3 : z2 J 0 14 (nI p) 0 14 = nI p := q_zs
    rw [g_X11_ahead_0, r3]
    by_cases y : p = n
    · subst y
      rw [h'.ov, q_bs, if_neg (by decide), q_bs, if_neg (by decide)]
    · have hb : q_bl B p = false := by rcases hb with w | w; exact absurd w y; exact w
      have hb := of_decide_eq_false hb
      have hB := (h.2.2.2 p (by omega)).1
      rw [h'.by (by omega), q_bs, if_neg (show ¬ nI (B p) = 32 by rw [ql_32, nI_eq (by omega) (by omega)]; omega), q_bs, if_neg (show ¬ nI (B p) = 10 by rw [ql_10, nI_eq (by omega) (by omega)]; omega)]
/-- letters -/
theorem x7_low {n : Nat} {B : Nat → Nat} {I J : z_I} {L : z_L} (h : q_xt n B I J) {f : Nat} (hf : f ≤ n) (k85 : z_I → z_L → Option (z_I × z_L)) : g_X7_scanWord_5 k85 z_fuel (z2 I 39 4 (nI f)) (z2 L 39 8 (lN 0)) = k85 (z2 I 39 4 (nI (q_run (q_lo B) (n - f) f))) (z2 L 39 8 (lN (q_co B f (q_run (q_lo B) (n - f) f - f)))) := by
  have h900 := h.1
  have h2 := h.2.1
  have key := q_lpR (G := fun fu (a : z_I × z_L) => g_X7_scanWord_5 k85 fu a.1 a.2) (n := n) (p0 := f) (r := fun p => k85 (z2 I 39 4 (nI p)) (z2 L 39 8 (lN (q_co B f (p - f))))) (q_lo B) (fun p => (z2 I 39 4 (nI p), z2 L 39 8 (lN (q_co B f (p - f))))) (fun fu p hp0 hp hb => by
    show g_X7_scanWord_5 k85 (fu + 1) (z2 I 39 4 (nI p)) (z2 L 39 8 (lN (q_co B f (p - f)))) = g_X7_scanWord_5 k85 fu (z2 I 39 4 (nI (p + 1))) (z2 L 39 8 (lN (q_co B f (p + 1 - f))))
    have hb := of_decide_eq_true hb
    obtain ⟨-, c2, c3⟩ := h.c hp
    have r1 : z2 I 39 4 (nI p) 39 2 = nI n := by rw [q_zo (by omega), h2]
    have r2 : z2 I 39 4 (nI p) 2 p = I 2 p := q_zo (by omega)
    have r3 : z2 I 39 4 (nI p) 39 4 = nI p := q_zs
    have r4 : z2 L 39 8 (lN (q_co B f (p - f))) 39 8 = lN (q_co B f (p - f)) := q_zs
    have rB := (h.2.2.2 p hp).2.1 (by omega)
    have e1 : p + 1 - f = (p - f) + 1 := by omega
    have e2 : f + (p - f) = p := by omega
    rw [e1, q_co, e2, g_X7_scanWord_5, r1, r3, if_neg (nI_ge hp (by omega)), if_pos (q_in (by omega) (by decide)), nI_clamp (by omega), r2, if_neg (show ¬ I 2 p < 97 from fun w => by have := (c2 97 (by omega)).1 w; omega), if_neg (show ¬ 122 < I 2 p from fun w => by have := (c3 122 (by omega)).1 w; omega), q_zlt, q_zlt, q_zz1, q_zz1, r4, rB, ql_97, ql_1, pk_sub (by omega), nI_add, nI_add, nI_l (by omega), show (27 : Int64) = lN 27 from rfl, lN_mul, lN_add, show B p - 97 + 1 = B p - 96 by omega]) (fun fu p hp0 hp hb => by
    show g_X7_scanWord_5 k85 (fu + 1) (z2 I 39 4 (nI p)) (z2 L 39 8 (lN (q_co B f (p - f)))) = k85 (z2 I 39 4 (nI p)) (z2 L 39 8 (lN (q_co B f (p - f))))
    have r1 : z2 I 39 4 (nI p) 39 2 = nI n := by rw [q_zo (by omega), h2]
    have r2 : z2 I 39 4 (nI p) 2 p = I 2 p := q_zo (by omega)
    have r3 : z2 I 39 4 (nI p) 39 4 = nI p := q_zs
    rw [g_X7_scanWord_5, r1, r3]
    by_cases y : p = n
    · rw [if_pos (nI_le (by omega) (by omega))]
    · have hb : q_lo B p = false := by rcases hb with w | w; exact absurd w y; exact w
      have hb := of_decide_eq_false hb
      obtain ⟨-, c2, c3⟩ := h.c (p := p) (by omega)
      rw [if_neg (nI_ge (by omega) (by omega)), if_pos (q_in (by omega) (by decide)), nI_clamp (by omega), r2]
      by_cases w : B p < 97 ∨ 128 ≤ B p
      · rw [if_pos (show I 2 p < 97 from (c2 97 (by omega)).2 w)]
      · rw [if_neg (show ¬ I 2 p < 97 from fun v => w ((c2 97 (by omega)).1 v)), if_pos (show 122 < I 2 p from (c3 122 (by omega)).2 (by omega))]) (n - f) f z_fuel (Nat.le_refl _) (by omega) (q_fu (by omega))
  have e0 : q_co B f (f - f) = 0 := by rw [Nat.sub_self]; rfl
  simp only [e0] at key
  exact key
theorem m_low {n : Nat} {B : Nat → Nat} {I J : z_I} (h : q_xt n B I J) {f : Nat} (hf : f ≤ n) (hJ : J 0 14 = nI f) : g_X11_ahead_81 z_fuel J = some (z2 (z2 J 0 14 (nI (q_run (q_lo B) (n - f) f))) 0 12 (nI 2)) := by
  have h900 := h.1
  have key := q_lpR (G := fun fu (a : z_I) => g_X11_ahead_81 fu a) (n := n) (p0 := f) (r := fun p => some (z2 (z2 J 0 14 (nI p)) 0 12 (nI 2))) (q_lo B) (fun p => z2 J 0 14 (nI p)) (fun fu p hp0 hp hb => by
    show g_X11_ahead_81 (fu + 1) (z2 J 0 14 (nI p)) = g_X11_ahead_81 fu (z2 J 0 14 (nI (p + 1)))
    have hb := of_decide_eq_true hb
    have h' : q_xt n B I (z2 J 0 14 (nI p)) := h.go (fun _ _ _ => rfl) (fun d k y => q_zo (by omega))
    have r3 : z2 J 0 14 (nI p) 0 14 = nI p := q_zs
    have hs : f_X11_isSmall (nI (B p)) = true := by
      unfold f_X11_isSmall
      rw [if_neg (show ¬ nI (B p) < 97 by rw [ql_97, nI_ltI (by omega) (by omega)]; omega), if_neg (show ¬ 122 < nI (B p) by rw [ql_122, nI_ltI (by omega) (by omega)]; omega)]
    rw [g_X11_ahead_81, r3, h'.by hp, q_bs, hs, if_pos rfl, q_zlt, q_zz1, ql_1, nI_add]) (fun fu p hp0 hp hb => by
    show g_X11_ahead_81 (fu + 1) (z2 J 0 14 (nI p)) = some (z2 (z2 J 0 14 (nI p)) 0 12 (nI 2))
    have h' : q_xt n B I (z2 J 0 14 (nI p)) := h.go (fun _ _ _ => rfl) (fun d k y => q_zo (by omega))
    have r3 : z2 J 0 14 (nI p) 0 14 = nI p := q_zs
    rw [g_X11_ahead_81, r3]
    by_cases y : p = n
    · subst y
      rw [h'.ov, q_bs, if_neg (by decide), q_zlt]
      rfl
    · have hb : q_lo B p = false := by rcases hb with w | w; exact absurd w y; exact w
      have hb := of_decide_eq_false hb
      have hB := (h.2.2.2 p (by omega)).1
      have hs : f_X11_isSmall (nI (B p)) = false := by
        unfold f_X11_isSmall
        by_cases w : B p < 97
        · rw [if_pos (show nI (B p) < 97 by rw [ql_97, nI_ltI (by omega) (by omega)]; exact w)]
        · rw [if_neg (show ¬ nI (B p) < 97 by rw [ql_97, nI_ltI (by omega) (by omega)]; exact w), if_pos (show 122 < nI (B p) by rw [ql_122, nI_ltI (by omega) (by omega)]; omega)]
      rw [h'.by (by omega), q_bs, hs, if_neg (by decide), q_zlt]
      rfl) (n - f) f z_fuel (Nat.le_refl _) (by omega) (q_fu (by omega))
  have hid : z2 J 0 14 (nI f) = J := q_zid hJ
  rw [← key]
  show g_X11_ahead_81 z_fuel J = g_X11_ahead_81 z_fuel (z2 J 0 14 (nI f))
  rw [hid]
/-- digits -/
theorem x7_dig {n : Nat} {B : Nat → Nat} {I J : z_I} (h : q_xt n B I J) {f : Nat} (hf : f ≤ n) (k81 : z_I → Option z_I) : g_X7_scanNumber_5 k81 z_fuel (z2 (z2 I 39 7 (nI 0)) 39 4 (nI f)) = k81 (z2 (z2 I 39 7 (nI (q_va B f (q_run (q_dg B) (n - f) f - f)))) 39 4 (nI (q_run (q_dg B) (n - f) f))) := by
  have h900 := h.1
  have h2 := h.2.1
  have key := q_lpR (G := fun fu (a : z_I) => g_X7_scanNumber_5 k81 fu a) (n := n) (p0 := f) (r := fun p => k81 (z2 (z2 I 39 7 (nI (q_va B f (p - f)))) 39 4 (nI p))) (q_dg B) (fun p => z2 (z2 I 39 7 (nI (q_va B f (p - f)))) 39 4 (nI p)) (fun fu p hp0 hp hb => by
    show g_X7_scanNumber_5 k81 (fu + 1) (z2 (z2 I 39 7 (nI (q_va B f (p - f)))) 39 4 (nI p)) = g_X7_scanNumber_5 k81 fu (z2 (z2 I 39 7 (nI (q_va B f (p + 1 - f)))) 39 4 (nI (p + 1)))
    have hb := of_decide_eq_true hb
    obtain ⟨-, c2, c3⟩ := h.c hp
    have r1 : z2 (z2 I 39 7 (nI (q_va B f (p - f)))) 39 4 (nI p) 39 2 = nI n := by rw [q_zo (by omega), q_zo (by omega), h2]
    have r2 : z2 (z2 I 39 7 (nI (q_va B f (p - f)))) 39 4 (nI p) 2 p = I 2 p := by rw [q_zo (by omega), q_zo (by omega)]
    have r3 : z2 (z2 I 39 7 (nI (q_va B f (p - f)))) 39 4 (nI p) 39 4 = nI p := q_zs
    have r4 : z2 (z2 I 39 7 (nI (q_va B f (p - f)))) 39 4 (nI p) 39 7 = nI (q_va B f (p - f)) := by rw [q_zo (by omega), q_zs]
    have rB := (h.2.2.2 p hp).2.1 (by omega)
    have e1 : p + 1 - f = (p - f) + 1 := by omega
    have e2 : f + (p - f) = p := by omega
    have e3 : q_va B f (p - f) * 10 + B p - 48 = q_va B f (p - f) * 10 + (B p - 48) := by omega
    rw [e1, q_va, e2, g_X7_scanNumber_5, r1, r3, if_neg (nI_ge hp (by omega)), if_pos (q_in (by omega) (by decide)), nI_clamp (by omega), r2, if_neg (show ¬ I 2 p < 48 from fun w => by have := (c2 48 (by omega)).1 w; omega), if_neg (show ¬ 57 < I 2 p from fun w => by have := (c3 57 (by omega)).1 w; omega), q_zlt, q_zlt, q_zz0 (by omega), r4, rB, ql_10, ql_48, ql_1, pk_mul, nI_add, pk_sub (by omega), nI_add, e3]) (fun fu p hp0 hp hb => by
    show g_X7_scanNumber_5 k81 (fu + 1) (z2 (z2 I 39 7 (nI (q_va B f (p - f)))) 39 4 (nI p)) = k81 (z2 (z2 I 39 7 (nI (q_va B f (p - f)))) 39 4 (nI p))
    have r1 : z2 (z2 I 39 7 (nI (q_va B f (p - f)))) 39 4 (nI p) 39 2 = nI n := by rw [q_zo (by omega), q_zo (by omega), h2]
    have r2 : z2 (z2 I 39 7 (nI (q_va B f (p - f)))) 39 4 (nI p) 2 p = I 2 p := by rw [q_zo (by omega), q_zo (by omega)]
    have r3 : z2 (z2 I 39 7 (nI (q_va B f (p - f)))) 39 4 (nI p) 39 4 = nI p := q_zs
    rw [g_X7_scanNumber_5, r1, r3]
    by_cases y : p = n
    · rw [if_pos (nI_le (by omega) (by omega))]
    · have hb : q_dg B p = false := by rcases hb with w | w; exact absurd w y; exact w
      have hb := of_decide_eq_false hb
      obtain ⟨-, c2, c3⟩ := h.c (p := p) (by omega)
      rw [if_neg (nI_ge (by omega) (by omega)), if_pos (q_in (by omega) (by decide)), nI_clamp (by omega), r2]
      by_cases w : B p < 48 ∨ 128 ≤ B p
      · rw [if_pos (show I 2 p < 48 from (c2 48 (by omega)).2 w)]
      · rw [if_neg (show ¬ I 2 p < 48 from fun v => w ((c2 48 (by omega)).1 v)), if_pos (show 57 < I 2 p from (c3 57 (by omega)).2 (by omega))]) (n - f) f z_fuel (Nat.le_refl _) (by omega) (q_fu (by omega))
  have e0 : q_va B f (f - f) = 0 := by rw [Nat.sub_self]; rfl
  simp only [e0] at key
  exact key
theorem m_dig {n : Nat} {B : Nat → Nat} {I J : z_I} (h : q_xt n B I J) {f : Nat} (hf : f ≤ n) (k183 : z_I → Option z_I) : g_X11_ahead_128 k183 z_fuel (z2 (z2 J 0 15 (nI 0)) 0 14 (nI f)) = k183 (z2 (z2 J 0 15 (nI (min 100000 (q_va B f (q_run (q_dg B) (n - f) f - f))))) 0 14 (nI (q_run (q_dg B) (n - f) f))) := by
  have h900 := h.1
  have key := q_lpR (G := fun fu (a : z_I) => g_X11_ahead_128 k183 fu a) (n := n) (p0 := f) (r := fun p => k183 (z2 (z2 J 0 15 (nI (min 100000 (q_va B f (p - f))))) 0 14 (nI p))) (q_dg B) (fun p => z2 (z2 J 0 15 (nI (min 100000 (q_va B f (p - f))))) 0 14 (nI p)) (fun fu p hp0 hp hb => by
    show g_X11_ahead_128 k183 (fu + 1) (z2 (z2 J 0 15 (nI (min 100000 (q_va B f (p - f))))) 0 14 (nI p)) = g_X11_ahead_128 k183 fu (z2 (z2 J 0 15 (nI (min 100000 (q_va B f (p + 1 - f))))) 0 14 (nI (p + 1)))
    have hb := of_decide_eq_true hb
    have h' : q_xt n B I (z2 (z2 J 0 15 (nI (min 100000 (q_va B f (p - f))))) 0 14 (nI p)) := h.go (fun _ _ _ => rfl) (fun d k y => by rw [q_zo (by omega), q_zo (by omega)])
    have r3 : z2 (z2 J 0 15 (nI (min 100000 (q_va B f (p - f))))) 0 14 (nI p) 0 14 = nI p := q_zs
    have r4 : z2 (z2 J 0 15 (nI (min 100000 (q_va B f (p - f))))) 0 14 (nI p) 0 15 = nI (min 100000 (q_va B f (p - f))) := by rw [q_zo (by omega), q_zs]
    have hs : f_X11_isDigit (nI (B p)) = true := by
      unfold f_X11_isDigit
      rw [if_neg (show ¬ nI (B p) < 48 by rw [ql_48, nI_ltI (by omega) (by omega)]; omega), if_neg (show ¬ 57 < nI (B p) by rw [ql_57, nI_ltI (by omega) (by omega)]; omega)]
    have e1 : p + 1 - f = (p - f) + 1 := by omega
    have e2 : f + (p - f) = p := by omega
    have e3 : min 100000 (10 * min 100000 (q_va B f (p - f)) + B p - 48) = min 100000 (q_va B f (p - f) * 10 + (B p - 48)) := by omega
    rw [e1, q_va, e2, g_X11_ahead_128, r3, h'.by hp, q_bs, hs, if_pos rfl, q_bs, q_zlt, q_zlt, q_zz0 (by omega), r4, ql_10, ql_48, ql_1, ql_100000, pk_mul, nI_add, pk_sub (by omega), q_min (by omega) (by omega), nI_add, e3]) (fun fu p hp0 hp hb => by
    show g_X11_ahead_128 k183 (fu + 1) (z2 (z2 J 0 15 (nI (min 100000 (q_va B f (p - f))))) 0 14 (nI p)) = k183 (z2 (z2 J 0 15 (nI (min 100000 (q_va B f (p - f))))) 0 14 (nI p))
    have h' : q_xt n B I (z2 (z2 J 0 15 (nI (min 100000 (q_va B f (p - f))))) 0 14 (nI p)) := h.go (fun _ _ _ => rfl) (fun d k y => by rw [q_zo (by omega), q_zo (by omega)])
    have r3 : z2 (z2 J 0 15 (nI (min 100000 (q_va B f (p - f))))) 0 14 (nI p) 0 14 = nI p := q_zs
    rw [g_X11_ahead_128, r3]
    by_cases y : p = n
    · subst y
      rw [h'.ov, q_bs, if_neg (by decide)]
    · have hb : q_dg B p = false := by rcases hb with w | w; exact absurd w y; exact w
      have hb := of_decide_eq_false hb
      have hB := (h.2.2.2 p (by omega)).1
      have hs : f_X11_isDigit (nI (B p)) = false := by
        unfold f_X11_isDigit
        by_cases w : B p < 48
        · rw [if_pos (show nI (B p) < 48 by rw [ql_48, nI_ltI (by omega) (by omega)]; exact w)]
        · rw [if_neg (show ¬ nI (B p) < 48 by rw [ql_48, nI_ltI (by omega) (by omega)]; exact w), if_pos (show 57 < nI (B p) by rw [ql_57, nI_ltI (by omega) (by omega)]; omega)]
      rw [h'.by (by omega), q_bs, hs, if_neg (by decide)]) (n - f) f z_fuel (Nat.le_refl _) (by omega) (q_fu (by omega))
  have e0 : min 100000 (q_va B f (f - f)) = 0 := by rw [Nat.sub_self]; show min 100000 0 = 0; omega
  simp only [e0] at key
  exact key
theorem q_va_lt {B : Nat → Nat} {f : Nat} : ∀ m, (∀ j, j < m → q_dg B (f + j) = true) → q_va B f m < 10 ^ m := by
  intro m
  induction m with
  | zero => intro _; show 0 < 1; omega
  | succ m ih =>
    intro h
    have := ih (fun j hj => h j (by omega))
    have := of_decide_eq_true (h m (by omega))
    rw [q_va, Nat.pow_succ]
    omega
/-- the key words are gone through -/
theorem x7_keys {I : z_I} {L : z_L} (hk : q_rk L) {w : Nat} (hw : w < 27 ^ 8) (hL : L 39 8 = lN w) : (∀ k, k < 23 → w = q_kw.getD k 0 → g_X7_scanWord_112 L z_fuel (nI 0) I = some (z2 (z2 I 39 5 (nI 2)) 39 6 (nI k), L)) ∧ ((∀ k, k < 23 → w ≠ q_kw.getD k 0) → g_X7_scanWord_112 L z_fuel (nI 0) I = some (I, L)) := by
  have hE : ∀ k, k < 23 → ((L 40 k = L 39 8) ↔ w = q_kw.getD k 0) := fun k h => by
    have := (q_kwE k h).2.2
    rw [hk k h, hL, q_lNi (by omega) (by omega)]
    exact eq_comm
  constructor
  · intro k0 h0 he
    have huniq : ∀ k, k < 23 → w = q_kw.getD k 0 → k = k0 := fun k h y => by
      obtain ⟨a1, a2, -⟩ := q_kwE k h
      obtain ⟨b1, b2, -⟩ := q_kwE k0 h0
      exact q_piI k h k0 h0 (q_kwD _ a2 _ b2 (by rw [← a1, ← b1, ← y, he]))
    have key := q_lp (G := fun fu k (a : z_I) => g_X7_scanWord_112 L fu (nI k) a) (N := 23) (k0 := 0) (n := z_fuel) (r := some (z2 (z2 I 39 5 (nI 2)) 39 6 (nI k0), L)) (fun k => if k0 < k then z2 (z2 I 39 5 (nI 2)) 39 6 (nI k0) else I) (fun fu k _ h => by
      show g_X7_scanWord_112 L (fu + 1) (nI k) (if k0 < k then z2 (z2 I 39 5 (nI 2)) 39 6 (nI k0) else I) = g_X7_scanWord_112 L fu (nI (k + 1)) (if k0 < k + 1 then z2 (z2 I 39 5 (nI 2)) 39 6 (nI k0) else I)
      rw [g_X7_scanWord_112, if_neg (show ¬ (23 : Int32) ≤ nI k by rw [ql_23, nI_leI (by omega) (by omega)]; omega), if_pos (q_in h (by decide)), nI_clamp (by omega)]
      by_cases y : k = k0
      · subst y
        rw [if_pos ((hE k h).2 he), q_zlt, q_zlt, if_neg (show ¬ k < k by omega), if_pos (show k < k + 1 by omega), ql_1, ql_2, nI_add]
      · rw [if_neg (fun v => y (huniq k h ((hE k h).1 v))), ql_1, nI_add]
        by_cases z : k0 < k
        · rw [if_pos z, if_pos (show k0 < k + 1 by omega)]
        · rw [if_neg z, if_neg (show ¬ k0 < k + 1 by omega)]) (fun fu => by
      show g_X7_scanWord_112 L (fu + 1) (nI 23) (if k0 < 23 then z2 (z2 I 39 5 (nI 2)) 39 6 (nI k0) else I) = _
      rw [g_X7_scanWord_112, if_pos (show (23 : Int32) ≤ nI 23 by decide), if_pos h0]) (Nat.zero_le _) (q_fu (by omega))
    have e0 : (if k0 < 0 then z2 (z2 I 39 5 (nI 2)) 39 6 (nI k0) else I) = I := if_neg (by omega)
    simp only [e0] at key
    exact key
  · intro hne
    refine q_lp (G := fun fu k (a : z_I) => g_X7_scanWord_112 L fu (nI k) a) (N := 23) (k0 := 0) (fun _ => I) (fun fu k _ h => ?_) (fun fu => ?_) (Nat.zero_le _) (q_fu (by omega))
    · show g_X7_scanWord_112 L (fu + 1) (nI k) I = g_X7_scanWord_112 L fu (nI (k + 1)) I
      rw [g_X7_scanWord_112, if_neg (show ¬ (23 : Int32) ≤ nI k by rw [ql_23, nI_leI (by omega) (by omega)]; omega), if_pos (q_in h (by decide)), nI_clamp (by omega), if_neg (fun v => hne k h ((hE k h).1 v)), ql_1, nI_add]
    · show g_X7_scanWord_112 L (fu + 1) (nI 23) I = _
      rw [g_X7_scanWord_112, if_pos (show (23 : Int32) ≤ nI 23 by decide)]
