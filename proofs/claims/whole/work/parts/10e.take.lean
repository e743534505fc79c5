/-! what is taken of a text, on both sides -/
theorem q_ls.iw {n : Nat} {B : Nat → Nat} {f e kd va : Nat} {I : z_I} {L : z_L} {J : z_I} (h : q_ls n B f e kd va I L J) : f_X11_inWords J = some (if kd = 2 then nI (q_pi va) else q_no) := by
  obtain ⟨hx, ⟨a1, a2, a3, a4, a5, a6⟩, ⟨b1, b2, b3⟩, c1, c2, c3, c4, c5, c6, c7, c8, c9⟩ := h
  have hno : q_jk kd ≠ 2 → f_X11_inWords J = some q_no := fun y => by
    unfold f_X11_inWords
    have : q_jk kd < 10 := by unfold q_jk; split <;> omega
    rw [b3, if_neg (show ¬ nI (q_jk kd) = 2 by rw [ql_2, nI_eq (by omega) (by omega)]; exact y)]
    rfl
  match kd, b1 with
  | 0, _ => exact hno (by decide)
  | 1, _ => exact hno (by decide)
  | 5, _ => exact hno (by decide)
  | 6, _ => exact hno (by decide)
  | 2, _ =>
    obtain ⟨k1, k2, k3⟩ := c4 rfl
    rw [if_pos rfl]
    exact (m_inWords hx b3 a5 a6 a2 a1 (c3 (Or.inl rfl))).1 va k1 k3
  | 3, _ => exact (m_inWords hx b3 a5 a6 a2 a1 (c3 (Or.inr (Or.inl rfl)))).2 (c6 (Or.inl rfl))
  | 4, _ => exact (m_inWords hx b3 a5 a6 a2 a1 (c3 (Or.inr (Or.inr rfl)))).2 (c6 (Or.inr rfl))
theorem q_ls.nm {n : Nat} {B : Nat → Nat} {f e kd va : Nat} {I : z_I} {L : z_L} {J : z_I} (h : q_ls n B f e kd va I L J) : f_X11_isName J = some (decide (kd = 3)) := by
  have hiw := h.iw
  obtain ⟨hx, ⟨a1, a2, a3, a4, a5, a6⟩, ⟨b1, b2, b3⟩, c1, c2, c3, c4, c5, c6, c7, c8, c9⟩ := h
  have h900 := hx.1
  have hs : nI e - nI f = nI (e - f) := pk_sub a1
  have hno : q_jk kd ≠ 2 → kd ≠ 3 → f_X11_isName J = some (decide (kd = 3)) := fun y y3 => by
    unfold f_X11_isName
    have : q_jk kd < 10 := by unfold q_jk; split <;> omega
    rw [b3, if_neg (show ¬ nI (q_jk kd) = 2 by rw [ql_2, nI_eq (by omega) (by omega)]; exact y), decide_eq_false y3]
  match kd, b1 with
  | 0, _ => exact hno (by decide) (by decide)
  | 1, _ => exact hno (by decide) (by decide)
  | 5, _ => exact hno (by decide) (by decide)
  | 6, _ => exact hno (by decide) (by decide)
  | 2, _ =>
    obtain ⟨k1, k2, k3⟩ := c4 rfl
    have hlo := c3 (Or.inl rfl)
    obtain ⟨e1, e2, -⟩ := q_kwE va k1
    have hl := (q_co_i (e - f) (q_kL (q_pi va)) hlo (q_kLo _ e2) (k3.trans e1)).1
    have hl7 := (q_kSL _ e2).2.2.1
    have hp : ¬ nI (q_pi va) = -1 := fun w => (q_nno (by omega)).1 w
    rw [if_pos rfl] at hiw
    unfold f_X11_isName
    rw [b3, if_pos (show nI (q_jk 2) = 2 from rfl), a5, a6, hs, if_neg (show ¬ 8 < nI (e - f) by rw [ql_8, nI_ltI (by omega) (by omega)]; omega), hiw, q_bs, if_neg hp]
    rfl
  | 3, _ =>
    obtain ⟨k1, -, -⟩ := c5 rfl
    unfold f_X11_isName
    rw [b3, if_pos (show nI (q_jk 3) = 2 from rfl), a5, a6, hs, if_neg (show ¬ 8 < nI (e - f) by rw [ql_8, nI_ltI (by omega) (by omega)]; omega), hiw, q_bs, if_neg (show ¬ (3 = 2) by omega), if_pos (show q_no = -1 from rfl)]
    rfl
  | 4, _ =>
    have k1 := c7 rfl
    unfold f_X11_isName
    rw [b3, if_pos (show nI (q_jk 4) = 2 from rfl), a5, a6, hs, if_pos (show 8 < nI (e - f) by rw [ql_8, nI_ltI (by omega) (by omega)]; omega)]
    rfl
theorem q_ls.nh {n : Nat} {B : Nat → Nat} {f e va : Nat} {I : z_I} {L : z_L} {J : z_I} (h : q_ls n B f e 3 va I L J) : f_X11_nameHere J = some (lN (q_cv va)) ∧ va < 27 ^ 8 ∧ L 39 8 = lN va := by
  obtain ⟨hx, ⟨a1, a2, a3, a4, a5, a6⟩, -, c1, c2, c3, c4, c5, -⟩ := h
  obtain ⟨k1, k2, k3⟩ := c5 rfl
  have hlo := c3 (Or.inr (Or.inl rfl))
  exact ⟨by rw [k3]; exact m_nameHere hx a5 a6 a2 a1 k1 hlo, by rw [k3]; exact q_co_8 hlo k1, k2⟩
theorem q_ls.i5 {n : Nat} {B : Nat → Nat} {f e kd va : Nat} {I : z_I} {L : z_L} {J : z_I} (h : q_ls n B f e kd va I L J) : kd ≤ 6 ∧ I 39 5 = nI kd ∧ (∀ k, k ≤ 6 → ((nI kd = nI k) ↔ kd = k)) := ⟨h.2.2.1.1, h.2.2.1.2.1, fun k hk => nI_eq (by have := h.2.2.1.1; omega) (by omega)⟩
theorem q_ls.c4 {n : Nat} {B : Nat → Nat} {f e kd va : Nat} {I : z_I} {L : z_L} {J : z_I} (h : q_ls n B f e kd va I L J) (y : kd = 2) : va < 23 ∧ I 39 6 = nI va ∧ q_co B f (e - f) = q_kw.getD va 0 := h.2.2.2.2.2.2.1 y
theorem q_ls.c8 {n : Nat} {B : Nat → Nat} {f e kd va : Nat} {I : z_I} {L : z_L} {J : z_I} (h : q_ls n B f e kd va I L J) (y : kd = 5) : va ≤ 9999 ∧ I 39 7 = nI va ∧ J 0 15 = nI va := h.2.2.2.2.2.2.2.2.2.2.1 y
theorem q_ls.c9 {n : Nat} {B : Nat → Nat} {f e kd va : Nat} {I : z_I} {L : z_L} {J : z_I} (h : q_ls n B f e kd va I L J) (y : kd = 6) : (va = 59 ∨ va = 60 ∨ va = 61 ∨ va = 62) ∧ I 39 7 = nI va ∧ J 0 15 = nI va := h.2.2.2.2.2.2.2.2.2.2.2 y
theorem q_ls.isAt {n : Nat} {B : Nat → Nat} {f e kd va : Nat} {I : z_I} {L : z_L} {J : z_I} (h : q_ls n B f e kd va I L J) {k : Nat} (hk : k < 23) : f_X7_isAt I (nI k) = decide (kd = 2 ∧ va = k) := by
  obtain ⟨h1, h2, h3⟩ := h.i5
  unfold f_X7_isAt
  rw [h2]
  by_cases y : kd = 2
  · rw [if_pos (show nI kd = 2 from (h3 2 (by omega)).2 y)]
    obtain ⟨k1, k2, -⟩ := h.c4 y
    rw [k2]
    by_cases z : va = k
    · rw [if_pos (by rw [z]), decide_eq_true ⟨y, z⟩]
    · rw [if_neg (by rw [nI_eq (by omega) (by omega)]; exact z), decide_eq_false (fun w => z w.2)]
  · rw [if_neg (show ¬ nI kd = 2 from fun w => y ((h3 2 (by omega)).1 w)), decide_eq_false (fun w => y w.1)]
theorem q_ls.kh {n : Nat} {B : Nat → Nat} {f e kd va : Nat} {I : z_I} {L : z_L} {J : z_I} (h : q_ls n B f e kd va I L J) : f_X7_keywordHere I = if kd = 2 then nI va else q_no := by
  obtain ⟨h1, h2, h3⟩ := h.i5
  unfold f_X7_keywordHere
  rw [h2]
  by_cases y : kd = 2
  · rw [if_pos (show nI kd = 2 from (h3 2 (by omega)).2 y), if_pos y, (h.c4 y).2.1]
  · rw [if_neg (show ¬ nI kd = 2 from fun w => y ((h3 2 (by omega)).1 w)), if_neg y]; rfl
theorem q_ls.isN {n : Nat} {B : Nat → Nat} {f e kd va : Nat} {I : z_I} {L : z_L} {J : z_I} (h : q_ls n B f e kd va I L J) : f_X7_isName I = decide (kd = 3) := by
  obtain ⟨h1, h2, h3⟩ := h.i5
  unfold f_X7_isName
  rw [h2]
  by_cases y : kd = 3
  · rw [if_pos (show nI kd = 3 from (h3 3 (by omega)).2 y), decide_eq_true y]
  · rw [if_neg (show ¬ nI kd = 3 from fun w => y ((h3 3 (by omega)).1 w)), decide_eq_false y]
theorem q_ls.isO {n : Nat} {B : Nat → Nat} {f e kd va : Nat} {I : z_I} {L : z_L} {J : z_I} (h : q_ls n B f e kd va I L J) : f_X7_isOver I = decide (kd = 0) := by
  obtain ⟨h1, h2, h3⟩ := h.i5
  unfold f_X7_isOver
  rw [h2]
  by_cases y : kd = 0
  · rw [if_pos (show nI kd = 0 from (h3 0 (by omega)).2 y), decide_eq_true y]
  · rw [if_neg (show ¬ nI kd = 0 from fun w => y ((h3 0 (by omega)).1 w)), decide_eq_false y]
/-! a fault -/
def q_mI (I I' : z_I) : Prop := ∀ d k, d ≠ 39 → I' d k = I d k
def q_mL (L L' : z_L) : Prop := ∀ d k, d ≠ 39 ∨ k ≠ 8 → L' d k = L d k
def q_fr (P : Nat → Prop) (J J' : z_I) : Prop := ∀ d k, d ≠ 0 ∨ k < 12 ∨ 15 < k → d ≠ 1 ∨ ¬ P k → J' d k = J d k
def q_fs (P : Nat → Prop) (J J' : z_I) : Prop := ∀ d k, d ≠ 0 ∨ k < 12 ∨ k = 16 ∨ 18 < k → d ≠ 1 ∨ ¬ P k → J' d k = J d k
def q_b1 (I' J' : z_I) : Prop := ∃ w fp, 1 ≤ w ∧ w ≤ 9 ∧ fp ≤ 900 ∧ I' 39 11 = nI w ∧ I' 39 12 = nI fp ∧ J' 0 18 = nI w ∧ J' 0 17 = nI fp
theorem q_mI.rf (I : z_I) : q_mI I I := fun _ _ _ => rfl
theorem q_mL.rf (L : z_L) : q_mL L L := fun _ _ _ => rfl
theorem q_fr.rf (P : Nat → Prop) (J : z_I) : q_fr P J J := fun _ _ _ _ => rfl
theorem q_mI.tr {A B C : z_I} (h1 : q_mI A B) (h2 : q_mI B C) : q_mI A C := fun d k h => by rw [h2 d k h, h1 d k h]
theorem q_mL.tr {A B C : z_L} (h1 : q_mL A B) (h2 : q_mL B C) : q_mL A C := fun d k h => by rw [h2 d k h, h1 d k h]
theorem q_fr.tr {P Q R : Nat → Prop} {A B C : z_I} (h1 : q_fr P A B) (h2 : q_fr Q B C) (hp : ∀ k, P k → R k) (hq : ∀ k, Q k → R k) : q_fr R A C := fun d k h z => by
  rw [h2 d k h (by rcases z with z | z; exact Or.inl z; exact Or.inr (fun w => z (hq k w))), h1 d k h (by rcases z with z | z; exact Or.inl z; exact Or.inr (fun w => z (hp k w)))]
theorem q_fr.ts {P Q R : Nat → Prop} {A B C : z_I} (h1 : q_fr P A B) (h2 : q_fs Q B C) (hp : ∀ k, P k → R k) (hq : ∀ k, Q k → R k) : q_fs R A C := fun d k h z => by
  rw [h2 d k h (by rcases z with z | z; exact Or.inl z; exact Or.inr (fun w => z (hq k w))), h1 d k (by omega) (by rcases z with z | z; exact Or.inl z; exact Or.inr (fun w => z (hp k w)))]
theorem q_fail {n : Nat} {B : Nat → Nat} {f e kd va : Nat} {I : z_I} {L : z_L} {J : z_I} (h : q_ls n B f e kd va I L J) (h18 : J 0 18 = nI 0) {w : Nat} (hw : 1 ≤ w ∧ w ≤ 9) (P : Nat → Prop) : ∃ I' J', f_X7_fail I (nI w) = (false, I') ∧ f_X11_fails J (nI w) = (false, J') ∧ q_b1 I' J' ∧ q_mI I I' ∧ q_fs P J J' := by
  obtain ⟨h1, h2, h3⟩ := h.i5
  have a3 := h.2.1.2.2.1
  have a5 := h.2.1.2.2.2.2.1
  have a1 := h.2.1.1
  have a2 := h.2.1.2.1
  have h900 := h.1.1
  have b3 := h.2.2.1.2.2
  have hjk : (nI (q_jk kd) = nI 1) ↔ kd = 1 := by
    have : q_jk kd < 10 := by unfold q_jk; split <;> omega
    rw [nI_eq (by omega) (by omega)]
    constructor
    · intro y; unfold q_jk at y; split at y <;> omega
    · intro y; rw [y]; rfl
  by_cases y : kd = 1
  · refine ⟨z2 (z2 I 39 11 (nI 1)) 39 12 (nI f), z2 (z2 J 0 18 (nI 1)) 0 17 (nI f), ?_, ?_, ⟨1, f, by omega, by omega, by omega, by rw [q_zo (by omega), q_zs], q_zs, by rw [q_zo (by omega), q_zs], q_zs⟩, fun d k hd => by rw [q_zo (by omega), q_zo (by omega)], fun d k hd hd2 => by rw [q_zo (by omega), q_zo (by omega)]⟩
    · unfold f_X7_fail
      rw [h2, if_pos (show nI kd = 1 from (h3 1 (by omega)).2 y), q_zlt, q_zlt, a3]
      rfl
    · unfold f_X11_fails
      rw [h18, if_pos (show nI 0 = 0 from rfl), b3, if_pos (show nI (q_jk kd) = 1 from hjk.2 y), q_zlt, q_zlt, a5]
      rfl
  · refine ⟨z2 (z2 I 39 11 (nI w)) 39 12 (nI f), z2 (z2 J 0 18 (nI w)) 0 17 (nI f), ?_, ?_, ⟨w, f, hw.1, hw.2, by omega, by rw [q_zo (by omega), q_zs], q_zs, by rw [q_zo (by omega), q_zs], q_zs⟩, fun d k hd => by rw [q_zo (by omega), q_zo (by omega)], fun d k hd hd2 => by rw [q_zo (by omega), q_zo (by omega)]⟩
    · unfold f_X7_fail
      rw [h2, if_neg (show ¬ nI kd = 1 from fun v => y ((h3 1 (by omega)).1 v)), q_zlt, q_zlt, a3]
    · unfold f_X11_fails
      rw [h18, if_pos (show nI 0 = 0 from rfl), b3, if_neg (show ¬ nI (q_jk kd) = 1 from fun v => y (hjk.1 v)), q_zlt, q_zlt, a5]
/-! one thing is taken -/
def q_oc (n : Nat) (B : Nat → Nat) (f : Nat) (I : z_I) (L : z_L) (J : z_I) (P : Nat → Prop) (X : z_I → z_L → z_I → Prop) (A : Option (Bool × z_I × z_L)) (R : Option (Bool × z_I)) : Prop := (∃ I' L' J' f' e' kd va, A = some (true, I', L') ∧ R = some (true, J') ∧ q_ls n B f' e' kd va I' L' J' ∧ f ≤ f' ∧ q_mI I I' ∧ q_mL L L' ∧ q_fr P J J' ∧ X I' L' J') ∨ (∃ I' L' J', A = some (false, I', L') ∧ R = some (false, J') ∧ q_b1 I' J' ∧ q_mI I I' ∧ q_mL L L' ∧ q_fs P J J')
theorem q_ls.mv {n : Nat} {B : Nat → Nat} {f e kd va : Nat} {I : z_I} {L : z_L} {J : z_I} (h : q_ls n B f e kd va I L J) (hk : q_rk L) : ∃ I' L' J' f' e' kd' va', f_X7_move I L = some (I', L') ∧ f_X11_ahead J = some J' ∧ q_ls n B f' e' kd' va' I' L' J' ∧ e ≤ f' ∧ (∀ d k, d ≠ 39 ∨ k < 3 ∨ 7 < k → I' d k = I d k) ∧ q_mL L L' ∧ (∀ d k, d ≠ 0 ∨ k < 12 ∨ 15 < k → J' d k = J d k) := q_move h.1 hk h.2.1.2.1 h.2.1.2.2.2.1 h.2.1.2.2.2.2.2
theorem q_ls.fe {n : Nat} {B : Nat → Nat} {f e kd va : Nat} {I : z_I} {L : z_L} {J : z_I} (h : q_ls n B f e kd va I L J) : f ≤ e ∧ e ≤ n ∧ n ≤ 900 ∧ (kd ≠ 0 → f < e) := ⟨h.2.1.1, h.2.1.2.1, h.1.1, h.2.2.2.1⟩
theorem q_rk.mL {L L' : z_L} (h : q_rk L) (hm : q_mL L L') : q_rk L' := h.go (fun k => hm 40 k (by omega))
theorem q_tSemi {n : Nat} {B : Nat → Nat} {f e kd va : Nat} {I : z_I} {L : z_L} {J : z_I} (h : q_ls n B f e kd va I L J) (hk : q_rk L) (h18 : J 0 18 = nI 0) : q_oc n B f I L J (fun _ => False) (fun _ _ _ => True) (f_X7_takeSemicolon I L) (f_X11_wantSign J 59) := by
  obtain ⟨h1, h2, h3⟩ := h.i5
  have b3 := h.2.2.1.2.2
  obtain ⟨I1, J1, eX, eM, p1, p2, p3⟩ := q_fail h h18 (w := 2) (by omega) (fun _ => False)
  have hbad : (¬ (kd = 6 ∧ va = 59)) → f_X7_takeSemicolon I L = some (false, I1, L) ∧ f_X11_wantSign J 59 = some (false, J1) := fun y => by
    have hjk : kd ≠ 6 → ¬ nI (q_jk kd) = 4 := fun z => by
      have : q_jk kd < 10 := by unfold q_jk; split <;> omega
      rw [ql_4, nI_eq (by omega) (by omega)]
      intro w; unfold q_jk at w; split at w <;> omega
    unfold f_X7_takeSemicolon f_X11_wantSign f_X11_isSign
    rw [h2, b3]
    by_cases z : kd = 6
    · obtain ⟨v1, v2, v3⟩ := h.c9 z
      have z59 : ¬ nI va = 59 := by rw [ql_59, nI_eq (by omega) (by omega)]; exact fun w => y ⟨z, w⟩
      rw [if_pos (show nI kd = 6 from (h3 6 (by omega)).2 z), v2, if_neg z59, z, if_pos (show nI (q_jk 6) = 4 from rfl), v3, if_neg z59, if_neg (by decide), ql_2, eX, eM]
      exact ⟨rfl, rfl⟩
    · rw [if_neg (show ¬ nI kd = 6 from fun w => z ((h3 6 (by omega)).1 w)), if_neg (hjk z), if_neg (by decide), ql_2, eX, eM]
      exact ⟨rfl, rfl⟩
  by_cases y : kd = 6 ∧ va = 59
  · obtain ⟨y1, y2⟩ := y
    obtain ⟨v1, v2, v3⟩ := h.c9 y1
    obtain ⟨I', L', J', f', e', kd', va', m1, m2, m3, m4, m5, m6, m7⟩ := h.mv hk
    refine Or.inl ⟨I', L', J', f', e', kd', va', ?_, ?_, m3, by have := h.fe; omega, fun d k hd => m5 d k (Or.inl hd), m6, fun d k hd _ => m7 d k hd, trivial⟩
    · unfold f_X7_takeSemicolon
      rw [h2, if_pos (show nI kd = 6 from (h3 6 (by omega)).2 y1), v2, if_pos (show nI va = 59 by rw [y2]; rfl), m1, q_bs]
    · unfold f_X11_wantSign f_X11_isSign
      rw [b3, y1, if_pos (show nI (q_jk 6) = 4 from rfl), v3, if_pos (show nI va = 59 by rw [y2]; rfl), if_pos rfl, m2, q_bs]
  · obtain ⟨z1, z2'⟩ := hbad y
    exact Or.inr ⟨I1, L, J1, z1, z2', p1, p2, q_mL.rf L, p3⟩
theorem q_tWord {n : Nat} {B : Nat → Nat} {f e kd va : Nat} {I : z_I} {L : z_L} {J : z_I} (h : q_ls n B f e kd va I L J) (hk : q_rk L) (h18 : J 0 18 = nI 0) {k : Nat} (hk23 : k < 23) : q_oc n B f I L J (fun _ => False) (fun _ _ _ => True) (f_X7_takeKeyword I L (nI k)) (f_X11_wantWord J (nI (q_pi k))) := by
  have hat := h.isAt hk23
  have hiw := h.iw
  have hpk := (q_kwE k hk23).2.1
  obtain ⟨I1, J1, eX, eM, p1, p2, p3⟩ := q_fail h h18 (w := 2) (by omega) (fun _ => False)
  by_cases y : kd = 2 ∧ va = k
  · obtain ⟨I', L', J', f', e', kd', va', m1, m2, m3, m4, m5, m6, m7⟩ := h.mv hk
    rw [decide_eq_true y] at hat
    rw [if_pos y.1, y.2] at hiw
    refine Or.inl ⟨I', L', J', f', e', kd', va', ?_, ?_, m3, by have := h.fe; omega, fun d k hd => m5 d k (Or.inl hd), m6, fun d k hd _ => m7 d k hd, trivial⟩
    · unfold f_X7_takeKeyword
      rw [hat, if_pos rfl, m1, q_bs]
    · unfold f_X11_wantWord
      rw [hiw, q_bs, if_pos rfl, m2, q_bs]
  · rw [decide_eq_false y] at hat
    refine Or.inr ⟨I1, L, J1, ?_, ?_, p1, p2, q_mL.rf L, p3⟩
    · unfold f_X7_takeKeyword
      rw [hat, if_neg (by decide), ql_2, eX]
    · unfold f_X11_wantWord
      have hne : ¬ (if kd = 2 then nI (q_pi va) else q_no) = nI (q_pi k) := by
        by_cases z : kd = 2
        · have hv := (h.c4 z).1
          have hpv := (q_kwE va hv).2.1
          rw [if_pos z, nI_eq (by omega) (by omega)]
          exact fun w => y ⟨z, q_piI va hv k hk23 w⟩
        · rw [if_neg z]
          exact fun w => (q_nno' (by omega)).1 w
      rw [hiw, q_bs, if_neg hne, ql_2, eM]
theorem q_tNum {n : Nat} {B : Nat → Nat} {f e kd va : Nat} {I : z_I} {L : z_L} {J : z_I} (h : q_ls n B f e kd va I L J) (hk : q_rk L) (h18 : J 0 18 = nI 0) {lo hi : Int32} {a m : Nat} (hlo : ∀ v, v ≤ 9999 → ((nI v < lo) ↔ v < a)) (hhi : ∀ v, v ≤ 9999 → ((nI v ≤ hi) ↔ v < m)) {p : Nat} (hp : p < 2200) : q_oc n B f I L J (fun k => k = p) (fun I' _ J' => ∃ v, a ≤ v ∧ v < m ∧ v ≤ 9999 ∧ I' 39 9 = nI v ∧ J' 1 p = nI v) (f_X7_takeNumber I L lo hi) (f_X11_number J (nI p) lo hi) := by
  obtain ⟨h1, h2, h3⟩ := h.i5
  have b3 := h.2.2.1.2.2
  by_cases z : kd = 5
  · obtain ⟨v1, v2, v3⟩ := h.c8 z
    have x5 : nI kd = 5 := (h3 5 (by omega)).2 z
    have m5 : nI (q_jk kd) = 3 := by rw [z]; rfl
    by_cases y : a ≤ va ∧ va < m
    · have ya : ¬ nI va < lo := fun w => by have := (hlo va v1).1 w; omega
      have ym : nI va ≤ hi := (hhi va v1).2 y.2
      have hq : q_ls n B f e kd va (z2 I 39 9 (nI va)) L (z2 J 1 p (nI va)) := h.go (fun d k w => q_zo (by omega)) rfl (fun d k w => q_zo (by omega))
      obtain ⟨I', L', J', f', e', kd', va', m1, m2, m3, m4, m5', m6, m7⟩ := hq.mv hk
      refine Or.inl ⟨I', L', J', f', e', kd', va', ?_, ?_, m3, by have := h.fe; omega, fun d k hd => by rw [m5' d k (Or.inl hd), q_zo (by omega)], m6, fun d k hd hd2 => by rw [m7 d k hd, q_zo (by omega)], va, y.1, y.2, v1, by rw [m5' 39 9 (by omega), q_zs], by rw [m7 1 p (by omega), q_zs]⟩
      · unfold f_X7_takeNumber
        rw [h2, if_pos x5, v2, if_neg ya, if_pos ym, q_zlt, m1, q_bs]
      · unfold f_X11_number
        rw [b3, if_pos m5, v3, if_neg ya, if_pos ym, if_pos (q_in hp (by decide)), nI_clamp (by omega), q_zlt, m2, q_bs]
    · obtain ⟨I1, J1, eX, eM, p1, p2, p3⟩ := q_fail h h18 (w := 4) (by omega) (fun k => k = p)
      refine Or.inr ⟨I1, L, J1, ?_, ?_, p1, p2, q_mL.rf L, p3⟩
      · unfold f_X7_takeNumber
        rw [h2, if_pos x5, v2]
        by_cases w : va < a
        · rw [if_pos ((hlo va v1).2 w), ql_4, eX]
        · rw [if_neg (fun u => w ((hlo va v1).1 u)), if_neg (fun u => y ⟨by omega, (hhi va v1).1 u⟩), ql_4, eX]
      · unfold f_X11_number
        rw [b3, if_pos m5, v3]
        by_cases w : va < a
        · rw [if_pos ((hlo va v1).2 w), ql_4, eM]
        · rw [if_neg (fun u => w ((hlo va v1).1 u)), if_neg (fun u => y ⟨by omega, (hhi va v1).1 u⟩), ql_4, eM]
  · obtain ⟨I1, J1, eX, eM, p1, p2, p3⟩ := q_fail h h18 (w := 2) (by omega) (fun k => k = p)
    refine Or.inr ⟨I1, L, J1, ?_, ?_, p1, p2, q_mL.rf L, p3⟩
    · unfold f_X7_takeNumber
      rw [h2, if_neg (show ¬ nI kd = 5 from fun w => z ((h3 5 (by omega)).1 w)), ql_2, eX]
    · unfold f_X11_number
      have hjk : ¬ nI (q_jk kd) = 3 := by
        have : q_jk kd < 10 := by unfold q_jk; split <;> omega
        rw [ql_3, nI_eq (by omega) (by omega)]
        intro w; unfold q_jk at w; split at w <;> omega
      rw [b3, if_neg hjk, ql_2, eM]
theorem q_loC {a v : Nat} (ha : a < 2 ^ 31) (hv : v ≤ 9999) : (nI v < nI a) ↔ v < a := nI_ltI (by omega) ha
theorem q_hiC {a v : Nat} (ha : a + 1 < 2 ^ 31) (hv : v ≤ 9999) : (nI v ≤ nI a) ↔ v < a + 1 := by rw [nI_leI (by omega) (by omega)]; omega
theorem q_hiB {b v : Nat} (hb : b ≤ 100) (hv : v ≤ 9999) : (nI v ≤ nI b - 1) ↔ v < b := by
  by_cases y : b = 0
  · subst y
    have : nI 0 - 1 = q_no := by decide
    rw [this]
    constructor
    · intro w
      rw [Int32.le_iff_toInt_le, nI_toInt (by omega), show q_no.toInt = -1 from by decide] at w
      omega
    · intro w; omega
  · rw [ql_1, pk_sub (by omega), nI_leI (by omega) (by omega)]; omega
theorem q_tPer {n : Nat} {B : Nat → Nat} {f e kd va : Nat} {I : z_I} {L : z_L} {J : z_I} (h : q_ls n B f e kd va I L J) (hk : q_rk L) (h18 : J 0 18 = nI 0) {lo hi wo : Int32} {a m o k : Nat} (hk23 : k < 23) (hlo : ∀ v, v ≤ 9999 → ((nI v < lo) ↔ v < a)) (hhi : ∀ v, v ≤ 9999 → ((nI v ≤ hi) ↔ v < m)) (hwo : wo = nI o) (ho : a ≤ o ∧ o < m ∧ o ≤ 9999) {p : Nat} (hp : p < 2200) : q_oc n B f I L J (fun k => k = p) (fun I' _ J' => ∃ v, a ≤ v ∧ v < m ∧ v ≤ 9999 ∧ I' 39 9 = nI v ∧ J' 1 p = nI v) (f_X7_takeNumberBehind I L (nI k) lo hi wo) (f_X11_perhaps J (nI (q_pi k)) (nI p) lo hi wo) := by
  have hat := h.isAt hk23
  have hiw := h.iw
  have hpk := (q_kwE k hk23).2.1
  by_cases y : kd = 2 ∧ va = k
  · obtain ⟨I1, L1, J1, f1, e1, kd1, va1, m1, m2, m3, m4, m5, m6, m7⟩ := h.mv hk
    rw [decide_eq_true y] at hat
    rw [if_pos y.1, y.2] at hiw
    have hX : f_X7_takeNumberBehind I L (nI k) lo hi wo = (f_X7_takeNumber I1 L1 lo hi).bind (fun q3 => some (q3.1, q3.2.1, q3.2.2)) := by
      unfold f_X7_takeNumberBehind
      rw [hat, if_pos rfl, m1, q_bs]
    have hM : f_X11_perhaps J (nI (q_pi k)) (nI p) lo hi wo = (f_X11_number J1 (nI p) lo hi).bind (fun q3 => some (q3.1, q3.2)) := by
      unfold f_X11_perhaps f_X11_isThere
      rw [hiw, q_bs, if_pos rfl, m2, q_bs, q_bs, if_pos rfl]
    have hfe := h.fe
    rcases q_tNum m3 (hk.mL m6) (by rw [m7 0 18 (by omega), h18]) hlo hhi hp with ⟨I2, L2, J2, f2, e2, kd2, va2, z1, z2', z3, z4, z5, z6, z7, z8⟩ | ⟨I2, L2, J2, z1, z2', z3, z4, z5, z6⟩
    · exact Or.inl ⟨I2, L2, J2, f2, e2, kd2, va2, by rw [hX, z1, q_bs], by rw [hM, z2', q_bs], z3, by omega, fun d k hd => by rw [z5 d k hd, m5 d k (Or.inl hd)], m6.tr z6, fun d k d1 d2 => by rw [z7 d k d1 d2, m7 d k d1], z8⟩
    · exact Or.inr ⟨I2, L2, J2, by rw [hX, z1, q_bs], by rw [hM, z2', q_bs], z3, fun d k hd => by rw [z4 d k hd, m5 d k (Or.inl hd)], m6.tr z5, fun d k d1 d2 => by rw [z6 d k d1 d2, m7 d k (by omega)]⟩
  · rw [decide_eq_false y] at hat
    have hne : ¬ (if kd = 2 then nI (q_pi va) else q_no) = nI (q_pi k) := by
      by_cases z : kd = 2
      · have hv := (h.c4 z).1
        have hpv := (q_kwE va hv).2.1
        rw [if_pos z, nI_eq (by omega) (by omega)]
        exact fun w => y ⟨z, q_piI va hv k hk23 w⟩
      · rw [if_neg z]
        exact fun w => (q_nno' (by omega)).1 w
    refine Or.inl ⟨z2 I 39 9 (nI o), L, z2 J 1 p (nI o), f, e, kd, va, ?_, ?_, h.go (fun d k w => q_zo (by omega)) rfl (fun d k w => q_zo (by omega)), Nat.le_refl _, fun d k hd => q_zo (by omega), q_mL.rf L, fun d k d1 d2 => q_zo (by omega), o, ho.1, ho.2.1, ho.2.2, q_zs, q_zs⟩
    · unfold f_X7_takeNumberBehind
      rw [hat, if_neg (by decide), q_zlt, hwo]
    · unfold f_X11_perhaps f_X11_isThere
      rw [hiw, q_bs, if_neg hne, q_bs, if_neg (show ¬ (false = true) by decide), if_pos (q_in hp (by decide)), nI_clamp (by omega), q_zlt, hwo]
