/-! terms that are lived: what a step does -/
def q_lr (T : q_N) (c : Nat) (I0 : z_I) (L : z_L) (J0 : z_I) (K : z_L) (C : q_N) (dn : Nat) (ms : Int32) (I J : z_I) : Prop := (q_sx C c I L ∧ q_sm C 0 0 J K ∧ q_ok C ∧ q_tok T C) ∧ (I 45 5 = nI c ∧ ∃ s, s < 65536 ∧ I 45 6 = nI s ∧ J 0 39 = nI s) ∧ (I 45 7 = J 21 0 + ms ∧ I 45 8 = J 21 1 ∧ I 45 9 = J 21 2 ∧ I 45 10 = J 21 3) ∧ (I 45 2 = nI dn ∧ J 0 40 = nI dn ∧ I 45 11 = nI 0 ∧ J 21 4 = nI 0) ∧ (∀ d k, d < c ∨ c + 10 < d → d ≠ 45 ∨ k < 2 → d ≠ 47 → I d k = I0 d k) ∧ (∀ d k, d ≠ 1 ∨ 60 ≤ k ∨ k = 7 → d ≠ 20 → d ≠ 21 → d ≠ 0 ∨ (k ≠ 39 ∧ k ≠ 40) → J d k = J0 d k)
def q_lF (c : Nat) (I I' : z_I) : Prop := ∀ d k, d < c ∨ c + 10 < d → d ≠ 45 ∨ k < 6 ∨ 10 < k → I' d k = I d k
def q_lG (J J' : z_I) : Prop := ∀ d k, d ≠ 1 ∨ 60 ≤ k ∨ k = 7 → d ≠ 21 ∨ 3 < k ∨ k = 0 → d ≠ 0 ∨ k ≠ 39 → J' d k = J d k
theorem q_lr.up {T : q_N} {c : Nat} {I0 : z_I} {L : z_L} {J0 : z_I} {K : z_L} {C : q_N} {dn : Nat} {ms : Int32} {I J : z_I} (h : q_lr T c I0 L J0 K C dn ms I J) (hc : c = 3 ∨ c = 22) {C' : q_N} {ms' : Int32} {I' J' : z_I} (hx : q_sx C' c I' L) (hm : q_sm C' 0 0 J' K) (ok : q_ok C') (hC : ∀ i, i < 4 → C' 0 i = C 0 i) (fI : q_lF c I I') (fJ : q_lG J J') (hd : ∃ s, s < 65536 ∧ I' 45 6 = nI s ∧ J' 0 39 = nI s) (e : I' 45 7 = J' 21 0 + ms' ∧ I' 45 8 = J' 21 1 ∧ I' 45 9 = J' 21 2 ∧ I' 45 10 = J' 21 3) : q_lr T c I0 L J0 K C' dn ms' I' J' := by
  obtain ⟨⟨h1, h2, h3, h4⟩, ⟨h5, h6⟩, h7, ⟨h8, h9, h10, h11⟩, h12, h13⟩ := h
  refine ⟨⟨hx, hm, ok, h4.same (hC 0 (by omega)) (by rw [hC 2 (by omega)]; exact Nat.le_refl _) (hC 3 (by omega))⟩, ⟨by rw [fI 45 5 (by omega) (by omega), h5], hd⟩, e, ⟨by rw [fI 45 2 (by omega) (by omega), h8], by rw [fJ 0 40 (by omega) (by omega) (by omega), h9], by rw [fI 45 11 (by omega) (by omega), h10], by rw [fJ 21 4 (by omega) (by omega) (by omega), h11]⟩, fun d k d1 d2 d3 => ?_, fun d k d1 d2 d3 d4 => ?_⟩
  · rw [fI d k d1 (by omega)]; exact h12 d k d1 d2 d3
  · rw [fJ d k d1 (by omega) (by omega)]; exact h13 d k d1 d2 d3 d4
theorem q_sm.put0 {C : q_N} {m : Nat} {J : z_I} {K : z_L} (h : q_sm C 0 m J K) (ok : q_ok C) {r k v p : Nat} (hk : k < q_bd C r) (h4 : r = 0 → 4 ≤ k) (hp : p = q_pm r k) : q_sm (z2 C r k v) 0 m (z2 J 1 p (nI v)) K := by
  have := h.put ok (v := v) hk h4
  rw [Nat.zero_add] at this
  rw [hp]
  exact this
def q_ac (T : q_N) (c : Nat) (I0 : z_I) (L : z_L) (J0 : z_I) (K : z_L) (dn : Nat) (I J : z_I) (A : Option z_I) (B : Option (Bool × z_I)) : Prop := ∃ C' I' b J', A = some I' ∧ B = some (b, J') ∧ q_lr T c I0 L J0 K C' dn (if b = true then nI 0 else nI 1) I' J' ∧ q_lF c I I' ∧ q_lG J J'
theorem q_a0 (x : Int32) : x + nI 0 = x := by rw [show nI 0 = (0 : Int32) from rfl, Int32.add_zero]
theorem q_zc {c : Nat} (hc : c = 3 ∨ c = 22) : z_isct c = true := by rcases hc with rfl | rfl <;> rfl
/-- what can't be is missed: the class counts it -/
theorem q_miss {T : q_N} {c : Nat} {I0 : z_I} {L : z_L} {J0 : z_I} {K : z_L} {C : q_N} {dn : Nat} {I J : z_I} (h : q_lr T c I0 L J0 K C dn (nI 0) I J) (hc : c = 3 ∨ c = 22) : q_lr T c I0 L J0 K C dn (nI 1) (z2 I 45 7 (I 45 7 + nI 1)) J ∧ q_lF c I (z2 I 45 7 (I 45 7 + nI 1)) ∧ q_lG J J := by
  have f : q_lF c I (z2 I 45 7 (I 45 7 + nI 1)) := fun d k d1 d2 => q_zo (by omega)
  obtain ⟨s, s1, s2, s3⟩ := h.2.1.2
  refine ⟨h.up hc (h.1.1.go (fun d k a b => q_zo (by omega)) (fun _ _ _ _ => rfl)) h.1.2.1 h.1.2.2.1 (fun _ _ => rfl) f (fun _ _ _ _ _ => rfl) ⟨s, s1, by rw [q_zo (by omega), s2], s3⟩ ⟨?_, ?_, ?_, ?_⟩, f, fun _ _ _ _ _ => rfl⟩
  · rw [q_zs, h.2.2.1.1, q_a0]
  · rw [q_zo (by omega)]; exact h.2.2.1.2.1
  · rw [q_zo (by omega)]; exact h.2.2.1.2.2.1
  · rw [q_zo (by omega)]; exact h.2.2.1.2.2.2
theorem q_aClaim {T : q_N} {c : Nat} {I0 : z_I} {L : z_L} {J0 : z_I} {K : z_L} {C : q_N} {dn : Nat} {I J : z_I} (h : q_lr T c I0 L J0 K C dn (nI 0) I J) (hc : c = 3 ∨ c = 22) {k : Nat} (hk : k < C 0 2) : q_ac T c I0 L J0 K dn I J (f_X4_tryClaim I (nI k)) (f_X11_makesBy J (nI k)) := by
  obtain ⟨⟨hx, hm, ok, tk⟩, ⟨h5, s, s1, s2, s3⟩, ⟨e7, e8, e9, e10⟩, -⟩ := id h
  obtain ⟨o0, o1, o2, o3, -⟩ := id ok
  have hz := q_zc hc
  have hmk := m_makes hm ok hk
  have him := x0_isMade hx (k := k) (by omega)
  cases hb : (C 0 6).testBit k with
  | true =>
    rw [hb] at him
    rw [hb, if_pos rfl] at hmk
    obtain ⟨q1, q2, q3⟩ := q_miss h hc
    refine ⟨C, _, false, J, ?_, ?_, q1, q2, q3⟩
    · simp (disch := omega) only [f_X4_tryClaim, h5, nI_clamp, hz, him, if_pos, ↓reduceIte, q_zlt, ql_1]
    · unfold f_X11_makesBy
      rw [hmk, q_bs, if_pos rfl]
  | false =>
    rw [hb] at him
    rw [hb, if_neg (by decide)] at hmk
    have hpf := x0_putForward hx ok hk
    obtain ⟨k4, -⟩ := ok.2.2.2.2.2.2.2.2.2.1 k hk
    have hyl := q_yd_le ok (C 0 6) k
    have hM := ok.2.2.2.2.2.2.1
    have ok1 := ok.made (q_orp hM hk)
    have hx1 := (hx.put (r := 0) (k := 6) (v := C 0 6 ||| 2 ^ k) (by simp [q_bd]) (by omega)).put (r := 1) (k := C 4 k) (v := min 9999 (C 1 (C 4 k) + q_yd C (C 0 6) k)) (show C 4 k < z2 C 0 6 (C 0 6 ||| 2 ^ k) 0 0 by rw [q_zo (by omega)]; exact k4) (by omega)
    have hm1 := (hm.put0 ok (r := 0) (k := 6) (v := C 0 6 ||| 2 ^ k) (p := 6) (by simp [q_bd]) (by omega) rfl).put0 ok1 (r := 1) (k := C 4 k) (v := min 9999 (C 1 (C 4 k) + q_yd C (C 0 6) k)) (p := 10 + 2 * C 4 k) (show C 4 k < z2 C 0 6 (C 0 6 ||| 2 ^ k) 0 0 by rw [q_zo (by omega)]; exact k4) (by omega) rfl
    have ok2 : q_ok (z2 (z2 C 0 6 (C 0 6 ||| 2 ^ k)) 1 (C 4 k) (min 9999 (C 1 (C 4 k) + q_yd C (C 0 6) k))) := ok1.put (by omega) (by omega) (by omega) (by omega) (by omega) (by omega) (by omega) (by omega) (by omega) (by omega) (by omega)
    generalize hI1 : z2 (z2 I c 16 (nI (C 0 6 ||| 2 ^ k))) (c + 1) (C 4 k) (nI (min 9999 (C 1 (C 4 k) + q_yd C (C 0 6) k))) = I1 at hpf
    generalize hJ1 : z2 (z2 J 1 6 (nI (C 0 6 ||| 2 ^ k))) 1 (10 + 2 * C 4 k) (nI (min 9999 (C 1 (C 4 k) + q_yd C (C 0 6) k))) = J1 at hmk
    have hx1 : q_sx (z2 (z2 C 0 6 (C 0 6 ||| 2 ^ k)) 1 (C 4 k) (min 9999 (C 1 (C 4 k) + q_yd C (C 0 6) k))) c I1 L := by rw [← hI1]; exact hx1
    have hm1 : q_sm (z2 (z2 C 0 6 (C 0 6 ||| 2 ^ k)) 1 (C 4 k) (min 9999 (C 1 (C 4 k) + q_yd C (C 0 6) k))) 0 0 J1 K := by rw [← hJ1]; exact hm1
    have gI : ∀ d j, d < c ∨ c + 10 < d → I1 d j = I d j := fun d j hd => by rw [← hI1, q_zo (by omega), q_zo (by omega)]
    have gJ : ∀ d j, d ≠ 1 ∨ 60 ≤ j ∨ j = 7 → J1 d j = J d j := fun d j hd => by rw [← hJ1, q_zo (by omega), q_zo (by omega)]
    have fI : q_lF c I (z2 I1 45 8 (I 45 8 + nI (q_yd C (C 0 6) k))) := fun d j d1 d2 => by rw [q_zo (by omega), gI d j d1]
    have fJ : q_lG J (z2 J1 21 1 (J1 21 1 + nI (q_yd C (C 0 6) k))) := fun d j d1 d2 d3 => by rw [q_zo (by omega), gJ d j d1]
    refine ⟨_, z2 I1 45 8 (I 45 8 + nI (q_yd C (C 0 6) k)), true, z2 J1 21 1 (J1 21 1 + nI (q_yd C (C 0 6) k)), ?_, ?_, h.up hc (C' := z2 (z2 C 0 6 (C 0 6 ||| 2 ^ k)) 1 (C 4 k) (min 9999 (C 1 (C 4 k) + q_yd C (C 0 6) k))) (hx1.go (fun d j a b => q_zo (by omega)) (fun _ _ _ _ => rfl)) (hm1.go ok2 (fun j a b => q_zo (by omega)) (fun _ _ _ => rfl)) ok2 (fun i hi => by rw [q_zo (by omega), q_zo (by omega)]) fI fJ ⟨s, s1, by rw [q_zo (by omega), gI 45 6 (by omega), s2], by rw [q_zo (by omega), gJ 0 39 (by omega), s3]⟩ ⟨?_, ?_, ?_, ?_⟩, fI, fJ⟩
    · simp (disch := omega) only [f_X4_tryClaim, h5, nI_clamp, hz, him, Bool.false_eq_true, if_pos, if_neg, ↓reduceIte, ↓q_bk hpf, q_zlt]
    · have hy1 : ¬ nI (q_yd C (C 0 6) k) = -1 := fun y => (q_nno (n := q_yd C (C 0 6) k) (by omega)).1 y
      unfold f_X11_makesBy
      rw [hmk, q_bs, if_neg hy1, q_zlt]
    · rw [q_zo (by omega), q_zo (by omega), gI 45 7 (by omega), gJ 21 0 (by omega)]; exact e7
    · rw [q_zs, q_zs, e8, gJ 21 1 (by omega)]
    · rw [q_zo (by omega), q_zo (by omega), gI 45 9 (by omega), gJ 21 2 (by omega)]; exact e9
    · rw [q_zo (by omega), q_zo (by omega), gI 45 10 (by omega), gJ 21 3 (by omega)]; exact e10
theorem q_aPick {T : q_N} {c : Nat} {I0 : z_I} {L : z_L} {J0 : z_I} {K : z_L} {C : q_N} {dn : Nat} {I J : z_I} (h : q_lr T c I0 L J0 K C dn (nI 0) I J) (hc : c = 3 ∨ c = 22) {k : Nat} (hk : k < C 0 3) : q_ac T c I0 L J0 K dn I J (f_X4_tryHarvest I (nI k)) (f_X11_picksBy J (nI k)) := by
  obtain ⟨⟨hx, hm, ok, tk⟩, ⟨h5, s, s1, s2, s3⟩, ⟨e7, e8, e9, e10⟩, -⟩ := id h
  obtain ⟨o0, o1, o2, o3, -⟩ := id ok
  have hz := q_zc hc
  have hmk := m_picks hm ok hk
  have hpf := x0_harvest hx ok hk
  obtain ⟨k8, k9, -⟩ := ok.2.2.2.2.2.2.2.2.2.2 k hk
  obtain ⟨k1, -⟩ := ok.2.2.2.2.2.2.2.1 (C 8 k) k8
  have ok1 : q_ok (z2 C 1 (C 8 k) 0) := ok.put (by omega) (by omega) (by omega) (by omega) (by omega) (by omega) (by omega) (by omega) (by omega) (by omega) (by omega)
  have ok2 : q_ok (z2 (z2 C 1 (C 8 k) 0) 9 k (min 9999 (C 9 k + C 1 (C 8 k)))) := ok1.put (by omega) (by omega) (by omega) (by omega) (by omega) (by omega) (by omega) (by omega) (by omega) (by omega) (by omega)
  have hx1 := (hx.put (r := 1) (k := C 8 k) (v := 0) k8 (by omega)).put (r := 9) (k := k) (v := min 9999 (C 9 k + C 1 (C 8 k))) (show k < z2 C 1 (C 8 k) 0 0 3 by rw [q_zo (by omega)]; exact hk) (by omega)
  have hm1 := (hm.put0 ok (r := 1) (k := C 8 k) (v := 0) (p := 10 + 2 * C 8 k) k8 (by omega) rfl).put0 ok1 (r := 9) (k := k) (v := min 9999 (C 9 k + C 1 (C 8 k))) (p := 51 + 2 * k + 1) (show k < z2 C 1 (C 8 k) 0 0 3 by rw [q_zo (by omega)]; exact hk) (by omega) (by simp only [q_pm]; omega)
  generalize hI1 : z2 (z2 I (c + 1) (C 8 k) (nI 0)) (c + 9) k (nI (min 9999 (C 9 k + C 1 (C 8 k)))) = I1 at hpf
  generalize hJ1 : z2 (z2 J 1 (10 + 2 * C 8 k) (nI 0)) 1 (51 + 2 * k + 1) (nI (min 9999 (C 9 k + C 1 (C 8 k)))) = J1 at hmk
  have hx1 : q_sx (z2 (z2 C 1 (C 8 k) 0) 9 k (min 9999 (C 9 k + C 1 (C 8 k)))) c I1 L := by rw [← hI1]; exact hx1
  have hm1 : q_sm (z2 (z2 C 1 (C 8 k) 0) 9 k (min 9999 (C 9 k + C 1 (C 8 k)))) 0 0 J1 K := by rw [← hJ1]; exact hm1
  have gI : ∀ d j, d < c ∨ c + 10 < d → I1 d j = I d j := fun d j hd => by rw [← hI1, q_zo (by omega), q_zo (by omega)]
  have gJ : ∀ d j, d ≠ 1 ∨ 60 ≤ j ∨ j = 7 → J1 d j = J d j := fun d j hd => by rw [← hJ1, q_zo (by omega), q_zo (by omega)]
  have g7 : I1 45 7 = I 45 7 := gI 45 7 (by omega)
  have fJ : q_lG J (z2 J1 21 2 (J1 21 2 + nI (C 1 (C 8 k)))) := fun d j d1 d2 d3 => by rw [q_zo (by omega), gJ d j d1]
  by_cases z : C 1 (C 8 k) = 0
  · have fI : q_lF c I (z2 (z2 I1 45 9 (I1 45 9 + nI (C 1 (C 8 k)))) 45 7 (I1 45 7 + nI 1)) := fun d j d1 d2 => by rw [q_zo (by omega), q_zo (by omega), gI d j d1]
    refine ⟨_, z2 (z2 I1 45 9 (I1 45 9 + nI (C 1 (C 8 k)))) 45 7 (I1 45 7 + nI 1), false, z2 J1 21 2 (J1 21 2 + nI (C 1 (C 8 k))), ?_, ?_, h.up hc (C' := z2 (z2 C 1 (C 8 k) 0) 9 k (min 9999 (C 9 k + C 1 (C 8 k)))) (hx1.go (fun d j a b => by rw [q_zo (by omega), q_zo (by omega)]) (fun _ _ _ _ => rfl)) (hm1.go ok2 (fun j a b => q_zo (by omega)) (fun _ _ _ => rfl)) ok2 (fun i hi => by rw [q_zo (by omega), q_zo (by omega)]) fI fJ ⟨s, s1, by rw [q_zo (by omega), q_zo (by omega), gI 45 6 (by omega), s2], by rw [q_zo (by omega), gJ 0 39 (by omega), s3]⟩ ⟨?_, ?_, ?_, ?_⟩, fI, fJ⟩
    · unfold f_X4_tryHarvest
      rw [h5, nI_clamp (by omega), if_pos hz, hpf, q_bs, q_zlt, if_pos (show nI (C 1 (C 8 k)) = 0 by rw [z]; rfl), q_zlt]
      rfl
    · unfold f_X11_picksBy
      rw [hmk, q_bs, q_zlt, if_pos (show nI (C 1 (C 8 k)) ≤ 0 by rw [z]; decide)]
    · rw [q_zs, q_zo (by omega), g7, gJ 21 0 (by omega), e7, q_a0]; rfl
    · rw [q_zo (by omega), q_zo (by omega), q_zo (by omega), gI 45 8 (by omega), gJ 21 1 (by omega)]; exact e8
    · rw [q_zo (by omega), q_zs, q_zs, gI 45 9 (by omega), gJ 21 2 (by omega), e9]
    · rw [q_zo (by omega), q_zo (by omega), q_zo (by omega), gI 45 10 (by omega), gJ 21 3 (by omega)]; exact e10
  · have fI : q_lF c I (z2 I1 45 9 (I1 45 9 + nI (C 1 (C 8 k)))) := fun d j d1 d2 => by rw [q_zo (by omega), gI d j d1]
    refine ⟨_, z2 I1 45 9 (I1 45 9 + nI (C 1 (C 8 k))), true, z2 J1 21 2 (J1 21 2 + nI (C 1 (C 8 k))), ?_, ?_, h.up hc (C' := z2 (z2 C 1 (C 8 k) 0) 9 k (min 9999 (C 9 k + C 1 (C 8 k)))) (hx1.go (fun d j a b => by rw [q_zo (by omega)]) (fun _ _ _ _ => rfl)) (hm1.go ok2 (fun j a b => q_zo (by omega)) (fun _ _ _ => rfl)) ok2 (fun i hi => by rw [q_zo (by omega), q_zo (by omega)]) fI fJ ⟨s, s1, by rw [q_zo (by omega), gI 45 6 (by omega), s2], by rw [q_zo (by omega), gJ 0 39 (by omega), s3]⟩ ⟨?_, ?_, ?_, ?_⟩, fI, fJ⟩
    · unfold f_X4_tryHarvest
      rw [h5, nI_clamp (by omega), if_pos hz, hpf, q_bs, q_zlt, if_neg (show ¬ nI (C 1 (C 8 k)) = 0 by rw [ql_0, nI_eq (by omega) (by omega)]; exact z)]
    · unfold f_X11_picksBy
      rw [hmk, q_bs, q_zlt, if_neg (show ¬ nI (C 1 (C 8 k)) ≤ 0 by rw [ql_0, nI_leI (by omega) (by omega)]; omega)]
    · rw [q_zo (by omega), q_zo (by omega), g7, gJ 21 0 (by omega)]; exact e7
    · rw [q_zo (by omega), q_zo (by omega), gI 45 8 (by omega), gJ 21 1 (by omega)]; exact e8
    · rw [q_zs, q_zs, gI 45 9 (by omega), gJ 21 2 (by omega), e9]
    · rw [q_zo (by omega), q_zo (by omega), gI 45 10 (by omega), gJ 21 3 (by omega)]; exact e10
theorem q_aWalk {T : q_N} {c : Nat} {I0 : z_I} {L : z_L} {J0 : z_I} {K : z_L} {C : q_N} {dn : Nat} {I J : z_I} (h : q_lr T c I0 L J0 K C dn (nI 0) I J) (hc : c = 3 ∨ c = 22) {k b : Nat} (hk : k < C 0 3) (hb : b < C 0 0) : q_ac T c I0 L J0 K dn I J (f_X4_tryBed I (nI k) (nI b)) (f_X11_walks J (nI k) (nI b)) := by
  obtain ⟨⟨hx, hm, ok, tk⟩, ⟨h5, s, s1, s2, s3⟩, ⟨e7, e8, e9, e10⟩, -⟩ := id h
  obtain ⟨o0, o1, o2, o3, -⟩ := id ok
  have hz := q_zc hc
  have a8 := hx.a8 hk
  have m8 := hm.a8 hk
  obtain ⟨k8, k9, -⟩ := ok.2.2.2.2.2.2.2.2.2.2 k hk
  by_cases z : C 8 k = b
  · obtain ⟨q1, q2, q3⟩ := q_miss h hc
    have hid : z2 J 1 (51 + 2 * k) (nI b) = J := q_zid (by rw [m8, z])
    refine ⟨C, _, false, J, ?_, ?_, q1, q2, q3⟩
    · simp (disch := omega) only [f_X4_tryBed, h5, ql_0, ql_1, ql_2, ql_3, ql_4, ql_5, ql_6, ql_7, ql_8, ql_9, ql_10, ql_11, ql_12, ql_13, ql_14, ql_15, ql_16, ql_17, ql_18, ql_19, ql_20, ql_21, ql_22, ql_23, ql_24, ql_27, ql_30, ql_31, ql_32, ql_40, ql_48, ql_51, ql_52, ql_57, ql_59, ql_60, ql_61, ql_62, ql_76, ql_84, ql_91, ql_97, ql_99, ql_100, ql_120, ql_122, ql_127, ql_128, ql_200, ql_255, ql_256, ql_300, ql_420, ql_428, ql_640, ql_900, ql_896, ql_999, ql_1712, ql_1716, ql_1734, ql_1772, ql_1800, ql_1805, ql_1811, ql_1822, ql_2132, ql_2140, ql_3229, ql_9999, ql_11453, ql_65536, ql_100000, ql_1000000, nI_add, pk_mul, q_and, q_or, q_xor, nI_clamp, q_in, q_neg1, q_nno, q_nno', q_annN, q_sh1, q_tbN, nI_leI, nI_ltI, nI_eq, pk_sub, ↓reduceIte, if_pos, if_neg, q_zlt, q_bs, hz, a8, z]
    · simp (disch := omega) only [f_X11_walks, f_X11_scholarRow, ql_0, ql_1, ql_2, ql_3, ql_4, ql_5, ql_6, ql_7, ql_8, ql_9, ql_10, ql_11, ql_12, ql_13, ql_14, ql_15, ql_16, ql_17, ql_18, ql_19, ql_20, ql_21, ql_22, ql_23, ql_24, ql_27, ql_30, ql_31, ql_32, ql_40, ql_48, ql_51, ql_52, ql_57, ql_59, ql_60, ql_61, ql_62, ql_76, ql_84, ql_91, ql_97, ql_99, ql_100, ql_120, ql_122, ql_127, ql_128, ql_200, ql_255, ql_256, ql_300, ql_420, ql_428, ql_640, ql_900, ql_896, ql_999, ql_1712, ql_1716, ql_1734, ql_1772, ql_1800, ql_1805, ql_1811, ql_1822, ql_2132, ql_2140, ql_3229, ql_9999, ql_11453, ql_65536, ql_100000, ql_1000000, nI_add, pk_mul, q_and, q_or, q_xor, nI_clamp, q_in, q_neg1, q_nno, q_nno', q_annN, q_sh1, q_tbN, nI_leI, nI_ltI, nI_eq, pk_sub, ↓reduceIte, if_pos, if_neg, q_zlt, q_bs, m8, z, hid]
  · have ok1 : q_ok (z2 C 8 k b) := ok.put (by omega) (by omega) (by omega) (by omega) (by omega) (by omega) (by omega) (by omega) (by omega) (by omega) (by omega)
    have hx1 := hx.put (r := 8) (k := k) (v := b) hk (by omega)
    have hm1 := hm.put0 ok (r := 8) (k := k) (v := b) (p := 51 + 2 * k) hk (by omega) rfl
    have fI : q_lF c I (z2 I (c + 8) k (nI b)) := fun d j d1 d2 => q_zo (by omega)
    have fJ : q_lG J (z2 J 1 (51 + 2 * k) (nI b)) := fun d j d1 d2 d3 => q_zo (by omega)
    refine ⟨_, z2 I (c + 8) k (nI b), true, z2 J 1 (51 + 2 * k) (nI b), ?_, ?_, h.up hc (C' := z2 C 8 k b) hx1 hm1 ok1 (fun i hi => q_zo (by omega)) fI fJ ⟨s, s1, by rw [q_zo (by omega), s2], by rw [q_zo (by omega), s3]⟩ ⟨?_, ?_, ?_, ?_⟩, fI, fJ⟩
    · simp (disch := omega) only [f_X4_tryBed, h5, ql_0, ql_1, ql_2, ql_3, ql_4, ql_5, ql_6, ql_7, ql_8, ql_9, ql_10, ql_11, ql_12, ql_13, ql_14, ql_15, ql_16, ql_17, ql_18, ql_19, ql_20, ql_21, ql_22, ql_23, ql_24, ql_27, ql_30, ql_31, ql_32, ql_40, ql_48, ql_51, ql_52, ql_57, ql_59, ql_60, ql_61, ql_62, ql_76, ql_84, ql_91, ql_97, ql_99, ql_100, ql_120, ql_122, ql_127, ql_128, ql_200, ql_255, ql_256, ql_300, ql_420, ql_428, ql_640, ql_900, ql_896, ql_999, ql_1712, ql_1716, ql_1734, ql_1772, ql_1800, ql_1805, ql_1811, ql_1822, ql_2132, ql_2140, ql_3229, ql_9999, ql_11453, ql_65536, ql_100000, ql_1000000, nI_add, pk_mul, q_and, q_or, q_xor, nI_clamp, q_in, q_neg1, q_nno, q_nno', q_annN, q_sh1, q_tbN, nI_leI, nI_ltI, nI_eq, pk_sub, ↓reduceIte, if_pos, if_neg, q_zlt, q_bs, hz, a8, z]
    · simp (disch := omega) only [f_X11_walks, f_X11_scholarRow, ql_0, ql_1, ql_2, ql_3, ql_4, ql_5, ql_6, ql_7, ql_8, ql_9, ql_10, ql_11, ql_12, ql_13, ql_14, ql_15, ql_16, ql_17, ql_18, ql_19, ql_20, ql_21, ql_22, ql_23, ql_24, ql_27, ql_30, ql_31, ql_32, ql_40, ql_48, ql_51, ql_52, ql_57, ql_59, ql_60, ql_61, ql_62, ql_76, ql_84, ql_91, ql_97, ql_99, ql_100, ql_120, ql_122, ql_127, ql_128, ql_200, ql_255, ql_256, ql_300, ql_420, ql_428, ql_640, ql_900, ql_896, ql_999, ql_1712, ql_1716, ql_1734, ql_1772, ql_1800, ql_1805, ql_1811, ql_1822, ql_2132, ql_2140, ql_3229, ql_9999, ql_11453, ql_65536, ql_100000, ql_1000000, nI_add, pk_mul, q_and, q_or, q_xor, nI_clamp, q_in, q_neg1, q_nno, q_nno', q_annN, q_sh1, q_tbN, nI_leI, nI_ltI, nI_eq, pk_sub, ↓reduceIte, if_pos, if_neg, q_zlt, q_bs, m8, z]
    · rw [q_zo (by omega), q_zo (by omega)]; exact e7
    · rw [q_zo (by omega), q_zo (by omega)]; exact e8
    · rw [q_zo (by omega), q_zo (by omega)]; exact e9
    · rw [q_zo (by omega), q_zo (by omega)]; exact e10
theorem q_aNight {T : q_N} {c : Nat} {I0 : z_I} {L : z_L} {J0 : z_I} {K : z_L} {C : q_N} {dn : Nat} {I J : z_I} (h : q_lr T c I0 L J0 K C dn (nI 0) I J) (hc : c = 3 ∨ c = 22) {p : Nat} (hp : p ≤ 40) : q_ac T c I0 L J0 K dn I J (f_X4_tryNights I (nI p)) (f_X11_nightsBy J (nI p)) := by
  obtain ⟨⟨hx, hm, ok, tk⟩, ⟨h5, s, s1, s2, s3⟩, ⟨e7, e8, e9, e10⟩, -⟩ := id h
  obtain ⟨o0, o1, o2, o3, o4, o5, -⟩ := id ok
  have hz := q_zc hc
  have m5 := hm.f.2.2.2.2.2.1
  by_cases z : C 0 5 + p ≤ 9999
  · obtain ⟨⟨b1, I1⟩, eX, tX, hx1, gI⟩ := x0_passNights hx ok (p := p) (by omega) z
    obtain ⟨J1, eM, hm1, gJ⟩ := m_nightsGo hm ok (p := p) (by omega) z
    have tX : b1 = true := tX
    subst tX
    have hx1 : q_sx (q_nt C p) c I1 L := hx1
    have gI : ∀ d k, d ≠ c → d ≠ c + 1 → d ≠ c + 2 → I1 d k = I d k := gI
    have ok2 := q_nt_ok ok z
    have fI : q_lF c I (z2 I1 45 10 (I1 45 10 + nI p)) := fun d j d1 d2 => by rw [q_zo (by omega), gI d j (by omega) (by omega) (by omega)]
    have fJ : q_lG J (z2 J1 21 3 (J1 21 3 + nI p)) := fun d j d1 d2 d3 => by rw [q_zo (by omega), gJ d j (by omega)]
    refine ⟨_, z2 I1 45 10 (I1 45 10 + nI p), true, z2 J1 21 3 (J1 21 3 + nI p), ?_, ?_, h.up hc (C' := q_nt C p) (hx1.go (fun d j a b => q_zo (by omega)) (fun _ _ _ _ => rfl)) (hm1.go ok2 (fun j a b => q_zo (by omega)) (fun _ _ _ => rfl)) ok2 (fun i hi => q_nt_c _ _ (by omega)) fI fJ ⟨s, s1, by rw [q_zo (by omega), gI 45 6 (by omega) (by omega) (by omega), s2], by rw [q_zo (by omega), gJ 0 39 (by omega), s3]⟩ ⟨?_, ?_, ?_, ?_⟩, fI, fJ⟩
    · unfold f_X4_tryNights
      rw [h5, nI_clamp (by omega), if_pos hz, eX, q_bs, if_pos rfl, q_zlt]
    · unfold f_X11_nightsBy
      rw [m5, nI_add, if_pos (show nI (C 0 5 + p) ≤ 9999 from nI_le z (by decide)), eM, q_bs, q_zlt]
    · rw [q_zo (by omega), q_zo (by omega), gI 45 7 (by omega) (by omega) (by omega), gJ 21 0 (by omega)]; exact e7
    · rw [q_zo (by omega), q_zo (by omega), gI 45 8 (by omega) (by omega) (by omega), gJ 21 1 (by omega)]; exact e8
    · rw [q_zo (by omega), q_zo (by omega), gI 45 9 (by omega) (by omega) (by omega), gJ 21 2 (by omega)]; exact e9
    · rw [q_zs, q_zs, gI 45 10 (by omega) (by omega) (by omega), gJ 21 3 (by omega), e10]
  · have eX := x0_noNights hx ok (p := p) (by omega) z
    obtain ⟨q1, q2, q3⟩ := q_miss h hc
    refine ⟨C, _, false, J, ?_, ?_, q1, q2, q3⟩
    · unfold f_X4_tryNights
      rw [h5, nI_clamp (by omega), if_pos hz, eX, q_bs, if_neg (show ¬ (false = true) by decide), q_zlt]
      rfl
    · unfold f_X11_nightsBy
      rw [m5, nI_add, if_neg (show ¬ nI (C 0 5 + p) ≤ 9999 by rw [ql_9999, nI_leI (by omega) (by omega)]; omega)]
theorem q_aForget {T : q_N} {c : Nat} {I0 : z_I} {L : z_L} {J0 : z_I} {K : z_L} {C : q_N} {dn : Nat} {I J : z_I} (h : q_lr T c I0 L J0 K C dn (nI 0) I J) (hc : c = 3 ∨ c = 22) : q_ac T c I0 L J0 K dn I J (f_X4_tryForgetting I) ((f_X11_forgets J).bind fun q16 => if q16.1 ≤ 0 then some (false, q16.2) else some (true, q16.2)) := by
  obtain ⟨⟨hx, hm, ok, tk⟩, ⟨h5, s, s1, s2, s3⟩, ⟨e7, e8, e9, e10⟩, -⟩ := id h
  obtain ⟨o0, o1, o2, o3, o4, o5, -⟩ := id ok
  have hz := q_zc hc
  have hM7 := q_okM ok
  have x6 := hx.f.2.2.2.2.2.2
  have m6 := hm.f.2.2.2.2.2.2
  have hbt := m_bits (x := C 0 6) (by omega)
  have hpc := q_pc7 (C 0 6) hM7
  have ok1 := ok.made (v := 0) (Nat.two_pow_pos _)
  have hx1 := hx.put (r := 0) (k := 6) (v := 0) (by simp [q_bd]) (by omega)
  have hm1 := hm.put0 ok (r := 0) (k := 6) (v := 0) (p := 6) (by simp [q_bd]) (by omega) rfl
  by_cases z : C 0 6 = 0
  · have hi1 : z2 J 1 6 (nI 0) = J := q_zid (by rw [m6, z])
    have hi2 : z2 (z2 I 45 7 (I 45 7 + nI 1)) c 16 (nI 0) = z2 I 45 7 (I 45 7 + nI 1) := q_zid (by rw [q_zo (by omega), x6, z])
    obtain ⟨q1, q2, q3⟩ := q_miss h hc
    rw [z] at hbt
    refine ⟨C, _, false, J, ?_, ?_, q1, q2, q3⟩
    · unfold f_X4_tryForgetting
      rw [h5, nI_clamp (by omega), if_pos hz, x6, if_pos (show nI (C 0 6) = 0 by rw [z]; rfl), q_zlt, q_zlt]
      exact congrArg some hi2
    · unfold f_X11_forgets
      rw [m6, z, hbt, q_bs, q_zlt, q_bs, if_pos (show nI (q_pc 0) ≤ 0 by decide)]
      exact congrArg (fun w => some (false, w)) hi1
  · have hp0 : ¬ q_pc (C 0 6) = 0 := fun y => z ((q_pc0 (C 0 6) (by omega)).2.1 y)
    have fI : q_lF c I (z2 I c 16 (nI 0)) := fun d j d1 d2 => q_zo (by omega)
    have fJ : q_lG J (z2 J 1 6 (nI 0)) := fun d j d1 d2 d3 => q_zo (by omega)
    refine ⟨_, z2 I c 16 (nI 0), true, z2 J 1 6 (nI 0), ?_, ?_, h.up hc (C' := z2 C 0 6 0) hx1 hm1 ok1 (fun i hi => q_zo (by omega)) fI fJ ⟨s, s1, by rw [q_zo (by omega), s2], by rw [q_zo (by omega), s3]⟩ ⟨?_, ?_, ?_, ?_⟩, fI, fJ⟩
    · unfold f_X4_tryForgetting
      rw [h5, nI_clamp (by omega), if_pos hz, x6, if_neg (show ¬ nI (C 0 6) = 0 by rw [ql_0, nI_eq (by omega) (by omega)]; exact z), q_zlt]
      rfl
    · unfold f_X11_forgets
      rw [m6, hbt, q_bs, q_zlt, q_bs, if_neg (show ¬ nI (q_pc (C 0 6)) ≤ 0 by rw [ql_0, nI_leI (by omega) (by omega)]; omega)]
      rfl
    · rw [q_zo (by omega), q_zo (by omega)]; exact e7
    · rw [q_zo (by omega), q_zo (by omega)]; exact e8
    · rw [q_zo (by omega), q_zo (by omega)]; exact e9
    · rw [q_zo (by omega), q_zo (by omega)]; exact e10
/-- one draw -/
def q_dw (s : Nat) : Nat := (s * 3229 + 11453) % 65536
theorem q_dw_lt (s : Nat) : q_dw s < 65536 := Nat.mod_lt _ (by decide)
theorem q_dwI {s : Nat} (hs : s < 65536) : nI s * 3229 + 11453 - (nI s * 3229 + 11453) / 65536 * 65536 = nI (q_dw s) := by
  rw [ql_3229, ql_11453, ql_65536, pk_mul, nI_add, pk_rem (by omega) (by decide) (by decide)]
  rfl
theorem q_dwQ {s n : Nat} (hs : s < 65536) (h0 : 0 < n) (hn : n ≤ 100) : nI (q_dw s) / 8 - nI (q_dw s) / 8 / nI n * nI n = nI (q_dw s / 8 % n) := by
  have := q_dw_lt s
  rw [ql_8, pk_div (by omega) (by decide) (by decide), pk_rem (by omega) h0 (by omega)]
theorem x4_draw {I : z_I} {s n : Nat} (e : I 45 6 = nI s) (hs : s < 65536) (h0 : 0 < n) (hn : n ≤ 100) : f_X4_draw I (nI n) = some (nI (q_dw s / 8 % n), z2 I 45 6 (nI (q_dw s))) := by
  unfold f_X4_draw
  rw [e, q_dwI hs, q_zlt, if_neg (show ¬ nI n ≤ 0 by rw [ql_0, nI_leI (by omega) (by omega)]; omega), if_pos (show ¬ nI n = 0 by rw [ql_0, nI_eq (by omega) (by omega)]; omega), q_dwQ hs h0 hn]
theorem m_draw {J : z_I} {s n : Nat} (e : J 0 39 = nI s) (hs : s < 65536) (h0 : 0 < n) (hn : n ≤ 100) : f_X11_draw J (nI n) = some (nI (q_dw s / 8 % n), z2 J 0 39 (nI (q_dw s))) := by
  unfold f_X11_draw
  rw [e, q_dwI hs, q_zlt, if_pos (show ¬ nI n = 0 by rw [ql_0, nI_eq (by omega) (by omega)]; omega), q_dwQ hs h0 hn]
theorem q_lr.dw {T : q_N} {c : Nat} {I0 : z_I} {L : z_L} {J0 : z_I} {K : z_L} {C : q_N} {dn : Nat} {ms : Int32} {I J : z_I} (h : q_lr T c I0 L J0 K C dn ms I J) (hc : c = 3 ∨ c = 22) {s : Nat} (hs : s < 65536) : q_lr T c I0 L J0 K C dn ms (z2 I 45 6 (nI s)) (z2 J 0 39 (nI s)) ∧ q_lF c I (z2 I 45 6 (nI s)) ∧ q_lG J (z2 J 0 39 (nI s)) := by
  have fI : q_lF c I (z2 I 45 6 (nI s)) := fun d j d1 d2 => q_zo (by omega)
  have fJ : q_lG J (z2 J 0 39 (nI s)) := fun d j d1 d2 d3 => q_zo (by omega)
  refine ⟨h.up hc (h.1.1.go (fun d k a b => q_zo (by omega)) (fun _ _ _ _ => rfl)) (h.1.2.1.go h.1.2.2.1 (fun j a b => q_zo (by omega)) (fun _ _ _ => rfl)) h.1.2.2.1 (fun _ _ => rfl) fI fJ ⟨s, hs, q_zs, q_zs⟩ ⟨?_, ?_, ?_, ?_⟩, fI, fJ⟩
  · rw [q_zo (by omega), q_zo (by omega)]; exact h.2.2.1.1
  · rw [q_zo (by omega), q_zo (by omega)]; exact h.2.2.1.2.1
  · rw [q_zo (by omega), q_zo (by omega)]; exact h.2.2.1.2.2.1
  · rw [q_zo (by omega), q_zo (by omega)]; exact h.2.2.1.2.2.2
theorem q_ac.tr {T : q_N} {c : Nat} {I0 : z_I} {L : z_L} {J0 : z_I} {K : z_L} {dn : Nat} {I J I1 J1 : z_I} {A : Option z_I} {B : Option (Bool × z_I)} (h : q_ac T c I0 L J0 K dn I1 J1 A B) (fI : q_lF c I I1) (fJ : q_lG J J1) : q_ac T c I0 L J0 K dn I J A B := by
  obtain ⟨C', I', b, J', e1, e2, h1, h2, h3⟩ := h
  exact ⟨C', I', b, J', e1, e2, h1, fun d k d1 d2 => by rw [h2 d k d1 d2, fI d k d1 d2], fun d k d1 d2 d3 => by rw [h3 d k d1 d2 d3, fJ d k d1 d2 d3]⟩
theorem q_aAny {T : q_N} {c : Nat} {I0 : z_I} {L : z_L} {J0 : z_I} {K : z_L} {C : q_N} {dn : Nat} {I J : z_I} (h : q_lr T c I0 L J0 K C dn (nI 0) I J) (hc : c = 3 ∨ c = 22) : q_ac T c I0 L J0 K dn I J (f_X4_tryAny I) (f_X11_doesAny J) := by
  obtain ⟨⟨hx, hm, ok, tk⟩, ⟨h5, s, s1, s2, s3⟩, -⟩ := id h
  obtain ⟨o0, o1, o2, o3, o4, o5, -⟩ := id ok
  have hz := q_zc hc
  have x2 := hx.f.2.2.1
  have x3 := hx.f.2.2.2.1
  have m2 := hm.f.2.2.1
  have m3 := hm.f.2.2.2.1
  by_cases z2' : C 0 2 = 0
  · obtain ⟨q1, q2, q3⟩ := q_miss h hc
    refine ⟨C, _, false, J, ?_, ?_, q1, q2, q3⟩
    · unfold f_X4_tryAny
      rw [h5, nI_clamp (by omega), if_pos hz, x2, if_pos (show nI (C 0 2) = 0 by rw [z2']; rfl), q_zlt]
      rfl
    · unfold f_X11_doesAny
      rw [m2, if_pos (show nI (C 0 2) = 0 by rw [z2']; rfl)]
  have n2 : ¬ nI (C 0 2) = 0 := by rw [ql_0, nI_eq (by omega) (by omega)]; exact z2'
  by_cases z3 : C 0 3 = 0
  · obtain ⟨q1, q2, q3⟩ := q_miss h hc
    refine ⟨C, _, false, J, ?_, ?_, q1, q2, q3⟩
    · unfold f_X4_tryAny
      rw [h5, nI_clamp (by omega), if_pos hz, x2, if_neg n2, x3, if_pos (show nI (C 0 3) = 0 by rw [z3]; rfl), q_zlt]
      rfl
    · unfold f_X11_doesAny
      rw [m2, if_neg n2, m3, if_pos (show nI (C 0 3) = 0 by rw [z3]; rfl)]
  have n3 : ¬ nI (C 0 3) = 0 := by rw [ql_0, nI_eq (by omega) (by omega)]; exact z3
  obtain ⟨w1, a1, b1⟩ := h.dw hc (q_dw_lt s)
  have d1 := x4_draw s2 s1 (n := C 0 2) (by omega) (by omega)
  have e1 := m_draw s3 s1 (n := C 0 2) (by omega) (by omega)
  generalize hI1 : z2 I 45 6 (nI (q_dw s)) = I1 at w1 a1 d1
  generalize hJ1 : z2 J 0 39 (nI (q_dw s)) = J1 at w1 b1 e1
  have i1 : I1 45 6 = nI (q_dw s) := by rw [← hI1, q_zs]
  have j1 : J1 0 39 = nI (q_dw s) := by rw [← hJ1, q_zs]
  obtain ⟨w2, a2, b2⟩ := w1.dw hc (q_dw_lt (q_dw s))
  have d2 := x4_draw i1 (q_dw_lt s) (n := C 0 3) (by omega) (by omega)
  have e2 := m_draw j1 (q_dw_lt s) (n := C 0 3) (by omega) (by omega)
  generalize hI2 : z2 I1 45 6 (nI (q_dw (q_dw s))) = I2 at w2 a2 d2
  generalize hJ2 : z2 J1 0 39 (nI (q_dw (q_dw s))) = J2 at w2 b2 e2
  have i2 : I2 45 6 = nI (q_dw (q_dw s)) := by rw [← hI2, q_zs]
  have j2 : J2 0 39 = nI (q_dw (q_dw s)) := by rw [← hJ2, q_zs]
  obtain ⟨w3, a3, b3⟩ := w2.dw hc (q_dw_lt (q_dw (q_dw s)))
  have d3 := x4_draw i2 (q_dw_lt (q_dw s)) (n := 16) (by omega) (by omega)
  have e3 := m_draw j2 (q_dw_lt (q_dw s)) (n := 16) (by omega) (by omega)
  generalize hI3 : z2 I2 45 6 (nI (q_dw (q_dw (q_dw s)))) = I3 at w3 a3 d3
  generalize hJ3 : z2 J2 0 39 (nI (q_dw (q_dw (q_dw s)))) = J3 at w3 b3 e3
  have fI : q_lF c I I3 := fun d k d1 d2 => by rw [a3 d k d1 d2, a2 d k d1 d2, a1 d k d1 d2]
  have fJ : q_lG J J3 := fun d k d1 d2 d3 => by rw [b3 d k d1 d2 d3, b2 d k d1 d2 d3, b1 d k d1 d2 d3]
  have k1 : I1 45 5 = nI c := w1.2.1.1
  have k3 : I3 45 5 = nI c := w3.2.1.1
  have y1 := w1.1.1.f.2.2.2.1
  have y3 := w3.1.1.f.2.2.2.2.1
  have v1 := w1.1.2.1.f.2.2.2.1
  have v3 := w3.1.2.1.f.2.2.2.2.1
  have hd3 : q_dw (q_dw (q_dw s)) / 8 % 16 < 16 := Nat.mod_lt _ (by decide)
  have hd1 : q_dw s / 8 % C 0 2 < C 0 2 := Nat.mod_lt _ (by omega)
  have hd2 : q_dw (q_dw s) / 8 % C 0 3 < C 0 3 := Nat.mod_lt _ (by omega)
  by_cases z : C 0 4 ≤ q_dw (q_dw (q_dw s)) / 8 % 16
  · have hp := (q_aPick w3 hc hd2).tr fI fJ
    obtain ⟨C', I', b, J', p1, p2, p3⟩ := hp
    have hz4 : nI (C 0 4) ≤ nI (q_dw (q_dw (q_dw s)) / 8 % 16) := nI_le z (by omega)
    refine ⟨C', I', b, J', ?_, ?_, p3⟩
    · simp (disch := omega) only [f_X4_tryAny, h5, nI_clamp, hz, ↓reduceIte, x2, n2, x3, n3, ↓q_bk d1, k1, y1, q_bk d2, ql_16, q_bk d3, k3, y3, hz4, p1, q_bs]
    · simp (disch := omega) only [f_X11_doesAny, m2, n2, m3, n3, ↓reduceIte, ↓q_bk e1, v1, q_bk e2, ql_16, q_bk e3, v3, hz4, p2, q_bs]
  · have hp := (q_aClaim w3 hc hd1).tr fI fJ
    obtain ⟨C', I', b, J', p1, p2, p3⟩ := hp
    have hz4 : ¬ nI (C 0 4) ≤ nI (q_dw (q_dw (q_dw s)) / 8 % 16) := nI_ge (by omega) (by omega)
    refine ⟨C', I', b, J', ?_, ?_, p3⟩
    · simp (disch := omega) only [f_X4_tryAny, h5, nI_clamp, hz, ↓reduceIte, x2, n2, x3, n3, ↓q_bk d1, k1, y1, q_bk d2, ql_16, q_bk d3, k3, y3, hz4, p1, q_bs]
    · simp (disch := omega) only [f_X11_doesAny, m2, n2, m3, n3, ↓reduceIte, ↓q_bk e1, v1, q_bk e2, ql_16, q_bk e3, v3, hz4, p2, q_bs]
