/-! terms: a whole step -/
def q_tr (C : q_N) (m dp : Nat) (o : Nat → Nat) (I J : z_I) : Prop := (∀ j, j < dp → I 44 j = nI (o j) ∧ J 8 j = nI (o j)) ∧ q_ps (q_tI I 1) (q_tI I 5) o m dp ∧ (∀ e, e < m → q_ei C I J e) ∧ (∀ e, e < m → q_tI I 1 e = 21 ∨ (q_op (q_tI I 1 e) ∧ ∀ j, j < dp → o j ≠ e) → J 1 (1772 + 6 * e + 4) = nI (q_tI I 5 e))
theorem q_tr.more {C : q_N} {m dp dp' t1 : Nat} {o : Nat → Nat} {I J I' J' : z_I} (h : q_tr C m dp o I J) (ok : q_ok C) (fI : ∀ d k, 34 ≤ d → d ≤ 38 → d = 38 ∨ k ≠ m → I' d k = I d k) (fJ : ∀ k, 1772 ≤ k → k < 1772 + 6 * m → J' 1 k = J 1 k) (hen : q_en C t1 m (1772 + 6 * m) I' J') (h21 : t1 ≠ 21) (hd : (dp' = dp ∧ ¬ q_op t1) ∨ (dp' = dp + 1 ∧ q_op t1)) (hst : ∀ j, j < dp → I' 44 j = I 44 j ∧ J' 8 j = J 8 j) (hnew : dp' = dp + 1 → I' 44 dp = nI m ∧ J' 8 dp = nI m) : q_tr C (m + 1) dp' (fun j => if j < dp then o j else m) I' J' := by
  obtain ⟨h1, h2, h3, h4⟩ := h
  obtain ⟨n1, n2⟩ := hen.T ok
  have gk : ∀ r e, 1 ≤ r → r ≤ 5 → e < m → q_tI I' r e = q_tI I r e := fun r e a b c => q_tI_g (fI (33 + r) e (by omega) (by omega) (by omega))
  refine ⟨fun j hj => ?_, h2.more (fun e he => gk 1 e (by omega) (by omega) he) (fun e he => gk 5 e (by omega) (by omega) he) (fun j hj => if_pos hj) ?_ (by rw [n1]; exact h21), fun e he => ?_, fun e he hc => ?_⟩
  · by_cases y : j < dp
    · dsimp only; rw [(hst j y).1, (hst j y).2, if_pos y]; exact h1 j y
    · have e : j = dp ∧ dp' = dp + 1 := by rcases hd with ⟨w, -⟩ | ⟨w, -⟩ <;> omega
      obtain ⟨rfl, e2⟩ := e
      dsimp only; rw [if_neg y]; exact hnew e2
  · rw [n1]
    rcases hd with ⟨w, v⟩ | ⟨w, v⟩
    · exact Or.inl ⟨w, v⟩
    · exact Or.inr ⟨w, if_neg (Nat.lt_irrefl _), v⟩
  · by_cases y : e = m
    · subst y; exact n2
    · exact (h3 e (by omega)).go (fun d a b => fI d e a (by omega) (by omega)) (fun k a b _ => fJ k (by omega) (by omega))
  · by_cases y : e = m
    · subst y
      rw [n1] at hc
      exfalso
      rcases hc with hc | ⟨hc, hc2⟩
      · exact h21 hc
      · rcases hd with ⟨w, v⟩ | ⟨w, v⟩
        · exact v hc
        · exact hc2 dp (by omega) (if_neg (Nat.lt_irrefl _))
    · have em : e < m := by omega
      rw [gk 1 e (by omega) (by omega) em] at hc
      rw [gk 5 e (by omega) (by omega) em, fJ _ (by omega) (by omega)]
      refine h4 e em (hc.imp id (fun w => ⟨w.1, fun j hj => ?_⟩))
      have := w.2 j (by rcases hd with ⟨w, -⟩ | ⟨w, -⟩ <;> omega)
      dsimp only at this
      rw [if_pos hj] at this
      exact this
theorem q_tr.close {C : q_N} {m dp : Nat} {o : Nat → Nat} {I J I' J' : z_I} (h : q_tr C m (dp + 1) o I J) (ok : q_ok C) (hm : m < 60) (fI : ∀ d k, 34 ≤ d → d ≤ 37 → k ≠ m → I' d k = I d k) (f38 : ∀ k, k ≠ m → k ≠ o dp → I' 38 k = I 38 k) (i1 : I' 38 m = nI (o dp)) (i2 : I' 38 (o dp) = nI m) (fJ : ∀ k, 1772 ≤ k → k < 1772 + 6 * m → k ≠ 1772 + 6 * o dp + 4 → J' 1 k = J 1 k) (j1 : J' 1 (1772 + 6 * o dp + 4) = nI m) (j2 : J' 1 (1772 + 6 * m + 4) = nI (o dp)) (hen : q_en C 21 m (1772 + 6 * m) I' J') (hst : ∀ j, j < dp → I' 44 j = I 44 j ∧ J' 8 j = J 8 j) : q_tr C (m + 1) dp o I' J' := by
  obtain ⟨h1, h2, h3, h4⟩ := h
  obtain ⟨n1, n2⟩ := hen.T ok
  have tm : o dp < m := (h2.1 dp (by omega)).1
  have p1 : q_tI I' 5 m = o dp := (q_ntI i1).2.1 (by omega)
  have p2 : q_tI I' 5 (o dp) = m := (q_ntI i2).2.1 (by omega)
  have gk : ∀ r e, 1 ≤ r → r ≤ 4 → e < m → q_tI I' r e = q_tI I r e := fun r e a b c => q_tI_g (fI (33 + r) e (by omega) (by omega) (by omega))
  have g5 : ∀ e, e < m → e ≠ o dp → q_tI I' 5 e = q_tI I 5 e := fun e a b => q_tI_g (f38 e (by omega) b)
  refine ⟨fun j hj => ?_, h2.close (fun e he => gk 1 e (by omega) (by omega) he) g5 p2 p1 n1, fun e he => ?_, fun e he hc => ?_⟩
  · rw [(hst j hj).1, (hst j hj).2]; exact h1 j (by omega)
  · by_cases y : e = m
    · subst y; exact n2
    · refine (h3 e (by omega)).go (fun d a b => fI d e a b y) (fun k a b c => fJ k (by omega) (by omega) ?_)
      by_cases z : e = o dp
      · subst z; exact c
      · omega
  · by_cases y : e = m
    · subst y
      rw [p1, j2]
    · have em : e < m := by omega
      by_cases z : e = o dp
      · rw [z, p2, j1]
      · rw [gk 1 e (by omega) (by omega) em] at hc
        rw [g5 e em z, fJ _ (by omega) (by omega) (by omega)]
        refine h4 e em (hc.imp id (fun w => ⟨w.1, fun j hj => ?_⟩))
        by_cases v : j = dp
        · subst v; exact fun q => z q.symm
        · exact w.2 j (by omega)
def q_ttS (n : Nat) (B : Nat → Nat) (C : q_N) (K : z_L) (f e kd va m s dp : Nat) (o : Nat → Nat) (I : z_I) (L : z_L) (J : z_I) : Prop := q_ls n B f e kd va I L J ∧ q_rk L ∧ (q_sx C 3 I L ∧ q_sm C 0 0 J K ∧ q_ok C) ∧ (J 0 18 = nI 0 ∧ J 0 17 = q_no ∧ I 33 5 = nI 1) ∧ (I 33 6 = nI m ∧ J 1 1719 = nI m ∧ I 33 7 = nI s ∧ J 0 23 = nI s ∧ I 43 4 = nI dp ∧ J 0 22 = nI dp) ∧ (dp ≤ 3 ∧ s ≤ 30 ∧ m + dp ≤ 2 * s) ∧ q_tr C m dp o I J
def q_to (n : Nat) (B : Nat → Nat) (C : q_N) (K : z_L) (f : Nat) (I : z_I) (L : z_L) (J : z_I) (A : Option (Bool × z_I × z_L)) (R : Option (Bool × z_I)) : Prop := (∃ I' L' J' f' e' kd va m s dp o, A = some (true, I', L') ∧ R = some (true, J') ∧ q_ttS n B C K f' e' kd va m s dp o I' L' J' ∧ f < f' ∧ q_cf I L J K I' L' J' K) ∨ (∃ I' L' J', A = some (false, I', L') ∧ R = some (false, J') ∧ q_b1 I' J' ∧ q_cf I L J K I' L' J' K)
def q_tl (q : Bool × z_I × z_L) : Option (Bool × z_I × z_L) := if q.1 = true then (f_X7_takeSemicolon q.2.1 q.2.2).bind fun q5 => if q5.1 = true then some (true, q5.2.1, q5.2.2) else some (false, q5.2.1, q5.2.2) else some (false, q.2.1, q.2.2)
theorem q_mL.cf {L L' : z_L} (h : q_mL L L') (d k : Nat) (hd : d < 22 ∨ d = 40 ∨ 45 ≤ d) : L' d k = L d k := h d k (by omega)
theorem q_stp {n : Nat} {B : Nat → Nat} {C : q_N} {K : z_L} {f e va m s dp dp' : Nat} {o : Nat → Nat} {I : z_I} {L : z_L} {J : z_I} {Ib : z_I} {A : Option (Bool × z_I × z_L)} {R : Option (Bool × z_I)} {A1 : z_I → z_L → Option (Bool × z_I × z_L)} {F : z_I → Option (Bool × z_I)} {G : z_I → z_I} (h : q_ttS n B C K f e 2 va m s dp o I L J) (hs : s < 30) (hva : va < 23) (fIb : ∀ d k, d ≠ 33 → d ≠ 34 ∨ k ≠ m → d ≠ 43 → d ≠ 44 → Ib d k = I d k) (i34 : Ib 34 m = nI va) (i5 : Ib 33 5 = I 33 5) (i6 : Ib 33 6 = nI (m + 1)) (i7 : Ib 33 7 = nI (s + 1)) (i43 : Ib 43 4 = nI dp') (i44 : ∀ j, j < dp → Ib 44 j = I 44 j) (i44n : dp' = dp + 1 → Ib 44 dp = nI m) (hdp : dp' ≤ 3) (hd : (dp' = dp ∧ va ≠ 18 ∧ ¬ q_op va ∧ va ≠ 21) ∨ (dp' = dp + 1 ∧ (va = 18 ∨ va = 20))) (hord : ∀ I1 L1 J1 f1 e1 kd1 va1, q_ls n B f1 e1 kd1 va1 I1 L1 J1 → q_rk L1 → q_oh C va m (1772 + 6 * m) I1 L1 J1 K → q_oo n B C f1 I1 L1 J1 va m (1772 + 6 * m) (A1 I1 L1) (f_X11_termOrder J1 K (nI (q_kd va)) (nI (1772 + 6 * m)))) (hF : ∀ J2 : z_I, J2 0 22 = nI dp → F J2 = q_fP (G J2) ∧ (∀ d k, d ≠ 8 → d ≠ 0 ∨ k ≠ 22 → G J2 d k = J2 d k) ∧ (∀ j, j < dp → G J2 8 j = J2 8 j) ∧ G J2 0 22 = nI dp' ∧ (dp' = dp + 1 → G J2 8 dp = nI m)) (hA : ∀ I1 L1, f_X7_move Ib L = some (I1, L1) → A = (A1 I1 L1).bind q_tl) (hR : R = q_kP K (nI (q_kd va)) (nI (1772 + 6 * m)) F (q_j1 J (nI (s + 1)) m (q_kd va))) : q_to n B C K f I L J A R := by
  obtain ⟨h1, hk, ⟨hsx, hsm, ok⟩, ⟨h18, h17, h5⟩, ⟨g1, g2, g3, g4, g5, g6⟩, ⟨l1, l2, l3⟩, htr⟩ := h
  have hm : m < 60 := by omega
  obtain ⟨q1, q2, q3, q4⟩ := q_j1_f (J := J) (x := nI (s + 1)) (r := q_kd va) hm
  generalize hJb : q_j1 J (nI (s + 1)) m (q_kd va) = Jb at q1 q2 q3 q4 hR
  have hfe := h1.fe
  have hls : q_ls n B f e 2 va Ib L Jb := h1.go (fun d k w => fIb d k (by omega) (by omega) (by omega) (by omega)) rfl (fun d k w => q1 d k (by omega) (by omega))
  obtain ⟨I1, L1, J1, f1, e1, kd1, va1, m1, m2, m3, m4, m5, m6, m7⟩ := hls.mv hk
  have fI1 : ∀ d k, d ≠ 39 → I1 d k = Ib d k := fun d k hd => m5 d k (by omega)
  have hff : f < f1 := by have := hfe.2.2.2 (by omega); omega
  have hoh : q_oh C va m (1772 + 6 * m) I1 L1 J1 K := ⟨hsx.go (fun d k a b => by rw [fI1 d k (by omega), fIb d k (by omega) (by omega) (by omega) (by omega)]) (fun d k a b => m6 d k (by omega)), hsm.go ok (fun k a b => by rw [m7 1 k (by omega), q1 1 k (by omega) (by omega)]) (fun _ _ _ => rfl), ok, by rw [m7 0 18 (by omega), q1 0 18 (by omega) (by omega), h18], by rw [fI1 34 m (by omega), i34], by rw [m7 1 _ (by omega), q4], hm, by omega, by omega⟩
  have hA' := hA I1 L1 m1
  unfold q_kP at hR
  rw [m2, q_bs] at hR
  rcases hord I1 L1 J1 f1 e1 kd1 va1 m3 (hk.mL m6) hoh with ⟨I2, L2, J2, f2, e2, kd2, va2, t1, b1, b2, b3, b4, b5, b6, b7, b8, b9⟩ | ⟨I2, L2, J2, b1, b2, b3, b4, b5, b6⟩
  · rw [b2, q_bs, if_pos rfl] at hR
    rw [b1, q_bs, q_tl, if_pos rfl] at hA'
    dsimp only at hR hA'
    have j22 : J2 0 22 = nI dp := by rw [b7 0 22 (by omega) (by omega), m7 0 22 (by omega), q1 0 22 (by omega) (by omega), g6]
    obtain ⟨z1, z2', z3, z4, z5⟩ := hF J2 j22
    have h3 : q_ls n B f2 e2 kd2 va2 I2 L2 (G J2) := b3.go (fun _ _ _ => rfl) rfl (fun d k w => z2' d k (by omega) (by omega))
    have j18 : G J2 0 18 = nI 0 := by rw [z2' 0 18 (by omega) (by omega), b7 0 18 (by omega) (by omega), m7 0 18 (by omega), q1 0 18 (by omega) (by omega), h18]
    have hk2 : q_rk L2 := (hk.mL m6).mL b6
    rw [z1, q_fP] at hR
    rcases q_tSemi h3 hk2 j18 with ⟨I3, L3, J3, f3, e3, kd3, va3, c1, c2, c3, c4, c5, c6, c7, -⟩ | ⟨I3, L3, J3, c1, c2, c3, c4, c5, c6⟩
    · rw [c2, q_bs] at hR
      rw [c1, q_bs, if_pos rfl] at hA'
      have FI : ∀ d k, d ≠ 39 → (d < 34 ∨ 37 < d) ∨ k ≠ m → I3 d k = Ib d k := fun d k d1 d2 => by rw [c5 d k d1, b5 d k d1 d2, fI1 d k d1]
      have FJ : ∀ d k, d ≠ 0 ∨ k < 12 ∨ 15 < k → d ≠ 1 ∨ k < 1772 + 6 * m ∨ 1772 + 6 * m + 6 ≤ k → d ≠ 8 → d ≠ 0 ∨ k ≠ 22 → J3 d k = Jb d k := fun d k d1 d2 d3 d4 => by rw [c7.F d k d1, z2' d k d3 d4, b7 d k d1 (by omega), m7 d k d1]
      have FJb : ∀ d k, d ≠ 0 ∨ k < 12 ∨ (15 < k ∧ k ≠ 22 ∧ k ≠ 23) → d ≠ 1 ∨ (k ≠ 1719 ∧ (k < 1772 + 6 * m ∨ 1772 + 6 * m + 6 ≤ k)) → d ≠ 8 → J3 d k = J d k := fun d k d1 d2 d3 => by rw [FJ d k (by omega) (by omega) d3 (by omega), q1 d k (by omega) (by omega)]
      have J8 : ∀ j, J3 8 j = G J2 8 j := fun j => c7.F 8 j (by omega)
      have hen : q_en C t1 m (1772 + 6 * m) I3 J3 := by
        obtain ⟨t2, t3, t4, x1, x2, x3, x4, x5, x6⟩ := b9
        refine ⟨t2, t3, t4, by rw [c5 _ _ (by omega), x1], by rw [c5 _ _ (by omega), x2], by rw [c5 _ _ (by omega), x3], by rw [c5 _ _ (by omega), x4], x5, ?_⟩
        unfold q_e2 at x6 ⊢
        rw [c7.F 1 _ (by omega), c7.F 1 _ (by omega), c7.F 1 _ (by omega), c7.F 1 _ (by omega), z2' 1 _ (by omega) (by omega), z2' 1 _ (by omega) (by omega), z2' 1 _ (by omega) (by omega), z2' 1 _ (by omega) (by omega)]
        exact x6
      have ht1 : (dp' = dp ∧ ¬ q_op t1) ∨ (dp' = dp + 1 ∧ q_op t1) := by
        rcases hd with ⟨w1, w2, w3, w4⟩ | ⟨w1, w2⟩
        · exact Or.inl ⟨w1, by rw [b8.1 w2]; exact w3⟩
        · refine Or.inr ⟨w1, ?_⟩
          rcases w2 with rfl | rfl
          · have := b8.2 rfl
            unfold q_op; omega
          · rw [b8.1 (by omega)]
            unfold q_op; omega
      have h21 : t1 ≠ 21 := by
        rcases hd with ⟨w1, w2, w3, w4⟩ | ⟨w1, w2⟩
        · rw [b8.1 w2]; exact w4
        · rcases w2 with rfl | rfl
          · have := b8.2 rfl
            omega
          · rw [b8.1 (by omega)]; omega
      have htr' := htr.more (I' := I3) (J' := J3) ok (fun d k d1 d2 d3 => by rw [FI d k (by omega) (by omega), fIb d k (by omega) (by omega) (by omega) (by omega)]) (fun k k1 k2 => FJb 1 k (by omega) (by omega) (by omega)) hen h21 ht1 (fun j hj => ⟨by rw [FI 44 j (by omega) (by omega), i44 j hj], by rw [J8 j, z3 j hj, b7 8 j (by omega) (by omega), m7 8 j (by omega), q1 8 j (by omega) (by omega)]⟩) (fun w => ⟨by rw [FI 44 dp (by omega) (by omega), i44n w], by rw [J8, z5 w]⟩)
      refine Or.inl ⟨I3, L3, J3, f3, e3, kd3, va3, m + 1, s + 1, dp', _, hA', hR, ⟨c3, hk2.mL c6, ⟨?_, ?_, ok⟩, ⟨?_, ?_, ?_⟩, ⟨?_, ?_, ?_, ?_, ?_, ?_⟩, ⟨hdp, by omega, by omega⟩, htr'⟩, by omega, fun d k w => ?_, fun d k w => ?_, fun d k w1 w2 w3 w4 => ?_, fun _ _ _ => rfl⟩
      · exact hsx.go (fun d k a b => by rw [FI d k (by omega) (by omega), fIb d k (by omega) (by omega) (by omega) (by omega)]) (fun d k a b => by rw [c6 d k (by omega), b6 d k (by omega), m6 d k (by omega)])
      · exact hsm.go ok (fun k a b => FJb 1 k (by omega) (by omega) (by omega)) (fun _ _ _ => rfl)
      · rw [FJb 0 18 (by omega) (by omega) (by omega), h18]
      · rw [FJb 0 17 (by omega) (by omega) (by omega), h17]
      · rw [FI 33 5 (by omega) (by omega), i5, h5]
      · rw [FI 33 6 (by omega) (by omega), i6]
      · rw [FJ 1 1719 (by omega) (by omega) (by omega) (by omega), q3]
      · rw [FI 33 7 (by omega) (by omega), i7]
      · rw [FJ 0 23 (by omega) (by omega) (by omega) (by omega), q2]
      · rw [FI 43 4 (by omega) (by omega), i43]
      · rw [c7.F 0 22 (by omega), z4]
      · rw [FI d k (by omega) (by omega), fIb d k (by omega) (by omega) (by omega) (by omega)]
      · rw [c6 d k (by omega), b6 d k (by omega), m6 d k (by omega)]
      · exact FJb d k (by omega) (by omega) w4
    · rw [c2, q_bs] at hR
      rw [c1, q_bs, if_neg (show ¬ (false = true) by decide)] at hA'
      refine Or.inr ⟨I3, L3, J3, hA', hR, c3, fun d k w => ?_, fun d k w => ?_, fun d k w1 w2 w3 w4 => ?_, fun _ _ _ => rfl⟩
      · rw [c4 d k (by omega), b5 d k (by omega) (by omega), fI1 d k (by omega), fIb d k (by omega) (by omega) (by omega) (by omega)]
      · rw [c5 d k (by omega), b6 d k (by omega), m6 d k (by omega)]
      · rw [c6.F d k (by omega), z2' d k w4 (by omega), b7 d k (by omega) (by omega), m7 d k (by omega), q1 d k (by omega) (by omega)]
  · rw [b2, q_bs, if_neg (show ¬ (false = true) by decide)] at hR
    rw [b1, q_bs, q_tl, if_neg (show ¬ (false = true) by decide)] at hA'
    refine Or.inr ⟨I2, L2, J2, hA', hR, b3, fun d k w => ?_, fun d k w => ?_, fun d k w1 w2 w3 w4 => ?_, fun _ _ _ => rfl⟩
    · rw [b4 d k (by omega) (by omega), fI1 d k (by omega), fIb d k (by omega) (by omega) (by omega) (by omega)]
    · rw [b5 d k (by omega), m6 d k (by omega)]
    · rw [b6 d k (by omega) (by omega), m7 d k (by omega), q1 d k (by omega) (by omega)]
