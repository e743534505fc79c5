/-! terms: what stands -/
def q_ps (k p o : Nat → Nat) (m dp : Nat) : Prop := (∀ j, j < dp → o j < m ∧ q_op (k (o j))) ∧ (∀ i j, i < j → j < dp → o i < o j) ∧ (∀ e, e < m → q_op (k e) → (∃ j, j < dp ∧ o j = e) ∨ (e < p e ∧ p e < m ∧ k (p e) = 21 ∧ p (p e) = e ∧ (∀ f, e < f → f < p e → q_op (k f) → p f < p e) ∧ (∀ j, j < dp → ¬ (e < o j ∧ o j < p e)) ∧ (∀ j, j < dp → o j ≠ e))) ∧ (∀ e, e < m → k e = 21 → p e < e ∧ q_op (k (p e)) ∧ p (p e) = e ∧ (∀ j, j < dp → o j ≠ p e))
theorem q_op21 : ¬ q_op 21 := by unfold q_op; omega
theorem q_ps.more {k p o k' p' o' : Nat → Nat} {m dp dp' : Nat} (h : q_ps k p o m dp) (hk : ∀ e, e < m → k' e = k e) (hp : ∀ e, e < m → p' e = p e) (ho : ∀ j, j < dp → o' j = o j) (hd : (dp' = dp ∧ ¬ q_op (k' m)) ∨ (dp' = dp + 1 ∧ o' dp = m ∧ q_op (k' m))) (h21 : k' m ≠ 21) : q_ps k' p' o' (m + 1) dp' := by
  obtain ⟨a, b, c, d⟩ := h
  have od : ∀ j, j < dp' → (j < dp ∧ o' j = o j ∧ o j < m) ∨ (j = dp ∧ o' j = m ∧ q_op (k' m)) := fun j hj => by
    rcases hd with ⟨rfl, -⟩ | ⟨rfl, e1, e2⟩
    · exact Or.inl ⟨hj, ho j hj, (a j hj).1⟩
    · by_cases y : j = dp
      · subst y; exact Or.inr ⟨rfl, e1, e2⟩
      · have hj' : j < dp := by omega
        exact Or.inl ⟨hj', ho j hj', (a j hj').1⟩
  have dle : dp ≤ dp' := by rcases hd with ⟨rfl, -⟩ | ⟨rfl, -⟩ <;> omega
  refine ⟨fun j hj => ?_, fun i j hi hj => ?_, fun e he heo => ?_, fun e he hk1 => ?_⟩
  · rcases od j hj with ⟨o1, o2, o3⟩ | ⟨o1, o2, o3⟩
    · rw [o2, hk _ o3]; exact ⟨by omega, (a j o1).2⟩
    · rw [o2]; exact ⟨by omega, o3⟩
  · rcases od j hj with ⟨o1, o2, o3⟩ | ⟨o1, o2, o3⟩
    · rw [o2, ho i (by omega)]; exact b i j hi o1
    · rw [o2, ho i (by omega)]; exact (a i (by omega)).1
  · by_cases y : e = m
    · subst y
      rcases hd with ⟨-, hn⟩ | ⟨d1, d2, -⟩
      · exact absurd heo hn
      · exact Or.inl ⟨dp, by omega, d2⟩
    · have hem : e < m := by omega
      rw [hk e hem] at heo
      rcases c e hem heo with ⟨j, j1, j2⟩ | ⟨c1, c2, c3, c4, c5, c6, c7⟩
      · exact Or.inl ⟨j, by omega, by rw [ho j j1, j2]⟩
      · refine Or.inr ?_
        rw [hp e hem]
        refine ⟨c1, by omega, by rw [hk _ c2]; exact c3, by rw [hp _ c2]; exact c4, fun f f1 f2 fo => ?_, fun j hj => ?_, fun j hj => ?_⟩
        · rw [hk f (by omega)] at fo; rw [hp f (by omega)]; exact c5 f f1 f2 fo
        · rcases od j hj with ⟨o1, o2, o3⟩ | ⟨o1, o2, o3⟩
          · rw [o2]; exact c6 j o1
          · rw [o2]; omega
        · rcases od j hj with ⟨o1, o2, o3⟩ | ⟨o1, o2, o3⟩
          · rw [o2]; exact c7 j o1
          · rw [o2]; omega
  · by_cases y : e = m
    · subst y; exact absurd hk1 h21
    · have hem : e < m := by omega
      rw [hk e hem] at hk1
      obtain ⟨d1, d2, d3, d4⟩ := d e hem hk1
      rw [hp e hem]
      refine ⟨d1, by rw [hk _ (by omega)]; exact d2, by rw [hp _ (by omega)]; exact d3, fun j hj => ?_⟩
      rcases od j hj with ⟨o1, o2, o3⟩ | ⟨o1, o2, o3⟩
      · rw [o2]; exact d4 j o1
      · rw [o2]; omega
theorem q_ps.close {k p o k' p' : Nat → Nat} {m dp : Nat} (h : q_ps k p o m (dp + 1)) (hk : ∀ e, e < m → k' e = k e) (hp : ∀ e, e < m → e ≠ o dp → p' e = p e) (hpt : p' (o dp) = m) (hpm : p' m = o dp) (h21 : k' m = 21) : q_ps k' p' o (m + 1) dp := by
  obtain ⟨a, b, c, d⟩ := h
  obtain ⟨tm, tk⟩ := a dp (by omega)
  have bt : ∀ j, j < dp → o j < o dp := fun j hj => b j dp hj (by omega)
  have n21 : ∀ e, k e = 21 → e ≠ o dp := fun e he w => by rw [w] at he; rw [he] at tk; exact q_op21 tk
  refine ⟨fun j hj => ?_, fun i j hi hj => b i j hi (by omega), fun e he heo => ?_, fun e he hk1 => ?_⟩
  · have := a j (by omega)
    exact ⟨by omega, by rw [hk _ this.1]; exact this.2⟩
  · by_cases y : e = m
    · subst y; rw [h21] at heo; exact absurd heo q_op21
    · have hem : e < m := by omega
      rw [hk e hem] at heo
      rcases c e hem heo with ⟨j, j1, j2⟩ | ⟨c1, c2, c3, c4, c5, c6, c7⟩
      · by_cases z : j = dp
        · subst z
          subst j2
          refine Or.inr ?_
          rw [hpt]
          refine ⟨tm, by omega, h21, hpm, fun f f1 f2 fo => ?_, fun j' hj' => ?_, fun j' hj' => ?_⟩
          · rw [hk f (by omega)] at fo
            rw [hp f (by omega) (by omega)]
            rcases c f (by omega) fo with ⟨j', w1, w2⟩ | ⟨-, c2, -⟩
            · by_cases w3 : j' = j
              · subst w3; omega
              · have := bt j' (by omega); omega
            · exact c2
          · have := bt j' hj'; omega
          · have := bt j' hj'; omega
        · exact Or.inl ⟨j, by omega, j2⟩
      · have et : e ≠ o dp := fun w => c7 dp (by omega) w.symm
        refine Or.inr ?_
        rw [hp e hem et]
        refine ⟨c1, by omega, by rw [hk _ c2]; exact c3, by rw [hp _ c2 (n21 _ c3)]; exact c4, fun f f1 f2 fo => ?_, fun j hj => c6 j (by omega), fun j hj => c7 j (by omega)⟩
        rw [hk f (by omega)] at fo
        have ft : f ≠ o dp := fun w => c6 dp (by omega) ⟨by omega, by omega⟩
        rw [hp f (by omega) ft]
        exact c5 f f1 f2 fo
  · by_cases y : e = m
    · subst y
      rw [hpm]
      exact ⟨tm, by rw [hk _ tm]; exact tk, hpt, fun j hj => by have := bt j hj; omega⟩
    · have hem : e < m := by omega
      rw [hk e hem] at hk1
      obtain ⟨d1, d2, d3, d4⟩ := d e hem hk1
      have pt : p e ≠ o dp := fun w => d4 dp (by omega) w.symm
      rw [hp e hem (n21 e hk1)]
      exact ⟨d1, by rw [hk _ (by omega)]; exact d2, by rw [hp _ (by omega) pt]; exact d3, fun j hj => d4 j (by omega)⟩
/-! an entry, by what is kept -/
def q_tI (I : z_I) : q_N := fun r e => (I (33 + r) e).toBitVec.toNat
theorem q_tI_g {I I' : z_I} {r e : Nat} (h : I' (33 + r) e = I (33 + r) e) : q_tI I' r e = q_tI I r e := by unfold q_tI; rw [h]
theorem q_tI_n (I : z_I) (r e : Nat) : I (33 + r) e = nI (q_tI I r e) := Int32.toBitVec_inj.mp (by unfold q_tI; show _ = BitVec.ofNat 32 _; simp)
theorem q_ntI {x : Int32} {t : Nat} (h : x = nI t) : x.toBitVec.toNat ≤ t ∧ (t < 2 ^ 32 → x.toBitVec.toNat = t) ∧ nI x.toBitVec.toNat = nI t := by
  subst h
  have e : (nI t).toBitVec.toNat = t % 2 ^ 32 := by show (BitVec.ofNat 32 t).toNat = _; simp
  refine ⟨by rw [e]; exact Nat.mod_le _ _, fun h => by rw [e]; exact Nat.mod_eq_of_lt h, Int32.toBitVec_inj.mp ?_⟩
  show BitVec.ofNat 32 _ = BitVec.ofNat 32 t
  rw [e]
  apply BitVec.eq_of_toNat_eq
  simp
def q_ei (C : q_N) (I J : z_I) (e : Nat) : Prop := q_e1 C (q_tI I 1 e) (q_tI I 2 e) (q_tI I 3 e) (q_tI I 4 e) ∧ q_e2 (q_tI I 1 e) (q_tI I 2 e) (q_tI I 3 e) (q_tI I 4 e) (1772 + 6 * e) J
theorem q_ei.go {C : q_N} {I J I' J' : z_I} {e : Nat} (h : q_ei C I J e) (hI : ∀ d, 34 ≤ d → d ≤ 37 → I' d e = I d e) (hJ : ∀ k, 1772 + 6 * e ≤ k → k < 1772 + 6 * e + 6 → k ≠ 1772 + 6 * e + 4 → J' 1 k = J 1 k) : q_ei C I' J' e := by
  unfold q_ei q_e2 at h ⊢
  rw [q_tI_g (r := 1) (I := I) (I' := I') (e := e) (hI 34 (by omega) (by omega)), q_tI_g (r := 2) (I := I) (I' := I') (e := e) (hI 35 (by omega) (by omega)), q_tI_g (r := 3) (I := I) (I' := I') (e := e) (hI 36 (by omega) (by omega)), q_tI_g (r := 4) (I := I) (I' := I') (e := e) (hI 37 (by omega) (by omega)), hJ _ (by omega) (by omega) (by omega), hJ (1772 + 6 * e + 1) (by omega) (by omega) (by omega), hJ (1772 + 6 * e + 2) (by omega) (by omega) (by omega), hJ (1772 + 6 * e + 5) (by omega) (by omega) (by omega)]
  exact h
theorem q_en.T {C : q_N} {t1 m : Nat} {I J : z_I} (h : q_en C t1 m (1772 + 6 * m) I J) (ok : q_ok C) : q_tI I 1 m = t1 ∧ q_ei C I J m := by
  obtain ⟨t2, t3, t4, e1, e2, e3, e4, a, b⟩ := h
  have n1 := q_ntI e1
  have n2 := q_ntI e2
  have n3 := q_ntI e3
  have n4 := q_ntI e4
  obtain ⟨a1, a2, a3, a4, a5, a6, a7, a8⟩ := a
  obtain ⟨b1, b2, b3, b4, b5⟩ := b
  have t1b : t1 < 2 ^ 32 := by unfold q_tk at a1; omega
  have h1 : q_tI I 1 m = t1 := n1.2.1 t1b
  have h2 : q_tI I 2 m ≤ t2 ∧ nI (q_tI I 2 m) = nI t2 := ⟨n2.1, n2.2.2⟩
  have h3 : q_tI I 3 m ≤ t3 ∧ nI (q_tI I 3 m) = nI t3 := ⟨n3.1, n3.2.2⟩
  have h4 : q_tI I 4 m ≤ t4 ∧ nI (q_tI I 4 m) = nI t4 ∧ (t4 < 2 ^ 32 → q_tI I 4 m = t4) := ⟨n4.1, n4.2.2, n4.2.1⟩
  refine ⟨h1, ?_, ?_⟩
  · rw [h1]
    refine ⟨a1, fun w => by have := a2 w; omega, fun w => by have := a3 w; omega, fun w => by have := a4 w; omega, fun w => by have := a5 w; omega, fun w => ?_, fun w => ?_, fun w => by have := a8 w; omega⟩
    · have := a6 w
      rw [h4.2.2 (by omega)]; exact this
    · have := a7 w
      rw [h4.2.2 (by omega)]; exact this
  · rw [h1]
    unfold q_e2
    rw [h2.2, h3.2, h4.2.1]
    exact ⟨b1, b2, b3, b4, b5⟩
