/-! what the relation looks at -/
def q_rI (d k : Nat) : Prop := d < 22 ∨ (d = 45 ∧ k = 1) ∨ d = 46 ∨ 54 ≤ d
def q_rL (d : Nat) : Prop := d < 22 ∨ d = 40 ∨ 54 ≤ d
def q_rJ (d k : Nat) : Prop := (d = 0 ∧ (k = 2 ∨ k = 10 ∨ k = 16 ∨ k = 17 ∨ k = 44 ∨ k = 45)) ∨ (d = 1 ∧ k < 1712) ∨ d = 3 ∨ d = 4 ∨ d = 6 ∨ d = 22
def q_rK (d k : Nat) : Prop := (d = 0 ∧ (k = 3 ∨ k = 4)) ∨ (d = 2 ∧ k < 76) ∨ d = 5
theorem q_cc_b {i : Nat} (h : i ≤ 3) : (q_cc i = 3 ∧ q_cd i = 14 ∧ i = 0) ∨ (63 ≤ q_cc i ∧ q_cc i ≤ 97 ∧ 74 ≤ q_cd i ∧ q_cd i ≤ 108 ∧ 1 ≤ i) := by
  match i, h with
  | 0, _ => exact Or.inl ⟨rfl, rfl, rfl⟩
  | 1, _ | 2, _ | 3, _ => right; simp [q_cc, q_cd]
/-- one court with its terms, where the memories look alike -/
theorem q_rp.go {C T : q_N} {c d o m : Nat} {I I' : z_I} {L L' : z_L} {J J' : z_I} {K K' : z_L} (h : q_rp C T c d o m I L J K) (hI : ∀ e k, c ≤ e → e ≤ c + 10 → I' e k = I e k) (hL : ∀ e k, c ≤ e → e ≤ c + 10 → L' e k = L e k) (hT : ∀ e k, d ≤ e → e ≤ d + 5 → I' e k = I e k) (hJ : ∀ k, o ≤ k → k < o + 420 → J' 1 k = J 1 k) (hK : ∀ k, m ≤ k → k < m + 19 → K' 2 k = K 2 k) : q_rp C T c d o m I' L' J' K' := by
  obtain ⟨h1, h2, h3, h4, h5, h6⟩ := h
  exact ⟨h1.go hI hL, h2.go h3 (fun k a b => hJ k a (by omega)) hK, h3, h4.go hT, h5.go h6 (fun k a _ => hJ (o + k) (by omega) (by omega)), h6⟩
theorem q_ty.go {i : Nat} {I I' : z_I} {L L' : z_L} {J J' : z_I} {K K' : z_L} (h : q_ty i I L J K) (hI : ∀ k, I' (55 + 2 * i) k = I (55 + 2 * i) k) (hL : ∀ k, L' (56 + 2 * i) k = L (56 + 2 * i) k) (h4 : J' 4 i = J 4 i) (h3 : J' 3 i = J 3 i) (hK : ∀ k, k < 60 → K' 5 (60 * i + k) = K 5 (60 * i + k)) : q_ty i I' L' J' K' := by
  rcases h with ⟨a, b⟩ | ⟨a, m, s, hm, hs, b1, b2, b3, b4, b5⟩
  · exact Or.inl ⟨by rw [hI, a], by rw [h4, b]⟩
  · refine Or.inr ⟨by rw [hI, a], m, s, hm, hs, by rw [hI, b1], by rw [h4, b2], by rw [hI, b3], by rw [h3, b4], fun k hk => ?_⟩
    rw [hL, hK k (by omega)]; exact b5 k hk
theorem q_rt.go {I I' J J' : z_I} (h : q_rt I J) (h0 : I' 0 18 = I 0 18) (h2 : ∀ k, I' 2 k = I 2 k) (g0 : J' 0 10 = J 0 10) (g6 : ∀ k, J' 6 k = J 6 k) : q_rt I' J' := by
  obtain ⟨t, a, b, c, e⟩ := h
  exact ⟨t, a, by rw [h0, b], by rw [g0, c], fun k hk => by rw [h2, g6]; exact e k hk⟩
theorem q_rl.go {I I' J J' : z_I} (h : q_rl I J) (h1 : I' 45 1 = I 45 1) (h2 : ∀ k, I' 46 k = I 46 k) (g1 : J' 0 44 = J 0 44) (g2 : ∀ k, J' 22 k = J 22 k) : q_rl I' J' := by
  rcases h with ⟨a, b⟩ | ⟨a, b, c⟩
  · exact Or.inl ⟨by rw [h1, a], by rw [g1, b]⟩
  · exact Or.inr ⟨by rw [h1, a], by rw [g1, b], fun k hk => by rw [h2, g2]; exact c k hk⟩
theorem q_rk.go {L L' : z_L} (h : q_rk L) (hL : ∀ k, L' 40 k = L 40 k) : q_rk L' := fun k hk => by rw [hL]; exact h k hk
/-- another court, other terms -/
theorem q_Q.set {C T : Nat → q_N} {mk : Nat} {I : z_I} {L : z_L} {J : z_I} {K : z_L} (h : q_Q C T mk I L J K) {C' T' : q_N} {I' : z_I} {L' : z_L} {J' : z_I} {K' : z_L} (hp : q_rp C' T' 3 14 0 0 I' L' J' K') (fI : ∀ d k, q_rI d k → (d < 3 ∨ 19 < d) → I' d k = I d k) (fL : ∀ d k, q_rL d → (d < 3 ∨ 19 < d) → L' d k = L d k) (fJ : ∀ d k, q_rJ d k → (d ≠ 1 ∨ 428 ≤ k) → J' d k = J d k) (fK : ∀ d k, q_rK d k → (d ≠ 2 ∨ 19 ≤ k) → K' d k = K d k) : q_Q (z1 C 0 C') (z1 T 0 T') mk I' L' J' K' := by
  obtain ⟨⟨h1, h2, h3, h4, h5⟩, h6, h7, ⟨h8, h9⟩, h10, h11, h12, h13⟩ := h
  have f0 : ∀ k, I' 0 k = I 0 k := fun k => fI _ _ (Or.inl (by omega)) (by omega)
  refine ⟨⟨h1, by rw [f0, h2], ?_, ?_, ?_⟩, ?_, ?_, ⟨?_, ?_⟩, ?_, ?_, ?_, ?_⟩
  · rw [fJ 0 45 (by unfold q_rJ; omega) (by omega), h3]
  · rw [f0, fJ 0 16 (by unfold q_rJ; omega) (by omega), h4]
  · rw [f0, fJ 0 17 (by unfold q_rJ; omega) (by omega), h5]
  · rw [f0, fJ 0 2 (by unfold q_rJ; omega) (by omega), h6]
  · exact h7.go (f0 _) (fun k => fI 2 k (Or.inl (by omega)) (by omega)) (fJ 0 10 (by unfold q_rJ; omega) (by omega)) (fun k => fJ 6 k (by unfold q_rJ; omega) (by omega))
  · rw [fL 54 0 (by unfold q_rL; omega) (by omega), fK 0 3 (by unfold q_rK; omega) (by omega), h8]
  · rw [fL 54 1 (by unfold q_rL; omega) (by omega), fK 0 4 (by unfold q_rK; omega) (by omega), h9]
  · intro i hi
    exact (h10 i hi).go (fun k => fI _ k (by unfold q_rI; omega) (by omega)) (fun k => fL _ k (by unfold q_rL; omega) (by omega)) (fJ 4 i (by unfold q_rJ; omega) (by omega)) (fJ 3 i (by unfold q_rJ; omega) (by omega)) (fun k _ => fK 5 _ (by unfold q_rK; omega) (by omega))
  · exact h11.go (fI 45 1 (by unfold q_rI; omega) (by omega)) (fun k => fI 46 k (by unfold q_rI; omega) (by omega)) (fJ 0 44 (by unfold q_rJ; omega) (by omega)) (fun k => fJ 22 k (by unfold q_rJ; omega) (by omega))
  · exact h12.go (fun k => fL 40 k (by unfold q_rL; omega) (by omega))
  · intro i hi
    by_cases hi0 : i = 0
    · subst hi0
      simp only [z1, ↓reduceIte]
      exact hp
    · simp only [z1, if_neg hi0]
      have hb := q_cc_b (i := i) (by omega)
      refine (h13 i hi).go (fun e k a b => fI e k ?_ ?_) (fun e k a b => fL e k ?_ ?_) (fun e k a b => fI e k ?_ ?_) (fun k a b => fJ 1 k ?_ ?_) (fun k a b => fK 2 k ?_ ?_) <;> first | (unfold q_rI; omega) | (unfold q_rL; omega) | (unfold q_rJ; omega) | (unfold q_rK; omega) | omega
theorem q_z1s {α : Type} (f : Nat → α) (k : Nat) : z1 f k (f k) = f := by
  funext j
  unfold z1
  by_cases h : j = k
  · rw [if_pos h, h]
  · rw [if_neg h]
/-- memories that look alike -/
theorem q_Q.fr {C T : Nat → q_N} {mk : Nat} {I : z_I} {L : z_L} {J : z_I} {K : z_L} (h : q_Q C T mk I L J K) {I' : z_I} {L' : z_L} {J' : z_I} {K' : z_L} (fI : ∀ d k, q_rI d k → I' d k = I d k) (fL : ∀ d k, q_rL d → L' d k = L d k) (fJ : ∀ d k, q_rJ d k → J' d k = J d k) (fK : ∀ d k, q_rK d k → K' d k = K d k) : q_Q C T mk I' L' J' K' := by
  have h0 := h.2.2.2.2.2.2.2 0 (Nat.zero_le _)
  have hp : q_rp (C 0) (T 0) 3 14 0 0 I' L' J' K' := by
    refine q_rp.go (c := 3) (d := 14) (o := 0) (m := 0) h0 (fun e k a b => fI e k ?_) (fun e k a b => fL e k ?_) (fun e k a b => fI e k ?_) (fun k a b => fJ 1 k ?_) (fun k a b => fK 2 k ?_) <;> first | (unfold q_rI; omega) | (unfold q_rL; omega) | (unfold q_rJ; omega) | (unfold q_rK; omega)
  have := h.set hp (fun d k a _ => fI d k a) (fun d k a _ => fL d k a) (fun d k a _ => fJ d k a) (fun d k a _ => fK d k a)
  rw [q_z1s, q_z1s] at this
  exact this
/-- another status -/
theorem q_Q.st {C T : Nat → q_N} {mk : Nat} {I : z_I} {L : z_L} {J : z_I} {K : z_L} (h : q_Q C T mk I L J K) (x : Int32) : q_Q C T mk (z2 I 0 15 x) L (z2 J 0 2 x) K := by
  obtain ⟨⟨h1, h2, h3, h4, h5⟩, h6, h7, h8, h10, h11, h12, h13⟩ := h
  have fI : ∀ d k, d ≠ 0 ∨ k ≠ 15 → z2 I 0 15 x d k = I d k := fun d k z => q_zo z
  have fJ : ∀ d k, d ≠ 0 ∨ k ≠ 2 → z2 J 0 2 x d k = J d k := fun d k z => q_zo z
  refine ⟨⟨h1, ?_, ?_, ?_, ?_⟩, ?_, ?_, h8, ?_, ?_, h12, ?_⟩
  · rw [fI _ _ (by omega), h2]
  · rw [fJ _ _ (by omega), h3]
  · rw [fI _ _ (by omega), fJ _ _ (by omega), h4]
  · rw [fI _ _ (by omega), fJ _ _ (by omega), h5]
  · rw [q_zs, q_zs]
  · exact h7.go (fI _ _ (by omega)) (fun k => fI _ _ (by omega)) (fJ _ _ (by omega)) (fun k => fJ _ _ (by omega))
  · exact fun i hi => (h10 i hi).go (fun k => fI _ _ (by omega)) (fun k => rfl) (fJ _ _ (by omega)) (fJ _ _ (by omega)) (fun k _ => rfl)
  · exact h11.go (fI _ _ (by omega)) (fun k => fI _ _ (by omega)) (fJ _ _ (by omega)) (fun k => fJ _ _ (by omega))
  · intro i hi
    have hb := q_cc_b (i := i) (by omega)
    exact (h13 i hi).go (fun e k a b => fI _ _ (by omega)) (fun e k a b => rfl) (fun e k a b => fI _ _ (by omega)) (fun k a b => fJ _ _ (by omega)) (fun k a b => rfl)
theorem q_Q.r {C T : Nat → q_N} {mk : Nat} {I : z_I} {L : z_L} {J : z_I} {K : z_L} (h : q_Q C T mk I L J K) : q_R I L J K := ⟨C, T, mk, h⟩
/-! the fields -/
theorem q_sx.f {C : q_N} {c : Nat} {I : z_I} {L : z_L} (h : q_sx C c I L) : I c 10 = nI (C 0 0) ∧ I c 11 = nI (C 0 1) ∧ I c 12 = nI (C 0 2) ∧ I c 13 = nI (C 0 3) ∧ I c 14 = nI (C 0 4) ∧ I c 15 = nI (C 0 5) ∧ I c 16 = nI (C 0 6) := ⟨h.1 0 0 (by simp [q_bd]), h.1 0 1 (by simp [q_bd]), h.1 0 2 (by simp [q_bd]), h.1 0 3 (by simp [q_bd]), h.1 0 4 (by simp [q_bd]), h.1 0 5 (by simp [q_bd]), h.1 0 6 (by simp [q_bd])⟩
theorem q_sx.a1 {C : q_N} {c : Nat} {I : z_I} {L : z_L} (h : q_sx C c I L) {k : Nat} (hk : k < C 0 0) : I (c + 1) k = nI (C 1 k) := h.1 1 k hk
theorem q_sx.a2 {C : q_N} {c : Nat} {I : z_I} {L : z_L} (h : q_sx C c I L) {k : Nat} (hk : k < C 0 0) : I (c + 2) k = nI (C 2 k) := h.1 2 k hk
theorem q_sx.a3 {C : q_N} {c : Nat} {I : z_I} {L : z_L} (h : q_sx C c I L) {k : Nat} (hk : k < C 0 1) : I (c + 3) k = nI (C 3 k) := h.1 3 k hk
theorem q_sx.a4 {C : q_N} {c : Nat} {I : z_I} {L : z_L} (h : q_sx C c I L) {k : Nat} (hk : k < C 0 2) : I (c + 4) k = nI (C 4 k) := h.1 4 k hk
theorem q_sx.a5 {C : q_N} {c : Nat} {I : z_I} {L : z_L} (h : q_sx C c I L) {k : Nat} (hk : k < C 0 2) : I (c + 5) k = nI (C 5 k) := h.1 5 k hk
theorem q_sx.a6 {C : q_N} {c : Nat} {I : z_I} {L : z_L} (h : q_sx C c I L) {k : Nat} (hk : k < C 0 2) : I (c + 6) k = nI (C 6 k) := h.1 6 k hk
theorem q_sx.a8 {C : q_N} {c : Nat} {I : z_I} {L : z_L} (h : q_sx C c I L) {k : Nat} (hk : k < C 0 3) : I (c + 8) k = nI (C 8 k) := h.1 8 k hk
theorem q_sx.a9 {C : q_N} {c : Nat} {I : z_I} {L : z_L} (h : q_sx C c I L) {k : Nat} (hk : k < C 0 3) : I (c + 9) k = nI (C 9 k) := h.1 9 k hk
theorem q_sm.f {C : q_N} {m : Nat} {J : z_I} {K : z_L} (h : q_sm C 0 m J K) : J 1 0 = nI (C 0 0) ∧ J 1 1 = nI (C 0 1) ∧ J 1 2 = nI (C 0 2) ∧ J 1 3 = nI (C 0 3) ∧ J 1 4 = nI (C 0 4) ∧ J 1 5 = nI (C 0 5) ∧ J 1 6 = nI (C 0 6) := ⟨h.1 0 0 (by simp [q_bd]), h.1 0 1 (by simp [q_bd]), h.1 0 2 (by simp [q_bd]), h.1 0 3 (by simp [q_bd]), h.1 0 4 (by simp [q_bd]), h.1 0 5 (by simp [q_bd]), h.1 0 6 (by simp [q_bd])⟩
theorem q_sm.at {C : q_N} {m : Nat} {J : z_I} {K : z_L} (h : q_sm C 0 m J K) (r k : Nat) {p : Nat} (hk : k < q_bd C r) (hp : p = q_pm r k) : J 1 p = nI (C r k) := by rw [hp, ← h.1 r k hk, Nat.zero_add]
theorem q_sm.a1 {C : q_N} {m : Nat} {J : z_I} {K : z_L} (h : q_sm C 0 m J K) {k : Nat} (hk : k < C 0 0) : J 1 (10 + 2 * k) = nI (C 1 k) := h.at 1 k hk rfl
theorem q_sm.a2 {C : q_N} {m : Nat} {J : z_I} {K : z_L} (h : q_sm C 0 m J K) {k : Nat} (hk : k < C 0 0) : J 1 (10 + 2 * k + 1) = nI (C 2 k) := h.at 2 k hk (by simp only [q_pm]; omega)
theorem q_sm.a3 {C : q_N} {m : Nat} {J : z_I} {K : z_L} (h : q_sm C 0 m J K) {k : Nat} (hk : k < C 0 1) : J 1 (22 + k) = nI (C 3 k) := h.at 3 k hk rfl
theorem q_sm.a4 {C : q_N} {m : Nat} {J : z_I} {K : z_L} (h : q_sm C 0 m J K) {k : Nat} (hk : k < C 0 2) : J 1 (30 + 3 * k) = nI (C 4 k) := h.at 4 k hk rfl
theorem q_sm.a5 {C : q_N} {m : Nat} {J : z_I} {K : z_L} (h : q_sm C 0 m J K) {k : Nat} (hk : k < C 0 2) : J 1 (30 + 3 * k + 1) = nI (C 5 k) := h.at 5 k hk (by simp only [q_pm]; omega)
theorem q_sm.a6 {C : q_N} {m : Nat} {J : z_I} {K : z_L} (h : q_sm C 0 m J K) {k : Nat} (hk : k < C 0 2) : J 1 (30 + 3 * k + 2) = nI (C 6 k) := h.at 6 k hk (by simp only [q_pm]; omega)
theorem q_sm.a8 {C : q_N} {m : Nat} {J : z_I} {K : z_L} (h : q_sm C 0 m J K) {k : Nat} (hk : k < C 0 3) : J 1 (51 + 2 * k) = nI (C 8 k) := h.at 8 k hk rfl
theorem q_sm.a9 {C : q_N} {m : Nat} {J : z_I} {K : z_L} (h : q_sm C 0 m J K) {k : Nat} (hk : k < C 0 3) : J 1 (51 + 2 * k + 1) = nI (C 9 k) := h.at 9 k hk (by simp only [q_pm]; omega)
/-- one number of the court is put on both sides -/
theorem q_Q.put {C T : Nat → q_N} {mk : Nat} {I : z_I} {L : z_L} {J : z_I} {K : z_L} (h : q_Q C T mk I L J K) (r k v : Nat) {d q p : Nat} (hk : k < q_bd (C 0) r) (h4 : r = 0 → 4 ≤ k) (hd : d = 3 + r) (hq : q = q_px r k) (hp : p = q_pm r k) (ok : q_ok (z2 (C 0) r k v)) : q_Q (z1 C 0 (z2 (C 0) r k v)) T mk (z2 I d q (nI v)) L (z2 J 1 p (nI v)) K := by
  obtain ⟨h1, h2, h3, h4', h5, h6⟩ := h.2.2.2.2.2.2.2 0 (Nat.zero_le _)
  have hp60 := q_pm_lt h3 hk
  have hr : r ≤ 9 := Nat.le_of_not_lt (fun z => by
    obtain ⟨n, rfl⟩ : ∃ n, r = n + 10 := ⟨r - 10, by omega⟩
    exact absurd hk (Nat.not_lt_zero _))
  have h7 : p ≠ 7 ∧ p < 60 := by
    refine ⟨fun z => ?_, by omega⟩
    rw [hp] at z
    obtain ⟨o0, o1, o2, o3, -⟩ := h3
    match r, hr with
    | 0, _ | 1, _ | 2, _ | 3, _ | 4, _ | 5, _ | 6, _ | 8, _ | 9, _ => simp only [q_pm, q_bd] at hk z; omega
    | 7, _ => exact absurd hk (Nat.not_lt_zero _)
  subst hd hq
  have e1 := h1.put (v := v) hk h4
  have e2 := h2.put h3 (v := v) hk h4
  have e0 : ∀ i, i < 4 → z2 (C 0) r k v 0 i = C 0 0 i := fun i hi => q_zo (by omega)
  have eT : q_tok (T 0) (z2 (C 0) r k v) := by
    obtain ⟨t1, t2, t3, t4, t5, t6⟩ := h6
    refine ⟨t1, t2, t3, t4, fun a ha => ?_, t6⟩
    have := t5 a ha
    unfold q_te1 at this ⊢
    rw [e0 0 (by omega), e0 2 (by omega), e0 3 (by omega)]
    exact this
  have fin := h.set (C' := z2 (C 0) r k v) (T' := T 0) (I' := z2 I (3 + r) (q_px r k) (nI v)) (L' := L) (J' := z2 J 1 p (nI v)) (K' := K) ⟨e1, by rw [hp]; rw [Nat.mul_zero, Nat.zero_add] at e2; exact e2, ok, h4'.go (fun c j a b => q_zo (Or.inl (show c ≠ 3 + r by have : q_cd 0 = 14 := rfl; omega))), h5.go h6 (fun j a b => q_zo (Or.inr (by omega))), eT⟩ (fun a b _ z => q_zo (by omega)) (fun a b _ z => rfl) (fun a b _ z => q_zo (by omega)) (fun a b _ z => rfl)
  rw [q_z1s] at fin
  exact fin
