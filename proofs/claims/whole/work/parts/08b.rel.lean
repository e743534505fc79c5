/-! what both memories show: a court, terms, the rest -/
abbrev q_N : Type := Nat → Nat → Nat
theorem q_zo {α : Type} {f : Nat → Nat → α} {a b c k : Nat} {x : α} (h : c ≠ a ∨ k ≠ b) : z2 f a b x c k = f c k := by
  unfold z2 z1
  by_cases h1 : c = a
  · subst h1
    rw [if_pos rfl, if_neg (by omega)]
  · rw [if_neg h1]
theorem q_zs {α : Type} {f : Nat → Nat → α} {a b : Nat} {x : α} : z2 f a b x a b = x := by
  unfold z2 z1
  rw [if_pos rfl, if_pos rfl]
theorem q_zro {α : Type} {f : Nat → Nat → α} {a c : Nat} {g : Nat → α} {k : Nat} (h : c ≠ a) : zr f a g c k = f c k := by unfold zr; rw [if_neg h]
theorem q_zrs {α : Type} {f : Nat → Nat → α} {a : Nat} {g : Nat → α} {k : Nat} : zr f a g a k = g k := by unfold zr; rw [if_pos rfl]
def q_bd (C : q_N) : Nat → Nat
  | 0 => 7
  | 1 => C 0 0
  | 2 => C 0 0
  | 3 => C 0 1
  | 4 => C 0 2
  | 5 => C 0 2
  | 6 => C 0 2
  | 8 => C 0 3
  | 9 => C 0 3
  | _ => 0
def q_px : Nat → Nat → Nat
  | 0, k => 10 + k
  | _ + 1, k => k
def q_pm : Nat → Nat → Nat
  | 0, k => k
  | 1, k => 10 + 2 * k
  | 2, k => 11 + 2 * k
  | 3, k => 22 + k
  | 4, k => 30 + 3 * k
  | 5, k => 31 + 3 * k
  | 6, k => 32 + 3 * k
  | 8, k => 51 + 2 * k
  | 9, k => 52 + 2 * k
  | _, _ => 0
/-- a name's number in the reference, by its number in the class -/
def q_cv (w : Nat) : Nat := if h : w = 0 then 0 else q_cv (w / 27) * 256 + (w % 27 + 96)
termination_by w
decreasing_by omega
def q_sx (C : q_N) (c : Nat) (I : z_I) (L : z_L) : Prop := (∀ r k, k < q_bd C r → I (c + r) (q_px r k) = nI (C r k)) ∧ (∀ k, k < C 0 2 → L (c + 7) k = lN (C 7 k)) ∧ (∀ k, k < C 0 3 → L (c + 10) k = lN (C 10 k))
def q_sm (C : q_N) (o m : Nat) (J : z_I) (K : z_L) : Prop := (∀ r k, k < q_bd C r → J 1 (o + q_pm r k) = nI (C r k)) ∧ (∀ k, k < C 0 2 → K 2 (m + 8 + k) = lN (q_cv (C 7 k))) ∧ (∀ k, k < C 0 3 → K 2 (m + 15 + k) = lN (q_cv (C 10 k)))
def q_ok (C : q_N) : Prop := C 0 0 ≤ 6 ∧ C 0 1 ≤ 8 ∧ C 0 2 ≤ 7 ∧ C 0 3 ≤ 4 ∧ C 0 4 ≤ 16 ∧ C 0 5 ≤ 9999 ∧ C 0 6 < 2 ^ C 0 2 ∧ (∀ b, b < C 0 0 → C 1 b ≤ 9999 ∧ C 2 b ≤ 99) ∧ (∀ k, k < C 0 1 → 1 ≤ C 3 k ∧ C 3 k ≤ 20) ∧ (∀ k, k < C 0 2 → C 4 k < C 0 0 ∧ 1 ≤ C 5 k ∧ C 5 k ≤ 9 ∧ C 6 k < 2 ^ C 0 1 ∧ C 7 k < 27 ^ 8) ∧ (∀ k, k < C 0 3 → C 8 k < C 0 0 ∧ C 9 k ≤ 9999 ∧ C 10 k < 27 ^ 8)
theorem q_bdp {C : q_N} {r k v : Nat} (h : r = 0 → 4 ≤ k) (r' : Nat) : q_bd (z2 C r k v) r' = q_bd C r' := by
  have e : ∀ i, i < 4 → z2 C r k v 0 i = C 0 i := fun i hi => q_zo (by omega)
  unfold q_bd
  split <;> simp only [e 0 (by omega), e 1 (by omega), e 2 (by omega), e 3 (by omega)]
theorem q_px_inj {r k k' : Nat} (h : q_px r k = q_px r k') : k = k' := by
  cases r <;> simp only [q_px] at h <;> omega
theorem q_pm_inj {C : q_N} (ok : q_ok C) {r k r' k' : Nat} (hk : k < q_bd C r) (hk' : k' < q_bd C r') (h : q_pm r k = q_pm r' k') : r = r' ∧ k = k' := by
  obtain ⟨o0, o1, o2, o3, -⟩ := ok
  match r, r' with
  | 0, 0 | 0, 1 | 0, 2 | 0, 3 | 0, 4 | 0, 5 | 0, 6 | 0, 8 | 0, 9 | 1, 0 | 1, 1 | 1, 2 | 1, 3 | 1, 4 | 1, 5 | 1, 6 | 1, 8 | 1, 9 | 2, 0 | 2, 1 | 2, 2 | 2, 3 | 2, 4 | 2, 5 | 2, 6 | 2, 8 | 2, 9 | 3, 0 | 3, 1 | 3, 2 | 3, 3 | 3, 4 | 3, 5 | 3, 6 | 3, 8 | 3, 9 | 4, 0 | 4, 1 | 4, 2 | 4, 3 | 4, 4 | 4, 5 | 4, 6 | 4, 8 | 4, 9 | 5, 0 | 5, 1 | 5, 2 | 5, 3 | 5, 4 | 5, 5 | 5, 6 | 5, 8 | 5, 9 | 6, 0 | 6, 1 | 6, 2 | 6, 3 | 6, 4 | 6, 5 | 6, 6 | 6, 8 | 6, 9 | 8, 0 | 8, 1 | 8, 2 | 8, 3 | 8, 4 | 8, 5 | 8, 6 | 8, 8 | 8, 9 | 9, 0 | 9, 1 | 9, 2 | 9, 3 | 9, 4 | 9, 5 | 9, 6 | 9, 8 | 9, 9 => simp only [q_pm, q_bd] at hk hk' h; first | (exfalso; omega; done) | exact ⟨rfl, by omega⟩
  | 7, _ => exact absurd hk (Nat.not_lt_zero _)
  | _, 7 => exact absurd hk' (Nat.not_lt_zero _)
  | n + 10, _ => exact absurd hk (Nat.not_lt_zero _)
  | _, n + 10 => exact absurd hk' (Nat.not_lt_zero _)
theorem q_pm_lt {C : q_N} (ok : q_ok C) {r k : Nat} (hk : k < q_bd C r) : q_pm r k < 60 := by
  obtain ⟨o0, o1, o2, o3, -⟩ := ok
  match r with
  | 0 | 1 | 2 | 3 | 4 | 5 | 6 | 8 | 9 => simp only [q_pm, q_bd] at hk ⊢; omega
  | 7 => exact absurd hk (Nat.not_lt_zero _)
  | n + 10 => exact absurd hk (Nat.not_lt_zero _)
theorem q_sx.put {C : q_N} {c : Nat} {I : z_I} {L : z_L} (h : q_sx C c I L) {r k v : Nat} (hk : k < q_bd C r) (h4 : r = 0 → 4 ≤ k) : q_sx (z2 C r k v) c (z2 I (c + r) (q_px r k) (nI v)) L := by
  have hr : r ≠ 7 ∧ r ≠ 10 := by
    constructor <;> (intro e; subst e; exact absurd hk (Nat.not_lt_zero _))
  have e : ∀ i, i < 4 → z2 C r k v 0 i = C 0 i := fun i hi => q_zo (by omega)
  refine ⟨fun r' k' hk' => ?_, fun k' hk' => ?_, fun k' hk' => ?_⟩
  · rw [q_bdp h4] at hk'
    by_cases e1 : r' = r
    · subst e1
      by_cases e2 : k' = k
      · subst e2; rw [q_zs, q_zs]
      · rw [q_zo (Or.inr e2), q_zo (Or.inr (fun z => e2 (q_px_inj z)))]; exact h.1 _ _ hk'
    · rw [q_zo (by omega), q_zo (by omega)]; exact h.1 _ _ hk'
  · rw [e 2 (by omega)] at hk'; rw [q_zo (by omega)]; exact h.2.1 _ hk'
  · rw [e 3 (by omega)] at hk'; rw [q_zo (by omega)]; exact h.2.2 _ hk'
theorem q_sm.put {C : q_N} {o m : Nat} {J : z_I} {K : z_L} (h : q_sm C o m J K) (ok : q_ok C) {r k v : Nat} (hk : k < q_bd C r) (h4 : r = 0 → 4 ≤ k) : q_sm (z2 C r k v) o m (z2 J 1 (o + q_pm r k) (nI v)) K := by
  have hr : r ≠ 7 ∧ r ≠ 10 := by
    constructor <;> (intro e; subst e; exact absurd hk (Nat.not_lt_zero _))
  have e : ∀ i, i < 4 → z2 C r k v 0 i = C 0 i := fun i hi => q_zo (by omega)
  refine ⟨fun r' k' hk' => ?_, fun k' hk' => ?_, fun k' hk' => ?_⟩
  · rw [q_bdp h4] at hk'
    by_cases e1 : r' = r ∧ k' = k
    · obtain ⟨e1, e2⟩ := e1
      subst e1 e2
      rw [q_zs, q_zs]
    · rw [q_zo (f := C) (by omega), q_zo (Or.inr (fun z => e1 (q_pm_inj ok hk' hk (by omega))))]; exact h.1 _ _ hk'
  · rw [e 2 (by omega)] at hk'; rw [q_zo (by omega)]; exact h.2.1 _ hk'
  · rw [e 3 (by omega)] at hk'; rw [q_zo (by omega)]; exact h.2.2 _ hk'
theorem q_sx.go {C : q_N} {c : Nat} {I I' : z_I} {L L' : z_L} (h : q_sx C c I L) (hI : ∀ d k, c ≤ d → d ≤ c + 10 → I' d k = I d k) (hL : ∀ d k, c ≤ d → d ≤ c + 10 → L' d k = L d k) : q_sx C c I' L' := by
  refine ⟨fun r k hk => ?_, fun k hk => ?_, fun k hk => ?_⟩
  · have hr : r ≤ 9 := Nat.le_of_not_lt (fun z => by
      obtain ⟨n, rfl⟩ : ∃ n, r = n + 10 := ⟨r - 10, by omega⟩
      exact absurd hk (Nat.not_lt_zero _))
    rw [hI _ _ (by omega) (by omega)]; exact h.1 _ _ hk
  · rw [hL _ _ (by omega) (by omega)]; exact h.2.1 _ hk
  · rw [hL _ _ (by omega) (by omega)]; exact h.2.2 _ hk
theorem q_sm.go {C : q_N} {o m : Nat} {J J' : z_I} {K K' : z_L} (h : q_sm C o m J K) (ok : q_ok C) (hJ : ∀ k, o ≤ k → k < o + 60 → J' 1 k = J 1 k) (hK : ∀ k, m ≤ k → k < m + 19 → K' 2 k = K 2 k) : q_sm C o m J' K' := by
  obtain ⟨o0, o1, o2, o3, -⟩ := id ok
  refine ⟨fun r k hk => ?_, fun k hk => ?_, fun k hk => ?_⟩
  · rw [hJ _ (by omega) (by have := q_pm_lt ok hk; omega)]; exact h.1 _ _ hk
  · rw [hK _ (by omega) (by omega)]; exact h.2.1 _ hk
  · rw [hK _ (by omega) (by omega)]; exact h.2.2 _ hk
/-! terms: T 0 0 whether they are there, T 0 1 how many entries, T 0 2 how many steps; kinds, things, signs, numbers, partners -/
def q_kd : Nat → Nat
  | 19 => 1822
  | 2 => 1805
  | 11 => 1811
  | 20 => 19
  | 21 => 20
  | 22 => 21
  | k => k
def q_tx (T : q_N) (d : Nat) (I : z_I) : Prop := I d 5 = nI (T 0 0) ∧ I d 6 = nI (T 0 1) ∧ I d 7 = nI (T 0 2) ∧ ∀ r e, 1 ≤ r → r ≤ 5 → e < T 0 1 → I (d + r) e = nI (T r e)
/-- an entry of the reference -/
def q_te (T : q_N) (e p : Nat) (J : z_I) : Prop := J 1 p = nI (q_kd (T 1 e)) ∧ (T 1 e = 12 ∨ T 1 e = 13 ∨ T 1 e = 14 ∨ T 1 e = 19 ∨ T 1 e = 2 ∨ T 1 e = 11 → J 1 (p + 1) = nI (T 2 e)) ∧ (T 1 e = 15 ∨ T 1 e = 20 → J 1 (p + 1) = nI (T 4 e)) ∧ (T 1 e = 13 ∨ T 1 e = 2 ∨ T 1 e = 11 → J 1 (p + 2) = nI (T 4 e)) ∧ (T 1 e = 2 ∨ T 1 e = 11 → J 1 (p + 5) = nI (T 3 e)) ∧ (T 1 e = 19 ∨ T 1 e = 2 ∨ T 1 e = 11 ∨ T 1 e = 20 ∨ T 1 e = 21 → J 1 (p + 4) = nI (T 5 e))
def q_tm (T : q_N) (o : Nat) (J : z_I) : Prop := (T 0 0 = 0 ∧ J 1 (o + 7) = -1) ∨ (T 0 0 = 1 ∧ J 1 (o + 7) = nI (T 0 1) ∧ ∀ e, e < T 0 1 → q_te T e (o + 60 + 6 * e) J)
/-- an entry that opens -/
def q_op (k : Nat) : Prop := k = 19 ∨ k = 2 ∨ k = 11 ∨ k = 20
def q_tk (k : Nat) : Prop := k = 12 ∨ k = 13 ∨ k = 14 ∨ k = 15 ∨ k = 16 ∨ k = 17 ∨ k = 19 ∨ k = 2 ∨ k = 11 ∨ k = 20 ∨ k = 21 ∨ k = 22
def q_te1 (T C : q_N) (e : Nat) : Prop := q_tk (T 1 e) ∧ (T 1 e = 12 ∨ T 1 e = 19 → T 2 e < C 0 2) ∧ (T 1 e = 13 ∨ T 1 e = 14 ∨ T 1 e = 11 → T 2 e < C 0 3) ∧ (T 1 e = 2 → T 2 e < C 0 0) ∧ (T 1 e = 13 → T 4 e < C 0 0) ∧ (T 1 e = 15 → 1 ≤ T 4 e ∧ T 4 e ≤ 40) ∧ (T 1 e = 20 → 1 ≤ T 4 e ∧ T 4 e ≤ 99) ∧ (T 1 e = 2 ∨ T 1 e = 11 → T 4 e ≤ 9999 ∧ T 3 e ≤ 255)
def q_tok (T C : q_N) : Prop := T 0 0 ≤ 1 ∧ (T 0 0 = 0 → T 0 1 = 0) ∧ T 0 1 ≤ 60 ∧ T 0 2 ≤ 30 ∧ (∀ e, e < T 0 1 → q_te1 T C e) ∧ (∀ e, e < T 0 1 → q_op (T 1 e) → e < T 5 e ∧ T 5 e < T 0 1 ∧ T 1 (T 5 e) = 21 ∧ T 5 (T 5 e) = e) ∧ (∀ e, e < T 0 1 → T 1 e = 21 → T 5 e < e ∧ q_op (T 1 (T 5 e)) ∧ T 5 (T 5 e) = e) ∧ (∀ e f, e < f → f < T 5 e → T 5 e < T 0 1 → q_op (T 1 e) → q_op (T 1 f) → T 5 f < T 5 e)
theorem q_tx.go {T : q_N} {d : Nat} {I I' : z_I} (h : q_tx T d I) (hI : ∀ c k, d ≤ c → c ≤ d + 5 → I' c k = I c k) : q_tx T d I' := by
  obtain ⟨h1, h2, h3, h4⟩ := h
  refine ⟨?_, ?_, ?_, fun r e hr hr2 he => ?_⟩
  · rw [hI _ _ (by omega) (by omega)]; exact h1
  · rw [hI _ _ (by omega) (by omega)]; exact h2
  · rw [hI _ _ (by omega) (by omega)]; exact h3
  · rw [hI _ _ (by omega) (by omega)]; exact h4 r e hr hr2 he
theorem q_te.go {T : q_N} {e p p' : Nat} {J J' : z_I} (h : q_te T e p J) (hJ : ∀ k, k < 6 → J' 1 (p' + k) = J 1 (p + k)) : q_te T e p' J' := by
  obtain ⟨h1, h2, h3, h4, h5, h6⟩ := h
  have e0 := hJ 0 (by omega)
  have e1 := hJ 1 (by omega)
  have e2 := hJ 2 (by omega)
  have e4 := hJ 4 (by omega)
  have e5 := hJ 5 (by omega)
  refine ⟨e0.trans h1, fun z => e1.trans (h2 z), fun z => e1.trans (h3 z), fun z => e2.trans (h4 z), fun z => e5.trans (h5 z), fun z => e4.trans (h6 z)⟩
theorem q_tm.go {T C : q_N} {o o' : Nat} {J J' : z_I} (h : q_tm T o J) (ok : q_tok T C) (hJ : ∀ k, k < 420 → k = 7 ∨ 60 ≤ k → J' 1 (o' + k) = J 1 (o + k)) : q_tm T o' J' := by
  rcases h with ⟨h1, h2⟩ | ⟨h1, h2, h3⟩
  · exact Or.inl ⟨h1, (hJ 7 (by omega) (Or.inl rfl)).trans h2⟩
  · refine Or.inr ⟨h1, (hJ 7 (by omega) (Or.inl rfl)).trans h2, fun e he => (h3 e he).go (fun k hk => ?_)⟩
    have := ok.2.2.1
    have e1 := hJ (60 + 6 * e + k) (by omega) (by omega)
    rw [show o' + 60 + 6 * e + k = o' + (60 + 6 * e + k) by omega, show o + 60 + 6 * e + k = o + (60 + 6 * e + k) by omega]
    exact e1
/-! the whole -/
def q_rp (C T : q_N) (c d o m : Nat) (I : z_I) (L : z_L) (J : z_I) (K : z_L) : Prop := q_sx C c I L ∧ q_sm C o m J K ∧ q_ok C ∧ q_tx T d I ∧ q_tm T o J ∧ q_tok T C
def q_cc : Nat → Nat
  | 0 => 3
  | i + 1 => 63 + 17 * i
def q_cd : Nat → Nat
  | 0 => 14
  | i + 1 => 74 + 17 * i
def q_rt (I J : z_I) : Prop := ∃ t, t ≤ 900 ∧ I 0 18 = nI t ∧ J 0 10 = nI t ∧ ∀ k, k < t → I 2 k = J 6 k ∧ (I 2 k).toInt8.toInt32 = I 2 k
def q_ty (i : Nat) (I : z_I) (L : z_L) (J : z_I) (K : z_L) : Prop := (I (55 + 2 * i) 1 = 0 ∧ J 4 i = -1) ∨ (I (55 + 2 * i) 1 = 1 ∧ ∃ m s, m ≤ 60 ∧ s ≤ 3 ∧ I (55 + 2 * i) 3 = nI m ∧ J 4 i = nI m ∧ I (55 + 2 * i) 2 = nI s ∧ J 3 i = nI s ∧ ∀ k, k < m → L (56 + 2 * i) k = K 5 (60 * i + k))
def q_rl (I J : z_I) : Prop := (I 45 1 = 0 ∧ J 0 44 = 0) ∨ (I 45 1 = 1 ∧ J 0 44 = 1 ∧ ∀ k, k < 5 → I 46 k = J 22 k)
/-- the key words as the class keeps them -/
def q_kw : List Nat := [298288, 1597, 52910677, 379849, 60296, 332864552, 1831504, 47, 70517, 411, 7408591578, 149044, 256910, 453773, 321581, 7622660, 94424609, 1132, 458690, 256721, 247552, 4027, 388978]
def q_rk (L : z_L) : Prop := ∀ k, k < 23 → L 40 k = lN (q_kw.getD k 0)
def q_Q (C T : Nat → q_N) (mk : Nat) (I : z_I) (L : z_L) (J : z_I) (K : z_L) : Prop := (mk ≤ 3 ∧ I 0 19 = nI mk ∧ J 0 45 = nI mk ∧ I 0 16 = J 0 16 ∧ I 0 17 = J 0 17) ∧ I 0 15 = J 0 2 ∧ q_rt I J ∧ (L 54 0 = K 0 3 ∧ L 54 1 = K 0 4) ∧ (∀ i, i < 4 → q_ty i I L J K) ∧ q_rl I J ∧ q_rk L ∧ ∀ i, i ≤ mk → q_rp (C i) (T i) (q_cc i) (q_cd i) (428 * i) (19 * i) I L J K
def q_R (I : z_I) (L : z_L) (J : z_I) (K : z_L) : Prop := ∃ C T mk, q_Q C T mk I L J K
