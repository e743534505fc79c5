/-! texts: letters, words, numbers -/
def q_run (P : Nat → Bool) : Nat → Nat → Nat
  | 0, p => p
  | j + 1, p => if P p = true then q_run P j (p + 1) else p
theorem q_run_p (P : Nat → Bool) : ∀ j p, p ≤ q_run P j p ∧ q_run P j p ≤ p + j ∧ (∀ i, p ≤ i → i < q_run P j p → P i = true) ∧ (q_run P j p < p + j → P (q_run P j p) = false) := by
  intro j
  induction j with
  | zero => intro p; exact ⟨Nat.le_refl _, Nat.le_refl _, fun i h1 h2 => by simp only [q_run] at h2; omega, fun h => by simp only [q_run] at h; omega⟩
  | succ j ih =>
    intro p
    rw [q_run]
    cases hp : P p with
    | true =>
      rw [if_pos rfl]
      obtain ⟨h1, h2, h3, h4⟩ := ih (p + 1)
      refine ⟨by omega, by omega, fun i i1 i2 => ?_, fun h => h4 (by omega)⟩
      by_cases y : i = p
      · subst y; exact hp
      · exact h3 i (by omega) i2
    | false =>
      rw [if_neg (by decide)]
      exact ⟨Nat.le_refl _, by omega, fun i i1 i2 => by omega, fun _ => hp⟩
theorem q_lpR {α β : Type} {G : Nat → α → β} {n p0 : Nat} {r : Nat → β} (P : Nat → Bool) (S : Nat → α) (hs : ∀ f p, p0 ≤ p → p < n → P p = true → G (f + 1) (S p) = G f (S (p + 1))) (he : ∀ f p, p0 ≤ p → p ≤ n → (p = n ∨ P p = false) → G (f + 1) (S p) = r p) : ∀ j p f, p0 ≤ p → p + j = n → j < f → G f (S p) = r (q_run P j p) := by
  intro j
  induction j with
  | zero =>
    intro p f h0 hp hf
    cases f with
    | zero => omega
    | succ f => exact he f p h0 (by omega) (Or.inl hp)
  | succ j ih =>
    intro p f h0 hp hf
    cases f with
    | zero => omega
    | succ f =>
      rw [q_run]
      cases hb : P p with
      | true => rw [if_pos rfl, hs f p h0 (by omega) hb]; exact ih (p + 1) f (by omega) (by omega) (by omega)
      | false => rw [if_neg (by decide)]; exact he f p h0 (by omega) (Or.inr hb)
theorem q_zz1 {α : Type} {f : Nat → Nat → α} {a b : Nat} {x y : α} : z2 (z2 f a b x) a b y = z2 f a b y := by
  funext d k
  by_cases z : d = a ∧ k = b
  · obtain ⟨r1, r2⟩ := z
    subst r1 r2
    rw [q_zs, q_zs]
  · rw [q_zo (by omega), q_zo (by omega), q_zo (by omega)]
def q_bl (B : Nat → Nat) (p : Nat) : Bool := decide (B p = 10 ∨ B p = 32)
def q_lo (B : Nat → Nat) (p : Nat) : Bool := decide (97 ≤ B p ∧ B p ≤ 122)
def q_dg (B : Nat → Nat) (p : Nat) : Bool := decide (48 ≤ B p ∧ B p ≤ 57)
/-- the number of a word, by letters as digits -/
def q_co (B : Nat → Nat) (f : Nat) : Nat → Nat
  | 0 => 0
  | j + 1 => q_co B f j * 27 + (B (f + j) - 96)
def q_va (B : Nat → Nat) (f : Nat) : Nat → Nat
  | 0 => 0
  | j + 1 => q_va B f j * 10 + (B (f + j) - 48)
theorem q_co_i {B B' : Nat → Nat} {f f' : Nat} : ∀ m m', (∀ j, j < m → q_lo B (f + j) = true) → (∀ j, j < m' → q_lo B' (f' + j) = true) → q_co B f m = q_co B' f' m' → m = m' ∧ ∀ j, j < m → B (f + j) = B' (f' + j) := by
  intro m
  induction m with
  | zero =>
    intro m' _ h2 he
    cases m' with
    | zero => exact ⟨rfl, fun j hj => by omega⟩
    | succ m' =>
      have := of_decide_eq_true (h2 m' (by omega))
      simp only [q_co] at he
      omega
  | succ m ih =>
    intro m' h1 h2 he
    have a1 := of_decide_eq_true (h1 m (by omega))
    cases m' with
    | zero => simp only [q_co] at he; omega
    | succ m' =>
      have a2 := of_decide_eq_true (h2 m' (by omega))
      simp only [q_co] at he
      obtain ⟨e1, e2⟩ := ih m' (fun j hj => h1 j (by omega)) (fun j hj => h2 j (by omega)) (by omega)
      subst e1
      refine ⟨rfl, fun j hj => ?_⟩
      by_cases y : j = m
      · subst y; omega
      · exact e2 j (by omega)
theorem q_co_e {B B' : Nat → Nat} {f f' : Nat} : ∀ m, (∀ j, j < m → B (f + j) = B' (f' + j)) → q_co B f m = q_co B' f' m := by
  intro m
  induction m with
  | zero => intro _; rfl
  | succ m ih => intro h; rw [q_co, q_co, ih (fun j hj => h j (by omega)), h m (by omega)]
theorem q_co_lt {B : Nat → Nat} {f : Nat} : ∀ m, (∀ j, j < m → q_lo B (f + j) = true) → q_co B f m < 27 ^ m := by
  intro m
  induction m with
  | zero => intro _; show 0 < 1; omega
  | succ m ih =>
    intro h
    have := ih (fun j hj => h j (by omega))
    have := of_decide_eq_true (h m (by omega))
    rw [q_co, Nat.pow_succ]
    omega
theorem q_co_8 {B : Nat → Nat} {f m : Nat} (h : ∀ j, j < m → q_lo B (f + j) = true) (hm : m ≤ 8) : q_co B f m < 27 ^ 8 := Nat.lt_of_lt_of_le (q_co_lt m h) (Nat.pow_le_pow_right (by decide) hm)
theorem q_cv_z : q_cv 0 = 0 := q_cv0
theorem q_cv_s {w : Nat} (h : w ≠ 0) : q_cv w = q_cv (w / 27) * 256 + (w % 27 + 96) := by
  rw [q_cv, dif_neg h]
theorem q_cv_c {B : Nat → Nat} {f m : Nat} (h : q_lo B (f + m) = true) : q_cv (q_co B f (m + 1)) = q_cv (q_co B f m) * 256 + B (f + m) := by
  have a1 := of_decide_eq_true h
  rw [q_co, q_cv_s (by omega)]
  have e1 : (q_co B f m * 27 + (B (f + m) - 96)) / 27 = q_co B f m := by omega
  have e2 : (q_co B f m * 27 + (B (f + m) - 96)) % 27 = B (f + m) - 96 := by omega
  rw [e1, e2]
  omega
theorem q_cv_i : ∀ w w', q_cv w = q_cv w' → w = w' := by
  intro w
  induction w using Nat.strongRecOn with
  | ind w ih =>
    intro w' h
    by_cases h1 : w = 0
    · by_cases h2 : w' = 0
      · omega
      · rw [h1, q_cv_z, q_cv_s h2] at h; omega
    · by_cases h2 : w' = 0
      · rw [h2, q_cv_z, q_cv_s h1] at h; omega
      · rw [q_cv_s h1, q_cv_s h2] at h
        have := ih (w / 27) (by omega) (w' / 27) (by omega)
        omega
theorem q_cv_lt : ∀ j w, w < 27 ^ j → q_cv w < 256 ^ j := by
  intro j
  induction j with
  | zero => intro w h; have : w = 0 := by rw [Nat.pow_zero] at h; omega
            rw [this, q_cv_z]; decide
  | succ j ih =>
    intro w h
    by_cases h1 : w = 0
    · rw [h1, q_cv_z]; exact Nat.pow_pos (by decide)
    · rw [Nat.pow_succ] at h
      have := ih (w / 27) (by omega)
      rw [q_cv_s h1, Nat.pow_succ]
      omega
theorem q_lNb (n : Nat) : (lN n).toBitVec = BitVec.ofNat 64 n := rfl
theorem q_lNn {n : Nat} (h : n < 2 ^ 64) : (lN n).toBitVec.toNat = n := by rw [q_lNb, BitVec.toNat_ofNat, Nat.mod_eq_of_lt h]
theorem q_lNi {a b : Nat} (ha : a < 2 ^ 64) (hb : b < 2 ^ 64) : (lN a = lN b) ↔ a = b := by
  constructor
  · intro h
    have := congrArg (fun z : Int64 => z.toBitVec.toNat) h
    simp only [q_lNn ha, q_lNn hb] at this
    exact this
  · intro h; rw [h]
/-- names are alike on both sides -/
theorem q_nmE {a b : Nat} (ha : a < 27 ^ 8) (hb : b < 27 ^ 8) : (lN (q_cv a) = lN (q_cv b)) ↔ (lN a = lN b) := by
  have h1 := q_cv_lt 8 a ha
  have h2 := q_cv_lt 8 b hb
  rw [q_lNi (by omega) (by omega), q_lNi (by omega) (by omega)]
  exact ⟨q_cv_i a b, fun h => by rw [h]⟩
theorem q_lsh {x b : Nat} (hx : x < 2 ^ 56) (hb : b < 256) : (lN x <<< (((8 : Int32)).toInt64 &&& 63)) ||| lN b = lN (x * 256 + b) := by
  apply Int64.toBitVec_inj.1
  apply BitVec.eq_of_toNat_eq
  have e0 : ((8 : Int32).toInt64 &&& 63) = 8 := by decide
  rw [e0, Int64.toBitVec_or, BitVec.toNat_or, Int64.toBitVec_shiftLeft, q_lNb, q_lNb, q_lNb]
  have e1 : (BitVec.smod (8 : Int64).toBitVec 64) = 8#64 := by decide
  rw [e1]
  simp only [BitVec.shiftLeft_eq', BitVec.toNat_shiftLeft, BitVec.toNat_ofNat]
  rw [Nat.mod_eq_of_lt (show x < 2 ^ 64 by omega), Nat.mod_eq_of_lt (show b < 2 ^ 64 by omega), Nat.mod_eq_of_lt (show x * 256 + b < 2 ^ 64 by omega)]
  have e2 : x <<< (8 % 2 ^ 64) = x * 256 := by rw [Nat.shiftLeft_eq]
  rw [e2, Nat.mod_eq_of_lt (show x * 256 < 2 ^ 64 by omega)]
  have := Nat.shiftLeft_add_eq_or_of_lt (show b < 2 ^ 8 by omega) x
  rw [Nat.shiftLeft_eq] at this
  exact this.symm
/-! the key words -/
def q_ks : Nat → Nat := fun j => [32, 111, 100, 100, 115, 32, 98, 101, 100, 32, 99, 97, 115, 101, 32, 99, 108, 97, 105, 109, 32, 115, 99, 104, 111, 108, 97, 114, 32, 99, 114, 111, 99, 117, 115, 32, 115, 104, 97, 109, 32, 119, 101, 105, 103, 104, 116, 32, 97, 116, 32, 99, 111, 115, 116, 32, 111, 102, 32, 103, 111, 108, 100, 32, 109, 97, 107, 101, 32, 119, 97, 108, 107, 32, 112, 105, 99, 107, 32, 110, 105, 103, 104, 116, 32, 102, 111, 114, 103, 101, 116, 32, 97, 110, 121, 32, 119, 104, 101, 110, 32, 108, 111, 111, 112, 32, 101, 110, 100, 32, 115, 116, 111, 112, 32, 109, 97, 100, 101, 32].getD j 0
def q_kS : Nat → Nat := fun r => [1, 6, 10, 15, 21, 29, 36, 41, 48, 51, 56, 59, 64, 69, 74, 79, 85, 92, 96, 101, 106, 110, 115, 120].getD r 0
def q_kL : Nat → Nat := fun r => [4, 3, 4, 5, 7, 6, 4, 6, 2, 4, 2, 4, 4, 4, 4, 5, 6, 3, 4, 4, 3, 4, 4].getD r 0
/-- the reference's number of a key word, by the class's -/
def q_pi : Nat → Nat := fun k => [0, 1, 5, 6, 2, 7, 3, 8, 9, 10, 4, 11, 12, 13, 14, 15, 16, 17, 18, 22, 19, 20, 21].getD k 0
theorem q_ksC : ∀ k, k < 120 → z_ch k = nI (q_ks k) := by decide +kernel
theorem q_kSL : ∀ r, r < 23 → q_kS (r + 1) = q_kS r + q_kL r + 1 ∧ q_kS r + q_kL r < 120 ∧ q_kL r ≤ 7 ∧ 1 ≤ q_kL r ∧ q_ks (q_kS r + q_kL r) = 32 := by decide +kernel
theorem q_kLo : ∀ r, r < 23 → ∀ j, j < q_kL r → q_lo q_ks (q_kS r + j) = true := by decide +kernel
theorem q_ks_b : ∀ j, j < 120 → q_ks j < 128 := by decide +kernel
theorem q_kwE : ∀ k, k < 23 → q_kw.getD k 0 = q_co q_ks (q_kS (q_pi k)) (q_kL (q_pi k)) ∧ q_pi k < 23 ∧ q_kw.getD k 0 < 27 ^ 8 := by decide +kernel
theorem q_kwD : ∀ r, r < 23 → ∀ s, s < 23 → q_co q_ks (q_kS r) (q_kL r) = q_co q_ks (q_kS s) (q_kL s) → r = s := by decide +kernel
theorem q_piI : ∀ k, k < 23 → ∀ l, l < 23 → q_pi k = q_pi l → k = l := by decide +kernel
theorem q_piS : ∀ r, r < 23 → ∃ k, k < 23 ∧ q_pi k = r := by decide +kernel
/-! the text as both have it -/
def q_xt (n : Nat) (B : Nat → Nat) (I J : z_I) : Prop := n ≤ 900 ∧ I 39 2 = nI n ∧ J 0 11 = nI n ∧ ∀ k, k < n → B k < 256 ∧ (B k < 128 → I 2 k = nI (B k)) ∧ (128 ≤ B k → I 2 k < 0) ∧ J 7 k &&& 255 = nI (B k)
theorem q_xt.by {n : Nat} {B : Nat → Nat} {I J : z_I} (h : q_xt n B I J) {p : Nat} (hp : p < n) : f_X11_byteAt J (nI p) = some (nI (B p)) := by
  obtain ⟨h1, -, h2, h3⟩ := h
  unfold f_X11_byteAt
  rw [h2, if_neg (nI_ge hp (by omega)), if_pos (q_in (by omega) (by decide)), nI_clamp (by omega), (h3 p hp).2.2.2]
theorem q_xt.ov {n : Nat} {B : Nat → Nat} {I J : z_I} (h : q_xt n B I J) : f_X11_byteAt J (nI n) = some q_no := by
  obtain ⟨h1, -, h2, h3⟩ := h
  unfold f_X11_byteAt
  rw [h2, if_pos (nI_le (Nat.le_refl _) (by omega))]
  rfl
/-- what the class sees of a byte -/
theorem q_xt.c {n : Nat} {B : Nat → Nat} {I J : z_I} (h : q_xt n B I J) {p : Nat} (hp : p < n) : (∀ c, c < 128 → ((I 2 p = nI c) ↔ B p = c)) ∧ (∀ c, c < 128 → ((I 2 p < nI c) ↔ (B p < c ∨ 128 ≤ B p))) ∧ (∀ c, c < 128 → ((nI c < I 2 p) ↔ (c < B p ∧ B p < 128))) := by
  obtain ⟨b1, b2, b3, -⟩ := h.2.2.2 p hp
  by_cases y : B p < 128
  · rw [b2 y]
    refine ⟨fun c hc => ?_, fun c hc => ?_, fun c hc => ?_⟩
    · rw [nI_eq (by omega) (by omega)]
    · rw [nI_ltI (by omega) (by omega)]; omega
    · rw [nI_ltI (by omega) (by omega)]; omega
  · have b3 := b3 (by omega)
    have b3 : (I 2 p).toInt < 0 := by rw [Int32.lt_iff_toInt_lt] at b3; exact b3
    refine ⟨fun c hc => ⟨fun w => ?_, fun w => by omega⟩, fun c hc => ⟨fun _ => Or.inr (by omega), fun _ => ?_⟩, fun c hc => ⟨fun w => ?_, fun w => by omega⟩⟩
    · rw [w, nI_toInt (by omega)] at b3; omega
    · rw [Int32.lt_iff_toInt_lt, nI_toInt (by omega)]; omega
    · rw [Int32.lt_iff_toInt_lt, nI_toInt (by omega)] at w; omega
