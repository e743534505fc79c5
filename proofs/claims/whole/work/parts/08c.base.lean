/-! further numbers -/
theorem ql_31 : (31 : Int32) = nI 31 := rfl
theorem ql_32 : (32 : Int32) = nI 32 := rfl
theorem ql_59 : (59 : Int32) = nI 59 := rfl
theorem ql_84 : (84 : Int32) = nI 84 := rfl
theorem ql_91 : (91 : Int32) = nI 91 := rfl
theorem ql_120 : (120 : Int32) = nI 120 := rfl
theorem ql_127 : (127 : Int32) = nI 127 := rfl
theorem ql_200 : (200 : Int32) = nI 200 := rfl
theorem ql_640 : (640 : Int32) = nI 640 := rfl
theorem ql_896 : (896 : Int32) = nI 896 := rfl
theorem ql_1716 : (1716 : Int32) = nI 1716 := rfl
theorem ql_1734 : (1734 : Int32) = nI 1734 := rfl
theorem ql_1772 : (1772 : Int32) = nI 1772 := rfl
theorem ql_2132 : (2132 : Int32) = nI 2132 := rfl
theorem q_sh1 : ∀ {k : Nat}, k < 31 → nI 1 <<< nI (k &&& 31) = nI (2 ^ k) := by
  intro k h
  have e := q_shl k h
  rw [ql_31, q_and, ql_1] at e
  exact e
theorem q_tbN {n j : Nat} (hj : j < 31) : (nI (n &&& 2 ^ j) = nI 0) ↔ n.testBit j = false := by rw [← q_and, nI_0]; exact q_bit hj
theorem q_zlt {α β : Type} (x : α) (k : α → β) : z_lt x k = k x := Eq.trans rfl rfl
theorem q_bs {α β : Type} (x : α) (k : α → Option β) : (some x).bind k = k x := Eq.trans rfl rfl
/-- NONE -/
def q_no : Int32 := -1
theorem q_neg1 : -nI 1 = q_no := by decide
theorem q_nno {n : Nat} (h : n < 2 ^ 31) : (nI n = q_no) ↔ False := by
  constructor
  · intro e
    have e1 := congrArg Int32.toInt e
    rw [nI_toInt h] at e1
    have e2 : q_no.toInt = -1 := by decide
    omega
  · exact False.elim
theorem q_nno' {n : Nat} (h : n < 2 ^ 31) : (q_no = nI n) ↔ False := by rw [eq_comm]; exact q_nno h
theorem q_annN (a b : Nat) : nI a &&& (nI b ^^^ q_no) = nI (a ^^^ (a &&& b)) := q_ann a b
theorem q_of32 (x : Int32) : ∃ n, n < 2 ^ 32 ∧ x = nI n := ⟨x.toBitVec.toNat, x.toBitVec.isLt, Int32.toBitVec_inj.mp (by show _ = BitVec.ofNat 32 _; simp)⟩
theorem q_fu {n : Nat} (h : n ≤ 999999) : n < z_fuel := by unfold z_fuel; omega
/-! a loop, by the row of its states -/
theorem q_lp {α β : Type} {G : Nat → Nat → α → β} {N k0 : Nat} {r : β} (S : Nat → α) (hs : ∀ n k, k0 ≤ k → k < N → G (n + 1) k (S k) = G n (k + 1) (S (k + 1))) (he : ∀ n, G (n + 1) N (S N) = r) {n : Nat} (h0 : k0 ≤ N) (hn : N - k0 < n) : G n k0 (S k0) = r := by
  have key : ∀ j k n, k0 ≤ k → k + j = N → j < n → G n k (S k) = r := by
    intro j
    induction j with
    | zero =>
      intro k n _ hk hn
      have hk : k = N := hk
      subst hk
      cases n with
      | zero => omega
      | succ n => exact he n
    | succ j ih =>
      intro k n h1 hk hn
      cases n with
      | zero => omega
      | succ n => rw [hs n k h1 (by omega)]; exact ih (k + 1) n (by omega) (by omega) (by omega)
  exact key (N - k0) k0 n (Nat.le_refl _) (by omega) hn
/-- a loop over memories -/
theorem q_lpP {α β : Type} {G : Nat → Nat → α → Option β} {N k0 : Nat} {Q : β → Prop} (P : Nat → α → Prop) (hs : ∀ n k a, k0 ≤ k → k < N → P k a → ∃ a', P (k + 1) a' ∧ G (n + 1) k a = G n (k + 1) a') (he : ∀ n a, P N a → ∃ b, G (n + 1) N a = some b ∧ Q b) {n : Nat} {a : α} (h0 : k0 ≤ N) (hn : N - k0 < n) (hp : P k0 a) : ∃ b, G n k0 a = some b ∧ Q b := by
  have key : ∀ j k n a, k0 ≤ k → k + j = N → j < n → P k a → ∃ b, G n k a = some b ∧ Q b := by
    intro j
    induction j with
    | zero =>
      intro k n a _ hk hn hp
      have hk : k = N := hk
      subst hk
      cases n with
      | zero => omega
      | succ n => exact he n a hp
    | succ j ih =>
      intro k n a h1 hk hn hp
      cases n with
      | zero => omega
      | succ n =>
        obtain ⟨a', hp', e⟩ := hs n k a h1 (by omega) hp
        rw [e]
        exact ih (k + 1) n a' (by omega) (by omega) (by omega) hp'
  exact key (N - k0) k0 n a (Nat.le_refl _) (by omega) hn hp
def q_sum (f : Nat → Nat) : Nat → Nat
  | 0 => 0
  | n + 1 => q_sum f n + f n
def q_it {α : Type} (F : Nat → α → α) (a : α) : Nat → α
  | 0 => a
  | n + 1 => F n (q_it F a n)
theorem q_sum_le {f : Nat → Nat} {b n : Nat} (h : ∀ k, k < n → f k ≤ b) : q_sum f n ≤ n * b := by
  induction n with
  | zero => simp [q_sum]
  | succ n ih =>
    have h1 := ih (fun k hk => h k (by omega))
    have h2 := h n (by omega)
    rw [q_sum, Nat.succ_mul]; omega
theorem q_sum_eq {f g : Nat → Nat} {n : Nat} (h : ∀ k, k < n → f k = g k) : q_sum f n = q_sum g n := by
  induction n with
  | zero => rfl
  | succ n ih => rw [q_sum, q_sum, ih (fun k hk => h k (by omega)), h n (by omega)]
theorem q_it_eq {α : Type} {F G : Nat → α → α} {a : α} {n : Nat} (h : ∀ k b, k < n → F k b = G k b) : q_it F a n = q_it G a n := by
  induction n with
  | zero => rfl
  | succ n ih => rw [q_it, q_it, ih (fun k b hk => h k b (by omega)), h n _ (by omega)]
theorem q_it_inv {α : Type} {F : Nat → α → α} {a : α} (P : Nat → α → Prop) {n : Nat} (h0 : P 0 a) (h : ∀ k b, k < n → P k b → P (k + 1) (F k b)) : P n (q_it F a n) := by
  induction n with
  | zero => exact h0
  | succ n ih => exact h n _ (by omega) (ih (fun k b hk => h k b (by omega)))
/-! what is asked of a number that is given -/
def q_hs (n : Nat) (p : Int32) : Bool := if p < 0 then false else if nI n ≤ p then false else true
theorem q_hs_t {n : Nat} {p : Int32} (h : q_hs n p = true) (hn : n < 2 ^ 31) : ∃ b, b < n ∧ p = nI b := by
  unfold q_hs at h
  rcases pk_ix p hn with z | z | z
  · rw [if_pos z] at h; cases h
  · by_cases z0 : p < 0
    · rw [if_pos z0] at h; cases h
    · rw [if_neg z0, if_pos z] at h; cases h
  · exact z
theorem q_hs_i {n b : Nat} (hb : b < n) (hn : n < 2 ^ 31) : q_hs n (nI b) = true := by
  unfold q_hs
  rw [if_neg (nI_pos (by omega)), if_neg (nI_ge hb hn)]
theorem q_wi_t {p : Int32} {a b : Nat} (h : f_X10_isWithin p (nI a) (nI b) = true) (ha : a < 2 ^ 31) (hb : b < 2 ^ 31) : ∃ j, a ≤ j ∧ j ≤ b ∧ p = nI j := by
  unfold f_X10_isWithin at h
  by_cases h1 : p < nI a
  · rw [if_pos h1] at h; cases h
  by_cases h2 : nI b < p
  · rw [if_neg h1, if_pos h2] at h; cases h
  have t1 : ¬ p < 0 := fun z => h1 (by
    rw [Int32.lt_iff_toInt_lt] at z ⊢
    rw [nI_toInt ha]
    have : (0 : Int32).toInt = 0 := by decide
    omega)
  obtain ⟨j, hj, rfl⟩ := nI_of t1
  rw [nI_ltI hj ha] at h1
  rw [nI_ltI hb hj] at h2
  exact ⟨j, by omega, by omega, rfl⟩
theorem q_wi_i {a b j : Nat} (h1 : a ≤ j) (h2 : j ≤ b) (hb : b < 2 ^ 31) : f_X10_isWithin (nI j) (nI a) (nI b) = true := by
  unfold f_X10_isWithin
  rw [if_neg (nI_nlt h1 (by omega)), if_neg (nI_nlt h2 hb)]
theorem q_from {p : Int32} {a b : Nat} (ha : a < 2 ^ 31) (hb : b < 2 ^ 31) : f_X11_isFrom p.toInt64 (lN a) (lN b) = f_X10_isWithin p (nI a) (nI b) := by
  unfold f_X11_isFrom f_X10_isWithin
  rw [← nI_l ha, ← nI_l hb]
  simp only [Int32.toInt64_lt]
theorem q_lt_le {p : Int32} {n : Nat} (h : n + 1 < 2 ^ 31) : nI n < p ↔ nI (n + 1) ≤ p := by
  rw [Int32.lt_iff_toInt_lt, Int32.le_iff_toInt_le, nI_toInt h, nI_toInt (by omega)]
  omega
theorem q_wi_hs {p : Int32} {n : Nat} (h : n + 1 < 2 ^ 31) : f_X10_isWithin p 0 (nI n) = q_hs (n + 1) p := by
  unfold f_X10_isWithin q_hs
  by_cases h1 : p < 0
  · rw [if_pos h1, if_pos h1]
  · rw [if_neg h1, if_neg h1]
    by_cases h2 : nI n < p
    · rw [if_pos h2, if_pos ((q_lt_le h).1 h2)]
    · rw [if_neg h2, if_neg (fun z => h2 ((q_lt_le h).2 z))]
theorem q_trX (p : Int32) : f_X10_isTray p = q_hs 4 p := q_wi_hs (n := 3) (by decide)
theorem q_trM (p : Int32) : f_X11_isTray p = q_hs 4 p := rfl
theorem q_pow {n : Nat} (h : n < 31) : 2 ^ n < 2 ^ 31 := Nat.pow_lt_pow_right (by decide) h
theorem q_ones {n : Nat} (h : n < 31) : nI (2 ^ n) - nI 1 = nI (2 ^ n - 1) := pk_sub (Nat.one_le_two_pow)
theorem q_xoz {a b : Nat} (h : a ^^^ b = 0) : a = b := by
  apply Nat.eq_of_testBit_eq
  intro i
  have := congrArg (fun z => Nat.testBit z i) h
  simp only [Nat.testBit_xor, Nat.zero_testBit] at this
  revert this
  cases a.testBit i <;> cases b.testBit i <;> simp
/-- a set of cases -/
theorem q_cs {p : Int32} {n : Nat} (h : n < 31) : (p &&& (nI (2 ^ n - 1) ^^^ (-1))) = 0 ↔ ∃ s, s < 2 ^ n ∧ p = nI s := by
  obtain ⟨m, hm, rfl⟩ := q_of32 p
  have hp := q_pow h
  rw [q_ann, Nat.and_two_pow_sub_one_eq_mod]
  constructor
  · intro e
    have e2 : m ^^^ m % 2 ^ n = 0 := by
      have h1 := congrArg (fun z : Int32 => z.toBitVec.toNat) e
      have h2 : m ^^^ m % 2 ^ n < 2 ^ 32 := Nat.xor_lt_two_pow hm (Nat.lt_of_le_of_lt (Nat.mod_le _ _) hm)
      rw [pk_tn h2] at h1
      rw [h1]; decide
    exact ⟨m, by rw [q_xoz e2]; exact Nat.mod_lt _ (Nat.two_pow_pos n), rfl⟩
  · rintro ⟨s, hs, e⟩
    have h1 := congrArg (fun z : Int32 => z.toBitVec.toNat) e
    rw [pk_tn hm, pk_tn (by omega)] at h1
    subst h1
    rw [Nat.mod_eq_of_lt hs, Nat.xor_self]; rfl
