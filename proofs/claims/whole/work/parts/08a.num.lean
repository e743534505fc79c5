/-! numbers: the small ones as nI, bits, loops -/
theorem ql_0 : (0 : Int32) = nI 0 := rfl
theorem ql_1 : (1 : Int32) = nI 1 := rfl
theorem ql_2 : (2 : Int32) = nI 2 := rfl
theorem ql_3 : (3 : Int32) = nI 3 := rfl
theorem ql_4 : (4 : Int32) = nI 4 := rfl
theorem ql_5 : (5 : Int32) = nI 5 := rfl
theorem ql_6 : (6 : Int32) = nI 6 := rfl
theorem ql_7 : (7 : Int32) = nI 7 := rfl
theorem ql_8 : (8 : Int32) = nI 8 := rfl
theorem ql_9 : (9 : Int32) = nI 9 := rfl
theorem ql_10 : (10 : Int32) = nI 10 := rfl
theorem ql_11 : (11 : Int32) = nI 11 := rfl
theorem ql_12 : (12 : Int32) = nI 12 := rfl
theorem ql_13 : (13 : Int32) = nI 13 := rfl
theorem ql_14 : (14 : Int32) = nI 14 := rfl
theorem ql_15 : (15 : Int32) = nI 15 := rfl
theorem ql_16 : (16 : Int32) = nI 16 := rfl
theorem ql_17 : (17 : Int32) = nI 17 := rfl
theorem ql_18 : (18 : Int32) = nI 18 := rfl
theorem ql_19 : (19 : Int32) = nI 19 := rfl
theorem ql_20 : (20 : Int32) = nI 20 := rfl
theorem ql_21 : (21 : Int32) = nI 21 := rfl
theorem ql_22 : (22 : Int32) = nI 22 := rfl
theorem ql_23 : (23 : Int32) = nI 23 := rfl
theorem ql_24 : (24 : Int32) = nI 24 := rfl
theorem ql_27 : (27 : Int32) = nI 27 := rfl
theorem ql_30 : (30 : Int32) = nI 30 := rfl
theorem ql_40 : (40 : Int32) = nI 40 := rfl
theorem ql_48 : (48 : Int32) = nI 48 := rfl
theorem ql_51 : (51 : Int32) = nI 51 := rfl
theorem ql_52 : (52 : Int32) = nI 52 := rfl
theorem ql_57 : (57 : Int32) = nI 57 := rfl
theorem ql_60 : (60 : Int32) = nI 60 := rfl
theorem ql_61 : (61 : Int32) = nI 61 := rfl
theorem ql_62 : (62 : Int32) = nI 62 := rfl
theorem ql_76 : (76 : Int32) = nI 76 := rfl
theorem ql_97 : (97 : Int32) = nI 97 := rfl
theorem ql_99 : (99 : Int32) = nI 99 := rfl
theorem ql_100 : (100 : Int32) = nI 100 := rfl
theorem ql_122 : (122 : Int32) = nI 122 := rfl
theorem ql_128 : (128 : Int32) = nI 128 := rfl
theorem ql_255 : (255 : Int32) = nI 255 := rfl
theorem ql_256 : (256 : Int32) = nI 256 := rfl
theorem ql_300 : (300 : Int32) = nI 300 := rfl
theorem ql_420 : (420 : Int32) = nI 420 := rfl
theorem ql_428 : (428 : Int32) = nI 428 := rfl
theorem ql_900 : (900 : Int32) = nI 900 := rfl
theorem ql_999 : (999 : Int32) = nI 999 := rfl
theorem ql_1712 : (1712 : Int32) = nI 1712 := rfl
theorem ql_1800 : (1800 : Int32) = nI 1800 := rfl
theorem ql_1805 : (1805 : Int32) = nI 1805 := rfl
theorem ql_1811 : (1811 : Int32) = nI 1811 := rfl
theorem ql_1822 : (1822 : Int32) = nI 1822 := rfl
theorem ql_2140 : (2140 : Int32) = nI 2140 := rfl
theorem ql_3229 : (3229 : Int32) = nI 3229 := rfl
theorem ql_9999 : (9999 : Int32) = nI 9999 := rfl
theorem ql_11453 : (11453 : Int32) = nI 11453 := rfl
theorem ql_65536 : (65536 : Int32) = nI 65536 := rfl
theorem ql_100000 : (100000 : Int32) = nI 100000 := rfl
theorem ql_1000000 : (1000000 : Int32) = nI 1000000 := rfl
theorem q_in {k N : Nat} (h : k < N) (hN : N < 2 ^ 31) : zin (nI k) N = true := decide_eq_true (nI_in h hN)
theorem q_and (a b : Nat) : nI a &&& nI b = nI (a &&& b) := by
  apply Int32.toBitVec_inj.1
  show BitVec.ofNat 32 a &&& BitVec.ofNat 32 b = BitVec.ofNat 32 (a &&& b)
  apply BitVec.eq_of_getLsbD_eq
  intro i hi
  simp [hi]
theorem q_or (a b : Nat) : nI a ||| nI b = nI (a ||| b) := by
  apply Int32.toBitVec_inj.1
  show BitVec.ofNat 32 a ||| BitVec.ofNat 32 b = BitVec.ofNat 32 (a ||| b)
  apply BitVec.eq_of_getLsbD_eq
  intro i hi
  simp [hi]
theorem q_xor (a b : Nat) : nI a ^^^ nI b = nI (a ^^^ b) := by
  apply Int32.toBitVec_inj.1
  show BitVec.ofNat 32 a ^^^ BitVec.ofNat 32 b = BitVec.ofNat 32 (a ^^^ b)
  apply BitVec.eq_of_getLsbD_eq
  intro i hi
  simp [hi]
/-- one bit, by 'and' with a power of two -/
theorem q_andp {n j : Nat} : n &&& 2 ^ j = 0 ↔ n.testBit j = false := by
  constructor
  · intro h
    have h1 : (n &&& 2 ^ j).testBit j = false := by rw [h]; simp
    rw [Nat.testBit_and] at h1
    simpa using h1
  · intro h
    apply Nat.eq_of_testBit_eq
    intro i
    rw [Nat.testBit_and]
    by_cases hi : j = i
    · subst hi; simp [h]
    · simp [Nat.testBit_two_pow, hi]
theorem q_bit {n j : Nat} (hj : j < 31) : nI n &&& nI (2 ^ j) = 0 ↔ n.testBit j = false := by
  have h2 : (2 : Nat) ^ j < 2 ^ 31 := Nat.pow_lt_pow_right (by decide) hj
  have hle : n &&& 2 ^ j ≤ 2 ^ j := Nat.and_le_right
  rw [q_and, ← q_andp]
  constructor
  · intro h
    rcases Nat.eq_zero_or_pos (n &&& 2 ^ j) with z | z
    · exact z
    · exact absurd h (nI_ne0 z (Nat.lt_of_le_of_lt hle h2))
  · intro h
    rw [h]; exact nI_0
theorem q_sl : ∀ n, n < 32 → ((nI n &&& 31).toBitVec.smod 32).toNat = n := by decide +kernel
theorem q_shl : ∀ k, k < 31 → (1 : Int32) <<< (nI k &&& 31) = nI (2 ^ k) := by decide +kernel
/-- a bit that is tested by a mask -/
theorem q_tb {n j : Nat} (hj : j < 31) : (nI n &&& ((1 : Int32) <<< (nI j &&& 31))) = 0 ↔ n.testBit j = false := by rw [q_shl j hj]; exact q_bit hj
theorem q_m1 : ∀ i, i < 32 → (-1 : Int32).toBitVec.getLsbD i = true := by decide +kernel
/-- what isn't in a set -/
theorem q_an (x y : Int32) : x &&& (y ^^^ (-1)) = x ^^^ (x &&& y) := by
  apply Int32.toBitVec_inj.1
  apply BitVec.eq_of_getLsbD_eq
  intro i hi
  rw [Int32.toBitVec_and, Int32.toBitVec_xor, Int32.toBitVec_xor, Int32.toBitVec_and, BitVec.getLsbD_and, BitVec.getLsbD_xor, BitVec.getLsbD_xor, BitVec.getLsbD_and, q_m1 i hi]
  cases x.toBitVec.getLsbD i <;> cases y.toBitVec.getLsbD i <;> rfl
theorem q_ann (a b : Nat) : nI a &&& (nI b ^^^ (-1)) = nI (a ^^^ (a &&& b)) := by rw [q_an, q_and, q_xor]
theorem q_shr {n k : Nat} (h : n < 2 ^ 31) (hk : k < 31) : nI n >>> (nI k &&& 31) = nI (n / 2 ^ k) := pk_shrN h _ k (q_sl k (by omega))
theorem q_mod2 (n : Nat) : nI n &&& 1 = nI (n % 2) := by
  rw [ql_1, q_and]; congr 1; exact Nat.and_one_is_mod n
/-- a bit that is tested by a shift -/
theorem q_tb1 {n j : Nat} (h : n < 2 ^ 31) (hj : j < 31) : ((nI n >>> (nI j &&& 31)) &&& (1 : Int32)) = (1 : Int32) ↔ n.testBit j = true := by
  rw [q_shr h hj, q_mod2, ql_1, nI_eq (by omega) (by omega), Nat.testBit_eq_decide_div_mod_eq, decide_eq_true_iff]
theorem q_isIn {n j : Nat} (h : n < 2 ^ 31) (hj : j < 31) : f_X11_isIn (nI n) (nI j) = n.testBit j := by
  unfold f_X11_isIn
  cases hb : n.testBit j with
  | false => rw [if_neg]; rw [q_tb1 h hj, hb]; decide
  | true => rw [if_pos]; rw [q_tb1 h hj, hb]
theorem q_min {a b : Nat} (ha : a < 2 ^ 31) (hb : b < 2 ^ 31) : z_min (nI a) (nI b) = nI (min a b) := by
  unfold z_min
  by_cases h : b < a
  · rw [if_pos (nI_lt h ha)]; congr 1; omega
  · rw [if_neg (nI_nlt (by omega) hb)]; congr 1; omega
theorem q_max {a b : Nat} (ha : a < 2 ^ 31) (hb : b < 2 ^ 31) : z_max (nI a) (nI b) = nI (max a b) := by
  unfold z_max
  by_cases h : a < b
  · rw [if_pos (nI_lt h hb)]; congr 1; omega
  · rw [if_neg (nI_nlt (by omega) ha)]; congr 1; omega
/-! a loop with a counter -/
def q_fd {α : Type} (F : Nat → α → α) : Nat → Nat → α → α
  | 0, _, a => a
  | j + 1, k, a => q_fd F j (k + 1) (F k a)
theorem q_loop {α β : Type} {G : Nat → Nat → α → Option β} {N : Nat} {F : Nat → α → α} {fin : α → Option β} (P : Nat → α → Prop) (hs : ∀ n k a, k < N → P k a → G (n + 1) k a = G n (k + 1) (F k a) ∧ P (k + 1) (F k a)) (he : ∀ n a, P N a → G (n + 1) N a = fin a) : ∀ j k n a, k + j = N → j < n → P k a → G n k a = fin (q_fd F j k a) ∧ P N (q_fd F j k a) := by
  intro j
  induction j with
  | zero =>
    intro k n a hk hn hp
    have hk : k = N := hk
    subst hk
    cases n with
    | zero => omega
    | succ n => exact ⟨he n a hp, hp⟩
  | succ j ih =>
    intro k n a hk hn hp
    cases n with
    | zero => omega
    | succ n =>
      obtain ⟨h1, h2⟩ := hs n k a (by omega) hp
      obtain ⟨h3, h4⟩ := ih (k + 1) n (F k a) (by omega) (by omega) h2
      rw [h1, h3]
      exact ⟨rfl, h4⟩
theorem q_fd_inv {α : Type} {F : Nat → α → α} {N : Nat} (P : Nat → α → Prop) (hs : ∀ k a, k < N → P k a → P (k + 1) (F k a)) : ∀ j k a, k + j = N → P k a → P N (q_fd F j k a) := by
  intro j
  induction j with
  | zero => intro k a hk hp; have hk : k = N := hk; subst hk; exact hp
  | succ j ih => intro k a hk hp; exact ih (k + 1) _ (by omega) (hs k a (by omega) hp)
/-- two loops that go side by side -/
theorem q_fd_rel {α γ : Type} {F : Nat → α → α} {E : Nat → γ → γ} {N : Nat} (P : Nat → α → γ → Prop) (hs : ∀ k a b, k < N → P k a b → P (k + 1) (F k a) (E k b)) : ∀ j k a b, k + j = N → P k a b → P N (q_fd F j k a) (q_fd E j k b) := by
  intro j
  induction j with
  | zero => intro k a b hk hp; have hk : k = N := hk; subst hk; exact hp
  | succ j ih => intro k a b hk hp; exact ih (k + 1) _ _ (by omega) (hs k a b (by omega) hp)
/-- a loop that may be left within: F says with what -/
def q_fx {α β : Type} (F : Nat → α → β ⊕ α) (fin : α → β) : Nat → Nat → α → β
  | 0, _, a => fin a
  | j + 1, k, a => match F k a with
    | .inl b => b
    | .inr a' => q_fx F fin j (k + 1) a'
theorem q_loopx {α β : Type} {G : Nat → Nat → α → Option β} {N : Nat} {F : Nat → α → β ⊕ α} {fin : α → β} (P : Nat → α → Prop) (hs : ∀ n k a, k < N → P k a → (∃ b, F k a = .inl b ∧ G (n + 1) k a = some b) ∨ (∃ a', F k a = .inr a' ∧ G (n + 1) k a = G n (k + 1) a' ∧ P (k + 1) a')) (he : ∀ n a, P N a → G (n + 1) N a = some (fin a)) : ∀ j k n a, k + j = N → j < n → P k a → G n k a = some (q_fx F fin j k a) := by
  intro j
  induction j with
  | zero =>
    intro k n a hk hn hp
    have hk : k = N := hk
    subst hk
    cases n with
    | zero => omega
    | succ n => exact he n a hp
  | succ j ih =>
    intro k n a hk hn hp
    cases n with
    | zero => omega
    | succ n =>
      rcases hs n k a (by omega) hp with ⟨b, h1, h2⟩ | ⟨a', h1, h2, h3⟩
      · rw [h2, q_fx, h1]
      · rw [h2, q_fx, h1]; exact ih (k + 1) n a' (by omega) (by omega) h3
/-! how many are in a set -/
def q_pc (x : Nat) : Nat := x % 2 + x / 2 % 2 + x / 4 % 2 + x / 8 % 2 + x / 16 % 2 + x / 32 % 2 + x / 64 % 2 + x / 128 % 2
theorem q_bitCount0 : ∀ x, x < 256 → f_J6_bitCount_0f7a4 (nI x) = nI (q_pc x) := by decide +kernel
theorem q_pcs : ∀ x, x < 256 → 0 < x → q_pc (x &&& (x - 1)) + 1 = q_pc x ∧ x &&& (x - 1) < 256 := by decide +kernel
theorem q_pc0 : ∀ x, x < 256 → q_pc x ≤ 8 ∧ (q_pc x = 0 → x = 0) ∧ q_pc 0 = 0 := by decide +kernel
theorem q_pc7 : ∀ x, x < 128 → q_pc x ≤ 7 := by decide +kernel
