/-! trees -/
/-- a claim at the root of a set's tree -/
def q_trF (C : q_N) (b : Bool) (t : Nat → Option Nat) (s k : Nat) (a : Option Nat × Option Nat) : Option Nat × Option Nat := if s &&& C 6 k = 0 then a else if s ^^^ (s &&& C 6 k) = 0 then a else match t (s &&& C 6 k) with
  | none => a
  | some x => match t (s ^^^ (s &&& C 6 k)) with
    | none => a
    | some y => match a.1 with
      | none => (some (if b then C 5 k * q_wt C s (C 0 1) + x + y else 1 + max x y), some k)
      | some v => if v ≤ (if b then C 5 k * q_wt C s (C 0 1) + x + y else 1 + max x y) then a else (some (if b then C 5 k * q_wt C s (C 0 1) + x + y else 1 + max x y), some k)
def q_tr0 (s : Nat) : Option Nat × Option Nat := (if q_pc s = 1 then some 0 else none, none)
def q_trA (C : q_N) (b : Bool) (t : Nat → Option Nat) (s n : Nat) : Option Nat × Option Nat := q_it (q_trF C b t s) (q_tr0 s) n
theorem q_two_le {s : Nat} (t : Nat) (hs : s < 256) : s ^^^ (s &&& t) ≤ s := by
  have e : s ^^^ (s &&& t) = s &&& (255 ^^^ (255 &&& t)) := by
    apply Nat.eq_of_testBit_eq
    intro i
    rw [Nat.testBit_xor, Nat.testBit_and, Nat.testBit_and, Nat.testBit_xor, Nat.testBit_and, show (255 : Nat) = 2 ^ 8 - 1 from rfl, Nat.testBit_two_pow_sub_one]
    by_cases hi : i < 8
    · rw [decide_eq_true hi]
      cases s.testBit i <;> cases t.testBit i <;> rfl
    · have : s.testBit i = false := Nat.testBit_lt_two_pow (Nat.lt_of_lt_of_le hs (Nat.pow_le_pow_right (n := 2) (i := 8) (by decide) (by omega)))
      rw [this]
      rfl
  rw [e]
  exact Nat.and_le_left
theorem q_xself {s x : Nat} (h : s ^^^ x = s) : x = 0 := by
  apply Nat.eq_of_testBit_eq
  intro i
  have := congrArg (fun z => Nat.testBit z i) h
  simp only [Nat.testBit_xor] at this
  rw [Nat.zero_testBit]
  revert this
  cases s.testBit i <;> cases x.testBit i <;> simp
theorem q_kids {s : Nat} (t : Nat) (hs : s < 256) (h1 : ¬ s &&& t = 0) (h2 : ¬ s ^^^ (s &&& t) = 0) : s &&& t < s ∧ s ^^^ (s &&& t) < s := by
  refine ⟨Nat.lt_of_le_of_ne Nat.and_le_left (fun z => h2 ?_), Nat.lt_of_le_of_ne (q_two_le t hs) (fun z => h1 (q_xself z))⟩
  rw [z, Nat.xor_self]
theorem q_c5 {C : q_N} (ok : q_ok C) {k : Nat} (hk : k < C 0 2) (s : Nat) : C 5 k * q_wt C s (C 0 1) ≤ 1440 ∧ C 5 k ≤ 9 := by
  have h1 := (ok.2.2.2.2.2.2.2.2.2.1 k hk).2.2.1
  exact ⟨Nat.mul_le_mul h1 (q_wt_le ok s), h1⟩
/-- the numbers of a tree are small -/
theorem q_trA_le {C : q_N} (ok : q_ok C) {b : Bool} {t : Nat → Option Nat} {s n : Nat} (hs : s < 256) (hn : n ≤ C 0 2) (ht : ∀ u v, u < s → 0 < u → t u = some v → v + 1440 ≤ 1440 * q_pc u) : (∀ v, (q_trA C b t s n).1 = some v → v + 1440 ≤ 1440 * q_pc s) ∧ (∀ j, (q_trA C b t s n).2 = some j → j < n) := by
  induction n with
  | zero =>
    constructor
    · intro v h
      have h : (if q_pc s = 1 then some 0 else none) = some v := h
      split at h
      · cases h; omega
      · cases h
    · intro j h; cases h
  | succ n ih =>
    have ih := ih (by omega)
    have e : q_trA C b t s (n + 1) = q_trF C b t s n (q_trA C b t s n) := rfl
    rw [e]
    generalize q_trA C b t s n = a at ih
    have keep : (∀ v, a.1 = some v → v + 1440 ≤ 1440 * q_pc s) ∧ (∀ j, a.2 = some j → j < n + 1) := ⟨ih.1, fun j h => by have := ih.2 j h; omega⟩
    unfold q_trF
    split
    · exact keep
    split
    · exact keep
    rename_i z1 z2
    obtain ⟨k1, k2⟩ := q_kids (C 6 n) hs z1 z2
    have sp := q_pc_split (C 6 n) hs
    obtain ⟨c1, c2⟩ := q_c5 ok (k := n) (by omega) s
    split
    · exact keep
    rename_i x hx
    have hx := ht _ x k1 (by omega) hx
    split
    · exact keep
    rename_i y hy
    have hy := ht _ y k2 (by omega) hy
    have hw : (if b = true then C 5 n * q_wt C s (C 0 1) + x + y else 1 + max x y) + 1440 ≤ 1440 * q_pc s := by
      split
      · generalize C 5 n * q_wt C s (C 0 1) = cw at c1 ⊢; omega
      · omega
    generalize (if b = true then C 5 n * q_wt C s (C 0 1) + x + y else 1 + max x y) = w at hw
    have new : (∀ v, ((some w, some n) : Option Nat × Option Nat).1 = some v → v + 1440 ≤ 1440 * q_pc s) ∧ (∀ j, ((some w, some n) : Option Nat × Option Nat).2 = some j → j < n + 1) := by
      refine ⟨fun v h => ?_, fun j h => ?_⟩
      · have h : some w = some v := h
        cases h; exact hw
      · have h : some n = some j := h
        cases h; omega
    split
    · exact new
    · split
      · exact keep
      · exact new
/-- the table of all sets below a number -/
def q_tt (C : q_N) (b : Bool) : Nat → Nat → Option Nat × Option Nat
  | 0 => fun _ => (none, none)
  | n + 1 => fun s => if s = n then q_trA C b (fun u => (q_tt C b n u).1) n (C 0 2) else q_tt C b n s
def q_tz (C : q_N) (b : Bool) (s : Nat) : Option Nat × Option Nat := q_tt C b (s + 1) s
theorem q_tt_z {C : q_N} {b : Bool} {n s : Nat} (h : s < n) : q_tt C b n s = q_tz C b s := by
  induction n with
  | zero => omega
  | succ n ih =>
    by_cases z : s = n
    · subst z; rfl
    · show (if s = n then _ else q_tt C b n s) = _
      rw [if_neg z]
      exact ih (by omega)
theorem q_tz_e {C : q_N} {b : Bool} {s : Nat} (hs : s < 256) : q_tz C b s = q_trA C b (fun u => (q_tz C b u).1) s (C 0 2) := by
  show (if s = s then q_trA C b (fun u => (q_tt C b s u).1) s (C 0 2) else q_tt C b s s) = _
  rw [if_pos rfl]
  unfold q_trA
  apply q_it_eq
  intro k a _
  unfold q_trF
  by_cases z1 : s &&& C 6 k = 0
  · rw [if_pos z1, if_pos z1]
  · rw [if_neg z1, if_neg z1]
    by_cases z2 : s ^^^ (s &&& C 6 k) = 0
    · rw [if_pos z2, if_pos z2]
    · obtain ⟨k1, k2⟩ := q_kids (C 6 k) hs z1 z2
      rw [if_neg z2, if_neg z2]
      dsimp only
      rw [q_tt_z k1, q_tt_z k2]
theorem q_tz_le {C : q_N} (ok : q_ok C) {b : Bool} {s : Nat} (hs : s < 256) : (∀ v, (q_tz C b s).1 = some v → v + 1440 ≤ 1440 * q_pc s) ∧ (∀ j, (q_tz C b s).2 = some j → j < C 0 2) := by
  induction s using Nat.strongRecOn with
  | ind s ih =>
    rw [q_tz_e hs]
    exact q_trA_le ok hs (Nat.le_refl _) (fun u v hu h0 h => (ih u hu (by omega)).1 v h)
theorem q_zz {α : Type} {f : Nat → Nat → α} {a b s : Nat} {x y x' y' : α} (h : a ≠ b) : z2 (z2 (z2 (z2 f a s x) b s y) a s x') b s y' = z2 (z2 f a s x') b s y' := by
  funext d k
  by_cases z1 : d = b ∧ k = s
  · obtain ⟨r1, r2⟩ := z1
    subst r1 r2
    rw [q_zs, q_zs]
  · rw [q_zo (f := z2 (z2 (z2 f a s x) b s y) a s x') (by omega), q_zo (f := z2 f a s x') (by omega)]
    by_cases z2' : d = a ∧ k = s
    · obtain ⟨r1, r2⟩ := z2'
      subst r1 r2
      rw [q_zs, q_zs]
    · rw [q_zo (by omega), q_zo (by omega), q_zo (by omega), q_zo (by omega)]
/-- the number of a tree in the reference -/
def q_eT : Option Nat → Int32
  | none => nI 1000000
  | some v => nI v
/-- one step, over any memory -/
theorem x9_s0 {M : z_I} {s c k t n : Nat} {b : Bool} {w : Int32} (hs : s < 256) (hk : k < c) (hc : c ≤ 7) (r1 : M 3 12 = nI c) (r2 : M 9 k = nI t) (h : s &&& t = 0 ∨ s ^^^ (s &&& t) = 0 ∨ M 49 (s &&& t) = q_no ∨ M 49 (s ^^^ (s &&& t)) = q_no) : g_X9_growOne_38 (nI s) b w (n + 1) (nI k) M = g_X9_growOne_38 (nI s) b w n (nI (k + 1)) M := by
  have l1 : s &&& t < 256 := q_and_lt hs
  have l2 : s ^^^ (s &&& t) < 256 := q_xa_lt (n := 8) hs
  by_cases z1 : s &&& t = 0
  · simp (disch := omega) only [g_X9_growOne_38, r1, r2, ql_0, ql_1, ql_2, ql_3, ql_4, ql_5, ql_6, ql_7, ql_8, ql_9, ql_10, ql_11, ql_12, ql_13, ql_14, ql_15, ql_16, ql_17, ql_18, ql_19, ql_20, ql_21, ql_22, ql_23, ql_24, ql_27, ql_30, ql_31, ql_32, ql_40, ql_48, ql_51, ql_52, ql_57, ql_59, ql_60, ql_61, ql_62, ql_76, ql_84, ql_91, ql_97, ql_99, ql_100, ql_120, ql_122, ql_127, ql_128, ql_200, ql_255, ql_256, ql_300, ql_420, ql_428, ql_640, ql_900, ql_896, ql_999, ql_1712, ql_1716, ql_1734, ql_1772, ql_1800, ql_1805, ql_1811, ql_1822, ql_2132, ql_2140, ql_3229, ql_9999, ql_11453, ql_65536, ql_100000, ql_1000000, nI_add, pk_mul, q_and, q_or, q_xor, nI_clamp, q_in, q_neg1, q_nno, q_nno', q_annN, q_sh1, q_tbN, nI_leI, nI_ltI, nI_eq, pk_sub, ↓reduceIte, if_pos, if_neg, q_zlt, q_bs, z1]
  by_cases z2' : s ^^^ (s &&& t) = 0
  · simp (disch := omega) only [g_X9_growOne_38, r1, r2, ql_0, ql_1, ql_2, ql_3, ql_4, ql_5, ql_6, ql_7, ql_8, ql_9, ql_10, ql_11, ql_12, ql_13, ql_14, ql_15, ql_16, ql_17, ql_18, ql_19, ql_20, ql_21, ql_22, ql_23, ql_24, ql_27, ql_30, ql_31, ql_32, ql_40, ql_48, ql_51, ql_52, ql_57, ql_59, ql_60, ql_61, ql_62, ql_76, ql_84, ql_91, ql_97, ql_99, ql_100, ql_120, ql_122, ql_127, ql_128, ql_200, ql_255, ql_256, ql_300, ql_420, ql_428, ql_640, ql_900, ql_896, ql_999, ql_1712, ql_1716, ql_1734, ql_1772, ql_1800, ql_1805, ql_1811, ql_1822, ql_2132, ql_2140, ql_3229, ql_9999, ql_11453, ql_65536, ql_100000, ql_1000000, nI_add, pk_mul, q_and, q_or, q_xor, nI_clamp, q_in, q_neg1, q_nno, q_nno', q_annN, q_sh1, q_tbN, nI_leI, nI_ltI, nI_eq, pk_sub, ↓reduceIte, if_pos, if_neg, q_zlt, q_bs, z1, z2']
  by_cases z3 : M 49 (s &&& t) = q_no
  · simp (disch := omega) only [g_X9_growOne_38, r1, r2, ql_0, ql_1, ql_2, ql_3, ql_4, ql_5, ql_6, ql_7, ql_8, ql_9, ql_10, ql_11, ql_12, ql_13, ql_14, ql_15, ql_16, ql_17, ql_18, ql_19, ql_20, ql_21, ql_22, ql_23, ql_24, ql_27, ql_30, ql_31, ql_32, ql_40, ql_48, ql_51, ql_52, ql_57, ql_59, ql_60, ql_61, ql_62, ql_76, ql_84, ql_91, ql_97, ql_99, ql_100, ql_120, ql_122, ql_127, ql_128, ql_200, ql_255, ql_256, ql_300, ql_420, ql_428, ql_640, ql_900, ql_896, ql_999, ql_1712, ql_1716, ql_1734, ql_1772, ql_1800, ql_1805, ql_1811, ql_1822, ql_2132, ql_2140, ql_3229, ql_9999, ql_11453, ql_65536, ql_100000, ql_1000000, nI_add, pk_mul, q_and, q_or, q_xor, nI_clamp, q_in, q_neg1, q_nno, q_nno', q_annN, q_sh1, q_tbN, nI_leI, nI_ltI, nI_eq, pk_sub, ↓reduceIte, if_pos, if_neg, q_zlt, q_bs, z1, z2', z3]
  · have z4 : M 49 (s ^^^ (s &&& t)) = q_no := by
      rcases h with h | h | h | h
      · exact absurd h z1
      · exact absurd h z2'
      · exact absurd h z3
      · exact h
    simp (disch := omega) only [g_X9_growOne_38, r1, r2, ql_0, ql_1, ql_2, ql_3, ql_4, ql_5, ql_6, ql_7, ql_8, ql_9, ql_10, ql_11, ql_12, ql_13, ql_14, ql_15, ql_16, ql_17, ql_18, ql_19, ql_20, ql_21, ql_22, ql_23, ql_24, ql_27, ql_30, ql_31, ql_32, ql_40, ql_48, ql_51, ql_52, ql_57, ql_59, ql_60, ql_61, ql_62, ql_76, ql_84, ql_91, ql_97, ql_99, ql_100, ql_120, ql_122, ql_127, ql_128, ql_200, ql_255, ql_256, ql_300, ql_420, ql_428, ql_640, ql_900, ql_896, ql_999, ql_1712, ql_1716, ql_1734, ql_1772, ql_1800, ql_1805, ql_1811, ql_1822, ql_2132, ql_2140, ql_3229, ql_9999, ql_11453, ql_65536, ql_100000, ql_1000000, nI_add, pk_mul, q_and, q_or, q_xor, nI_clamp, q_in, q_neg1, q_nno, q_nno', q_annN, q_sh1, q_tbN, nI_leI, nI_ltI, nI_eq, pk_sub, ↓reduceIte, if_pos, if_neg, q_zlt, q_bs, z1, z2', z3, z4]
theorem x9_s1 {M : z_I} {s c k t n x y w cost : Nat} {b : Bool} (hs : s < 256) (hk : k < c) (hc : c ≤ 7) (r1 : M 3 12 = nI c) (r2 : M 9 k = nI t) (r3 : M 8 k = nI cost) (z1 : ¬ s &&& t = 0) (z2' : ¬ s ^^^ (s &&& t) = 0) (r4 : M 49 (s &&& t) = nI x) (r5 : M 49 (s ^^^ (s &&& t)) = nI y) (hx : x ≤ 20000) (hy : y ≤ 20000) : g_X9_growOne_38 (nI s) b (nI w) (n + 1) (nI k) M = if M 49 s = q_no then g_X9_growOne_38 (nI s) b (nI w) n (nI (k + 1)) (z2 (z2 M 49 s (nI (if b then cost * w + x + y else 1 + max x y))) 50 s (nI k)) else if M 49 s ≤ nI (if b then cost * w + x + y else 1 + max x y) then g_X9_growOne_38 (nI s) b (nI w) n (nI (k + 1)) M else g_X9_growOne_38 (nI s) b (nI w) n (nI (k + 1)) (z2 (z2 M 49 s (nI (if b then cost * w + x + y else 1 + max x y))) 50 s (nI k)) := by
  have l1 : s &&& t < 256 := q_and_lt hs
  have l2 : s ^^^ (s &&& t) < 256 := q_xa_lt (n := 8) hs
  cases b with
  | true => simp (disch := omega) only [g_X9_growOne_38, r1, r2, r3, r4, r5, ql_0, ql_1, ql_2, ql_3, ql_4, ql_5, ql_6, ql_7, ql_8, ql_9, ql_10, ql_11, ql_12, ql_13, ql_14, ql_15, ql_16, ql_17, ql_18, ql_19, ql_20, ql_21, ql_22, ql_23, ql_24, ql_27, ql_30, ql_31, ql_32, ql_40, ql_48, ql_51, ql_52, ql_57, ql_59, ql_60, ql_61, ql_62, ql_76, ql_84, ql_91, ql_97, ql_99, ql_100, ql_120, ql_122, ql_127, ql_128, ql_200, ql_255, ql_256, ql_300, ql_420, ql_428, ql_640, ql_900, ql_896, ql_999, ql_1712, ql_1716, ql_1734, ql_1772, ql_1800, ql_1805, ql_1811, ql_1822, ql_2132, ql_2140, ql_3229, ql_9999, ql_11453, ql_65536, ql_100000, ql_1000000, nI_add, pk_mul, q_and, q_or, q_xor, nI_clamp, q_in, q_neg1, q_nno, q_nno', q_annN, q_sh1, q_tbN, nI_leI, nI_ltI, nI_eq, pk_sub, ↓reduceIte, if_pos, if_neg, q_zlt, q_bs, z1, z2']
  | false => simp (disch := omega) only [g_X9_growOne_38, r1, r2, r3, r4, r5, ql_0, ql_1, ql_2, ql_3, ql_4, ql_5, ql_6, ql_7, ql_8, ql_9, ql_10, ql_11, ql_12, ql_13, ql_14, ql_15, ql_16, ql_17, ql_18, ql_19, ql_20, ql_21, ql_22, ql_23, ql_24, ql_27, ql_30, ql_31, ql_32, ql_40, ql_48, ql_51, ql_52, ql_57, ql_59, ql_60, ql_61, ql_62, ql_76, ql_84, ql_91, ql_97, ql_99, ql_100, ql_120, ql_122, ql_127, ql_128, ql_200, ql_255, ql_256, ql_300, ql_420, ql_428, ql_640, ql_900, ql_896, ql_999, ql_1712, ql_1716, ql_1734, ql_1772, ql_1800, ql_1805, ql_1811, ql_1822, ql_2132, ql_2140, ql_3229, ql_9999, ql_11453, ql_65536, ql_100000, ql_1000000, nI_add, pk_mul, q_and, q_or, q_xor, nI_clamp, q_in, q_neg1, q_nno, q_nno', q_annN, q_sh1, q_tbN, nI_leI, nI_ltI, nI_eq, pk_sub, ↓reduceIte, if_pos, if_neg, q_zlt, q_bs, z1, z2', q_max, Bool.false_eq_true]
theorem x9_growOne {C : q_N} {I : z_I} {L : z_L} (h : q_sx C 3 I L) (ok : q_ok C) {s : Nat} (hs0 : 0 < s) (hs : s < 256) (b : Bool) (hI : ∀ k, k < C 0 2 → ¬ s &&& C 6 k = 0 → ¬ s ^^^ (s &&& C 6 k) = 0 → I 49 (s &&& C 6 k) = q_eO (q_tz C b (s &&& C 6 k)).1 ∧ I 49 (s ^^^ (s &&& C 6 k)) = q_eO (q_tz C b (s ^^^ (s &&& C 6 k))).1) : f_X9_growOne I (nI s) b = some (z2 (z2 I 49 s (q_eO (q_tz C b s).1)) 50 s (q_eO (q_tz C b s).2)) := by
  obtain ⟨o0, o1, o2, o3, -⟩ := id ok
  have hp := q_pc8 hs
  have loop : g_X9_growOne_38 (nI s) b (nI (q_wt C s (C 0 1))) z_fuel (nI 0) (z2 (z2 I 49 s (q_eO (q_tr0 s).1)) 50 s (q_eO (q_tr0 s).2)) = some (z2 (z2 I 49 s (q_eO (q_tz C b s).1)) 50 s (q_eO (q_tz C b s).2)) := by
    rw [q_tz_e hs]
    refine q_lp (G := fun n k (a : Option Nat × Option Nat) => g_X9_growOne_38 (nI s) b (nI (q_wt C s (C 0 1))) n (nI k) (z2 (z2 I 49 s (q_eO a.1)) 50 s (q_eO a.2))) (fun k => q_trA C b (fun u => (q_tz C b u).1) s k) (fun n k _ hk => ?_) (fun n => ?_) (Nat.zero_le (C 0 2)) (q_fu (by omega))
    · have e : q_trA C b (fun u => (q_tz C b u).1) s (k + 1) = q_trF C b (fun u => (q_tz C b u).1) s k (q_trA C b (fun u => (q_tz C b u).1) s k) := rfl
      have ha := (q_trA_le (n := k) (b := b) ok hs (by omega) (fun u v hu h0 h => (q_tz_le ok (s := u) (b := b) (by omega)).1 v h)).1
      rw [e]
      generalize q_trA C b (fun u => (q_tz C b u).1) s k = a at ha
      have hU : ∀ x y, z2 (z2 (z2 (z2 I 49 s (q_eO a.1)) 50 s (q_eO a.2)) 49 s x) 50 s y = z2 (z2 I 49 s x) 50 s y := fun x y => q_zz (by omega)
      have r1 : z2 (z2 I 49 s (q_eO a.1)) 50 s (q_eO a.2) 3 12 = nI (C 0 2) := by rw [q_zo (by omega), q_zo (by omega), h.f.2.2.1]
      have r2 : z2 (z2 I 49 s (q_eO a.1)) 50 s (q_eO a.2) 9 k = nI (C 6 k) := by rw [q_zo (by omega), q_zo (by omega)]; exact h.a6 hk
      have r3 : z2 (z2 I 49 s (q_eO a.1)) 50 s (q_eO a.2) 8 k = nI (C 5 k) := by rw [q_zo (by omega), q_zo (by omega)]; exact h.a5 hk
      have r6 : z2 (z2 I 49 s (q_eO a.1)) 50 s (q_eO a.2) 49 s = q_eO a.1 := by rw [q_zo (by omega), q_zs]
      have l1 : s &&& C 6 k < 256 := q_and_lt hs
      have l2 : s ^^^ (s &&& C 6 k) < 256 := q_xa_lt (n := 8) hs
      obtain ⟨c1, c2⟩ := q_c5 ok hk s
      show g_X9_growOne_38 (nI s) b (nI (q_wt C s (C 0 1))) (n + 1) (nI k) (z2 (z2 I 49 s (q_eO a.1)) 50 s (q_eO a.2)) = _
      by_cases z1 : s &&& C 6 k = 0
      · rw [x9_s0 hs hk o2 r1 r2 (Or.inl z1)]
        unfold q_trF
        rw [if_pos z1]
      by_cases z2' : s ^^^ (s &&& C 6 k) = 0
      · rw [x9_s0 hs hk o2 r1 r2 (Or.inr (Or.inl z2'))]
        unfold q_trF
        rw [if_neg z1, if_pos z2']
      obtain ⟨k1, k2⟩ := q_kids (C 6 k) hs z1 z2'
      obtain ⟨i1, i2⟩ := hI k hk z1 z2'
      have r4 : z2 (z2 I 49 s (q_eO a.1)) 50 s (q_eO a.2) 49 (s &&& C 6 k) = q_eO (q_tz C b (s &&& C 6 k)).1 := by rw [q_zo (by omega), q_zo (by omega), i1]
      have r5 : z2 (z2 I 49 s (q_eO a.1)) 50 s (q_eO a.2) 49 (s ^^^ (s &&& C 6 k)) = q_eO (q_tz C b (s ^^^ (s &&& C 6 k))).1 := by rw [q_zo (by omega), q_zo (by omega), i2]
      have b1 := (q_tz_le ok (b := b) l1).1
      have b2 := (q_tz_le ok (b := b) l2).1
      have p1 := q_pc8 l1
      have p2 := q_pc8 l2
      unfold q_trF
      rw [if_neg z1, if_neg z2']
      dsimp only
      cases t1 : (q_tz C b (s &&& C 6 k)).1 with
      | none =>
        rw [t1] at r4
        exact x9_s0 hs hk o2 r1 r2 (Or.inr (Or.inr (Or.inl r4)))
      | some x =>
        rw [t1] at r4
        have b1 := b1 x t1
        cases t2 : (q_tz C b (s ^^^ (s &&& C 6 k))).1 with
        | none =>
          rw [t2] at r5
          exact x9_s0 hs hk o2 r1 r2 (Or.inr (Or.inr (Or.inr r5)))
        | some y =>
          rw [t2] at r5
          have b2 := b2 y t2
          rw [x9_s1 hs hk o2 r1 r2 r3 z1 z2' r4 r5 (by omega) (by omega), r6, hU]
          have hW : (if b = true then C 5 k * q_wt C s (C 0 1) + x + y else 1 + max x y) < 2 ^ 31 := by
            split
            · generalize C 5 k * q_wt C s (C 0 1) = cw at c1 ⊢; omega
            · omega
          obtain ⟨a1, a2⟩ := a
          cases a1 with
          | none =>
            rw [if_pos (show q_eO none = q_no from rfl)]
            rfl
          | some v =>
            have hv := ha v rfl
            rw [if_neg (show ¬ q_eO (some v) = q_no from fun z => (q_nno (n := v) (by omega)).1 z)]
            show (if nI v ≤ nI (if b = true then C 5 k * q_wt C s (C 0 1) + x + y else 1 + max x y) then _ else _) = _
            by_cases hc : v ≤ (if b = true then C 5 k * q_wt C s (C 0 1) + x + y else 1 + max x y)
            · rw [if_pos (nI_le hc hW)]
              dsimp only
              rw [if_pos hc]
            · rw [if_neg (nI_ge (by omega) (by omega))]
              dsimp only
              rw [if_neg hc]
              rfl
    · have r1 : ∀ x y, z2 (z2 I 49 s x) 50 s y 3 12 = nI (C 0 2) := fun x y => by rw [q_zo (by omega), q_zo (by omega), h.f.2.2.1]
      simp (disch := omega) only [g_X9_growOne_38, r1, ql_0, ql_1, ql_2, ql_3, ql_4, ql_5, ql_6, ql_7, ql_8, ql_9, ql_10, ql_11, ql_12, ql_13, ql_14, ql_15, ql_16, ql_17, ql_18, ql_19, ql_20, ql_21, ql_22, ql_23, ql_24, ql_27, ql_30, ql_31, ql_32, ql_40, ql_48, ql_51, ql_52, ql_57, ql_59, ql_60, ql_61, ql_62, ql_76, ql_84, ql_91, ql_97, ql_99, ql_100, ql_120, ql_122, ql_127, ql_128, ql_200, ql_255, ql_256, ql_300, ql_420, ql_428, ql_640, ql_900, ql_896, ql_999, ql_1712, ql_1716, ql_1734, ql_1772, ql_1800, ql_1805, ql_1811, ql_1822, ql_2132, ql_2140, ql_3229, ql_9999, ql_11453, ql_65536, ql_100000, ql_1000000, nI_add, pk_mul, q_and, q_or, q_xor, nI_clamp, q_in, q_neg1, q_nno, q_nno', q_annN, q_sh1, q_tbN, nI_leI, nI_ltI, nI_eq, pk_sub, ↓reduceIte, if_pos, if_neg, q_zlt, q_bs]
  have hw : ∀ x y, f_X0_weightOf (z2 (z2 I 49 s x) 50 s y) 3 (nI s) = some (nI (q_wt C s (C 0 1))) := fun x y => x0_weightOf (h.go (fun d k a b => by rw [q_zo (by omega), q_zo (by omega)]) (fun d k a b => rfl)) ok s
  by_cases z : q_pc s = 1
  · have e : q_tr0 s = (some 0, none) := by unfold q_tr0; rw [if_pos z]
    rw [e] at loop
    simp (disch := omega) only [f_X9_growOne, q_bitCount0, ql_0, ql_1, ql_2, ql_3, ql_4, ql_5, ql_6, ql_7, ql_8, ql_9, ql_10, ql_11, ql_12, ql_13, ql_14, ql_15, ql_16, ql_17, ql_18, ql_19, ql_20, ql_21, ql_22, ql_23, ql_24, ql_27, ql_30, ql_31, ql_32, ql_40, ql_48, ql_51, ql_52, ql_57, ql_59, ql_60, ql_61, ql_62, ql_76, ql_84, ql_91, ql_97, ql_99, ql_100, ql_120, ql_122, ql_127, ql_128, ql_200, ql_255, ql_256, ql_300, ql_420, ql_428, ql_640, ql_900, ql_896, ql_999, ql_1712, ql_1716, ql_1734, ql_1772, ql_1800, ql_1805, ql_1811, ql_1822, ql_2132, ql_2140, ql_3229, ql_9999, ql_11453, ql_65536, ql_100000, ql_1000000, nI_add, pk_mul, q_and, q_or, q_xor, nI_clamp, q_in, q_neg1, q_nno, q_nno', q_annN, q_sh1, q_tbN, nI_leI, nI_ltI, nI_eq, pk_sub, ↓reduceIte, if_pos, if_neg, q_zlt, q_bs, hw]
    exact loop
  · have e : q_tr0 s = (none, none) := by unfold q_tr0; rw [if_neg z]
    rw [e] at loop
    simp (disch := omega) only [f_X9_growOne, q_bitCount0, ql_0, ql_1, ql_2, ql_3, ql_4, ql_5, ql_6, ql_7, ql_8, ql_9, ql_10, ql_11, ql_12, ql_13, ql_14, ql_15, ql_16, ql_17, ql_18, ql_19, ql_20, ql_21, ql_22, ql_23, ql_24, ql_27, ql_30, ql_31, ql_32, ql_40, ql_48, ql_51, ql_52, ql_57, ql_59, ql_60, ql_61, ql_62, ql_76, ql_84, ql_91, ql_97, ql_99, ql_100, ql_120, ql_122, ql_127, ql_128, ql_200, ql_255, ql_256, ql_300, ql_420, ql_428, ql_640, ql_900, ql_896, ql_999, ql_1712, ql_1716, ql_1734, ql_1772, ql_1800, ql_1805, ql_1811, ql_1822, ql_2132, ql_2140, ql_3229, ql_9999, ql_11453, ql_65536, ql_100000, ql_1000000, nI_add, pk_mul, q_and, q_or, q_xor, nI_clamp, q_in, q_neg1, q_nno, q_nno', q_annN, q_sh1, q_tbN, nI_leI, nI_ltI, nI_eq, pk_sub, ↓reduceIte, if_pos, if_neg, q_zlt, q_bs, hw]
    exact loop
theorem q_bk {α β : Type} {o : Option α} {x : α} (h : o = some x) (k : α → Option β) : o.bind k = k x := by rw [h]; exact q_bs x k
theorem m_s0 {C : q_N} {m : Nat} {K : z_L} {M : z_I} (h : q_sm C 0 m M K) (ok : q_ok C) {s k n : Nat} {b : Bool} (hs : s < 256) (hk : k < C 0 2) (hh : s &&& C 6 k = 0 ∨ s ^^^ (s &&& C 6 k) = 0 ∨ M 13 (s &&& C 6 k) = nI 1000000 ∨ M 13 (s ^^^ (s &&& C 6 k)) = nI 1000000) : g_X11_laysTree_30 (nI s) b (n + 1) (nI k) M = g_X11_laysTree_30 (nI s) b n (nI (k + 1)) M := by
  obtain ⟨o0, o1, o2, o3, -⟩ := id ok
  have l1 : s &&& C 6 k < 256 := q_and_lt hs
  have l2 : s ^^^ (s &&& C 6 k) < 256 := q_xa_lt (n := 8) hs
  have r1 := h.f.2.2.1
  have r2 := m_truthOf h ok hk
  by_cases z1 : s &&& C 6 k = 0
  · simp (disch := omega) only [g_X11_laysTree_30, r1, ↓q_bk r2, ql_0, ql_1, ql_2, ql_3, ql_4, ql_5, ql_6, ql_7, ql_8, ql_9, ql_10, ql_11, ql_12, ql_13, ql_14, ql_15, ql_16, ql_17, ql_18, ql_19, ql_20, ql_21, ql_22, ql_23, ql_24, ql_27, ql_30, ql_31, ql_32, ql_40, ql_48, ql_51, ql_52, ql_57, ql_59, ql_60, ql_61, ql_62, ql_76, ql_84, ql_91, ql_97, ql_99, ql_100, ql_120, ql_122, ql_127, ql_128, ql_200, ql_255, ql_256, ql_300, ql_420, ql_428, ql_640, ql_900, ql_896, ql_999, ql_1712, ql_1716, ql_1734, ql_1772, ql_1800, ql_1805, ql_1811, ql_1822, ql_2132, ql_2140, ql_3229, ql_9999, ql_11453, ql_65536, ql_100000, ql_1000000, nI_add, pk_mul, q_and, q_or, q_xor, nI_clamp, q_in, q_neg1, q_nno, q_nno', q_annN, q_sh1, q_tbN, nI_leI, nI_ltI, nI_eq, pk_sub, ↓reduceIte, if_pos, if_neg, q_zlt, q_bs, z1]
  by_cases z2' : s ^^^ (s &&& C 6 k) = 0
  · simp (disch := omega) only [g_X11_laysTree_30, r1, ↓q_bk r2, ql_0, ql_1, ql_2, ql_3, ql_4, ql_5, ql_6, ql_7, ql_8, ql_9, ql_10, ql_11, ql_12, ql_13, ql_14, ql_15, ql_16, ql_17, ql_18, ql_19, ql_20, ql_21, ql_22, ql_23, ql_24, ql_27, ql_30, ql_31, ql_32, ql_40, ql_48, ql_51, ql_52, ql_57, ql_59, ql_60, ql_61, ql_62, ql_76, ql_84, ql_91, ql_97, ql_99, ql_100, ql_120, ql_122, ql_127, ql_128, ql_200, ql_255, ql_256, ql_300, ql_420, ql_428, ql_640, ql_900, ql_896, ql_999, ql_1712, ql_1716, ql_1734, ql_1772, ql_1800, ql_1805, ql_1811, ql_1822, ql_2132, ql_2140, ql_3229, ql_9999, ql_11453, ql_65536, ql_100000, ql_1000000, nI_add, pk_mul, q_and, q_or, q_xor, nI_clamp, q_in, q_neg1, q_nno, q_nno', q_annN, q_sh1, q_tbN, nI_leI, nI_ltI, nI_eq, pk_sub, ↓reduceIte, if_pos, if_neg, q_zlt, q_bs, z1, z2']
  by_cases z3 : nI 1000000 ≤ M 13 (s &&& C 6 k)
  · simp (disch := omega) only [g_X11_laysTree_30, r1, ↓q_bk r2, ql_0, ql_1, ql_2, ql_3, ql_4, ql_5, ql_6, ql_7, ql_8, ql_9, ql_10, ql_11, ql_12, ql_13, ql_14, ql_15, ql_16, ql_17, ql_18, ql_19, ql_20, ql_21, ql_22, ql_23, ql_24, ql_27, ql_30, ql_31, ql_32, ql_40, ql_48, ql_51, ql_52, ql_57, ql_59, ql_60, ql_61, ql_62, ql_76, ql_84, ql_91, ql_97, ql_99, ql_100, ql_120, ql_122, ql_127, ql_128, ql_200, ql_255, ql_256, ql_300, ql_420, ql_428, ql_640, ql_900, ql_896, ql_999, ql_1712, ql_1716, ql_1734, ql_1772, ql_1800, ql_1805, ql_1811, ql_1822, ql_2132, ql_2140, ql_3229, ql_9999, ql_11453, ql_65536, ql_100000, ql_1000000, nI_add, pk_mul, q_and, q_or, q_xor, nI_clamp, q_in, q_neg1, q_nno, q_nno', q_annN, q_sh1, q_tbN, nI_leI, nI_ltI, nI_eq, pk_sub, ↓reduceIte, if_pos, if_neg, q_zlt, q_bs, z1, z2', z3]
  · have z4 : M 13 (s ^^^ (s &&& C 6 k)) = nI 1000000 := by
      rcases hh with h | h | h | h
      · exact absurd h z1
      · exact absurd h z2'
      · exact absurd (by rw [h]; exact nI_le (Nat.le_refl _) (by decide)) z3
      · exact h
    simp (disch := omega) only [g_X11_laysTree_30, r1, ↓q_bk r2, ql_0, ql_1, ql_2, ql_3, ql_4, ql_5, ql_6, ql_7, ql_8, ql_9, ql_10, ql_11, ql_12, ql_13, ql_14, ql_15, ql_16, ql_17, ql_18, ql_19, ql_20, ql_21, ql_22, ql_23, ql_24, ql_27, ql_30, ql_31, ql_32, ql_40, ql_48, ql_51, ql_52, ql_57, ql_59, ql_60, ql_61, ql_62, ql_76, ql_84, ql_91, ql_97, ql_99, ql_100, ql_120, ql_122, ql_127, ql_128, ql_200, ql_255, ql_256, ql_300, ql_420, ql_428, ql_640, ql_900, ql_896, ql_999, ql_1712, ql_1716, ql_1734, ql_1772, ql_1800, ql_1805, ql_1811, ql_1822, ql_2132, ql_2140, ql_3229, ql_9999, ql_11453, ql_65536, ql_100000, ql_1000000, nI_add, pk_mul, q_and, q_or, q_xor, nI_clamp, q_in, q_neg1, q_nno, q_nno', q_annN, q_sh1, q_tbN, nI_leI, nI_ltI, nI_eq, pk_sub, ↓reduceIte, if_pos, if_neg, q_zlt, q_bs, z1, z2', z3, z4]
theorem m_s1 {C : q_N} {m : Nat} {K : z_L} {M : z_I} (h : q_sm C 0 m M K) (ok : q_ok C) {s k n x y : Nat} {b : Bool} (hs : s < 256) (hk : k < C 0 2) (z1 : ¬ s &&& C 6 k = 0) (z2' : ¬ s ^^^ (s &&& C 6 k) = 0) (r4 : M 13 (s &&& C 6 k) = nI x) (r5 : M 13 (s ^^^ (s &&& C 6 k)) = nI y) (hx : x ≤ 20000) (hy : y ≤ 20000) : g_X11_laysTree_30 (nI s) (!b) (n + 1) (nI k) M = if nI (if b then C 5 k * q_wt C s (C 0 1) + x + y else 1 + max x y) < M 13 s then g_X11_laysTree_30 (nI s) (!b) n (nI (k + 1)) (z2 (z2 M 13 s (nI (if b then C 5 k * q_wt C s (C 0 1) + x + y else 1 + max x y))) 14 s (nI k)) else g_X11_laysTree_30 (nI s) (!b) n (nI (k + 1)) M := by
  obtain ⟨o0, o1, o2, o3, -⟩ := id ok
  have l1 : s &&& C 6 k < 256 := q_and_lt hs
  have l2 : s ^^^ (s &&& C 6 k) < 256 := q_xa_lt (n := 8) hs
  have r1 := h.f.2.2.1
  have r2 := m_truthOf h ok hk
  have r3 := h.a5 hk
  have r7 := m_weightOf h ok (s := s) (by omega)
  cases b with
  | true => simp (disch := omega) only [g_X11_laysTree_30, f_X11_claimRow, r1, ↓q_bk r2, r3, r4, r5, ↓q_bk r7, ql_0, ql_1, ql_2, ql_3, ql_4, ql_5, ql_6, ql_7, ql_8, ql_9, ql_10, ql_11, ql_12, ql_13, ql_14, ql_15, ql_16, ql_17, ql_18, ql_19, ql_20, ql_21, ql_22, ql_23, ql_24, ql_27, ql_30, ql_31, ql_32, ql_40, ql_48, ql_51, ql_52, ql_57, ql_59, ql_60, ql_61, ql_62, ql_76, ql_84, ql_91, ql_97, ql_99, ql_100, ql_120, ql_122, ql_127, ql_128, ql_200, ql_255, ql_256, ql_300, ql_420, ql_428, ql_640, ql_900, ql_896, ql_999, ql_1712, ql_1716, ql_1734, ql_1772, ql_1800, ql_1805, ql_1811, ql_1822, ql_2132, ql_2140, ql_3229, ql_9999, ql_11453, ql_65536, ql_100000, ql_1000000, nI_add, pk_mul, q_and, q_or, q_xor, nI_clamp, q_in, q_neg1, q_nno, q_nno', q_annN, q_sh1, q_tbN, nI_leI, nI_ltI, nI_eq, pk_sub, ↓reduceIte, if_pos, if_neg, q_zlt, q_bs, z1, z2', Bool.not_true, Bool.false_eq_true]
  | false => simp (disch := omega) only [g_X11_laysTree_30, r1, ↓q_bk r2, r4, r5, ql_0, ql_1, ql_2, ql_3, ql_4, ql_5, ql_6, ql_7, ql_8, ql_9, ql_10, ql_11, ql_12, ql_13, ql_14, ql_15, ql_16, ql_17, ql_18, ql_19, ql_20, ql_21, ql_22, ql_23, ql_24, ql_27, ql_30, ql_31, ql_32, ql_40, ql_48, ql_51, ql_52, ql_57, ql_59, ql_60, ql_61, ql_62, ql_76, ql_84, ql_91, ql_97, ql_99, ql_100, ql_120, ql_122, ql_127, ql_128, ql_200, ql_255, ql_256, ql_300, ql_420, ql_428, ql_640, ql_900, ql_896, ql_999, ql_1712, ql_1716, ql_1734, ql_1772, ql_1800, ql_1805, ql_1811, ql_1822, ql_2132, ql_2140, ql_3229, ql_9999, ql_11453, ql_65536, ql_100000, ql_1000000, nI_add, pk_mul, q_and, q_or, q_xor, nI_clamp, q_in, q_neg1, q_nno, q_nno', q_annN, q_sh1, q_tbN, nI_leI, nI_ltI, nI_eq, pk_sub, ↓reduceIte, if_pos, if_neg, q_zlt, q_bs, z1, z2', q_max, Bool.not_false, Bool.false_eq_true]
theorem m_laysTree {C : q_N} {m : Nat} {J : z_I} {K : z_L} (h : q_sm C 0 m J K) (ok : q_ok C) {s : Nat} (hs0 : 0 < s) (hs : s < 256) (b : Bool) (hI : ∀ k, k < C 0 2 → ¬ s &&& C 6 k = 0 → ¬ s ^^^ (s &&& C 6 k) = 0 → J 13 (s &&& C 6 k) = q_eT (q_tz C b (s &&& C 6 k)).1 ∧ J 13 (s ^^^ (s &&& C 6 k)) = q_eT (q_tz C b (s ^^^ (s &&& C 6 k))).1) : f_X11_laysTree J (nI s) (!b) = some (z2 (z2 J 13 s (q_eT (q_tz C b s).1)) 14 s (q_eO (q_tz C b s).2)) := by
  obtain ⟨o0, o1, o2, o3, -⟩ := id ok
  have hp := q_pc8 hs
  have loop : g_X11_laysTree_30 (nI s) (!b) z_fuel (nI 0) (z2 (z2 J 13 s (q_eT (q_tr0 s).1)) 14 s (q_eO (q_tr0 s).2)) = some (z2 (z2 J 13 s (q_eT (q_tz C b s).1)) 14 s (q_eO (q_tz C b s).2)) := by
    rw [q_tz_e hs]
    refine q_lp (G := fun n k (a : Option Nat × Option Nat) => g_X11_laysTree_30 (nI s) (!b) n (nI k) (z2 (z2 J 13 s (q_eT a.1)) 14 s (q_eO a.2))) (fun k => q_trA C b (fun u => (q_tz C b u).1) s k) (fun n k _ hk => ?_) (fun n => ?_) (Nat.zero_le (C 0 2)) (q_fu (by omega))
    · have e : q_trA C b (fun u => (q_tz C b u).1) s (k + 1) = q_trF C b (fun u => (q_tz C b u).1) s k (q_trA C b (fun u => (q_tz C b u).1) s k) := rfl
      have ha := (q_trA_le (n := k) (b := b) ok hs (by omega) (fun u v hu h0 h => (q_tz_le ok (s := u) (b := b) (by omega)).1 v h)).1
      rw [e]
      generalize q_trA C b (fun u => (q_tz C b u).1) s k = a at ha
      have hU : ∀ x y, z2 (z2 (z2 (z2 J 13 s (q_eT a.1)) 14 s (q_eO a.2)) 13 s x) 14 s y = z2 (z2 J 13 s x) 14 s y := fun x y => q_zz (by omega)
      have hM : q_sm C 0 m (z2 (z2 J 13 s (q_eT a.1)) 14 s (q_eO a.2)) K := h.go ok (fun k _ _ => by rw [q_zo (by omega), q_zo (by omega)]) (fun k _ _ => rfl)
      have r6 : z2 (z2 J 13 s (q_eT a.1)) 14 s (q_eO a.2) 13 s = q_eT a.1 := by rw [q_zo (by omega), q_zs]
      have l1 : s &&& C 6 k < 256 := q_and_lt hs
      have l2 : s ^^^ (s &&& C 6 k) < 256 := q_xa_lt (n := 8) hs
      obtain ⟨c1, c2⟩ := q_c5 ok hk s
      show g_X11_laysTree_30 (nI s) (!b) (n + 1) (nI k) (z2 (z2 J 13 s (q_eT a.1)) 14 s (q_eO a.2)) = _
      by_cases z1 : s &&& C 6 k = 0
      · rw [m_s0 hM ok hs hk (Or.inl z1)]
        unfold q_trF
        rw [if_pos z1]
      by_cases z2' : s ^^^ (s &&& C 6 k) = 0
      · rw [m_s0 hM ok hs hk (Or.inr (Or.inl z2'))]
        unfold q_trF
        rw [if_neg z1, if_pos z2']
      obtain ⟨k1, k2⟩ := q_kids (C 6 k) hs z1 z2'
      obtain ⟨i1, i2⟩ := hI k hk z1 z2'
      have r4 : z2 (z2 J 13 s (q_eT a.1)) 14 s (q_eO a.2) 13 (s &&& C 6 k) = q_eT (q_tz C b (s &&& C 6 k)).1 := by rw [q_zo (by omega), q_zo (by omega), i1]
      have r5 : z2 (z2 J 13 s (q_eT a.1)) 14 s (q_eO a.2) 13 (s ^^^ (s &&& C 6 k)) = q_eT (q_tz C b (s ^^^ (s &&& C 6 k))).1 := by rw [q_zo (by omega), q_zo (by omega), i2]
      have b1 := (q_tz_le ok (b := b) l1).1
      have b2 := (q_tz_le ok (b := b) l2).1
      have p1 := q_pc8 l1
      have p2 := q_pc8 l2
      unfold q_trF
      rw [if_neg z1, if_neg z2']
      dsimp only
      cases t1 : (q_tz C b (s &&& C 6 k)).1 with
      | none =>
        rw [t1] at r4
        exact m_s0 hM ok hs hk (Or.inr (Or.inr (Or.inl r4)))
      | some x =>
        rw [t1] at r4
        have b1 := b1 x t1
        cases t2 : (q_tz C b (s ^^^ (s &&& C 6 k))).1 with
        | none =>
          rw [t2] at r5
          exact m_s0 hM ok hs hk (Or.inr (Or.inr (Or.inr r5)))
        | some y =>
          rw [t2] at r5
          have b2 := b2 y t2
          rw [m_s1 hM ok hs hk z1 z2' r4 r5 (by omega) (by omega), r6, hU]
          have hW : (if b = true then C 5 k * q_wt C s (C 0 1) + x + y else 1 + max x y) < 1000000 := by
            split
            · generalize C 5 k * q_wt C s (C 0 1) = cw at c1 ⊢; omega
            · omega
          obtain ⟨a1, a2⟩ := a
          cases a1 with
          | none =>
            rw [if_pos (show nI _ < q_eT none from nI_lt hW (by decide))]
            rfl
          | some v =>
            have hv := ha v rfl
            show (if nI (if b = true then C 5 k * q_wt C s (C 0 1) + x + y else 1 + max x y) < nI v then _ else _) = _
            by_cases hc : v ≤ (if b = true then C 5 k * q_wt C s (C 0 1) + x + y else 1 + max x y)
            · rw [if_neg (nI_nlt hc (by omega))]
              dsimp only
              rw [if_pos hc]
            · rw [if_pos (nI_lt (by omega) (by omega))]
              dsimp only
              rw [if_neg hc]
              rfl
    · have r1 : ∀ x y, z2 (z2 J 13 s x) 14 s y 1 2 = nI (C 0 2) := fun x y => by rw [q_zo (by omega), q_zo (by omega), h.f.2.2.1]
      simp (disch := omega) only [g_X11_laysTree_30, r1, ql_0, ql_1, ql_2, ql_3, ql_4, ql_5, ql_6, ql_7, ql_8, ql_9, ql_10, ql_11, ql_12, ql_13, ql_14, ql_15, ql_16, ql_17, ql_18, ql_19, ql_20, ql_21, ql_22, ql_23, ql_24, ql_27, ql_30, ql_31, ql_32, ql_40, ql_48, ql_51, ql_52, ql_57, ql_59, ql_60, ql_61, ql_62, ql_76, ql_84, ql_91, ql_97, ql_99, ql_100, ql_120, ql_122, ql_127, ql_128, ql_200, ql_255, ql_256, ql_300, ql_420, ql_428, ql_640, ql_900, ql_896, ql_999, ql_1712, ql_1716, ql_1734, ql_1772, ql_1800, ql_1805, ql_1811, ql_1822, ql_2132, ql_2140, ql_3229, ql_9999, ql_11453, ql_65536, ql_100000, ql_1000000, nI_add, pk_mul, q_and, q_or, q_xor, nI_clamp, q_in, q_neg1, q_nno, q_nno', q_annN, q_sh1, q_tbN, nI_leI, nI_ltI, nI_eq, pk_sub, ↓reduceIte, if_pos, if_neg, q_zlt, q_bs]
  by_cases z : q_pc s = 1
  · have e : q_tr0 s = (some 0, none) := by unfold q_tr0; rw [if_pos z]
    rw [e] at loop
    simp (disch := omega) only [f_X11_laysTree, m_bits, ql_0, ql_1, ql_2, ql_3, ql_4, ql_5, ql_6, ql_7, ql_8, ql_9, ql_10, ql_11, ql_12, ql_13, ql_14, ql_15, ql_16, ql_17, ql_18, ql_19, ql_20, ql_21, ql_22, ql_23, ql_24, ql_27, ql_30, ql_31, ql_32, ql_40, ql_48, ql_51, ql_52, ql_57, ql_59, ql_60, ql_61, ql_62, ql_76, ql_84, ql_91, ql_97, ql_99, ql_100, ql_120, ql_122, ql_127, ql_128, ql_200, ql_255, ql_256, ql_300, ql_420, ql_428, ql_640, ql_900, ql_896, ql_999, ql_1712, ql_1716, ql_1734, ql_1772, ql_1800, ql_1805, ql_1811, ql_1822, ql_2132, ql_2140, ql_3229, ql_9999, ql_11453, ql_65536, ql_100000, ql_1000000, nI_add, pk_mul, q_and, q_or, q_xor, nI_clamp, q_in, q_neg1, q_nno, q_nno', q_annN, q_sh1, q_tbN, nI_leI, nI_ltI, nI_eq, pk_sub, ↓reduceIte, if_pos, if_neg, q_zlt, q_bs]
    exact loop
  · have e : q_tr0 s = (none, none) := by unfold q_tr0; rw [if_neg z]
    rw [e] at loop
    simp (disch := omega) only [f_X11_laysTree, m_bits, ql_0, ql_1, ql_2, ql_3, ql_4, ql_5, ql_6, ql_7, ql_8, ql_9, ql_10, ql_11, ql_12, ql_13, ql_14, ql_15, ql_16, ql_17, ql_18, ql_19, ql_20, ql_21, ql_22, ql_23, ql_24, ql_27, ql_30, ql_31, ql_32, ql_40, ql_48, ql_51, ql_52, ql_57, ql_59, ql_60, ql_61, ql_62, ql_76, ql_84, ql_91, ql_97, ql_99, ql_100, ql_120, ql_122, ql_127, ql_128, ql_200, ql_255, ql_256, ql_300, ql_420, ql_428, ql_640, ql_900, ql_896, ql_999, ql_1712, ql_1716, ql_1734, ql_1772, ql_1800, ql_1805, ql_1811, ql_1822, ql_2132, ql_2140, ql_3229, ql_9999, ql_11453, ql_65536, ql_100000, ql_1000000, nI_add, pk_mul, q_and, q_or, q_xor, nI_clamp, q_in, q_neg1, q_nno, q_nno', q_annN, q_sh1, q_tbN, nI_leI, nI_ltI, nI_eq, pk_sub, ↓reduceIte, if_pos, if_neg, q_zlt, q_bs]
    exact loop
