/-! what is best to be made: the class's tables -/
def q_zi (x : Int) : Int32 := Int32.ofInt x
theorem q_zi_n (n : Nat) : nI n = q_zi (n : Int) := by
  apply Int32.toBitVec_inj.1
  show BitVec.ofNat 32 n = BitVec.ofInt 32 (n : Int)
  exact (BitVec.ofInt_natCast 32 n).symm
theorem q_zi_add (a b : Int) : q_zi a + q_zi b = q_zi (a + b) := (Int32.ofInt_add a b).symm
theorem q_zi_neg (a : Int) : -q_zi a = q_zi (-a) := (Int32.ofInt_neg a).symm
theorem q_zi_mul (a b : Int) : q_zi a * q_zi b = q_zi (a * b) := (Int32.ofInt_mul a b).symm
theorem q_zi_t {a : Int} (h1 : -1000000 ≤ a) (h2 : a ≤ 1000000) : (q_zi a).toInt = a := Int32.toInt_ofInt_of_le (by omega) (by omega)
theorem q_zi_le {a b : Int} (h1 : -1000000 ≤ a) (h2 : a ≤ 1000000) (h3 : -1000000 ≤ b) (h4 : b ≤ 1000000) : (q_zi a ≤ q_zi b) ↔ a ≤ b := by
  rw [Int32.le_iff_toInt_le, q_zi_t h1 h2, q_zi_t h3 h4]
theorem q_zi_lt {a b : Int} (h1 : -1000000 ≤ a) (h2 : a ≤ 1000000) (h3 : -1000000 ≤ b) (h4 : b ≤ 1000000) : (q_zi a < q_zi b) ↔ a < b := by
  rw [Int32.lt_iff_toInt_lt, q_zi_t h1 h2, q_zi_t h3 h4]
theorem q_zi_eq {a b : Int} (h1 : -1000000 ≤ a) (h2 : a ≤ 1000000) (h3 : -1000000 ≤ b) (h4 : b ≤ 1000000) : (q_zi a = q_zi b) ↔ a = b := by
  constructor
  · intro h
    have := congrArg Int32.toInt h
    rwa [q_zi_t h1 h2, q_zi_t h3 h4] at this
  · intro h; rw [h]
theorem q_zi_max {a b : Int} (h1 : -1000000 ≤ a) (h2 : a ≤ 1000000) (h3 : -1000000 ≤ b) (h4 : b ≤ 1000000) : z_max (q_zi a) (q_zi b) = q_zi (max a b) := by
  unfold z_max
  by_cases h : a < b
  · rw [if_pos ((q_zi_lt h1 h2 h3 h4).2 h)]; congr 1; omega
  · rw [if_neg (fun z => h ((q_zi_lt h1 h2 h3 h4).1 z))]; congr 1; omega
def q_Us (b : Bool) : Int := if b then 1 else -1
def q_Uw (C : q_N) (b : Bool) (u : Nat → Int) (m c : Nat) : Int := (q_yd C m c : Int) + q_Us b * u (m ||| 2 ^ c)
def q_Uk (C : q_N) (b : Bool) (u : Nat → Int) (m : Nat) (a0 : Int) (k : Nat) : Int := q_it (fun c a => if m.testBit c = true then a else max a (q_Uw C b u m c)) a0 k
def q_U (C : q_N) (b : Bool) : Nat → Nat → Int
  | 0 => fun _ => 0
  | l + 1 => fun m => q_Uk C b (q_U C b l) m (if b then 0 else -(q_U C b l m)) (C 0 2)
theorem q_Uk_s (C : q_N) (b : Bool) (u : Nat → Int) (m : Nat) (a0 : Int) (k : Nat) : q_Uk C b u m a0 (k + 1) = if m.testBit k = true then q_Uk C b u m a0 k else max (q_Uk C b u m a0 k) (q_Uw C b u m k) := rfl
theorem q_Uw_b {C : q_N} (ok : q_ok C) {b : Bool} {u : Nat → Int} {B : Int} {m c : Nat} (hu : ∀ s, -B ≤ u s ∧ u s ≤ B) : -B ≤ q_Uw C b u m c ∧ q_Uw C b u m c ≤ B + 192 := by
  have hy := q_yd_le ok m c
  have h1 := hu (m ||| 2 ^ c)
  unfold q_Uw q_Us
  cases b with
  | true => rw [if_pos rfl, Int.one_mul]; omega
  | false => rw [if_neg (by decide), Int.neg_mul, Int.one_mul]; omega
theorem q_Uk_b {C : q_N} (ok : q_ok C) {b : Bool} {u : Nat → Int} {B a0 : Int} {m : Nat} (hu : ∀ s, -B ≤ u s ∧ u s ≤ B) (h0 : -B ≤ a0 ∧ a0 ≤ B) (hB : 0 ≤ B) (k : Nat) : -B ≤ q_Uk C b u m a0 k ∧ q_Uk C b u m a0 k ≤ B + 192 := by
  induction k with
  | zero => show -B ≤ a0 ∧ a0 ≤ B + 192; omega
  | succ k ih =>
    rw [q_Uk_s]
    have := q_Uw_b ok (b := b) (m := m) (c := k) hu
    split
    · exact ih
    · omega
theorem q_U_b {C : q_N} (ok : q_ok C) {b : Bool} (l : Nat) : ∀ m, -(192 * (l : Int)) ≤ q_U C b l m ∧ q_U C b l m ≤ 192 * (l : Int) := by
  induction l with
  | zero => intro m; exact ⟨by show -(192 * (0 : Int)) ≤ 0; omega, by show (0 : Int) ≤ 192 * 0; omega⟩
  | succ l ih =>
    intro m
    have h1 := ih m
    have := q_Uk_b ok (b := b) (m := m) (a0 := if b then 0 else -(q_U C b l m)) ih (by split <;> omega) (by omega) (C 0 2)
    show -(192 * ((l + 1 : Nat) : Int)) ≤ q_Uk C b (q_U C b l) m (if b then 0 else -(q_U C b l m)) (C 0 2) ∧ q_Uk C b (q_U C b l) m (if b then 0 else -(q_U C b l m)) (C 0 2) ≤ 192 * ((l + 1 : Nat) : Int)
    omega
theorem x2_worth {I : z_I} {l m c : Nat} {y w s : Int} (hl : l ≤ 3) (hm : m < 128) (hc : c < 7) (ho : m ||| 2 ^ c < 128) (e1 : I 53 (l * 128 + (m ||| 2 ^ c)) = q_zi w) (e2 : I 52 (m * 7 + c) = q_zi y) : f_X2_worthOf I (nI c) (nI (l + 1)) (nI m) (q_zi s) = some (q_zi (y + s * w)) := by
  simp (disch := omega) only [f_X2_worthOf, f_X2_indexOf, ql_0, ql_1, ql_2, ql_3, ql_4, ql_5, ql_6, ql_7, ql_8, ql_9, ql_10, ql_11, ql_12, ql_13, ql_14, ql_15, ql_16, ql_17, ql_18, ql_19, ql_20, ql_21, ql_22, ql_23, ql_24, ql_27, ql_30, ql_31, ql_32, ql_40, ql_48, ql_51, ql_52, ql_57, ql_59, ql_60, ql_61, ql_62, ql_76, ql_84, ql_91, ql_97, ql_99, ql_100, ql_120, ql_122, ql_127, ql_128, ql_200, ql_255, ql_256, ql_300, ql_420, ql_428, ql_640, ql_900, ql_896, ql_999, ql_1712, ql_1716, ql_1734, ql_1772, ql_1800, ql_1805, ql_1811, ql_1822, ql_2132, ql_2140, ql_3229, ql_9999, ql_11453, ql_65536, ql_100000, ql_1000000, nI_add, pk_mul, q_and, q_or, q_xor, nI_clamp, q_in, q_neg1, q_nno, q_nno', q_annN, q_sh1, q_tbN, nI_leI, nI_ltI, nI_eq, pk_sub, ↓reduceIte, if_pos, if_neg, q_zlt, q_bs, Nat.add_sub_cancel, e1, e2, q_zi_mul, q_zi_add]
theorem q_or7 {m c n : Nat} (hn : n ≤ 7) (hm : m < 2 ^ n) (hc : c < n) : m ||| 2 ^ c < 2 ^ n ∧ m ||| 2 ^ c < 128 := by
  have h1 : m ||| 2 ^ c < 2 ^ n := Nat.or_lt_two_pow hm (Nat.pow_lt_pow_right (by decide) hc)
  exact ⟨h1, q_p7 hn h1⟩
theorem x2_best {C : q_N} {I : z_I} {L : z_L} (h : q_sx C 3 I L) (ok : q_ok C) {b : Bool} {l m : Nat} {a0 : Int} {u : Nat → Int} (hl : l ≤ 3) (hm : m < 2 ^ C 0 2) (ha : -900 ≤ a0 ∧ a0 ≤ 900) (hu : ∀ s, -900 ≤ u s ∧ u s ≤ 900) (h1 : ∀ c, c < C 0 2 → m.testBit c = false → I 53 (l * 128 + (m ||| 2 ^ c)) = q_zi (u (m ||| 2 ^ c))) (h2 : ∀ c, c < C 0 2 → I 52 (m * 7 + c) = nI (q_yd C m c)) : f_X2_bestFrom I (nI (l + 1)) (nI m) (q_zi a0) (q_zi (q_Us b)) = some (q_zi (q_Uk C b u m a0 (C 0 2))) := by
  obtain ⟨o0, o1, o2, o3, -⟩ := id ok
  have hm7 := q_p7 o2 hm
  have hf := h.f.2.2.1
  refine q_lp (G := fun n k (a : Int) => g_X2_bestFrom_6 (nI (l + 1)) (nI m) (q_zi (q_Us b)) I n (q_zi a) (nI k)) (N := C 0 2) (k0 := 0) (fun k => q_Uk C b u m a0 k) (fun n k _ hk => ?_) (fun n => ?_) (Nat.zero_le _) (q_fu (by omega))
  · show g_X2_bestFrom_6 (nI (l + 1)) (nI m) (q_zi (q_Us b)) I (n + 1) (q_zi (q_Uk C b u m a0 k)) (nI k) = g_X2_bestFrom_6 (nI (l + 1)) (nI m) (q_zi (q_Us b)) I n (q_zi (q_Uk C b u m a0 (k + 1))) (nI (k + 1))
    have b1 := q_Uk_b ok (b := b) (m := m) (a0 := a0) (B := 900) hu ha (by omega) k
    have b2 := q_Uw_b ok (b := b) (m := m) (c := k) (B := 900) hu
    rw [q_Uk_s]
    cases hb : m.testBit k with
    | true =>
      rw [if_pos rfl]
      simp (disch := omega) only [g_X2_bestFrom_6, hf, ql_0, ql_1, ql_2, ql_3, ql_4, ql_5, ql_6, ql_7, ql_8, ql_9, ql_10, ql_11, ql_12, ql_13, ql_14, ql_15, ql_16, ql_17, ql_18, ql_19, ql_20, ql_21, ql_22, ql_23, ql_24, ql_27, ql_30, ql_31, ql_32, ql_40, ql_48, ql_51, ql_52, ql_57, ql_59, ql_60, ql_61, ql_62, ql_76, ql_84, ql_91, ql_97, ql_99, ql_100, ql_120, ql_122, ql_127, ql_128, ql_200, ql_255, ql_256, ql_300, ql_420, ql_428, ql_640, ql_900, ql_896, ql_999, ql_1712, ql_1716, ql_1734, ql_1772, ql_1800, ql_1805, ql_1811, ql_1822, ql_2132, ql_2140, ql_3229, ql_9999, ql_11453, ql_65536, ql_100000, ql_1000000, nI_add, pk_mul, q_and, q_or, q_xor, nI_clamp, q_in, q_neg1, q_nno, q_nno', q_annN, q_sh1, q_tbN, nI_leI, nI_ltI, nI_eq, pk_sub, ↓reduceIte, if_pos, if_neg, q_zlt, q_bs, hb, reduceCtorEq]
    | false =>
      have ew := x2_worth (I := I) (s := q_Us b) (y := (q_yd C m k : Int)) hl hm7 (by omega) (q_or7 o2 hm hk).2 (h1 k hk hb) (by rw [h2 k hk, q_zi_n])
      rw [if_neg (by decide)]
      have ex := q_zi_max (a := q_Uk C b u m a0 k) (b := q_Uw C b u m k) (by omega) (by omega) (by omega) (by omega)
      simp (disch := omega) only [g_X2_bestFrom_6, hf, ql_0, ql_1, ql_2, ql_3, ql_4, ql_5, ql_6, ql_7, ql_8, ql_9, ql_10, ql_11, ql_12, ql_13, ql_14, ql_15, ql_16, ql_17, ql_18, ql_19, ql_20, ql_21, ql_22, ql_23, ql_24, ql_27, ql_30, ql_31, ql_32, ql_40, ql_48, ql_51, ql_52, ql_57, ql_59, ql_60, ql_61, ql_62, ql_76, ql_84, ql_91, ql_97, ql_99, ql_100, ql_120, ql_122, ql_127, ql_128, ql_200, ql_255, ql_256, ql_300, ql_420, ql_428, ql_640, ql_900, ql_896, ql_999, ql_1712, ql_1716, ql_1734, ql_1772, ql_1800, ql_1805, ql_1811, ql_1822, ql_2132, ql_2140, ql_3229, ql_9999, ql_11453, ql_65536, ql_100000, ql_1000000, nI_add, pk_mul, q_and, q_or, q_xor, nI_clamp, q_in, q_neg1, q_nno, q_nno', q_annN, q_sh1, q_tbN, nI_leI, nI_ltI, nI_eq, pk_sub, ↓reduceIte, if_pos, if_neg, q_zlt, q_bs, hb, ew]
      rw [← ex]
      rfl
  · show g_X2_bestFrom_6 (nI (l + 1)) (nI m) (q_zi (q_Us b)) I (n + 1) (q_zi (q_Uk C b u m a0 (C 0 2))) (nI (C 0 2)) = _
    simp (disch := omega) only [g_X2_bestFrom_6, hf, ql_0, ql_1, ql_2, ql_3, ql_4, ql_5, ql_6, ql_7, ql_8, ql_9, ql_10, ql_11, ql_12, ql_13, ql_14, ql_15, ql_16, ql_17, ql_18, ql_19, ql_20, ql_21, ql_22, ql_23, ql_24, ql_27, ql_30, ql_31, ql_32, ql_40, ql_48, ql_51, ql_52, ql_57, ql_59, ql_60, ql_61, ql_62, ql_76, ql_84, ql_91, ql_97, ql_99, ql_100, ql_120, ql_122, ql_127, ql_128, ql_200, ql_255, ql_256, ql_300, ql_420, ql_428, ql_640, ql_900, ql_896, ql_999, ql_1712, ql_1716, ql_1734, ql_1772, ql_1800, ql_1805, ql_1811, ql_1822, ql_2132, ql_2140, ql_3229, ql_9999, ql_11453, ql_65536, ql_100000, ql_1000000, nI_add, pk_mul, q_and, q_or, q_xor, nI_clamp, q_in, q_neg1, q_nno, q_nno', q_annN, q_sh1, q_tbN, nI_leI, nI_ltI, nI_eq, pk_sub, ↓reduceIte, if_pos, if_neg, q_zlt, q_bs]
/-- what can be come to by so many more -/
def q_rc (C : q_N) (m d : Nat) : Prop := m &&& C 0 6 = C 0 6 ∧ q_pc (m ^^^ (m &&& C 0 6)) ≤ d
theorem q_rc_g {C : q_N} {m d : Nat} (h : q_rc C m d) : C 0 6 ≤ m := by rw [← h.1]; exact Nat.and_le_left
theorem q_rc_0 (C : q_N) (d : Nat) : q_rc C (C 0 6) d := ⟨Nat.and_self _, by rw [Nat.and_self, Nat.xor_self]; exact Nat.zero_le _⟩
theorem q_pcx : ∀ x, x < 128 → ∀ c, c < 7 → x.testBit c = false → q_pc (x ||| 2 ^ c) = q_pc x + 1 := by decide +kernel
theorem q_rc_s {C : q_N} (ok : q_ok C) {m d c : Nat} (hm : m < 2 ^ C 0 2) (h : q_rc C m d) (hc : c < C 0 2) (hb : m.testBit c = false) : q_rc C (m ||| 2 ^ c) (d + 1) := by
  obtain ⟨h1, h2⟩ := h
  have o2 := ok.2.2.1
  have hm7 := q_p7 o2 hm
  have e1 : (m ||| 2 ^ c) &&& C 0 6 = C 0 6 := by
    apply Nat.eq_of_testBit_eq
    intro i
    have := congrArg (fun z => Nat.testBit z i) h1
    simp only [Nat.testBit_and, Nat.testBit_or] at this ⊢
    revert this
    cases m.testBit i <;> cases (C 0 6).testBit i <;> simp
  have hcM : (C 0 6).testBit c = false := by
    have := congrArg (fun z => Nat.testBit z c) h1
    simp only [Nat.testBit_and, hb, Bool.false_and] at this
    exact this.symm
  have hx : m ^^^ C 0 6 < 128 := Nat.xor_lt_two_pow (n := 7) hm7 (q_okM ok)
  have e2 : (m ||| 2 ^ c) ^^^ C 0 6 = (m ^^^ C 0 6) ||| 2 ^ c := by
    apply Nat.eq_of_testBit_eq
    intro i
    simp only [Nat.testBit_xor, Nat.testBit_or, Nat.testBit_two_pow]
    by_cases z : c = i
    · subst z; rw [hb, hcM]; simp
    · simp [z]
  refine ⟨e1, ?_⟩
  rw [h1] at h2
  rw [e1, e2, q_pcx _ hx c (by omega) (by rw [Nat.testBit_xor, hb, hcM]; rfl)]
  omega
theorem x2_more {C : q_N} {I : z_I} {L : z_L} (h : q_sx C 3 I L) (ok : q_ok C) {m d : Nat} (hm : m < 128) (hd : d ≤ 100) : (q_rc C m d → f_X10_isWithin (f_X2_claimsMore I (nI m)) (nI 0) (nI d) = true) ∧ (¬ q_rc C m d → f_X10_isWithin (f_X2_claimsMore I (nI m)) (nI 0) (nI d) = false) := by
  have hf := h.f.2.2.2.2.2.2
  have hM := q_okM ok
  have l1 : m &&& C 0 6 < 128 := q_and_lt hm
  have l2 : m ^^^ (m &&& C 0 6) < 128 := q_xa_lt (n := 7) hm
  have l3 := q_pc7 _ l2
  by_cases z : m &&& C 0 6 = C 0 6
  · have e : f_X2_claimsMore I (nI m) = nI (q_pc (m ^^^ (m &&& C 0 6))) := by
      unfold f_X2_claimsMore
      rw [hf, q_and, if_pos (by rw [z]), q_ann, q_bitCount0 _ (by omega)]
    rw [e]
    unfold f_X10_isWithin
    rw [if_neg (nI_nlt (Nat.zero_le _) (by omega))]
    constructor
    · intro y; rw [if_neg (nI_nlt y.2 (by omega))]
    · intro y; rw [if_pos (nI_lt (Nat.lt_of_not_le (fun w => y ⟨z, w⟩)) (by omega))]
  · have e : f_X2_claimsMore I (nI m) = -1 := by
      unfold f_X2_claimsMore
      rw [hf, q_and, if_neg (by rw [nI_eq (by omega) (by omega)]; exact z)]
    rw [e]
    exact ⟨fun y => absurd y.1 z, fun _ => rfl⟩
/-- the tables, as far as they stand -/
def q_ry (C : q_N) (n k : Nat) (I : z_I) : Prop := ∀ m, m < k → q_rc C m n → I 53 m = nI 0 ∧ ∀ c, c < C 0 2 → I 52 (m * 7 + c) = nI (q_yd C m c)
theorem x2_prep47 {C : q_N} {I : z_I} {L : z_L} (h : q_sx C 3 I L) (ok : q_ok C) {v : Int32} {m : Nat} (hm : m < 128) {k84 : z_I → Option z_I} : ∃ I', ((∀ d j, d ≠ 52 ∨ j < m * 7 ∨ m * 7 + 7 ≤ j → I' d j = I d j) ∧ ∀ c, c < C 0 2 → I' 52 (m * 7 + c) = nI (q_yd C m c)) ∧ g_X2_prepare_47 v (nI m) k84 z_fuel (nI 0) I = k84 I' := by
  obtain ⟨o0, o1, o2, o3, -⟩ := id ok
  exact q_lpC (G := fun n k (a : z_I) => g_X2_prepare_47 v (nI m) k84 n (nI k) a) (K := k84) (N := C 0 2) (k0 := 0) (n := z_fuel) (a := I) (fun k a => (∀ d j, d ≠ 52 ∨ j < m * 7 ∨ m * 7 + 7 ≤ j → a d j = I d j) ∧ ∀ c, c < k → a 52 (m * 7 + c) = nI (q_yd C m c)) (fun n k a _ hk hp => by
    obtain ⟨p1, p2⟩ := hp
    have ha := h.go (I' := a) (L' := L) (fun d j a1 b1 => p1 d j (by omega)) (fun _ _ _ _ => rfl)
    have hf := ha.f.2.2.1
    have hy := x0_yieldUnder ha ok (m := m) hk
    refine ⟨z2 a 52 (m * 7 + k) (nI (q_yd C m k)), ⟨fun d j hj => ?_, fun c hc => ?_⟩, ?_⟩
    · rw [q_zo (by omega)]; exact p1 d j hj
    · by_cases z : c = k
      · subst z; rw [q_zs]
      · rw [q_zo (by omega)]; exact p2 c (by omega)
    · show g_X2_prepare_47 v (nI m) k84 (n + 1) (nI k) a = _
      simp (disch := omega) only [g_X2_prepare_47, hf, hy, ql_0, ql_1, ql_2, ql_3, ql_4, ql_5, ql_6, ql_7, ql_8, ql_9, ql_10, ql_11, ql_12, ql_13, ql_14, ql_15, ql_16, ql_17, ql_18, ql_19, ql_20, ql_21, ql_22, ql_23, ql_24, ql_27, ql_30, ql_31, ql_32, ql_40, ql_48, ql_51, ql_52, ql_57, ql_59, ql_60, ql_61, ql_62, ql_76, ql_84, ql_91, ql_97, ql_99, ql_100, ql_120, ql_122, ql_127, ql_128, ql_200, ql_255, ql_256, ql_300, ql_420, ql_428, ql_640, ql_900, ql_896, ql_999, ql_1712, ql_1716, ql_1734, ql_1772, ql_1800, ql_1805, ql_1811, ql_1822, ql_2132, ql_2140, ql_3229, ql_9999, ql_11453, ql_65536, ql_100000, ql_1000000, nI_add, pk_mul, q_and, q_or, q_xor, nI_clamp, q_in, q_neg1, q_nno, q_nno', q_annN, q_sh1, q_tbN, nI_leI, nI_ltI, nI_eq, pk_sub, ↓reduceIte, if_pos, if_neg, q_zlt, q_bs]) (fun n a hp => by
    have ha := h.go (I' := a) (L' := L) (fun d j a1 b1 => hp.1 d j (by omega)) (fun _ _ _ _ => rfl)
    have hf := ha.f.2.2.1
    show g_X2_prepare_47 v (nI m) k84 (n + 1) (nI (C 0 2)) a = _
    simp (disch := omega) only [g_X2_prepare_47, hf, ql_0, ql_1, ql_2, ql_3, ql_4, ql_5, ql_6, ql_7, ql_8, ql_9, ql_10, ql_11, ql_12, ql_13, ql_14, ql_15, ql_16, ql_17, ql_18, ql_19, ql_20, ql_21, ql_22, ql_23, ql_24, ql_27, ql_30, ql_31, ql_32, ql_40, ql_48, ql_51, ql_52, ql_57, ql_59, ql_60, ql_61, ql_62, ql_76, ql_84, ql_91, ql_97, ql_99, ql_100, ql_120, ql_122, ql_127, ql_128, ql_200, ql_255, ql_256, ql_300, ql_420, ql_428, ql_640, ql_900, ql_896, ql_999, ql_1712, ql_1716, ql_1734, ql_1772, ql_1800, ql_1805, ql_1811, ql_1822, ql_2132, ql_2140, ql_3229, ql_9999, ql_11453, ql_65536, ql_100000, ql_1000000, nI_add, pk_mul, q_and, q_or, q_xor, nI_clamp, q_in, q_neg1, q_nno, q_nno', q_annN, q_sh1, q_tbN, nI_leI, nI_ltI, nI_eq, pk_sub, ↓reduceIte, if_pos, if_neg, q_zlt, q_bs]) (Nat.zero_le _) (q_fu (by omega)) ⟨fun _ _ _ => rfl, fun c hc => by omega⟩
theorem x2_prepare {C : q_N} {I : z_I} {L : z_L} (h : q_sx C 3 I L) (ok : q_ok C) {n : Nat} (hn : n ≤ 4) : ∃ I', ((∀ d j, d ≠ 52 → d ≠ 53 → I' d j = I d j) ∧ q_ry C n (2 ^ C 0 2) I') ∧ f_X2_prepare I (nI n) = some I' := by
  obtain ⟨o0, o1, o2, o3, -⟩ := id ok
  have h27 := q_p27 o2
  have hM := ok.2.2.2.2.2.2.1
  obtain ⟨I', hp, e⟩ := q_lpC (G := fun f k (a : z_I) => g_X2_prepare_8 (nI n) f (nI k) a) (K := fun a => some a) (N := 2 ^ C 0 2) (k0 := C 0 6) (n := z_fuel) (a := I) (fun k a => (∀ d j, d ≠ 52 → d ≠ 53 → a d j = I d j) ∧ q_ry C n k a) (fun f k a hk0 hk hp => by
    obtain ⟨p1, p2⟩ := hp
    have ha := h.go (I' := a) (L' := L) (fun d j a1 b1 => p1 d j (by omega) (by omega)) (fun _ _ _ _ => rfl)
    have hf := ha.f.2.2.1
    obtain ⟨m1, m2⟩ := x2_more ha ok (m := k) (d := n) (by omega) (by omega)
    by_cases z : q_rc C k n
    · have m1 := m1 z
      obtain ⟨a', ⟨q1, q2⟩, e⟩ := x2_prep47 (I := z2 a 53 k (nI 0)) (ha.go (fun d j a1 b1 => q_zo (by omega)) (fun _ _ _ _ => rfl)) ok (v := nI n) (m := k) (by omega) (k84 := fun I_7 => g_X2_prepare_8 (nI n) f (nI (k + 1)) I_7)
      refine ⟨a', ⟨fun d j d1 d2 => ?_, fun m hm hr => ?_⟩, ?_⟩
      · rw [q1 d j (Or.inl d1), q_zo (Or.inl d2)]; exact p1 d j d1 d2
      · by_cases y : m = k
        · subst y
          exact ⟨by rw [q1 53 _ (Or.inl (by omega)), q_zs], q2⟩
        · obtain ⟨r1, r2⟩ := p2 m (by omega) hr
          exact ⟨by rw [q1 53 _ (Or.inl (by omega)), q_zo (by omega), r1], fun c hc => by rw [q1 52 _ (by omega), q_zo (by omega), r2 c hc]⟩
      · show g_X2_prepare_8 (nI n) (f + 1) (nI k) a = _
        simp (disch := omega) only [g_X2_prepare_8, f_X2_indexOf, hf, ql_0, ql_1, ql_2, ql_3, ql_4, ql_5, ql_6, ql_7, ql_8, ql_9, ql_10, ql_11, ql_12, ql_13, ql_14, ql_15, ql_16, ql_17, ql_18, ql_19, ql_20, ql_21, ql_22, ql_23, ql_24, ql_27, ql_30, ql_31, ql_32, ql_40, ql_48, ql_51, ql_52, ql_57, ql_59, ql_60, ql_61, ql_62, ql_76, ql_84, ql_91, ql_97, ql_99, ql_100, ql_120, ql_122, ql_127, ql_128, ql_200, ql_255, ql_256, ql_300, ql_420, ql_428, ql_640, ql_900, ql_896, ql_999, ql_1712, ql_1716, ql_1734, ql_1772, ql_1800, ql_1805, ql_1811, ql_1822, ql_2132, ql_2140, ql_3229, ql_9999, ql_11453, ql_65536, ql_100000, ql_1000000, nI_add, pk_mul, q_and, q_or, q_xor, nI_clamp, q_in, q_neg1, q_nno, q_nno', q_annN, q_sh1, q_tbN, nI_leI, nI_ltI, nI_eq, pk_sub, ↓reduceIte, if_pos, if_neg, q_zlt, q_bs, m1, Nat.zero_mul, Nat.zero_add]
        exact e
    · have m2 := m2 z
      refine ⟨a, ⟨p1, fun m hm hr => ?_⟩, ?_⟩
      · by_cases y : m = k
        · subst y; exact absurd hr z
        · exact p2 m (by omega) hr
      · show g_X2_prepare_8 (nI n) (f + 1) (nI k) a = _
        simp (disch := omega) only [g_X2_prepare_8, hf, ql_0, ql_1, ql_2, ql_3, ql_4, ql_5, ql_6, ql_7, ql_8, ql_9, ql_10, ql_11, ql_12, ql_13, ql_14, ql_15, ql_16, ql_17, ql_18, ql_19, ql_20, ql_21, ql_22, ql_23, ql_24, ql_27, ql_30, ql_31, ql_32, ql_40, ql_48, ql_51, ql_52, ql_57, ql_59, ql_60, ql_61, ql_62, ql_76, ql_84, ql_91, ql_97, ql_99, ql_100, ql_120, ql_122, ql_127, ql_128, ql_200, ql_255, ql_256, ql_300, ql_420, ql_428, ql_640, ql_900, ql_896, ql_999, ql_1712, ql_1716, ql_1734, ql_1772, ql_1800, ql_1805, ql_1811, ql_1822, ql_2132, ql_2140, ql_3229, ql_9999, ql_11453, ql_65536, ql_100000, ql_1000000, nI_add, pk_mul, q_and, q_or, q_xor, nI_clamp, q_in, q_neg1, q_nno, q_nno', q_annN, q_sh1, q_tbN, nI_leI, nI_ltI, nI_eq, pk_sub, ↓reduceIte, if_pos, if_neg, q_zlt, q_bs, m2, Bool.false_eq_true]) (fun f a hp => by
    have ha := h.go (I' := a) (L' := L) (fun d j a1 b1 => hp.1 d j (by omega) (by omega)) (fun _ _ _ _ => rfl)
    have hf := ha.f.2.2.1
    show g_X2_prepare_8 (nI n) (f + 1) (nI (2 ^ C 0 2)) a = _
    simp (disch := omega) only [g_X2_prepare_8, hf, ql_0, ql_1, ql_2, ql_3, ql_4, ql_5, ql_6, ql_7, ql_8, ql_9, ql_10, ql_11, ql_12, ql_13, ql_14, ql_15, ql_16, ql_17, ql_18, ql_19, ql_20, ql_21, ql_22, ql_23, ql_24, ql_27, ql_30, ql_31, ql_32, ql_40, ql_48, ql_51, ql_52, ql_57, ql_59, ql_60, ql_61, ql_62, ql_76, ql_84, ql_91, ql_97, ql_99, ql_100, ql_120, ql_122, ql_127, ql_128, ql_200, ql_255, ql_256, ql_300, ql_420, ql_428, ql_640, ql_900, ql_896, ql_999, ql_1712, ql_1716, ql_1734, ql_1772, ql_1800, ql_1805, ql_1811, ql_1822, ql_2132, ql_2140, ql_3229, ql_9999, ql_11453, ql_65536, ql_100000, ql_1000000, nI_add, pk_mul, q_and, q_or, q_xor, nI_clamp, q_in, q_neg1, q_nno, q_nno', q_annN, q_sh1, q_tbN, nI_leI, nI_ltI, nI_eq, pk_sub, ↓reduceIte, if_pos, if_neg, q_zlt, q_bs]) (by omega) (q_fu (by omega)) ⟨fun _ _ _ _ => rfl, fun m hm hr => by have := q_rc_g hr; omega⟩
  refine ⟨I', hp, ?_⟩
  unfold f_X2_prepare
  rw [h.f.2.2.2.2.2.2]
  exact e
def q_rd (C : q_N) (b : Bool) (n l0 : Nat) (I : z_I) : Prop := (∀ m, m < 2 ^ C 0 2 → q_rc C m n → ∀ c, c < C 0 2 → I 52 (m * 7 + c) = nI (q_yd C m c)) ∧ (∀ l m, l < l0 → m < 2 ^ C 0 2 → q_rc C m (n - l) → I 53 (l * 128 + m) = q_zi (q_U C b l m))
theorem q_rc_w {C : q_N} {m d d' : Nat} (h : q_rc C m d) (hd : d ≤ d') : q_rc C m d' := ⟨h.1, Nat.le_trans h.2 hd⟩
/-- one place of the table -/
theorem x2_one {C : q_N} {I : z_I} {L : z_L} (h : q_sx C 3 I L) (ok : q_ok C) {b : Bool} {n l k : Nat} (hn : n ≤ 4) (hl : l + 1 ≤ n) (hk : k < 2 ^ C 0 2) (hr : q_rd C b n (l + 1) I) (z : q_rc C k (n - (l + 1))) : f_X2_bestFrom I (nI (l + 1)) (nI k) (q_zi (if b then 0 else -(q_U C b l k))) (q_zi (q_Us b)) = some (q_zi (q_U C b (l + 1) k)) := by
  have hUb := q_U_b ok (b := b) l
  have hc : (l : Int) ≤ 3 := by omega
  have hUk := hUb k
  exact x2_best h ok (u := q_U C b l) (by omega) hk (by split <;> omega) (fun s => by have := hUb s; omega) (fun c hc hb => hr.2 l _ (by omega) (q_or7 ok.2.2.1 hk hc).1 (q_rc_w (q_rc_s ok hk z hc hb) (by omega))) (fun c hc => hr.1 k hk (q_rc_w z (by omega)) c hc)
theorem x2_put {C : q_N} {b : Bool} {n l k : Nat} {I : z_I} {x : Int32} (hr : q_rd C b n l I) (h7 : C 0 2 ≤ 7) (hk : k < 128) : q_rd C b n l (z2 I 53 (l * 128 + k) x) := by
  have h27 := q_p27 h7
  exact ⟨fun m hm hq c hc => by rw [q_zo (by omega)]; exact hr.1 m hm hq c hc, fun l' m hl hm hq => by rw [q_zo (by omega)]; exact hr.2 l' m hl hm hq⟩
theorem x2_alone20 {C : q_N} {I : z_I} {L : z_L} (h : q_sx C 3 I L) (ok : q_ok C) {n l : Nat} (hn : n ≤ 4) (hl : l + 1 ≤ n) (hr : q_rd C true n (l + 1) I) {k72 : z_I → Option z_I} : ∃ I', ((∀ d j, d ≠ 53 → I' d j = I d j) ∧ q_rd C true n (l + 2) I') ∧ g_X2_lookAlone_20 (nI n) (nI (l + 1)) k72 z_fuel (nI (C 0 6)) I = k72 I' := by
  obtain ⟨o0, o1, o2, o3, -⟩ := id ok
  have h27 := q_p27 o2
  have hM := ok.2.2.2.2.2.2.1
  obtain ⟨I', ⟨p1, p2, p3⟩, e⟩ := q_lpC (G := fun f k (a : z_I) => g_X2_lookAlone_20 (nI n) (nI (l + 1)) k72 f (nI k) a) (K := k72) (N := 2 ^ C 0 2) (k0 := C 0 6) (n := z_fuel) (a := I) (fun k a => (∀ d j, d ≠ 53 → a d j = I d j) ∧ q_rd C true n (l + 1) a ∧ ∀ m, m < k → q_rc C m (n - (l + 1)) → a 53 ((l + 1) * 128 + m) = q_zi (q_U C true (l + 1) m)) (fun f k a hk0 hk hp => by
    obtain ⟨p1, p2, p3⟩ := hp
    have ha := h.go (I' := a) (L' := L) (fun d j a1 b1 => p1 d j (by omega)) (fun _ _ _ _ => rfl)
    have hf := ha.f.2.2.1
    obtain ⟨m1, m2⟩ := x2_more ha ok (m := k) (d := n - (l + 1)) (by omega) (by omega)
    by_cases z : q_rc C k (n - (l + 1))
    · have m1 := m1 z
      have hb := x2_one ha ok hn hl hk p2 z
      rw [if_pos rfl, show q_zi 0 = nI 0 from rfl, show q_zi (q_Us true) = nI 1 from rfl] at hb
      refine ⟨z2 a 53 ((l + 1) * 128 + k) (q_zi (q_U C true (l + 1) k)), ⟨fun d j d1 => ?_, x2_put p2 o2 (by omega), fun m hm hq => ?_⟩, ?_⟩
      · rw [q_zo (Or.inl d1)]; exact p1 d j d1
      · by_cases y : m = k
        · subst y; rw [q_zs]
        · rw [q_zo (by omega)]; exact p3 m (by omega) hq
      · show g_X2_lookAlone_20 (nI n) (nI (l + 1)) k72 (f + 1) (nI k) a = _
        simp (disch := omega) only [g_X2_lookAlone_20, f_X2_indexOf, hf, ql_0, ql_1, ql_2, ql_3, ql_4, ql_5, ql_6, ql_7, ql_8, ql_9, ql_10, ql_11, ql_12, ql_13, ql_14, ql_15, ql_16, ql_17, ql_18, ql_19, ql_20, ql_21, ql_22, ql_23, ql_24, ql_27, ql_30, ql_31, ql_32, ql_40, ql_48, ql_51, ql_52, ql_57, ql_59, ql_60, ql_61, ql_62, ql_76, ql_84, ql_91, ql_97, ql_99, ql_100, ql_120, ql_122, ql_127, ql_128, ql_200, ql_255, ql_256, ql_300, ql_420, ql_428, ql_640, ql_900, ql_896, ql_999, ql_1712, ql_1716, ql_1734, ql_1772, ql_1800, ql_1805, ql_1811, ql_1822, ql_2132, ql_2140, ql_3229, ql_9999, ql_11453, ql_65536, ql_100000, ql_1000000, nI_add, pk_mul, q_and, q_or, q_xor, nI_clamp, q_in, q_neg1, q_nno, q_nno', q_annN, q_sh1, q_tbN, nI_leI, nI_ltI, nI_eq, pk_sub, ↓reduceIte, if_pos, if_neg, q_zlt, q_bs, m1, hb]
    · have m2 := m2 z
      refine ⟨a, ⟨p1, p2, fun m hm hq => ?_⟩, ?_⟩
      · by_cases y : m = k
        · subst y; exact absurd hq z
        · exact p3 m (by omega) hq
      · show g_X2_lookAlone_20 (nI n) (nI (l + 1)) k72 (f + 1) (nI k) a = _
        simp (disch := omega) only [g_X2_lookAlone_20, hf, ql_0, ql_1, ql_2, ql_3, ql_4, ql_5, ql_6, ql_7, ql_8, ql_9, ql_10, ql_11, ql_12, ql_13, ql_14, ql_15, ql_16, ql_17, ql_18, ql_19, ql_20, ql_21, ql_22, ql_23, ql_24, ql_27, ql_30, ql_31, ql_32, ql_40, ql_48, ql_51, ql_52, ql_57, ql_59, ql_60, ql_61, ql_62, ql_76, ql_84, ql_91, ql_97, ql_99, ql_100, ql_120, ql_122, ql_127, ql_128, ql_200, ql_255, ql_256, ql_300, ql_420, ql_428, ql_640, ql_900, ql_896, ql_999, ql_1712, ql_1716, ql_1734, ql_1772, ql_1800, ql_1805, ql_1811, ql_1822, ql_2132, ql_2140, ql_3229, ql_9999, ql_11453, ql_65536, ql_100000, ql_1000000, nI_add, pk_mul, q_and, q_or, q_xor, nI_clamp, q_in, q_neg1, q_nno, q_nno', q_annN, q_sh1, q_tbN, nI_leI, nI_ltI, nI_eq, pk_sub, ↓reduceIte, if_pos, if_neg, q_zlt, q_bs, m2, Bool.false_eq_true]) (fun f a hp => by
    have ha := h.go (I' := a) (L' := L) (fun d j a1 b1 => hp.1 d j (by omega)) (fun _ _ _ _ => rfl)
    have hf := ha.f.2.2.1
    show g_X2_lookAlone_20 (nI n) (nI (l + 1)) k72 (f + 1) (nI (2 ^ C 0 2)) a = _
    simp (disch := omega) only [g_X2_lookAlone_20, hf, ql_0, ql_1, ql_2, ql_3, ql_4, ql_5, ql_6, ql_7, ql_8, ql_9, ql_10, ql_11, ql_12, ql_13, ql_14, ql_15, ql_16, ql_17, ql_18, ql_19, ql_20, ql_21, ql_22, ql_23, ql_24, ql_27, ql_30, ql_31, ql_32, ql_40, ql_48, ql_51, ql_52, ql_57, ql_59, ql_60, ql_61, ql_62, ql_76, ql_84, ql_91, ql_97, ql_99, ql_100, ql_120, ql_122, ql_127, ql_128, ql_200, ql_255, ql_256, ql_300, ql_420, ql_428, ql_640, ql_900, ql_896, ql_999, ql_1712, ql_1716, ql_1734, ql_1772, ql_1800, ql_1805, ql_1811, ql_1822, ql_2132, ql_2140, ql_3229, ql_9999, ql_11453, ql_65536, ql_100000, ql_1000000, nI_add, pk_mul, q_and, q_or, q_xor, nI_clamp, q_in, q_neg1, q_nno, q_nno', q_annN, q_sh1, q_tbN, nI_leI, nI_ltI, nI_eq, pk_sub, ↓reduceIte, if_pos, if_neg, q_zlt, q_bs]) (by omega) (q_fu (by omega)) ⟨fun _ _ _ => rfl, hr, fun m hm hq => by have := q_rc_g hq; omega⟩
  refine ⟨I', ⟨p1, p2.1, fun l' m hl' hm hq => ?_⟩, e⟩
  by_cases y : l' = l + 1
  · subst y; exact p3 m hm hq
  · exact p2.2 l' m (by omega) hm hq
theorem x2_turns20 {C : q_N} {I : z_I} {L : z_L} (h : q_sx C 3 I L) (ok : q_ok C) {n l : Nat} (hn : n ≤ 4) (hl : l + 1 ≤ n) (hr : q_rd C false n (l + 1) I) {k88 : z_I → Option z_I} : ∃ I', ((∀ d j, d ≠ 53 → I' d j = I d j) ∧ q_rd C false n (l + 2) I') ∧ g_X2_lookByTurns_20 (nI n) (nI (l + 1)) k88 z_fuel (nI (C 0 6)) I = k88 I' := by
  obtain ⟨o0, o1, o2, o3, -⟩ := id ok
  have h27 := q_p27 o2
  have hM := ok.2.2.2.2.2.2.1
  obtain ⟨I', ⟨p1, p2, p3⟩, e⟩ := q_lpC (G := fun f k (a : z_I) => g_X2_lookByTurns_20 (nI n) (nI (l + 1)) k88 f (nI k) a) (K := k88) (N := 2 ^ C 0 2) (k0 := C 0 6) (n := z_fuel) (a := I) (fun k a => (∀ d j, d ≠ 53 → a d j = I d j) ∧ q_rd C false n (l + 1) a ∧ ∀ m, m < k → q_rc C m (n - (l + 1)) → a 53 ((l + 1) * 128 + m) = q_zi (q_U C false (l + 1) m)) (fun f k a hk0 hk hp => by
    obtain ⟨p1, p2, p3⟩ := hp
    have ha := h.go (I' := a) (L' := L) (fun d j a1 b1 => p1 d j (by omega)) (fun _ _ _ _ => rfl)
    have hf := ha.f.2.2.1
    obtain ⟨m1, m2⟩ := x2_more ha ok (m := k) (d := n - (l + 1)) (by omega) (by omega)
    by_cases z : q_rc C k (n - (l + 1))
    · have m1 := m1 z
      have hb := x2_one ha ok hn hl hk p2 z
      have hv := p2.2 l k (by omega) hk (q_rc_w z (by omega))
      rw [if_neg (by decide), show q_zi (q_Us false) = q_no from rfl, ← q_zi_neg] at hb
      refine ⟨z2 a 53 ((l + 1) * 128 + k) (q_zi (q_U C false (l + 1) k)), ⟨fun d j d1 => ?_, x2_put p2 o2 (by omega), fun m hm hq => ?_⟩, ?_⟩
      · rw [q_zo (Or.inl d1)]; exact p1 d j d1
      · by_cases y : m = k
        · subst y; rw [q_zs]
        · rw [q_zo (by omega)]; exact p3 m (by omega) hq
      · show g_X2_lookByTurns_20 (nI n) (nI (l + 1)) k88 (f + 1) (nI k) a = _
        simp (disch := omega) only [g_X2_lookByTurns_20, f_X2_indexOf, hf, ql_0, ql_1, ql_2, ql_3, ql_4, ql_5, ql_6, ql_7, ql_8, ql_9, ql_10, ql_11, ql_12, ql_13, ql_14, ql_15, ql_16, ql_17, ql_18, ql_19, ql_20, ql_21, ql_22, ql_23, ql_24, ql_27, ql_30, ql_31, ql_32, ql_40, ql_48, ql_51, ql_52, ql_57, ql_59, ql_60, ql_61, ql_62, ql_76, ql_84, ql_91, ql_97, ql_99, ql_100, ql_120, ql_122, ql_127, ql_128, ql_200, ql_255, ql_256, ql_300, ql_420, ql_428, ql_640, ql_900, ql_896, ql_999, ql_1712, ql_1716, ql_1734, ql_1772, ql_1800, ql_1805, ql_1811, ql_1822, ql_2132, ql_2140, ql_3229, ql_9999, ql_11453, ql_65536, ql_100000, ql_1000000, nI_add, pk_mul, q_and, q_or, q_xor, nI_clamp, q_in, q_neg1, q_nno, q_nno', q_annN, q_sh1, q_tbN, nI_leI, nI_ltI, nI_eq, pk_sub, ↓reduceIte, if_pos, if_neg, q_zlt, q_bs, m1, Nat.add_sub_cancel, hv, hb]
    · have m2 := m2 z
      refine ⟨a, ⟨p1, p2, fun m hm hq => ?_⟩, ?_⟩
      · by_cases y : m = k
        · subst y; exact absurd hq z
        · exact p3 m (by omega) hq
      · show g_X2_lookByTurns_20 (nI n) (nI (l + 1)) k88 (f + 1) (nI k) a = _
        simp (disch := omega) only [g_X2_lookByTurns_20, hf, ql_0, ql_1, ql_2, ql_3, ql_4, ql_5, ql_6, ql_7, ql_8, ql_9, ql_10, ql_11, ql_12, ql_13, ql_14, ql_15, ql_16, ql_17, ql_18, ql_19, ql_20, ql_21, ql_22, ql_23, ql_24, ql_27, ql_30, ql_31, ql_32, ql_40, ql_48, ql_51, ql_52, ql_57, ql_59, ql_60, ql_61, ql_62, ql_76, ql_84, ql_91, ql_97, ql_99, ql_100, ql_120, ql_122, ql_127, ql_128, ql_200, ql_255, ql_256, ql_300, ql_420, ql_428, ql_640, ql_900, ql_896, ql_999, ql_1712, ql_1716, ql_1734, ql_1772, ql_1800, ql_1805, ql_1811, ql_1822, ql_2132, ql_2140, ql_3229, ql_9999, ql_11453, ql_65536, ql_100000, ql_1000000, nI_add, pk_mul, q_and, q_or, q_xor, nI_clamp, q_in, q_neg1, q_nno, q_nno', q_annN, q_sh1, q_tbN, nI_leI, nI_ltI, nI_eq, pk_sub, ↓reduceIte, if_pos, if_neg, q_zlt, q_bs, m2, Bool.false_eq_true]) (fun f a hp => by
    have ha := h.go (I' := a) (L' := L) (fun d j a1 b1 => hp.1 d j (by omega)) (fun _ _ _ _ => rfl)
    have hf := ha.f.2.2.1
    show g_X2_lookByTurns_20 (nI n) (nI (l + 1)) k88 (f + 1) (nI (2 ^ C 0 2)) a = _
    simp (disch := omega) only [g_X2_lookByTurns_20, hf, ql_0, ql_1, ql_2, ql_3, ql_4, ql_5, ql_6, ql_7, ql_8, ql_9, ql_10, ql_11, ql_12, ql_13, ql_14, ql_15, ql_16, ql_17, ql_18, ql_19, ql_20, ql_21, ql_22, ql_23, ql_24, ql_27, ql_30, ql_31, ql_32, ql_40, ql_48, ql_51, ql_52, ql_57, ql_59, ql_60, ql_61, ql_62, ql_76, ql_84, ql_91, ql_97, ql_99, ql_100, ql_120, ql_122, ql_127, ql_128, ql_200, ql_255, ql_256, ql_300, ql_420, ql_428, ql_640, ql_900, ql_896, ql_999, ql_1712, ql_1716, ql_1734, ql_1772, ql_1800, ql_1805, ql_1811, ql_1822, ql_2132, ql_2140, ql_3229, ql_9999, ql_11453, ql_65536, ql_100000, ql_1000000, nI_add, pk_mul, q_and, q_or, q_xor, nI_clamp, q_in, q_neg1, q_nno, q_nno', q_annN, q_sh1, q_tbN, nI_leI, nI_ltI, nI_eq, pk_sub, ↓reduceIte, if_pos, if_neg, q_zlt, q_bs]) (by omega) (q_fu (by omega)) ⟨fun _ _ _ => rfl, hr, fun m hm hq => by have := q_rc_g hq; omega⟩
  refine ⟨I', ⟨p1, p2.1, fun l' m hl' hm hq => ?_⟩, e⟩
  by_cases y : l' = l + 1
  · subst y; exact p3 m hm hq
  · exact p2.2 l' m (by omega) hm hq
theorem x2_ry {C : q_N} {b : Bool} {n : Nat} {I : z_I} (h : q_ry C n (2 ^ C 0 2) I) : q_rd C b n 1 I := ⟨fun m hm hq c hc => (h m hm hq).2 c hc, fun l m hl hm hq => by
  have : l = 0 := by omega
  subst this
  rw [Nat.zero_mul, Nat.zero_add, (h m hm hq).1]
  rfl⟩
theorem x2_alone {C : q_N} {I : z_I} {L : z_L} (h : q_sx C 3 I L) (ok : q_ok C) {n : Nat} (hn : n ≤ 4) : ∃ I', ((∀ d j, d ≠ 52 → d ≠ 53 → I' d j = I d j) ∧ q_rd C true n (n + 1) I') ∧ f_X2_lookAlone I (nI n) = some I' := by
  obtain ⟨I0, ⟨f0, r0⟩, e0⟩ := x2_prepare h ok hn
  have h0 := h.go (I' := I0) (L' := L) (fun d j a1 b1 => f0 d j (by omega) (by omega)) (fun _ _ _ _ => rfl)
  obtain ⟨I', ⟨f1, r1⟩, e⟩ := q_lpC (G := fun f k (a : z_I) => g_X2_lookAlone_7 (nI n) f (nI k) a) (K := fun a => some a) (N := n + 1) (k0 := 1) (n := z_fuel) (a := I0) (fun k a => (∀ d j, d ≠ 53 → a d j = I0 d j) ∧ q_rd C true n k a) (fun f k a hk0 hk hp => by
    obtain ⟨l, rfl⟩ : ∃ l, k = l + 1 := ⟨k - 1, by omega⟩
    have ha := h0.go (I' := a) (L' := L) (fun d j a1 b1 => hp.1 d j (by omega)) (fun _ _ _ _ => rfl)
    obtain ⟨a', ⟨q1, q2⟩, e⟩ := x2_alone20 ha ok hn (l := l) (by omega) hp.2 (k72 := fun I_7 => g_X2_lookAlone_7 (nI n) f (nI (l + 1 + 1)) I_7)
    refine ⟨a', ⟨fun d j d1 => by rw [q1 d j d1]; exact hp.1 d j d1, q2⟩, ?_⟩
    have hM := ha.f.2.2.2.2.2.2
    show g_X2_lookAlone_7 (nI n) (f + 1) (nI (l + 1)) a = _
    simp (disch := omega) only [g_X2_lookAlone_7, ql_0, ql_1, ql_2, ql_3, ql_4, ql_5, ql_6, ql_7, ql_8, ql_9, ql_10, ql_11, ql_12, ql_13, ql_14, ql_15, ql_16, ql_17, ql_18, ql_19, ql_20, ql_21, ql_22, ql_23, ql_24, ql_27, ql_30, ql_31, ql_32, ql_40, ql_48, ql_51, ql_52, ql_57, ql_59, ql_60, ql_61, ql_62, ql_76, ql_84, ql_91, ql_97, ql_99, ql_100, ql_120, ql_122, ql_127, ql_128, ql_200, ql_255, ql_256, ql_300, ql_420, ql_428, ql_640, ql_900, ql_896, ql_999, ql_1712, ql_1716, ql_1734, ql_1772, ql_1800, ql_1805, ql_1811, ql_1822, ql_2132, ql_2140, ql_3229, ql_9999, ql_11453, ql_65536, ql_100000, ql_1000000, nI_add, pk_mul, q_and, q_or, q_xor, nI_clamp, q_in, q_neg1, q_nno, q_nno', q_annN, q_sh1, q_tbN, nI_leI, nI_ltI, nI_eq, pk_sub, ↓reduceIte, if_pos, if_neg, q_zlt, q_bs, hM]
    exact e) (fun f a hp => by
    show g_X2_lookAlone_7 (nI n) (f + 1) (nI (n + 1)) a = _
    simp (disch := omega) only [g_X2_lookAlone_7, ql_0, ql_1, ql_2, ql_3, ql_4, ql_5, ql_6, ql_7, ql_8, ql_9, ql_10, ql_11, ql_12, ql_13, ql_14, ql_15, ql_16, ql_17, ql_18, ql_19, ql_20, ql_21, ql_22, ql_23, ql_24, ql_27, ql_30, ql_31, ql_32, ql_40, ql_48, ql_51, ql_52, ql_57, ql_59, ql_60, ql_61, ql_62, ql_76, ql_84, ql_91, ql_97, ql_99, ql_100, ql_120, ql_122, ql_127, ql_128, ql_200, ql_255, ql_256, ql_300, ql_420, ql_428, ql_640, ql_900, ql_896, ql_999, ql_1712, ql_1716, ql_1734, ql_1772, ql_1800, ql_1805, ql_1811, ql_1822, ql_2132, ql_2140, ql_3229, ql_9999, ql_11453, ql_65536, ql_100000, ql_1000000, nI_add, pk_mul, q_and, q_or, q_xor, nI_clamp, q_in, q_neg1, q_nno, q_nno', q_annN, q_sh1, q_tbN, nI_leI, nI_ltI, nI_eq, pk_sub, ↓reduceIte, if_pos, if_neg, q_zlt, q_bs]) (by omega) (q_fu (by omega)) ⟨fun _ _ _ => rfl, x2_ry r0⟩
  refine ⟨I', ⟨fun d j d1 d2 => by rw [f1 d j d2]; exact f0 d j d1 d2, r1⟩, ?_⟩
  unfold f_X2_lookAlone
  rw [e0, q_bs]
  exact e
theorem x2_turns {C : q_N} {I : z_I} {L : z_L} (h : q_sx C 3 I L) (ok : q_ok C) {n : Nat} (hn : n ≤ 4) : ∃ I', ((∀ d j, d ≠ 52 → d ≠ 53 → I' d j = I d j) ∧ q_rd C false n (n + 1) I') ∧ f_X2_lookByTurns I (nI n) = some I' := by
  obtain ⟨I0, ⟨f0, r0⟩, e0⟩ := x2_prepare h ok hn
  have h0 := h.go (I' := I0) (L' := L) (fun d j a1 b1 => f0 d j (by omega) (by omega)) (fun _ _ _ _ => rfl)
  obtain ⟨I', ⟨f1, r1⟩, e⟩ := q_lpC (G := fun f k (a : z_I) => g_X2_lookByTurns_7 (nI n) f (nI k) a) (K := fun a => some a) (N := n + 1) (k0 := 1) (n := z_fuel) (a := I0) (fun k a => (∀ d j, d ≠ 53 → a d j = I0 d j) ∧ q_rd C false n k a) (fun f k a hk0 hk hp => by
    obtain ⟨l, rfl⟩ : ∃ l, k = l + 1 := ⟨k - 1, by omega⟩
    have ha := h0.go (I' := a) (L' := L) (fun d j a1 b1 => hp.1 d j (by omega)) (fun _ _ _ _ => rfl)
    obtain ⟨a', ⟨q1, q2⟩, e⟩ := x2_turns20 ha ok hn (l := l) (by omega) hp.2 (k88 := fun I_9 => g_X2_lookByTurns_7 (nI n) f (nI (l + 1 + 1)) I_9)
    refine ⟨a', ⟨fun d j d1 => by rw [q1 d j d1]; exact hp.1 d j d1, q2⟩, ?_⟩
    have hM := ha.f.2.2.2.2.2.2
    show g_X2_lookByTurns_7 (nI n) (f + 1) (nI (l + 1)) a = _
    simp (disch := omega) only [g_X2_lookByTurns_7, ql_0, ql_1, ql_2, ql_3, ql_4, ql_5, ql_6, ql_7, ql_8, ql_9, ql_10, ql_11, ql_12, ql_13, ql_14, ql_15, ql_16, ql_17, ql_18, ql_19, ql_20, ql_21, ql_22, ql_23, ql_24, ql_27, ql_30, ql_31, ql_32, ql_40, ql_48, ql_51, ql_52, ql_57, ql_59, ql_60, ql_61, ql_62, ql_76, ql_84, ql_91, ql_97, ql_99, ql_100, ql_120, ql_122, ql_127, ql_128, ql_200, ql_255, ql_256, ql_300, ql_420, ql_428, ql_640, ql_900, ql_896, ql_999, ql_1712, ql_1716, ql_1734, ql_1772, ql_1800, ql_1805, ql_1811, ql_1822, ql_2132, ql_2140, ql_3229, ql_9999, ql_11453, ql_65536, ql_100000, ql_1000000, nI_add, pk_mul, q_and, q_or, q_xor, nI_clamp, q_in, q_neg1, q_nno, q_nno', q_annN, q_sh1, q_tbN, nI_leI, nI_ltI, nI_eq, pk_sub, ↓reduceIte, if_pos, if_neg, q_zlt, q_bs, hM]
    exact e) (fun f a hp => by
    show g_X2_lookByTurns_7 (nI n) (f + 1) (nI (n + 1)) a = _
    simp (disch := omega) only [g_X2_lookByTurns_7, ql_0, ql_1, ql_2, ql_3, ql_4, ql_5, ql_6, ql_7, ql_8, ql_9, ql_10, ql_11, ql_12, ql_13, ql_14, ql_15, ql_16, ql_17, ql_18, ql_19, ql_20, ql_21, ql_22, ql_23, ql_24, ql_27, ql_30, ql_31, ql_32, ql_40, ql_48, ql_51, ql_52, ql_57, ql_59, ql_60, ql_61, ql_62, ql_76, ql_84, ql_91, ql_97, ql_99, ql_100, ql_120, ql_122, ql_127, ql_128, ql_200, ql_255, ql_256, ql_300, ql_420, ql_428, ql_640, ql_900, ql_896, ql_999, ql_1712, ql_1716, ql_1734, ql_1772, ql_1800, ql_1805, ql_1811, ql_1822, ql_2132, ql_2140, ql_3229, ql_9999, ql_11453, ql_65536, ql_100000, ql_1000000, nI_add, pk_mul, q_and, q_or, q_xor, nI_clamp, q_in, q_neg1, q_nno, q_nno', q_annN, q_sh1, q_tbN, nI_leI, nI_ltI, nI_eq, pk_sub, ↓reduceIte, if_pos, if_neg, q_zlt, q_bs]) (by omega) (q_fu (by omega)) ⟨fun _ _ _ => rfl, x2_ry r0⟩
  refine ⟨I', ⟨fun d j d1 d2 => by rw [f1 d j d2]; exact f0 d j d1 d2, r1⟩, ?_⟩
  unfold f_X2_lookByTurns
  rw [e0, q_bs]
  exact e
/-- the first of some -/
def q_find (p : Nat → Bool) : Nat → Option Nat
  | 0 => none
  | n + 1 => match q_find p n with
    | some c => some c
    | none => if p n = true then some n else none
theorem x2_first {C : q_N} {I : z_I} {L : z_L} (h : q_sx C 3 I L) (ok : q_ok C) {b : Bool} {n l m : Nat} {x : Int} (hn : n ≤ 4) (hl : l + 1 ≤ n) (hm : m < 2 ^ C 0 2) (hr : q_rd C b n (n + 1) I) (z : q_rc C m (n - (l + 1))) (hx : -1000 ≤ x ∧ x ≤ 1000) : f_X2_firstFor I (q_zi x) (nI (l + 1)) (nI m) (q_zi (q_Us b)) = some (q_eO (q_find (fun c => !m.testBit c && decide (q_Uw C b (q_U C b l) m c = x)) (C 0 2))) := by
  obtain ⟨o0, o1, o2, o3, -⟩ := id ok
  have hm7 := q_p7 o2 hm
  have hf := h.f.2.2.1
  have hUb := q_U_b ok (b := b) l
  have hc : (l : Int) ≤ 3 := by omega
  have key : ∀ j k f, k + j = C 0 2 → j < f → q_find (fun c => !m.testBit c && decide (q_Uw C b (q_U C b l) m c = x)) k = none → g_X2_firstFor_3 (q_zi x) (nI (l + 1)) (nI m) (q_zi (q_Us b)) I f (nI k) = some (q_eO (q_find (fun c => !m.testBit c && decide (q_Uw C b (q_U C b l) m c = x)) (C 0 2))) := by
    intro j
    induction j with
    | zero =>
      intro k f hk hf' hn'
      have hk : k = C 0 2 := hk
      subst hk
      rw [hn']
      cases f with
      | zero => omega
      | succ f =>
        simp (disch := omega) only [g_X2_firstFor_3, hf, ql_0, ql_1, ql_2, ql_3, ql_4, ql_5, ql_6, ql_7, ql_8, ql_9, ql_10, ql_11, ql_12, ql_13, ql_14, ql_15, ql_16, ql_17, ql_18, ql_19, ql_20, ql_21, ql_22, ql_23, ql_24, ql_27, ql_30, ql_31, ql_32, ql_40, ql_48, ql_51, ql_52, ql_57, ql_59, ql_60, ql_61, ql_62, ql_76, ql_84, ql_91, ql_97, ql_99, ql_100, ql_120, ql_122, ql_127, ql_128, ql_200, ql_255, ql_256, ql_300, ql_420, ql_428, ql_640, ql_900, ql_896, ql_999, ql_1712, ql_1716, ql_1734, ql_1772, ql_1800, ql_1805, ql_1811, ql_1822, ql_2132, ql_2140, ql_3229, ql_9999, ql_11453, ql_65536, ql_100000, ql_1000000, nI_add, pk_mul, q_and, q_or, q_xor, nI_clamp, q_in, q_neg1, q_nno, q_nno', q_annN, q_sh1, q_tbN, nI_leI, nI_ltI, nI_eq, pk_sub, ↓reduceIte, if_pos, if_neg, q_zlt, q_bs]
        rfl
    | succ j ih =>
      intro k f hk hf' hn'
      cases f with
      | zero => omega
      | succ f =>
        have hk7 : k < C 0 2 := by omega
        have hs : q_find (fun c => !m.testBit c && decide (q_Uw C b (q_U C b l) m c = x)) (k + 1) = if (!m.testBit k && decide (q_Uw C b (q_U C b l) m k = x)) = true then some k else none := by rw [q_find, hn']
        have hfin : ∀ i, k + 1 ≤ i → q_find (fun c => !m.testBit c && decide (q_Uw C b (q_U C b l) m c = x)) (k + 1) = some k → q_find (fun c => !m.testBit c && decide (q_Uw C b (q_U C b l) m c = x)) i = some k := by
          intro i hi h0
          induction i with
          | zero => omega
          | succ i ih2 =>
            by_cases y : k + 1 = i + 1
            · rw [← y]; exact h0
            · rw [q_find, ih2 (by omega)]
        cases hb : m.testBit k with
        | true =>
          rw [hb] at hs
          have e := ih (k + 1) f (by omega) (by omega) hs
          rw [← e]
          simp (disch := omega) only [g_X2_firstFor_3, hf, ql_0, ql_1, ql_2, ql_3, ql_4, ql_5, ql_6, ql_7, ql_8, ql_9, ql_10, ql_11, ql_12, ql_13, ql_14, ql_15, ql_16, ql_17, ql_18, ql_19, ql_20, ql_21, ql_22, ql_23, ql_24, ql_27, ql_30, ql_31, ql_32, ql_40, ql_48, ql_51, ql_52, ql_57, ql_59, ql_60, ql_61, ql_62, ql_76, ql_84, ql_91, ql_97, ql_99, ql_100, ql_120, ql_122, ql_127, ql_128, ql_200, ql_255, ql_256, ql_300, ql_420, ql_428, ql_640, ql_900, ql_896, ql_999, ql_1712, ql_1716, ql_1734, ql_1772, ql_1800, ql_1805, ql_1811, ql_1822, ql_2132, ql_2140, ql_3229, ql_9999, ql_11453, ql_65536, ql_100000, ql_1000000, nI_add, pk_mul, q_and, q_or, q_xor, nI_clamp, q_in, q_neg1, q_nno, q_nno', q_annN, q_sh1, q_tbN, nI_leI, nI_ltI, nI_eq, pk_sub, ↓reduceIte, if_pos, if_neg, q_zlt, q_bs, hb, reduceCtorEq]
        | false =>
          have hq : q_rc C (m ||| 2 ^ k) (n - l) := q_rc_w (q_rc_s ok hm z hk7 hb) (by omega)
          have ew := x2_worth (I := I) (s := q_Us b) (y := (q_yd C m k : Int)) (l := l) (by omega) hm7 (by omega) (q_or7 o2 hm hk7).2 (hr.2 l _ (by omega) (q_or7 o2 hm hk7).1 hq) (by rw [hr.1 m hm (q_rc_w z (by omega)) k hk7, q_zi_n])
          have b2 := q_Uw_b ok (b := b) (m := m) (c := k) (B := 900) (u := q_U C b l) (fun s => by have := hUb s; omega)
          have ee := q_zi_eq (a := q_Uw C b (q_U C b l) m k) (b := x) (by omega) (by omega) (by omega) (by omega)
          have ew : f_X2_worthOf I (nI k) (nI (l + 1)) (nI m) (q_zi (q_Us b)) = some (q_zi (q_Uw C b (q_U C b l) m k)) := ew
          by_cases y : q_Uw C b (q_U C b l) m k = x
          · rw [hb, if_pos (by simp [y])] at hs
            rw [hfin (C 0 2) (by omega) hs]
            simp (disch := omega) only [g_X2_firstFor_3, hf, ql_0, ql_1, ql_2, ql_3, ql_4, ql_5, ql_6, ql_7, ql_8, ql_9, ql_10, ql_11, ql_12, ql_13, ql_14, ql_15, ql_16, ql_17, ql_18, ql_19, ql_20, ql_21, ql_22, ql_23, ql_24, ql_27, ql_30, ql_31, ql_32, ql_40, ql_48, ql_51, ql_52, ql_57, ql_59, ql_60, ql_61, ql_62, ql_76, ql_84, ql_91, ql_97, ql_99, ql_100, ql_120, ql_122, ql_127, ql_128, ql_200, ql_255, ql_256, ql_300, ql_420, ql_428, ql_640, ql_900, ql_896, ql_999, ql_1712, ql_1716, ql_1734, ql_1772, ql_1800, ql_1805, ql_1811, ql_1822, ql_2132, ql_2140, ql_3229, ql_9999, ql_11453, ql_65536, ql_100000, ql_1000000, nI_add, pk_mul, q_and, q_or, q_xor, nI_clamp, q_in, q_neg1, q_nno, q_nno', q_annN, q_sh1, q_tbN, nI_leI, nI_ltI, nI_eq, pk_sub, ↓reduceIte, if_pos, if_neg, q_zlt, q_bs, hb, ew, ee, y]
            rfl
          · rw [hb, if_neg (by simp [y])] at hs
            have e := ih (k + 1) f (by omega) (by omega) hs
            rw [← e]
            simp (disch := omega) only [g_X2_firstFor_3, hf, ql_0, ql_1, ql_2, ql_3, ql_4, ql_5, ql_6, ql_7, ql_8, ql_9, ql_10, ql_11, ql_12, ql_13, ql_14, ql_15, ql_16, ql_17, ql_18, ql_19, ql_20, ql_21, ql_22, ql_23, ql_24, ql_27, ql_30, ql_31, ql_32, ql_40, ql_48, ql_51, ql_52, ql_57, ql_59, ql_60, ql_61, ql_62, ql_76, ql_84, ql_91, ql_97, ql_99, ql_100, ql_120, ql_122, ql_127, ql_128, ql_200, ql_255, ql_256, ql_300, ql_420, ql_428, ql_640, ql_900, ql_896, ql_999, ql_1712, ql_1716, ql_1734, ql_1772, ql_1800, ql_1805, ql_1811, ql_1822, ql_2132, ql_2140, ql_3229, ql_9999, ql_11453, ql_65536, ql_100000, ql_1000000, nI_add, pk_mul, q_and, q_or, q_xor, nI_clamp, q_in, q_neg1, q_nno, q_nno', q_annN, q_sh1, q_tbN, nI_leI, nI_ltI, nI_eq, pk_sub, ↓reduceIte, if_pos, if_neg, q_zlt, q_bs, hb, ew, ee, y]
  unfold f_X2_firstFor
  exact key (C 0 2) 0 z_fuel (by omega) (q_fu (by omega)) rfl
