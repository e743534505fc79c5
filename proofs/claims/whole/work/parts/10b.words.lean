/-! which key word, which name -/
def q_jk : Nat → Nat
  | 0 => 0
  | 1 => 1
  | 2 => 2
  | 3 => 2
  | 4 => 2
  | 5 => 3
  | 6 => 4
  | _ => 0
theorem m_iw25 {J : z_I} {v2 v3 : Int32} {k42 : Int32 → Option Int32} {r : Nat} (hr : r < 23) : g_X11_inWords_25 v2 v3 J k42 z_fuel (nI (q_kS r)) = k42 (nI (q_kS r + q_kL r)) := by
  obtain ⟨-, h2, h3, -, h5⟩ := q_kSL r hr
  refine q_lp (G := fun n k (_ : Unit) => g_X11_inWords_25 v2 v3 J k42 n (nI k)) (N := q_kS r + q_kL r) (k0 := q_kS r) (fun _ => ()) (fun n k hk0 hk => ?_) (fun n => ?_) (by omega) (q_fu (by omega))
  · show g_X11_inWords_25 v2 v3 J k42 (n + 1) (nI k) = _
    have hl := of_decide_eq_true (q_kLo r hr (k - q_kS r) (by omega))
    rw [show q_kS r + (k - q_kS r) = k by omega] at hl
    have hc := q_ksC k (by omega)
    have hne : ¬ q_ks k = 32 := by omega
    have hb := q_ks_b k (by omega)
    simp (disch := omega) only [g_X11_inWords_25, ql_0, ql_1, ql_2, ql_3, ql_4, ql_5, ql_6, ql_7, ql_8, ql_9, ql_10, ql_11, ql_12, ql_13, ql_14, ql_15, ql_16, ql_17, ql_18, ql_19, ql_20, ql_21, ql_22, ql_23, ql_24, ql_27, ql_30, ql_31, ql_32, ql_40, ql_48, ql_51, ql_52, ql_57, ql_59, ql_60, ql_61, ql_62, ql_76, ql_84, ql_91, ql_97, ql_99, ql_100, ql_120, ql_122, ql_127, ql_128, ql_200, ql_255, ql_256, ql_300, ql_420, ql_428, ql_640, ql_900, ql_896, ql_999, ql_1712, ql_1716, ql_1734, ql_1772, ql_1800, ql_1805, ql_1811, ql_1822, ql_2132, ql_2140, ql_3229, ql_9999, ql_11453, ql_65536, ql_100000, ql_1000000, nI_add, pk_mul, q_and, q_or, q_xor, nI_clamp, q_in, q_neg1, q_nno, q_nno', q_annN, q_sh1, q_tbN, nI_leI, nI_ltI, nI_eq, pk_sub, ↓reduceIte, if_pos, if_neg, q_zlt, q_bs, hc, hne]
  · show g_X11_inWords_25 v2 v3 J k42 (n + 1) (nI (q_kS r + q_kL r)) = _
    have hc := q_ksC _ h2
    rw [h5] at hc
    simp (disch := omega) only [g_X11_inWords_25, ql_0, ql_1, ql_2, ql_3, ql_4, ql_5, ql_6, ql_7, ql_8, ql_9, ql_10, ql_11, ql_12, ql_13, ql_14, ql_15, ql_16, ql_17, ql_18, ql_19, ql_20, ql_21, ql_22, ql_23, ql_24, ql_27, ql_30, ql_31, ql_32, ql_40, ql_48, ql_51, ql_52, ql_57, ql_59, ql_60, ql_61, ql_62, ql_76, ql_84, ql_91, ql_97, ql_99, ql_100, ql_120, ql_122, ql_127, ql_128, ql_200, ql_255, ql_256, ql_300, ql_420, ql_428, ql_640, ql_900, ql_896, ql_999, ql_1712, ql_1716, ql_1734, ql_1772, ql_1800, ql_1805, ql_1811, ql_1822, ql_2132, ql_2140, ql_3229, ql_9999, ql_11453, ql_65536, ql_100000, ql_1000000, nI_add, pk_mul, q_and, q_or, q_xor, nI_clamp, q_in, q_neg1, q_nno, q_nno', q_annN, q_sh1, q_tbN, nI_leI, nI_ltI, nI_eq, pk_sub, ↓reduceIte, if_pos, if_neg, q_zlt, q_bs, hc]
/-- a word that is held against a key word -/
theorem m_iw0 {J : z_I} {v2 v3 v4 v6 : Int32} {k115 : Int32 → Option Int32} : g_X11_inWords_68 v2 v3 v4 J k115 z_fuel (nI 0) v6 = k115 (nI 0) := by
  obtain ⟨f, hf⟩ : ∃ f, z_fuel = f + 1 := ⟨999999, rfl⟩
  rw [hf, g_X11_inWords_68]
  by_cases y : v4 ≤ v6
  · rw [if_pos y]
  · rw [if_neg y, if_pos (show nI 0 = 0 from rfl)]
theorem m_iw1 {n : Nat} {B : Nat → Nat} {I J : z_I} (h : q_xt n B I J) {f e r : Nat} (j13 : J 0 13 = nI f) (he : e ≤ n) (hfe : f ≤ e) (hr : r < 23) (hl : e - f = q_kL r) {v2 : Int32} {k115 : Int32 → Option Int32} : ((∀ j, j < q_kL r → B (f + j) = q_ks (q_kS r + j)) → g_X11_inWords_68 v2 (nI (q_kS r)) (nI (q_kS r + q_kL r)) J k115 z_fuel (nI 1) (nI (q_kS r)) = k115 (nI 1)) ∧ (¬ (∀ j, j < q_kL r → B (f + j) = q_ks (q_kS r + j)) → g_X11_inWords_68 v2 (nI (q_kS r)) (nI (q_kS r + q_kL r)) J k115 z_fuel (nI 1) (nI (q_kS r)) = k115 (nI 0)) := by
  obtain ⟨-, h2, h3, -, h5⟩ := q_kSL r hr
  have h900 := h.1
  have step : ∀ k fu, k < q_kL r → g_X11_inWords_68 v2 (nI (q_kS r)) (nI (q_kS r + q_kL r)) J k115 (fu + 1) (nI 1) (nI (q_kS r + k)) = g_X11_inWords_68 v2 (nI (q_kS r)) (nI (q_kS r + q_kL r)) J k115 fu (nI (if B (f + k) = q_ks (q_kS r + k) then 1 else 0)) (nI (q_kS r + (k + 1))) := by
    intro k fu hk
    have hb := h.by (p := f + k) (by omega)
    have hB := (h.2.2.2 (f + k) (by omega)).1
    have hc := q_ksC (q_kS r + k) (by omega)
    have hb2 := q_ks_b (q_kS r + k) (by omega)
    have e1 : f + (q_kS r + k) - q_kS r = f + k := by omega
    by_cases y : B (f + k) = q_ks (q_kS r + k)
    · rw [if_pos y]
      have y' : q_ks (q_kS r + k) = B (f + k) := y.symm
      simp (disch := omega) only [g_X11_inWords_68, ql_0, ql_1, ql_2, ql_3, ql_4, ql_5, ql_6, ql_7, ql_8, ql_9, ql_10, ql_11, ql_12, ql_13, ql_14, ql_15, ql_16, ql_17, ql_18, ql_19, ql_20, ql_21, ql_22, ql_23, ql_24, ql_27, ql_30, ql_31, ql_32, ql_40, ql_48, ql_51, ql_52, ql_57, ql_59, ql_60, ql_61, ql_62, ql_76, ql_84, ql_91, ql_97, ql_99, ql_100, ql_120, ql_122, ql_127, ql_128, ql_200, ql_255, ql_256, ql_300, ql_420, ql_428, ql_640, ql_900, ql_896, ql_999, ql_1712, ql_1716, ql_1734, ql_1772, ql_1800, ql_1805, ql_1811, ql_1822, ql_2132, ql_2140, ql_3229, ql_9999, ql_11453, ql_65536, ql_100000, ql_1000000, nI_add, pk_mul, q_and, q_or, q_xor, nI_clamp, q_in, q_neg1, q_nno, q_nno', q_annN, q_sh1, q_tbN, nI_leI, nI_ltI, nI_eq, pk_sub, ↓reduceIte, if_pos, if_neg, q_zlt, q_bs, j13, e1, hb, hc, y', Nat.add_assoc]
    · rw [if_neg y]
      have y' : ¬ q_ks (q_kS r + k) = B (f + k) := fun w => y w.symm
      simp (disch := omega) only [g_X11_inWords_68, ql_0, ql_1, ql_2, ql_3, ql_4, ql_5, ql_6, ql_7, ql_8, ql_9, ql_10, ql_11, ql_12, ql_13, ql_14, ql_15, ql_16, ql_17, ql_18, ql_19, ql_20, ql_21, ql_22, ql_23, ql_24, ql_27, ql_30, ql_31, ql_32, ql_40, ql_48, ql_51, ql_52, ql_57, ql_59, ql_60, ql_61, ql_62, ql_76, ql_84, ql_91, ql_97, ql_99, ql_100, ql_120, ql_122, ql_127, ql_128, ql_200, ql_255, ql_256, ql_300, ql_420, ql_428, ql_640, ql_900, ql_896, ql_999, ql_1712, ql_1716, ql_1734, ql_1772, ql_1800, ql_1805, ql_1811, ql_1822, ql_2132, ql_2140, ql_3229, ql_9999, ql_11453, ql_65536, ql_100000, ql_1000000, nI_add, pk_mul, q_and, q_or, q_xor, nI_clamp, q_in, q_neg1, q_nno, q_nno', q_annN, q_sh1, q_tbN, nI_leI, nI_ltI, nI_eq, pk_sub, ↓reduceIte, if_pos, if_neg, q_zlt, q_bs, j13, e1, hb, hc, y', Nat.add_assoc]
  constructor
  · intro ha
    have key := q_lp (G := fun n k (_ : Unit) => g_X11_inWords_68 v2 (nI (q_kS r)) (nI (q_kS r + q_kL r)) J k115 n (nI 1) (nI (q_kS r + k))) (N := q_kL r) (k0 := 0) (n := z_fuel) (r := k115 (nI 1)) (fun _ => ()) (fun n k _ hk => by
      show g_X11_inWords_68 v2 (nI (q_kS r)) (nI (q_kS r + q_kL r)) J k115 (n + 1) (nI 1) (nI (q_kS r + k)) = _
      rw [step k n hk, if_pos (ha k hk)]) (fun n => by
      show g_X11_inWords_68 v2 (nI (q_kS r)) (nI (q_kS r + q_kL r)) J k115 (n + 1) (nI 1) (nI (q_kS r + q_kL r)) = _
      rw [g_X11_inWords_68, if_pos (nI_le (Nat.le_refl _) (by omega))]) (Nat.zero_le _) (q_fu (by omega))
    exact key
  · intro ha
    have hex : ∃ k, k < q_kL r ∧ B (f + k) ≠ q_ks (q_kS r + k) := Classical.byContradiction (fun y => ha (fun j hj => Classical.byContradiction (fun w => y ⟨j, hj, w⟩)))
    obtain ⟨k0, ⟨hk0, hne⟩, hmin⟩ := pk_least (fun k => k < q_kL r ∧ B (f + k) ≠ q_ks (q_kS r + k)) hex
    have key := q_lp (G := fun n k (_ : Unit) => g_X11_inWords_68 v2 (nI (q_kS r)) (nI (q_kS r + q_kL r)) J k115 (n + 1) (nI 1) (nI (q_kS r + k))) (N := k0) (k0 := 0) (n := 999999) (r := k115 (nI 0)) (fun _ => ()) (fun n k _ hk => by
      show g_X11_inWords_68 v2 (nI (q_kS r)) (nI (q_kS r + q_kL r)) J k115 (n + 1 + 1) (nI 1) (nI (q_kS r + k)) = _
      have hm : B (f + k) = q_ks (q_kS r + k) := Classical.byContradiction (fun w => hmin k hk ⟨by omega, w⟩)
      rw [step k (n + 1) (by omega), if_pos hm]) (fun n => by
      show g_X11_inWords_68 v2 (nI (q_kS r)) (nI (q_kS r + q_kL r)) J k115 (n + 1 + 1) (nI 1) (nI (q_kS r + k0)) = _
      rw [step k0 (n + 1) hk0, if_neg hne, g_X11_inWords_68]
      by_cases y : nI (q_kS r + q_kL r) ≤ nI (q_kS r + (k0 + 1))
      · rw [if_pos y]
      · rw [if_neg y, if_pos (show nI 0 = 0 from rfl)]) (Nat.zero_le _) (by omega)
    exact key
theorem m_iwk {n : Nat} {B : Nat → Nat} {I J : z_I} (h : q_xt n B I J) {f e r : Nat} (j13 : J 0 13 = nI f) (j14 : J 0 14 = nI e) (he : e ≤ n) (hfe : f ≤ e) (hlo : ∀ j, j < e - f → q_lo B (f + j) = true) (hr : r < 23) (fu : Nat) : (q_co B f (e - f) = q_co q_ks (q_kS r) (q_kL r) → g_X11_inWords_14 J (fu + 1) (nI r) (nI (q_kS r)) = some (nI r)) ∧ (q_co B f (e - f) ≠ q_co q_ks (q_kS r) (q_kL r) → g_X11_inWords_14 J (fu + 1) (nI r) (nI (q_kS r)) = g_X11_inWords_14 J fu (nI (r + 1)) (nI (q_kS (r + 1)))) := by
  obtain ⟨h1, h2, h3, h4, h5⟩ := q_kSL r hr
  have h900 := h.1
  have hn0 : ¬ nI 1 = 0 := by decide
  have hs1 : nI (q_kS r + q_kL r) - nI (q_kS r) = nI (q_kL r) := by rw [pk_sub (by omega), show q_kS r + q_kL r - q_kS r = q_kL r by omega]
  have hs2 : nI e - nI f = nI (e - f) := pk_sub hfe
  have hnx : nI (q_kS r + q_kL r) + 1 = nI (q_kS (r + 1)) := by rw [ql_1, nI_add, h1]
  rw [g_X11_inWords_14, if_neg (show ¬ (120 : Int32) ≤ nI (q_kS r) by rw [ql_120, nI_leI (by omega) (by omega)]; omega), m_iw25 hr, j13, j14, hs1, hs2]
  by_cases y : q_kL r = e - f
  · rw [if_pos (show nI (q_kL r) = nI (e - f) by rw [y])]
    obtain ⟨a1, a2⟩ := m_iw1 h j13 he hfe hr y.symm (v2 := nI r) (k115 := fun v5_6 => if v5_6 = 0 then g_X11_inWords_14 J fu (nI r + 1) (nI (q_kS r + q_kL r) + 1) else some (nI r))
    constructor
    · intro hc
      obtain ⟨c1, c2⟩ := q_co_i (e - f) (q_kL r) hlo (q_kLo r hr) hc
      exact (a1 (fun j hj => c2 j (by omega))).trans (if_neg hn0)
    · intro hc
      rw [hnx, ql_1, nI_add] at a2
      rw [hnx, ql_1, nI_add]
      exact (a2 (fun w => hc (by rw [← y]; exact q_co_e _ w))).trans (if_pos rfl)
  · rw [if_neg (show ¬ nI (q_kL r) = nI (e - f) by rw [nI_eq (by omega) (by omega)]; exact y)]
    rw [show (0 : Int32) = nI 0 from rfl, m_iw0, if_pos (show nI 0 = nI 0 from rfl), hnx, ql_1, nI_add]
    exact ⟨fun hc => absurd (q_co_i (e - f) (q_kL r) hlo (q_kLo r hr) hc).1.symm y, fun _ => rfl⟩
/-- a word is a key word, or none -/
theorem m_inWords {n : Nat} {B : Nat → Nat} {I J : z_I} (h : q_xt n B I J) {f e : Nat} (j12 : J 0 12 = nI 2) (j13 : J 0 13 = nI f) (j14 : J 0 14 = nI e) (he : e ≤ n) (hfe : f ≤ e) (hlo : ∀ j, j < e - f → q_lo B (f + j) = true) : (∀ k, k < 23 → q_co B f (e - f) = q_kw.getD k 0 → f_X11_inWords J = some (nI (q_pi k))) ∧ ((∀ k, k < 23 → q_co B f (e - f) ≠ q_kw.getD k 0) → f_X11_inWords J = some q_no) := by
  have h0 : f_X11_inWords J = g_X11_inWords_14 J z_fuel (nI 0) (nI (q_kS 0)) := by
    unfold f_X11_inWords
    rw [j12, if_pos (show nI 2 = 2 from rfl)]
    rfl
  constructor
  · intro k hk hc
    obtain ⟨e1, e2, -⟩ := q_kwE k hk
    rw [e1] at hc
    rw [h0]
    refine q_lp (G := fun n k (_ : Unit) => g_X11_inWords_14 J n (nI k) (nI (q_kS k))) (N := q_pi k) (k0 := 0) (fun _ => ()) (fun n r _ hr => ?_) (fun n => ?_) (Nat.zero_le _) (q_fu (by omega))
    · exact (m_iwk h j13 j14 he hfe hlo (r := r) (by omega) n).2 (fun w => by have := q_kwD r (by omega) (q_pi k) e2 (w.symm.trans hc); omega)
    · exact (m_iwk h j13 j14 he hfe hlo e2 n).1 hc
  · intro hc
    rw [h0]
    refine q_lp (G := fun n k (_ : Unit) => g_X11_inWords_14 J n (nI k) (nI (q_kS k))) (N := 23) (k0 := 0) (fun _ => ()) (fun n r _ hr => ?_) (fun n => ?_) (Nat.zero_le _) (q_fu (by omega))
    · exact (m_iwk h j13 j14 he hfe hlo hr n).2 (fun w => by
        obtain ⟨k, hk, hp⟩ := q_piS r hr
        obtain ⟨e1, -⟩ := q_kwE k hk
        rw [hp] at e1
        exact hc k hk (w.trans e1.symm))
    · show g_X11_inWords_14 J (n + 1) (nI 23) (nI 120) = _
      rw [g_X11_inWords_14, if_pos (show (120 : Int32) ≤ nI 120 by decide)]
      rfl
theorem m_nameHere {n : Nat} {B : Nat → Nat} {I J : z_I} (h : q_xt n B I J) {f e : Nat} (j13 : J 0 13 = nI f) (j14 : J 0 14 = nI e) (he : e ≤ n) (hfe : f ≤ e) (h8 : e - f ≤ 8) (hlo : ∀ j, j < e - f → q_lo B (f + j) = true) : f_X11_nameHere J = some (lN (q_cv (q_co B f (e - f)))) := by
  have h900 := h.1
  have key := q_lp (G := fun fu k (x : Nat) => g_X11_nameHere_7 J fu (lN x) (nI k)) (N := e) (k0 := f) (n := z_fuel) (r := some (lN (q_cv (q_co B f (e - f))))) (fun k => q_cv (q_co B f (k - f))) (fun fu k hk0 hk => by
    show g_X11_nameHere_7 J (fu + 1) (lN (q_cv (q_co B f (k - f)))) (nI k) = g_X11_nameHere_7 J fu (lN (q_cv (q_co B f (k + 1 - f)))) (nI (k + 1))
    have hb := h.by (p := k) (by omega)
    have hB := (h.2.2.2 k (by omega)).1
    have hl := hlo (k - f) (by omega)
    have e1 : k + 1 - f = (k - f) + 1 := by omega
    have e2 : f + (k - f) = k := by omega
    have hlt := q_cv_lt 7 (q_co B f (k - f)) (Nat.lt_of_lt_of_le (q_co_lt (k - f) (fun j hj => hlo j (by omega))) (Nat.pow_le_pow_right (by decide) (by omega)))
    rw [e1, q_cv_c hl, e2, g_X11_nameHere_7, j14, if_neg (nI_ge hk (by omega)), hb, q_bs, q_zlt, nI_l (by omega), q_lsh (Nat.lt_of_lt_of_le hlt (by decide)) (by omega), ql_1, nI_add]) (fun fu => by
    show g_X11_nameHere_7 J (fu + 1) (lN (q_cv (q_co B f (e - f)))) (nI e) = _
    rw [g_X11_nameHere_7, j14, if_pos (nI_le (Nat.le_refl _) (by omega))]) hfe (q_fu (by omega))
  rw [Nat.sub_self] at key
  unfold f_X11_nameHere
  rw [j13, show (0 : Int64) = lN (q_cv (q_co B f 0)) from by show (0 : Int64) = lN (q_cv 0); rw [q_cv_z]; rfl]
  exact key
/-! a name among others -/
def q_ix (N : Nat → Nat) (w : Nat) (m : Nat) : Option Nat := q_find (fun k => decide (N k = w)) m
theorem q_find_m {p : Nat → Bool} : ∀ n c, q_find p n = some c → c < n ∧ p c = true := by
  intro n
  induction n with
  | zero => intro c h; cases h
  | succ n ih =>
    intro c h
    rw [q_find] at h
    cases hq : q_find p n with
    | some d =>
      rw [hq] at h
      cases h
      obtain ⟨a, b⟩ := ih c hq
      exact ⟨by omega, b⟩
    | none =>
      rw [hq] at h
      dsimp only at h
      split at h
      · rename_i y; cases h; exact ⟨by omega, y⟩
      · cases h
/-- a search, by a loop -/
theorem q_srch {G : Nat → Nat → Option Int32} {p : Nat → Bool} {m : Nat} (h1 : ∀ fu k, k < m → p k = true → G (fu + 1) k = some (nI k)) (h2 : ∀ fu k, k < m → p k = false → G (fu + 1) k = G fu (k + 1)) (h3 : ∀ fu, G (fu + 1) m = some q_no) (hm : m ≤ 1000) : G z_fuel 0 = some (q_eO (q_find p m)) := by
  have key : ∀ j k fu, k + j = m → j < fu → q_find p k = none → G fu k = some (q_eO (q_find p m)) := by
    intro j
    induction j with
    | zero =>
      intro k fu hk hf hn
      have hk : k = m := hk
      subst hk
      cases fu with
      | zero => omega
      | succ fu => rw [h3, hn]; rfl
    | succ j ih =>
      intro k fu hk hf hn
      cases fu with
      | zero => omega
      | succ fu =>
        cases hp : p k with
        | true =>
          rw [h1 fu k (by omega) hp]
          have hfin : ∀ i, k + 1 ≤ i → q_find p i = some k := by
            intro i hi
            induction i with
            | zero => omega
            | succ i ih2 =>
              by_cases y : k = i
              · subst y; rw [q_find, hn, hp]; rfl
              · rw [q_find, ih2 (by omega)]
          rw [hfin m (by omega)]
          rfl
        | false =>
          rw [h2 fu k (by omega) hp]
          exact ih (k + 1) fu (by omega) (by omega) (by rw [q_find, hn, hp]; rfl)
  exact key m 0 z_fuel (by omega) (q_fu (by omega)) rfl
theorem x_idx {L : z_L} {c cn m w : Nat} {N : Nat → Nat} (hm : m ≤ cn) (hcn : cn ≤ 100) (hN : ∀ k, k < m → L c k = lN (N k) ∧ N k < 27 ^ 8) (hw : w < 27 ^ 8) : f_X10_indexOfName L c cn (nI m) (lN w) = some (q_eO (q_ix N w m)) := by
  refine q_srch (G := fun fu k => g_X10_indexOfName_3 c cn (nI m) (lN w) L fu (nI k)) (p := fun k => decide (N k = w)) (fun fu k hk hp => ?_) (fun fu k hk hp => ?_) (fun fu => ?_) (by omega)
  · have hp := of_decide_eq_true hp
    rw [g_X10_indexOfName_3, if_neg (nI_ge hk (by omega)), if_pos (q_in (by omega) (by omega)), nI_clamp (by omega), (hN k hk).1, if_pos (by rw [hp])]
  · have hp := of_decide_eq_false hp
    rw [g_X10_indexOfName_3, if_neg (nI_ge hk (by omega)), if_pos (q_in (by omega) (by omega)), nI_clamp (by omega), (hN k hk).1, if_neg (by rw [q_lNi (by have := (hN k hk).2; omega) (by omega)]; exact hp), ql_1, nI_add]
  · show g_X10_indexOfName_3 c cn (nI m) (lN w) L (fu + 1) (nI m) = _
    rw [g_X10_indexOfName_3, if_pos (nI_le (Nat.le_refl _) (by omega))]
    rfl
theorem m_idx {J : z_I} {K : z_L} {b m w : Nat} {N : Nat → Nat} (hb : b + m ≤ 114) (hN : ∀ k, k < m → K 2 (b + k) = lN (q_cv (N k)) ∧ N k < 27 ^ 8) (hw : w < 27 ^ 8) (hn : f_X11_nameHere J = some (lN (q_cv w))) : f_X11_findHere J K (nI b) (nI m) = some (q_eO (q_ix N w m)) := by
  have hE : ∀ k, k < m → ((lN (q_cv (N k)) = lN (q_cv w)) ↔ N k = w) := fun k hk => by
    have := (hN k hk).2
    rw [q_nmE this hw, q_lNi (by omega) (by omega)]
  refine q_srch (G := fun fu k => g_X11_findHere_2 (nI b) (nI m) J K fu (nI k)) (p := fun k => decide (N k = w)) (fun fu k hk hp => ?_) (fun fu k hk hp => ?_) (fun fu => ?_) (by omega)
  · have hp := of_decide_eq_true hp
    rw [g_X11_findHere_2, if_neg (nI_ge hk (by omega)), nI_add, if_pos (q_in (by omega) (by decide)), nI_clamp (by omega), hn, q_bs, (hN k hk).1, if_pos ((hE k hk).2 hp)]
  · have hp := of_decide_eq_false hp
    rw [g_X11_findHere_2, if_neg (nI_ge hk (by omega)), nI_add, if_pos (q_in (by omega) (by decide)), nI_clamp (by omega), hn, q_bs, (hN k hk).1, if_neg (fun y => hp ((hE k hk).1 y)), ql_1, nI_add]
  · show g_X11_findHere_2 (nI b) (nI m) J K (fu + 1) (nI m) = _
    rw [g_X11_findHere_2, if_pos (nI_le (Nat.le_refl _) (by omega))]
    rfl
