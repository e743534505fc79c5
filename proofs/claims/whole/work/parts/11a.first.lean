/-! the first memories -/
def q_gtW : Nat → Int32 → Int64 → Int32 → Option (List (Nat × Int64))
  | 0, _, _, _ => none
  | n + 1, v2, v3, v5 => if (119 : Int32) ≤ v5 then some [] else if zin v5 119 = true then if (z_chT (v5).toNatClampNeg) = (32 : Int32) then if (23 : Int32) ≤ v2 then q_gtW n v2 v3 (v5 + (1 : Int32)) else if zin v2 23 = true then (q_gtW n (v2 + (1 : Int32)) (0 : Int64) (v5 + (1 : Int32))).map (fun ws => ((v2).toNatClampNeg, v3) :: ws) else none else q_gtW n v2 ((v3 * (27 : Int64)) + ((((z_chT (v5).toNatClampNeg) - (97 : Int32)) + (1 : Int32)).toInt64)) (v5 + (1 : Int32)) else none
def q_wr (L : z_L) (ws : List (Nat × Int64)) : z_L := ws.foldl (fun L w => z2 L 40 w.1 w.2) L
theorem q_wr_o : ∀ (ws : List (Nat × Int64)) (L : z_L) (c j : Nat), c ≠ 40 → q_wr L ws c j = L c j := by
  intro ws
  induction ws with
  | nil => intro L c j _; rfl
  | cons w ws ih =>
    intro L c j hc
    show q_wr (z2 L 40 w.1 w.2) ws c j = L c j
    rw [ih _ c j hc, q_zo (by omega)]
theorem q_gtW_g : ∀ (n : Nat) (v2 : Int32) (v3 : Int64) (v5 : Int32) (L : z_L) (ws : List (Nat × Int64)), q_gtW n v2 v3 v5 = some ws → ∀ k, g_X7_init_24 (n + k) v2 v3 v5 L = some (q_wr L ws) := by
  intro n
  induction n with
  | zero => intro v2 v3 v5 L ws h; cases h
  | succ n ih =>
    intro v2 v3 v5 L ws h k
    rw [Nat.succ_add, g_X7_init_24]
    rw [q_gtW] at h
    by_cases y1 : (119 : Int32) ≤ v5
    · rw [if_pos y1] at h ⊢
      cases h
      rfl
    · rw [if_neg y1] at h ⊢
      by_cases y2 : zin v5 119 = true
      · rw [if_pos y2] at h ⊢
        by_cases y3 : (z_chT (v5).toNatClampNeg) = (32 : Int32)
        · rw [if_pos y3] at h ⊢
          by_cases y4 : (23 : Int32) ≤ v2
          · rw [if_pos y4] at h ⊢
            exact ih _ _ _ L ws h k
          · rw [if_neg y4] at h ⊢
            by_cases y5 : zin v2 23 = true
            · rw [if_pos y5] at h ⊢
              cases hq : q_gtW n (v2 + (1 : Int32)) (0 : Int64) (v5 + (1 : Int32)) with
              | none => rw [hq] at h; cases h
              | some us =>
                rw [hq] at h
                cases h
                rw [q_zlt]
                exact ih _ _ _ _ us hq k
            · rw [if_neg y5] at h; cases h
        · rw [if_neg y3] at h ⊢
          rw [q_zlt]
          exact ih _ _ _ L ws h k
      · rw [if_neg y2] at h; cases h
def q_ws : List (Nat × Int64) := (List.range 23).map (fun k => (k, lN (q_kw.getD k 0)))
theorem q_gtW0 : q_gtW 120 0 0 0 = some q_ws := by decide +kernel
def q_L1 : z_L := q_wr z_zL q_ws
theorem q_tail : f_X7_tail z_zL = some q_L1 := by
  unfold f_X7_tail
  have h := q_gtW_g 120 0 0 0 z_zL q_ws q_gtW0 (z_fuel - 120)
  rw [Nat.add_sub_cancel' (Nat.le_of_lt (q_fu (by omega)))] at h
  exact h
theorem q_L1k : ∀ k, k < 23 → q_L1 40 k = lN (q_kw.getD k 0) := by decide +kernel
theorem q_hz7 : ∀ I : z_I, z_0 40 I z_zL → z_0 41 I q_L1 := fun I h c j hc => ⟨(h c j (by omega)).1, q_wr_o q_ws z_zL c j (by omega)⟩
def q_J9 : z_I := z2 (z2 (z2 (z2 (z2 (z2 z_zI 4 0 (-1)) 4 1 (-1)) 4 2 (-1)) 4 3 (-1)) 0 16 (-1)) 0 17 (-1)
def q_I0 : z_I := z2 (z2 (z2 (z2 (z2 (z2 (z2 (z2 z_zI 3 14 (8)) 22 14 (8)) 0 16 (-1)) 0 17 (-1)) 63 14 (8)) 80 14 (8)) 97 14 (8)) 45 5 3
theorem q_J9o {d k : Nat} (h : d ≠ 4 ∨ 4 ≤ k) (h0 : d ≠ 0 ∨ (k ≠ 16 ∧ k ≠ 17)) : q_J9 d k = 0 := by
  unfold q_J9
  rw [q_zo (by omega), q_zo (by omega), q_zo (by omega), q_zo (by omega), q_zo (by omega), q_zo (by omega)]
  rfl
theorem q_I0o {d k : Nat} (h : k ≠ 14) (h0 : d ≠ 0 ∨ (k ≠ 16 ∧ k ≠ 17)) (h5 : d ≠ 45 ∨ k ≠ 5) : q_I0 d k = 0 := by
  unfold q_I0
  rw [q_zo (by omega), q_zo (by omega), q_zo (by omega), q_zo (by omega), q_zo (by omega), q_zo (by omega), q_zo (by omega), q_zo (by omega)]
  rfl
theorem q_ty9 (i : Nat) (hi : i < 4) : q_J9 4 i = -1 := by
  unfold q_J9
  rw [q_zo (by omega), q_zo (by omega)]
  match i, hi with
  | 0, _ => rw [q_zo (by omega), q_zo (by omega), q_zo (by omega), q_zs]
  | 1, _ => rw [q_zo (by omega), q_zo (by omega), q_zs]
  | 2, _ => rw [q_zo (by omega), q_zs]
  | 3, _ => rw [q_zs]
theorem q_first : ∃ I9, f_X11_plain q_J9 (0 : Int32) = some I9 ∧ (z_0 23 q_J9 (z2 z_zL 0 4 (1)) → z_0 23 I9 (z2 z_zL 0 4 (1))) ∧ q_R q_I0 (z2 q_L1 54 1 (1)) I9 (z2 z_zL 0 4 (1)) := by
  obtain ⟨I9, c1, c2, c3, c4, c5⟩ := m_plain (J := q_J9) (o := 0) (by omega)
  refine ⟨I9, c1, fun h c j hc => ⟨by rw [c5 c j (by omega)]; exact (h c j hc).1, (h c j hc).2⟩, fun _ => q_C0, fun _ => q_T0, 0, ⟨Nat.zero_le _, q_I0o (by omega) (by omega) (by omega), ?_, ?_, ?_⟩, ?_, ⟨0, Nat.zero_le _, q_I0o (by omega) (by omega) (by omega), ?_, fun k hk => absurd hk (Nat.not_lt_zero _)⟩, ⟨?_, ?_⟩, fun i hi => Or.inl ⟨q_I0o (by omega) (by omega) (by omega), ?_⟩, Or.inl ⟨q_I0o (by omega) (by omega) (by omega), ?_⟩, fun k hk => ?_, fun i hi => ?_⟩
  · rw [c5 0 45 (by omega)]; exact q_J9o (by omega) (by omega)
  · rw [c5 0 16 (by omega)]
    unfold q_I0 q_J9
    rw [q_zo (by omega), q_zo (by omega), q_zo (by omega), q_zo (by omega), q_zo (by omega), q_zs, q_zo (by omega), q_zs]
  · rw [c5 0 17 (by omega)]
    unfold q_I0 q_J9
    rw [q_zo (by omega), q_zo (by omega), q_zo (by omega), q_zo (by omega), q_zs, q_zs]
  · rw [c5 0 2 (by omega), q_J9o (by omega) (by omega)]; exact q_I0o (by omega) (by omega) (by omega)
  · rw [c5 0 10 (by omega)]; exact q_J9o (by omega) (by omega)
  · rw [q_zo (by omega), q_zo (by omega)]
    exact q_wr_o q_ws z_zL 54 0 (by omega)
  · rw [q_zs, q_zs]
  · rw [c5 4 i (by omega)]; exact q_ty9 i hi
  · rw [c5 0 44 (by omega)]; exact q_J9o (by omega) (by omega)
  · rw [q_zo (by omega)]; exact q_L1k k hk
  · obtain rfl : i = 0 := by omega
    refine ⟨q_C0_sx (fun k hk => ?_), q_C0_sm (fun k hk => ?_), q_C0_ok, ⟨q_I0o (d := 14) (by omega) (by omega) (by omega), q_I0o (d := 14) (by omega) (by omega) (by omega), q_I0o (d := 14) (by omega) (by omega) (by omega), fun r e _ _ he => absurd he (Nat.not_lt_zero _)⟩, Or.inl ⟨rfl, c4⟩, q_T0_ok _⟩
    · show q_I0 3 (10 + k) = _
      by_cases y : k = 4
      · subst y
        unfold q_I0
        rw [q_zo (by omega), q_zo (by omega), q_zo (by omega), q_zo (by omega), q_zo (by omega), q_zo (by omega), q_zo (by omega), q_zs]
        rfl
      · rw [q_I0o (by omega) (by omega) (by omega)]
        unfold q_C0
        rw [if_neg (by omega)]
        rfl
    · show I9 1 (0 + k) = _
      by_cases y : k = 4
      · subst y; rw [c3]; rfl
      · rw [c2 k (by omega) y (by omega)]
        unfold q_C0
        rw [if_neg (by omega)]
