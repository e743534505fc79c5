/-! terms: what stands behind a step's word -/
def q_tq (t0 t1 : Nat) : Prop := (t0 ≠ 18 → t1 = t0) ∧ (t0 = 18 → t1 = 19 ∨ t1 = 2 ∨ t1 = 11)
def q_fT (m : Nat) (I I' : z_I) : Prop := ∀ d k, d ≠ 39 → (d < 34 ∨ 37 < d) ∨ k ≠ m → I' d k = I d k
def q_oo (n : Nat) (B : Nat → Nat) (C : q_N) (f : Nat) (I : z_I) (L : z_L) (J : z_I) (t0 m p : Nat) (A : Option (Bool × z_I × z_L)) (R : Option (Bool × z_I)) : Prop := (∃ I' L' J' f' e' kd va t1, A = some (true, I', L') ∧ R = some (true, J') ∧ q_ls n B f' e' kd va I' L' J' ∧ f ≤ f' ∧ q_fT m I I' ∧ q_mL L L' ∧ q_fr (fun k => p ≤ k ∧ k < p + 6) J J' ∧ q_tq t0 t1 ∧ q_en C t1 m p I' J') ∨ (∃ I' L' J', A = some (false, I', L') ∧ R = some (false, J') ∧ q_b1 I' J' ∧ q_fT m I I' ∧ q_mL L L' ∧ q_fs (fun k => p ≤ k ∧ k < p + 6) J J')
def q_oh (C : q_N) (t m p : Nat) (I : z_I) (L : z_L) (J : z_I) (K : z_L) : Prop := q_sx C 3 I L ∧ q_sm C 0 0 J K ∧ q_ok C ∧ J 0 18 = nI 0 ∧ I 34 m = nI t ∧ J 1 p = nI (q_kd t) ∧ m < 60 ∧ 1772 ≤ p ∧ p + 6 ≤ 2140
theorem q_oe35 {n : Nat} {B : Nat → Nat} {C : q_N} {f : Nat} {I : z_I} {L : z_L} {J : z_I} {K : z_L} {t t0 m p q : Nat} {X : Nat → Prop} {A A' : Option (Bool × z_I × z_L)} {R R' : Option (Bool × z_I)} (h : q_oe n B f I L J 35 m q X A R) (ho : q_oh C t m p I L J K) (hq : p < q ∧ q < p + 6) (ht : q_tq t0 t) (hA : A' = A) (hR : R' = R) (he : ∀ v t3 t4, X v → q_e1 C t v t3 t4) (he2 : ∀ (J' : z_I) v t3 t4, J' 1 p = nI (q_kd t) → J' 1 q = nI v → q_e2 t v t3 t4 p J') : q_oo n B C f I L J t0 m p A' R' := by
  subst hA hR
  obtain ⟨o1, o2, o3, o4, o5, o6, o7, o8, o9⟩ := ho
  rcases h with ⟨I', L', J', f', e', kd', va', v, h1, h2, h3, h4, h5, h6, h7, h8, h9, h10⟩ | ⟨I', L', J', h1, h2, h3, h4, h5, h6⟩
  · obtain ⟨t3, e3⟩ := q_ex32 (I' 36 m)
    obtain ⟨t4, e4⟩ := q_ex32 (I' 37 m)
    exact Or.inl ⟨I', L', J', f', e', kd', va', t, h1, h2, h3, h4, fun d k d1 d2 => h5 d k d1 (by omega), h6, fun d k d1 d2 => h7 d k d1 (by omega), ht, v, t3, t4, by rw [h5 34 m (by omega) (by omega), o5], h9, e3, e4, he v t3 t4 h8, he2 J' v t3 t4 (by rw [h7 1 p (by omega) (by omega), o6]) h10⟩
  · exact Or.inr ⟨I', L', J', h1, h2, h3, fun d k d1 d2 => h4 d k d1 (by omega), h5, fun d k d1 d2 => h6 d k d1 (by omega)⟩
theorem q_oe37 {n : Nat} {B : Nat → Nat} {C : q_N} {f : Nat} {I : z_I} {L : z_L} {J : z_I} {K : z_L} {t t0 m p q : Nat} {X : Nat → Prop} {A A' : Option (Bool × z_I × z_L)} {R R' : Option (Bool × z_I)} (h : q_oe n B f I L J 37 m q X A R) (ho : q_oh C t m p I L J K) (hq : p < q ∧ q < p + 6) (ht : q_tq t0 t) (hA : A' = A) (hR : R' = R) (he : ∀ v t2 t3, X v → q_e1 C t t2 t3 v) (he2 : ∀ (J' : z_I) v t2 t3, J' 1 p = nI (q_kd t) → J' 1 q = nI v → q_e2 t t2 t3 v p J') : q_oo n B C f I L J t0 m p A' R' := by
  subst hA hR
  obtain ⟨o1, o2, o3, o4, o5, o6, o7, o8, o9⟩ := ho
  rcases h with ⟨I', L', J', f', e', kd', va', v, h1, h2, h3, h4, h5, h6, h7, h8, h9, h10⟩ | ⟨I', L', J', h1, h2, h3, h4, h5, h6⟩
  · obtain ⟨t2, e2⟩ := q_ex32 (I' 35 m)
    obtain ⟨t3, e3⟩ := q_ex32 (I' 36 m)
    exact Or.inl ⟨I', L', J', f', e', kd', va', t, h1, h2, h3, h4, fun d k d1 d2 => h5 d k d1 (by omega), h6, fun d k d1 d2 => h7 d k d1 (by omega), ht, t2, t3, v, by rw [h5 34 m (by omega) (by omega), o5], e2, e3, h9, he v t2 t3 h8, he2 J' v t2 t3 (by rw [h7 1 p (by omega) (by omega), o6]) h10⟩
  · exact Or.inr ⟨I', L', J', h1, h2, h3, fun d k d1 d2 => h4 d k d1 (by omega), h5, fun d k d1 d2 => h6 d k d1 (by omega)⟩
/-- a claim's name -/
theorem q_nmC {n : Nat} {B : Nat → Nat} {C : q_N} {f e kd va t m p : Nat} {I : z_I} {L : z_L} {J : z_I} {K : z_L} (h1 : q_ls n B f e kd va I L J) (hk : q_rk L) (ho : q_oh C t m p I L J K) : q_oe n B f I L J 35 m (p + 1) (fun v => v < C 0 2) (f_X6_takeName I L (nI m) 10 7 (I 3 12)) (f_X11_oldOne J K 8 (J 1 2) (nI p + 1)) := by
  obtain ⟨o1, o2, o3, o4, o5, o6, o7, o8, o9⟩ := ho
  exact q_tNm h1 hk o4 (N := C 7) (b := 8) (cnt := C 0 2) o7 (by have := o3.2.2.1; omega) (by omega) (by have := o3.2.2.1; omega) (by omega) (fun k hk => ⟨o1.2.1 k hk, (o3.2.2.2.2.2.2.2.2.2.1 k hk).2.2.2.2⟩) (fun k hk => by rw [← o2.2.1 k hk]) o1.f.2.2.1 rfl o2.f.2.2.1 (q_pp p 1 (by decide))
/-- a scholar's -/
theorem q_nmS {n : Nat} {B : Nat → Nat} {C : q_N} {f e kd va t m p : Nat} {I : z_I} {L : z_L} {J : z_I} {K : z_L} (h1 : q_ls n B f e kd va I L J) (hk : q_rk L) (ho : q_oh C t m p I L J K) : q_oe n B f I L J 35 m (p + 1) (fun v => v < C 0 3) (f_X6_takeName I L (nI m) 13 4 (I 3 13)) (f_X11_oldOne J K 15 (J 1 3) (nI p + 1)) := by
  obtain ⟨o1, o2, o3, o4, o5, o6, o7, o8, o9⟩ := ho
  exact q_tNm h1 hk o4 (N := C 10) (b := 15) (cnt := C 0 3) o7 (by have := o3.2.2.2.1; omega) (by omega) (by have := o3.2.2.2.1; omega) (by omega) (fun k hk => ⟨o1.2.2 k hk, (o3.2.2.2.2.2.2.2.2.2.2 k hk).2.2⟩) (fun k hk => by rw [← o2.2.2 k hk]) o1.f.2.2.2.1 rfl o2.f.2.2.2.1 (q_pp p 1 (by decide))
theorem q_oh.go {C : q_N} {t t' m p : Nat} {I : z_I} {L : z_L} {J : z_I} {K : z_L} (h : q_oh C t m p I L J K) {I' : z_I} {L' : z_L} {J' : z_I} (fI : ∀ d k, d < 22 → I' d k = I d k) (fL : q_mL L L') (fJ : ∀ k, k < 60 → J' 1 k = J 1 k) (j18 : J' 0 18 = J 0 18) (i34 : I' 34 m = nI t') (jp : J' 1 p = nI (q_kd t')) : q_oh C t' m p I' L' J' K := by
  obtain ⟨o1, o2, o3, o4, o5, o6, o7, o8, o9⟩ := h
  exact ⟨o1.go (fun d k a b => fI d k (by omega)) (fun d k a b => fL d k (by omega)), o2.go o3 (fun k a b => fJ k (by omega)) (fun _ _ _ => rfl), o3, by rw [j18, o4], i34, jp, o7, o8, o9⟩
theorem q_eta {α β : Type} (x : Option (α × β)) : (x.bind fun q => some (q.1, q.2)) = x := by
  cases x with
  | none => rfl
  | some q => rfl
theorem q_eta3 {α β γ : Type} (x : Option (α × β × γ)) : (x.bind fun q => some (q.1, q.2.1, q.2.2)) = x := by
  cases x with
  | none => rfl
  | some q => rfl
theorem q_o12 {n : Nat} {B : Nat → Nat} {C : q_N} {f e kd va m p : Nat} {I : z_I} {L : z_L} {J : z_I} {K : z_L} (h1 : q_ls n B f e kd va I L J) (hk : q_rk L) (ho : q_oh C 12 m p I L J K) : q_oo n B C f I L J 12 m p (f_X6_takeName I L (nI m) 10 7 (I 3 12)) (f_X11_termOrder J K (nI 12) (nI p)) :=
  q_oe35 (q_nmC h1 hk ho) ho (by omega) ⟨fun _ => rfl, fun w => by omega⟩ rfl (by unfold f_X11_termOrder f_X11_claimTo; rw [if_pos (show nI 12 = (12 : Int32) from rfl), q_eta, q_eta]) (fun v t3 t4 hv => ⟨by unfold q_tk; omega, fun _ => hv, fun w => by omega, fun w => by omega, fun w => by omega, fun w => by omega, fun w => by omega, fun w => by omega⟩) (fun J' v t3 t4 a b => ⟨a, fun _ => b, fun w => by omega, fun w => by omega, fun w => by omega⟩)
theorem q_o14 {n : Nat} {B : Nat → Nat} {C : q_N} {f e kd va m p : Nat} {I : z_I} {L : z_L} {J : z_I} {K : z_L} (h1 : q_ls n B f e kd va I L J) (hk : q_rk L) (ho : q_oh C 14 m p I L J K) : q_oo n B C f I L J 14 m p (f_X6_takeName I L (nI m) 13 4 (I 3 13)) (f_X11_termOrder J K (nI 14) (nI p)) :=
  q_oe35 (q_nmS h1 hk ho) ho (by omega) ⟨fun _ => rfl, fun w => by omega⟩ rfl (by unfold f_X11_termOrder f_X11_scholarTo; rw [if_neg (show ¬ nI 14 = (12 : Int32) by decide), if_neg (show ¬ nI 14 = (13 : Int32) by decide), if_pos (show nI 14 = (14 : Int32) from rfl), q_eta, q_eta]) (fun v t3 t4 hv => ⟨by unfold q_tk; omega, fun w => by omega, fun _ => hv, fun w => by omega, fun w => by omega, fun w => by omega, fun w => by omega, fun w => by omega⟩) (fun J' v t3 t4 a b => ⟨a, fun _ => b, fun w => by omega, fun w => by omega, fun w => by omega⟩)
theorem q_o15 {n : Nat} {B : Nat → Nat} {C : q_N} {f e kd va m p : Nat} {I : z_I} {L : z_L} {J : z_I} {K : z_L} (h1 : q_ls n B f e kd va I L J) (hk : q_rk L) (ho : q_oh C 15 m p I L J K) : q_oo n B C f I L J 15 m p (f_X6_takeNumber I L (nI m) 1 40) (f_X11_termOrder J K (nI 15) (nI p)) :=
  q_oe37 (q_tNr h1 hk ho.2.2.2.1 (r := 37) (m := m) (q := p + 1) (lo := 1) (hi := 40) (hiM := 40) (qM := nI p + 1) (a := 1) (b := 41) (by omega) (by omega) (fun v hv => q_loC (by decide) hv) (fun v hv => q_hiC (by decide) hv) rfl (q_pp p 1 (by decide)) (by have := ho.2.2.2.2.2.2.2.2; omega)) ho (by omega) ⟨fun _ => rfl, fun w => by omega⟩ (x6_num ho.2.2.2.2.2.2.1) (by unfold f_X11_termOrder; rw [if_neg (show ¬ nI 15 = (12 : Int32) by decide), if_neg (show ¬ nI 15 = (13 : Int32) by decide), if_neg (show ¬ nI 15 = (14 : Int32) by decide), if_pos (show nI 15 = (15 : Int32) from rfl), q_eta]) (fun v t2 t3 hv => ⟨by unfold q_tk; omega, fun w => by omega, fun w => by omega, fun w => by omega, fun w => by omega, fun w => ⟨hv.1, by have := hv.2.1; omega⟩, fun w => by omega, fun w => by omega⟩) (fun J' v t2 t3 a b => ⟨a, fun w => by omega, fun _ => b, fun w => by omega, fun w => by omega⟩)
theorem q_o20 {n : Nat} {B : Nat → Nat} {C : q_N} {f e kd va m p : Nat} {I : z_I} {L : z_L} {J : z_I} {K : z_L} (h1 : q_ls n B f e kd va I L J) (hk : q_rk L) (ho : q_oh C 20 m p I L J K) : q_oo n B C f I L J 20 m p (f_X6_takeNumber I L (nI m) 1 99) (f_X11_termOrder J K (nI 19) (nI p)) :=
  q_oe37 (q_tNr h1 hk ho.2.2.2.1 (r := 37) (m := m) (q := p + 1) (lo := 1) (hi := 99) (hiM := 99) (qM := nI p + 1) (a := 1) (b := 100) (by omega) (by omega) (fun v hv => q_loC (by decide) hv) (fun v hv => q_hiC (by decide) hv) rfl (q_pp p 1 (by decide)) (by have := ho.2.2.2.2.2.2.2.2; omega)) ho (by omega) ⟨fun _ => rfl, fun w => by omega⟩ (x6_num ho.2.2.2.2.2.2.1) (by unfold f_X11_termOrder; rw [if_neg (show ¬ nI 19 = (12 : Int32) by decide), if_neg (show ¬ nI 19 = (13 : Int32) by decide), if_neg (show ¬ nI 19 = (14 : Int32) by decide), if_neg (show ¬ nI 19 = (15 : Int32) by decide), if_neg (show ¬ nI 19 = (16 : Int32) by decide), if_neg (show ¬ nI 19 = (17 : Int32) by decide), if_neg (show ¬ nI 19 = (18 : Int32) by decide), if_pos (show nI 19 = (19 : Int32) from rfl), q_eta]) (fun v t2 t3 hv => ⟨by unfold q_tk; omega, fun w => by omega, fun w => by omega, fun w => by omega, fun w => by omega, fun w => by omega, fun w => ⟨hv.1, by have := hv.2.1; omega⟩, fun w => by omega⟩) (fun J' v t2 t3 a b => ⟨a, fun w => by omega, fun _ => b, fun w => by omega, fun w => by omega⟩)
/-- nothing more -/
theorem q_o0 {n : Nat} {B : Nat → Nat} {C : q_N} {f e kd va m p t : Nat} {I : z_I} {L : z_L} {J : z_I} {K : z_L} (h1 : q_ls n B f e kd va I L J) (ho : q_oh C t m p I L J K) (ht : t = 16 ∨ t = 17 ∨ t = 21 ∨ t = 22) {A : Option (Bool × z_I × z_L)} {R : Option (Bool × z_I)} (hA : A = some (true, I, L)) (hR : R = some (true, J)) : q_oo n B C f I L J t m p A R := by
  obtain ⟨t2, e2⟩ := q_ex32 (I 35 m)
  obtain ⟨t3, e3⟩ := q_ex32 (I 36 m)
  obtain ⟨t4, e4⟩ := q_ex32 (I 37 m)
  exact Or.inl ⟨I, L, J, f, e, kd, va, t, hA, hR, h1, Nat.le_refl _, fun _ _ _ _ => rfl, q_mL.rf L, q_fr.rf _ J, ⟨fun _ => rfl, fun w => by omega⟩, t2, t3, t4, ho.2.2.2.2.1, e2, e3, e4, ⟨by unfold q_tk; omega, fun w => by omega, fun w => by omega, fun w => by omega, fun w => by omega, fun w => by omega, fun w => by omega, fun w => by omega⟩, ⟨ho.2.2.2.2.2.1, fun w => by omega, fun w => by omega, fun w => by omega, fun w => by omega⟩⟩
