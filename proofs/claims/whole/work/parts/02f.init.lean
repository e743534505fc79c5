/-! worlds in another order -/
theorem z_pmem {D : va_G} {cl : List vw_C} {ws : va_W} {H : Heap} : va_P D cl ws H ↔ ∀ q ∈ ws, va_at D cl q H := by
  constructor
  · intro h q hq
    obtain ⟨k, hk⟩ := List.getElem?_of_mem hq
    exact h k q hk
  · intro h k q hk
    exact h q (List.mem_of_getElem? hk)
theorem z_pperm {D : va_G} {cl : List vw_C} {a b : va_W} {H : Heap} (h : a.Perm b) (hP : va_P D cl a H) : va_P D cl b H := z_pmem.mpr fun q hq => z_pmem.mp hP q (h.mem_iff.mpr hq)
theorem z_dn {A : Nat → Prop} {ws : va_W} : va_D A ws ↔ (ws.map (fun q => q.1)).Nodup ∧ ∀ q ∈ ws, A q.1 := by
  constructor
  · intro h
    refine ⟨?_, fun q hq => ?_⟩
    · unfold List.Nodup
      rw [List.pairwise_iff_getElem]
      intro i j hi hj hij he
      rw [List.length_map] at hi hj
      rw [List.getElem_map, List.getElem_map] at he
      have := h.1 i j _ _ (List.getElem?_eq_getElem hi) (List.getElem?_eq_getElem hj) he
      omega
    · obtain ⟨k, hk⟩ := List.getElem?_of_mem hq
      exact h.2 k q hk
  · intro h
    refine ⟨fun i j p q hi hj hpq => ?_, fun k q hk => h.2 q (List.mem_of_getElem? hk)⟩
    have hn := List.pairwise_iff_getElem.mp h.1
    have hil := (List.getElem?_eq_some_iff.mp hi).1
    have hjl := (List.getElem?_eq_some_iff.mp hj).1
    have ei := (List.getElem?_eq_some_iff.mp hi).2
    have ej := (List.getElem?_eq_some_iff.mp hj).2
    have e : (ws.map (fun q => q.1))[i]'(by rw [List.length_map]; exact hil) = (ws.map (fun q => q.1))[j]'(by rw [List.length_map]; exact hjl) := by
      rw [List.getElem_map, List.getElem_map, ei, ej]
      exact hpq
    rcases Nat.lt_trichotomy i j with g | g | g
    · exact absurd e (hn i j _ _ g)
    · exact g
    · exact absurd e.symm (hn j i _ _ g)
theorem z_dperm {A : Nat → Prop} {a b : va_W} (h : a.Perm b) (hD : va_D A a) : va_D A b := by
  obtain ⟨h1, h2⟩ := z_dn.mp hD
  exact z_dn.mpr ⟨(h.map _).nodup_iff.mp h1, fun q hq => h2 q (h.mem_iff.mpr hq)⟩
/-- no cell from n on has been written -/
def z_0 (n : Nat) (I : z_I) (L : z_L) : Prop := ∀ c j, n ≤ c → I c j = 0 ∧ L c j = 0
/-- refers to cells below n alone -/
def z_rok (n : Nat) (v : Value) : Bool := match v with
  | .ref a => decide (a < n ∨ 9000 ≤ a)
  | _ => true
def z_sok (n : Nat) (s : Nat × Nat) : Bool := if s.1 = 2 then decide (s.2 < n) else decide (s.1 ≠ 3)
def z_shok (n : Nat) (sh : z_Sh) : Bool := match sh with
  | .inl (_, _, _, rs) => rs.all (fun a => decide (a < n))
  | .inr (_, ss) => ss.all (z_sok n)
def z_agr (n : Nat) (ad ad' : Nat → Nat) : Prop := ∀ k, k < n ∨ 9000 ≤ k → ad' k = ad k
theorem z_cvq {n : Nat} {ad ad' : Nat → Nat} (h : z_agr n ad ad') {v : Value} (hv : z_rok n v = true) : z_cv ad' v = z_cv ad v := by
  cases v with
  | ref a => exact congrArg Value.ref (h a (of_decide_eq_true hv))
  | _ => rfl
theorem z_stq {n : Nat} {ad ad' : Nat → Nat} (h : z_agr n ad ad') {st : List Value} (hv : st.all (z_rok n) = true) : st.map (z_cv ad') = st.map (z_cv ad) := by
  apply List.map_congr_left
  intro v hm
  exact z_cvq h (List.all_eq_true.mp hv v hm)
theorem z_lvq {n : Nat} {ad ad' : Nat → Nat} (h : z_agr n ad ad') {lv : List (Nat × Value)} (hv : (lv.map (fun q => q.2)).all (z_rok n) = true) : z_lv ad' lv = z_lv ad lv := by
  unfold z_lv
  apply List.map_congr_left
  intro q hm
  rw [z_cvq h (List.all_eq_true.mp hv q.2 (List.mem_map.mpr ⟨q, hm, rfl⟩))]
theorem z_svq {n : Nat} {ad ad' : Nat → Nat} (h : z_agr n ad ad') {I : z_I} {L : z_L} {c k : Nat} {s : Nat × Nat} (hs : z_sok n s = true) : z_sv ad' I L c k s = z_sv ad I L c k s := by
  obtain ⟨a, b⟩ := s
  unfold z_sok at hs
  unfold z_sv
  dsimp only at hs ⊢
  split
  · rfl
  · rfl
  · rw [if_pos rfl] at hs
    rw [h b (Or.inl (of_decide_eq_true hs))]
  · simp at hs
  · rfl
  · rfl
theorem z_ceq {n : Nat} {ad ad' : Nat → Nat} (h : z_agr n ad ad') {cA : FieldType → ClassId} {I : z_I} {L : z_L} {c : Nat} {sh : z_Sh} (hs : z_shok n sh = true) : z_ce cA ad' I L c sh = z_ce cA ad I L c sh := by
  cases sh with
  | inl x =>
    obtain ⟨ty, m, kd, rs⟩ := x
    unfold z_ce
    split
    · rfl
    · rfl
    · next e1 =>
      cases e1
      have hf : (fun i => (rs[i]?).map ad') = (fun i : Nat => (rs[i]?).map ad) := by
        funext i
        cases hq : rs[i]? with
        | none => rfl
        | some a => exact congrArg some (h a (Or.inl (of_decide_eq_true (List.all_eq_true.mp hs a (List.mem_of_getElem? hq)))))
      rw [hf]
    · next e1 => cases e1
  | inr x =>
    obtain ⟨ci, ss⟩ := x
    show Sum.inr (ci, _) = Sum.inr (ci, _)
    congr 2
    apply List.ext_getElem?
    intro k
    rw [List.getElem?_mapIdx, List.getElem?_mapIdx]
    cases hq : ss[k]? with
    | none => rfl
    | some s => exact congrArg some (z_svq h (List.all_eq_true.mp hs s (List.mem_of_getElem? hq)))
theorem z_csq {n : Nat} {ad ad' : Nat → Nat} (h : z_agr n ad ad') {cA : FieldType → ClassId} {I : z_I} {L : z_L} {lay : List z_Sh} (hn : lay.length ≤ n) (hs : lay.all (z_shok n) = true) : z_cs lay cA ad' I L = z_cs lay cA ad I L := by
  apply List.ext_getElem?
  intro k
  unfold z_cs
  rw [List.getElem?_mapIdx, List.getElem?_mapIdx]
  cases hq : lay[k]? with
  | none => rfl
  | some sh =>
    have hk : k < n := Nat.lt_of_lt_of_le (List.getElem?_eq_some_iff.mp hq).1 hn
    show some (ad' k, _) = some (ad k, _)
    rw [h k (Or.inl hk), z_ceq h (List.all_eq_true.mp hs sh (List.mem_of_getElem? hq))]
theorem z_cs_push {cA : FieldType → ClassId} {ad : Nat → Nat} {I : z_I} {L : z_L} {lay : List z_Sh} {sh : z_Sh} : z_cs (lay ++ [sh]) cA ad I L = z_cs lay cA ad I L ++ [(ad lay.length, z_ce cA ad I L lay.length sh)] := by
  unfold z_cs
  rw [List.mapIdx_append]
  simp
theorem z_new {D : va_G} {cA : FieldType → ClassId} {ad : Nat → Nat} {I : z_I} {L : z_L} {lay : List z_Sh} {sh : z_Sh} {xs : va_W} {A : Nat → Prop} {H : Heap} {q : Nat} {e : va_E} (hs : lay.all (z_shok lay.length) = true) (hl : lay.length < 9000) (he : e = z_ce cA (z1 ad lay.length q) I L lay.length sh) (hP : va_P D vwCl ((z_cs lay cA ad I L ++ xs) ++ [(q, e)]) H) (hD : va_D A ((z_cs lay cA ad I L ++ xs) ++ [(q, e)])) : va_P D vwCl (z_cs (lay ++ [sh]) cA (z1 ad lay.length q) I L ++ xs) H ∧ va_D A (z_cs (lay ++ [sh]) cA (z1 ad lay.length q) I L ++ xs) := by
  have ha : z_agr lay.length ad (z1 ad lay.length q) := fun k hk => z1_o (by omega)
  have e1 : z_cs (lay ++ [sh]) cA (z1 ad lay.length q) I L = z_cs lay cA ad I L ++ [(q, e)] := by
    rw [z_cs_push, z_csq ha (Nat.le_refl _) hs, z1_s, he]
  have hp : ((z_cs lay cA ad I L ++ xs) ++ [(q, e)]).Perm (z_cs (lay ++ [sh]) cA (z1 ad lay.length q) I L ++ xs) := by
    rw [e1, List.append_assoc, List.append_assoc]
    exact (List.perm_append_comm (l₁ := xs) (l₂ := [(q, e)])).append_left _
  exact ⟨z_pperm hp hP, z_dperm hp hD⟩
def z_QY (n0 : Nat) (lay : List z_Sh) (D : va_G) (cA : FieldType → ClassId) (ad : Nat → Nat) (xs : va_W) (A : Nat → Prop) (res : z_R) : Array Value → State → Outcome → State → Prop := fun _ st oc t =>
  oc = .returned res.1 ∧ (∃ ad' : Nat → Nat, z_agr n0 ad ad' ∧ va_P D vwCl (z_cs lay cA ad' res.2.1 res.2.2 ++ xs) t.heap ∧ va_D A (z_cs lay cA ad' res.2.1 res.2.2 ++ xs)) ∧ va_K D vwCl (z_ty cA) t ∧ va_F A st t
/-- as z_X, in a constructor: cells are made, the layout grows to layR; n0: what was there at its start -/
def z_Y (n0 : Nat) (lay : List z_Sh) (own : String) (cc : ByteArray) (nL : Nat) (R : Room) (pc : Nat) (lv : List (Nat × Value)) (st : List Value) (I : z_I) (L : z_L) (nc ns : Nat) (layR : List z_Sh) (res : z_R) (mc ms : Nat) : Prop :=
  ∀ (p : Program) (l : Launch) (e : Env) (s : State) (m : MethodId) (args : Array Value) (below : List Frame) (meth : Method) (c0 : Code) (D : va_G) (cA : FieldType → ClassId) (ad adK adV : Nat → Nat) (xs : va_W) (A : Nat → Prop) (H : Heap) (locs : List Loc) (ls : Array Slot),
    z_0 lay.length I L → meth.name = "<init>" → z_F own cc nL none p s m args meth c0 D cA → (∀ q, s.heap.size ≤ q → A q) → z_S adK adV ad A s s.heap → va_P D vwCl (z_cs lay cA ad I L ++ xs) H → va_D A (z_cs lay cA ad I L ++ xs) → va_S A s.heap H locs → lv_has ls nL (z_lv ad lv) →
    W p l e R s m args below meth c0 H locs nc ns (MQ below (z_QY n0 layR D cA ad xs A res) args s mc ms A) (F0 m pc ls (st.map (z_cv ad)))
def z_CI (n0 : Nat) (lay : List z_Sh) (y : MethodName) (cc : ByteArray) (nL : Nat) (rm : Room) (as : List Value) (I : z_I) (L : z_L) (layR : List z_Sh) (res : z_R) (mc ms : Nat) : Prop :=
  ∀ (l : Launch) (D : va_G) (cA : FieldType → ClassId) (ad adK adV : Nat → Nat) (xs : va_W) (sz : Nat), z_0 lay.length I L →
    Met l y (.code y cc nL none :: z_W) rm (va_Pc (as.map (z_cv ad)) (fun U => U.heap.size = sz ∧ va_P D vwCl (z_cs lay cA ad I L ++ xs) U.heap ∧ va_K D vwCl (z_ty cA) U ∧ va_D (fun _ => True) (z_cs lay cA ad I L ++ xs) ∧ z_S adK adV ad (va_A (z_cs lay cA ad I L ++ xs) sz) U U.heap))
      (z_QY n0 layR D cA ad xs (va_A (z_cs lay cA ad I L ++ xs) sz) res) mc ms (va_A (z_cs lay cA ad I L ++ xs) sz)
set_option maxHeartbeats 1000000 in
theorem z_CI.of {n0 : Nat} {lay : List z_Sh} {y : MethodName} {cc : ByteArray} {nL : Nat} {rm : Room} {as : List Value} {I : z_I} {L : z_L} {layR : List z_Sh} {res : z_R} {mc ms : Nat} (hy : plainName y.cls = true) (hi : y.name = "<init>") (hn : (lg_sl as).length ≤ nL) (h : z_Y n0 lay y.cls cc nL rm 0 (lv_args 0 as) [] I L 0 0 layR res mc ms) : z_CI n0 lay y cc nL rm as I L layR res mc ms := by
  intro l D cA ad adK adV xs sz h0
  refine Met.ofW (cc := cc) (maxL := nL) (ret := none) hy rfl ?_
  intro p e s m args below meth c s₁ B hml hv
  obtain ⟨rfl, hsz, hP, hK, hD0, hZ⟩ := hv
  have hts := atoms_spec (ws := .code y cc nL none :: z_W) B.pre
  have hown : s.vm.findClass y.cls = some m.cls := findClass_of_methodNamed B.named
  have hin : meth.name = "<init>" := ((name_of_methodNamed B.named B.method).1).trans hi
  subst hsz
  have hD := hD0.self (sz := s.heap.size)
  have hA : ∀ q : Nat, s.heap.size ≤ q → va_A (z_cs lay cA ad I L ++ xs) s.heap.size q := fun q h => Or.inr h
  have hS : va_S (va_A (z_cs lay cA ad I L ++ xs) s.heap.size) s.heap s.heap [] := va_S.rf
  have hn' : (lg_sl (as.map (z_cv ad))).length ≤ nL := by
    have hq : ∀ vs : List Value, (lg_sl (vs.map (z_cv ad))).length = (lg_sl vs).length := by
      intro vs
      induction vs with
      | nil => rfl
      | cons v vs ih => cases v <;> simp [lg_sl, z_cv, Value.category] at ih ⊢ <;> omega
    rw [hq]
    exact hn
  have hl := lv_entry (as.map (z_cv ad)) (n := nL) hn'
  rw [z_lvargs] at hl
  have e0 : entryFrame m (List.map (z_cv ad) as).toArray nL = F0 m 0 ((lg_sl (as.map (z_cv ad)) ++ List.replicate (nL - (lg_sl (as.map (z_cv ad))).length) Slot.unset).toArray) [] := lg_entry_eq m _ nL
  rw [e0]
  exact h p l e s m _ below meth c D cA ad adK adV xs _ s.heap [] _ h0 hin ⟨B.exec, B.bytes, B.returns, hml, hown, fun w hw => hts w (List.mem_cons_of_mem _ hw), B.notSynchronized, hK⟩ hA hZ hP hD hS hl
theorem y_iconst {n0 : Nat} {lay : List z_Sh} {own : String} {cc : ByteArray} {nL : Nat} {R : Room} {pc : Nat} {lv : List (Nat × Value)} {st : List Value} {I : z_I} {L : z_L} {nc ns : Nat} {layR : List z_Sh} {res : z_R} {mc ms : Nat} {n : Int} {v : Int32} (hd : decode cc pc = .ok (.iconst n, 1)) (hv : Int32.ofInt n = v) (k : z_Y n0 lay own cc nL R (pc + 1) lv (.int v :: st) I L nc ns layR res mc ms) : z_Y n0 lay own cc nL R pc lv st I L nc ns layR res mc ms := by
  intro p l e s m args below meth c0 D cA ad adK adV xs A H locs ls h0 hin0 F hA hZ hP hD hS hl
  exact lv_iconst F.1 F.2.1 hd hv (k p l e s m args below meth c0 D cA ad adK adV xs A H locs ls h0 hin0 F hA hZ hP hD hS hl)
theorem y_bipush {n0 : Nat} {lay : List z_Sh} {own : String} {cc : ByteArray} {nL : Nat} {R : Room} {pc : Nat} {lv : List (Nat × Value)} {st : List Value} {I : z_I} {L : z_L} {nc ns : Nat} {layR : List z_Sh} {res : z_R} {mc ms : Nat} {n : Int} {v : Int32} (hd : decode cc pc = .ok (.bipush n, 2)) (hv : (Int8.ofInt n).toInt32 = v) (k : z_Y n0 lay own cc nL R (pc + 2) lv (.int v :: st) I L nc ns layR res mc ms) : z_Y n0 lay own cc nL R pc lv st I L nc ns layR res mc ms := by
  intro p l e s m args below meth c0 D cA ad adK adV xs A H locs ls h0 hin0 F hA hZ hP hD hS hl
  exact lv_bipush F.1 F.2.1 hd hv (k p l e s m args below meth c0 D cA ad adK adV xs A H locs ls h0 hin0 F hA hZ hP hD hS hl)
theorem y_sipush {n0 : Nat} {lay : List z_Sh} {own : String} {cc : ByteArray} {nL : Nat} {R : Room} {pc : Nat} {lv : List (Nat × Value)} {st : List Value} {I : z_I} {L : z_L} {nc ns : Nat} {layR : List z_Sh} {res : z_R} {mc ms : Nat} {n : Int} {v : Int32} (hd : decode cc pc = .ok (.sipush n, 3)) (hv : (Int16.ofInt n).toInt32 = v) (k : z_Y n0 lay own cc nL R (pc + 3) lv (.int v :: st) I L nc ns layR res mc ms) : z_Y n0 lay own cc nL R pc lv st I L nc ns layR res mc ms := by
  intro p l e s m args below meth c0 D cA ad adK adV xs A H locs ls h0 hin0 F hA hZ hP hD hS hl
  exact lv_sipush F.1 F.2.1 hd hv (k p l e s m args below meth c0 D cA ad adK adV xs A H locs ls h0 hin0 F hA hZ hP hD hS hl)
theorem y_lconst {n0 : Nat} {lay : List z_Sh} {own : String} {cc : ByteArray} {nL : Nat} {R : Room} {pc : Nat} {lv : List (Nat × Value)} {st : List Value} {I : z_I} {L : z_L} {nc ns : Nat} {layR : List z_Sh} {res : z_R} {mc ms : Nat} {n : Fin 2} {v : Int64} (hd : decode cc pc = .ok (.lconst n, 1)) (hv : Int64.ofNat (n : Nat) = v) (k : z_Y n0 lay own cc nL R (pc + 1) lv (.long v :: st) I L nc ns layR res mc ms) : z_Y n0 lay own cc nL R pc lv st I L nc ns layR res mc ms := by
  intro p l e s m args below meth c0 D cA ad adK adV xs A H locs ls h0 hin0 F hA hZ hP hD hS hl
  exact lv_lconst F.1 F.2.1 hd hv (k p l e s m args below meth c0 D cA ad adK adV xs A H locs ls h0 hin0 F hA hZ hP hD hS hl)
theorem y_iload_n {n0 : Nat} {lay : List z_Sh} {own : String} {cc : ByteArray} {nL : Nat} {R : Room} {pc : Nat} {lv : List (Nat × Value)} {st : List Value} {I : z_I} {L : z_L} {nc ns : Nat} {layR : List z_Sh} {res : z_R} {mc ms : Nat} {k4 : Fin 4} {i : Nat} {x : Int32} (q : Nat) (hd : decode cc pc = .ok (.iload_n k4, 1)) (hi : (k4 : Nat) = i) (hq : lv[q]? = some (i, .int x)) (k : z_Y n0 lay own cc nL R (pc + 1) lv (.int x :: st) I L nc ns layR res mc ms) : z_Y n0 lay own cc nL R pc lv st I L nc ns layR res mc ms := by
  intro p l e s m args below meth c0 D cA ad adK adV xs A H locs ls h0 hin0 F hA hZ hP hD hS hl
  exact lv_iload_n F.1 F.2.1 hd hi (lv_at hl q (z_lvat hq)) (k p l e s m args below meth c0 D cA ad adK adV xs A H locs ls h0 hin0 F hA hZ hP hD hS hl)
theorem y_aload_n {n0 : Nat} {lay : List z_Sh} {own : String} {cc : ByteArray} {nL : Nat} {R : Room} {pc : Nat} {lv : List (Nat × Value)} {st : List Value} {I : z_I} {L : z_L} {nc ns : Nat} {layR : List z_Sh} {res : z_R} {mc ms : Nat} {k4 : Fin 4} {i : Nat} {x : Nat} (q : Nat) (hd : decode cc pc = .ok (.aload_n k4, 1)) (hi : (k4 : Nat) = i) (hq : lv[q]? = some (i, .ref x)) (k : z_Y n0 lay own cc nL R (pc + 1) lv (.ref x :: st) I L nc ns layR res mc ms) : z_Y n0 lay own cc nL R pc lv st I L nc ns layR res mc ms := by
  intro p l e s m args below meth c0 D cA ad adK adV xs A H locs ls h0 hin0 F hA hZ hP hD hS hl
  exact lv_aload_n F.1 F.2.1 hd hi (lv_at hl q (z_lvat hq)) (k p l e s m args below meth c0 D cA ad adK adV xs A H locs ls h0 hin0 F hA hZ hP hD hS hl)
theorem y_dup {n0 : Nat} {lay : List z_Sh} {own : String} {cc : ByteArray} {nL : Nat} {R : Room} {pc : Nat} {lv : List (Nat × Value)} {st : List Value} {I : z_I} {L : z_L} {nc ns : Nat} {layR : List z_Sh} {res : z_R} {mc ms : Nat} {va : Value} (hd : decode cc pc = .ok (.dup, 1)) (h1 : va.category = 1) (k : z_Y n0 lay own cc nL R (pc + 1) lv (va :: va :: st) I L nc ns layR res mc ms) : z_Y n0 lay own cc nL R pc lv (va :: st) I L nc ns layR res mc ms := by
  intro p l e s m args below meth c0 D cA ad adK adV xs A H locs ls h0 hin0 F hA hZ hP hD hS hl
  exact lv_dup F.1 F.2.1 hd (by rw [z_cv_cat]; exact h1) (k p l e s m args below meth c0 D cA ad adK adV xs A H locs ls h0 hin0 F hA hZ hP hD hS hl)
theorem y_istore_n {n0 : Nat} {lay : List z_Sh} {own : String} {cc : ByteArray} {nL : Nat} {R : Room} {pc : Nat} {lv : List (Nat × Value)} {st : List Value} {I : z_I} {L : z_L} {nc ns : Nat} {layR : List z_Sh} {res : z_R} {mc ms : Nat} {k4 : Fin 4} {i : Nat} {x : Int32} (lv2 : List (Nat × Value)) (hd : decode cc pc = .ok (.istore_n k4, 1)) (hi : (k4 : Nat) = i) (hn : i < nL) (h2 : (i, Value.int x) :: lv.filter (fun q => !(q.1 == i) && !(q.1 + 1 == i && q.2.category == 2)) = lv2) (k : z_Y n0 lay own cc nL R (pc + 1) lv2 st I L nc ns layR res mc ms) : z_Y n0 lay own cc nL R pc lv (.int x :: st) I L nc ns layR res mc ms := by
  intro p l e s m args below meth c0 D cA ad adK adV xs A H locs ls h0 hin0 F hA hZ hP hD hS hl
  exact lv_istore_n F.1 F.2.1 hd hi hl hn (z_lv1 h2) (fun ls2 hl2 => k p l e s m args below meth c0 D cA ad adK adV xs A H locs ls2 h0 hin0 F hA hZ hP hD hS hl2)
theorem y_iinc {n0 : Nat} {lay : List z_Sh} {own : String} {cc : ByteArray} {nL : Nat} {R : Room} {pc : Nat} {lv : List (Nat × Value)} {st : List Value} {I : z_I} {L : z_L} {nc ns : Nat} {layR : List z_Sh} {res : z_R} {mc ms : Nat} {i : Nat} {n : Int} {x v : Int32} (q : Nat) (lv2 : List (Nat × Value)) (hd : decode cc pc = .ok (.iinc i n, 3)) (hq : lv[q]? = some (i, .int x)) (hv : x + Int32.ofInt n = v) (hn : i < nL) (h2 : (i, Value.int v) :: lv.filter (fun q => !(q.1 == i) && !(q.1 + 1 == i && q.2.category == 2)) = lv2) (k : z_Y n0 lay own cc nL R (pc + 3) lv2 st I L nc ns layR res mc ms) : z_Y n0 lay own cc nL R pc lv st I L nc ns layR res mc ms := by
  intro p l e s m args below meth c0 D cA ad adK adV xs A H locs ls h0 hin0 F hA hZ hP hD hS hl
  exact lv_iinc F.1 F.2.1 hd hl (z_lvat hq) hv hn (z_lv1 h2) (fun ls2 hl2 => k p l e s m args below meth c0 D cA ad adK adV xs A H locs ls2 h0 hin0 F hA hZ hP hD hS hl2)
theorem y_goto {n0 : Nat} {lay : List z_Sh} {own : String} {cc : ByteArray} {nL : Nat} {R : Room} {pc : Nat} {lv : List (Nat × Value)} {st : List Value} {I : z_I} {L : z_L} {nc ns : Nat} {layR : List z_Sh} {res : z_R} {mc ms : Nat} {off : Int} (tgt : Nat) (hd : decode cc pc = .ok (.goto off, 3)) (ht : (pc : Int) + off = (tgt : Int)) (k : z_Y n0 lay own cc nL R tgt lv st I L nc ns layR res mc ms) : z_Y n0 lay own cc nL R pc lv st I L nc ns layR res mc ms := by
  intro p l e s m args below meth c0 D cA ad adK adV xs A H locs ls h0 hin0 F hA hZ hP hD hS hl
  exact lv_goto F.1 F.2.1 hd ht (k p l e s m args below meth c0 D cA ad adK adV xs A H locs ls h0 hin0 F hA hZ hP hD hS hl)
theorem y_icmp_ge {n0 : Nat} {lay : List z_Sh} {own : String} {cc : ByteArray} {nL : Nat} {R : Room} {pc : Nat} {lv : List (Nat × Value)} {st : List Value} {I : z_I} {L : z_L} {nc ns : Nat} {layR : List z_Sh} {res : z_R} {mc ms : Nat} {x y : Int32} {off : Int} (tgt : Nat) (hd : decode cc pc = .ok (.if_icmp .ge off, 3)) (ht : (pc : Int) + off = (tgt : Int)) (kt : y ≤ x → z_Y n0 lay own cc nL R tgt lv st I L nc ns layR res mc ms) (kf : ¬ y ≤ x → z_Y n0 lay own cc nL R (pc + 3) lv st I L nc ns layR res mc ms) : z_Y n0 lay own cc nL R pc lv (.int y :: .int x :: st) I L nc ns layR res mc ms := by
  intro p l e s m args below meth c0 D cA ad adK adV xs A H locs ls h0 hin0 F hA hZ hP hD hS hl
  exact lv_icmp_ge F.1 F.2.1 hd ht (fun h => kt h p l e s m args below meth c0 D cA ad adK adV xs A H locs ls h0 hin0 F hA hZ hP hD hS hl) (fun h => kf h p l e s m args below meth c0 D cA ad adK adV xs A H locs ls h0 hin0 F hA hZ hP hD hS hl)
theorem y_vret {n0 : Nat} {lay : List z_Sh} {own : String} {cc : ByteArray} {nL : Nat} {R : Room} {pc : Nat} {lv : List (Nat × Value)} {I : z_I} {L : z_L} {nc ns : Nat} {layR : List z_Sh} {res : z_R} {mc ms : Nat} (hd : decode cc pc = .ok (.return_, 1)) (hres : res = (none, I, L)) (hlay : layR = lay) (hc : nc = mc) (hs : ns = ms) : z_Y n0 lay own cc nL R pc lv [] I L nc ns layR res mc ms := by
  intro p l e s m args below meth c0 D cA ad adK adV xs A H locs ls h0 hin0 F hA hZ hP hD hS hl
  subst hres hlay hc hs
  exact W.vret F.1 F.2.1 F.2.2.1 (fun t ht hW => ⟨rfl, ⟨ad, fun _ _ => rfl, by rw [ht]; exact hP, hD⟩, va_K.moved hW.alike F.2.2.2.2.2.2.2, hS.F ht⟩) hS.2.2 hd F.2.2.2.2.2.2.1
theorem y_widen {n0 : Nat} {lay : List z_Sh} {own : String} {cc : ByteArray} {nL : Nat} {R : Room} {pc : Nat} {lv : List (Nat × Value)} {st : List Value} {I : z_I} {L : z_L} {nc ns : Nat} {layR : List z_Sh} {res : z_R} {mc ms : Nat} {nc2 ns2 : Nat} (h1 : nc ≤ nc2) (h2 : ns ≤ ns2) (k : z_Y n0 lay own cc nL R pc lv st I L nc2 ns2 layR res mc ms) : z_Y n0 lay own cc nL R pc lv st I L nc ns layR res mc ms := by
  intro p l e s m args below meth c0 D cA ad adK adV xs A H locs ls h0 hin0 F hA hZ hP hD hS hl
  exact W.widen h1 h2 (k p l e s m args below meth c0 D cA ad adK adV xs A H locs ls h0 hin0 F hA hZ hP hD hS hl)
theorem y_obj {n0 : Nat} {lay : List z_Sh} {own : String} {cc : ByteArray} {nL : Nat} {R : Room} {pc : Nat} {lv : List (Nat × Value)} {st : List Value} {I : z_I} {L : z_L} {nc ns : Nat} {layR : List z_Sh} {res : z_R} {mc ms : Nat} {a idx : Nat} (hd : decode cc pc = .ok (.invokespecial idx, 3)) (hw : Cond.methodLink own idx objectInit ∈ z_W ∧ Cond.instanceMethod objectInit ∈ z_W ∧ Cond.code objectInit ⟨#[0xb1]⟩ 1 none ∈ z_W) (hR : 1 ≤ R.frames ∧ (st.map fun v => v.category).sum + 12 ≤ R.locals) (k : z_Y n0 lay own cc nL R (pc + 3) lv st I L nc ns layR res mc ms) : z_Y n0 lay own cc nL R pc lv (.ref a :: st) I L nc ns layR res mc ms := by
  intro p l e s m args below meth c0 D cA ad adK adV xs A H locs ls h0 hin0 F hA hZ hP hD hS hl
  have e0 : ((st.map (z_cv ad)).map fun v => v.category).sum = (st.map fun v => v.category).sum := by
    rw [List.map_map]; congr 2; funext v; exact z_cv_cat ad v
  have hts := F.2.2.2.2.2.1
  refine W.objInit F.1 F.2.1 F.2.2.2.2.1 (hts _ hw.1) (hts _ hw.2.1) (hts _ hw.2.2) rfl (by rw [F.2.2.2.1]; exact hl.1) rfl hd hR.1 (by show 2 * 0 + _ + 12 ≤ _; rw [e0]; omega) ?_
  exact k p l e s m args below meth c0 D cA ad adK adV xs A H locs ls h0 hin0 F hA hZ hP hD hS hl
theorem y_getR {n0 : Nat} {lay : List z_Sh} {own : String} {cc : ByteArray} {nL : Nat} {R : Room} {pc : Nat} {lv : List (Nat × Value)} {st : List Value} {I : z_I} {L : z_L} {nc ns : Nat} {layR : List z_Sh} {res : z_R} {mc ms : Nat} {c k idx ci t : Nat} {ss : List (Nat × Nat)} {ty : FieldType} {fin : Bool} (hd : decode cc pc = .ok (.getfield idx, 3)) (hs : lay[c]? = some (.inr (ci, ss))) (hf : z_FL own idx ci k ty fin) (hk : ss[k]? = some (2, t)) (kk : z_Y n0 lay own cc nL R (pc + 3) lv (.ref t :: st) I L nc ns layR res mc ms) : z_Y n0 lay own cc nL R pc lv (.ref c :: st) I L nc ns layR res mc ms := by
  intro p l e s m args below meth c0 D cA ad adK adV xs A H locs ls h0 hin0 F hA hZ hP hD hS hl
  obtain ⟨C, T, N, ty0, h1, h2, h3, h4, h5, h6, h7, h8⟩ := hf
  exact va_get (D := D) (ci := ci) (v := .ref (ad t)) (C := C) (T := T) (N := N) F.1 F.2.1 F.2.2.2.2.2.1 h4 F.2.2.2.2.1 F.2.2.2.2.2.2.2 hP c (z_at hs) h1 k h2 (F.2.2.2.2.2.1 _ h3) (fun _ h9 => h9) (by rw [List.getElem?_mapIdx, hk]; rfl) hd (kk p l e s m args below meth c0 D cA ad adK adV xs A H locs ls h0 hin0 F hA hZ hP hD hS hl)
theorem z_setS {lay : List z_Sh} {cA : FieldType → ClassId} {ad : Nat → Nat} {I : z_I} {L : z_L} {xs : va_W} {c : Nat} {sh sh2 : z_Sh} {e : va_E} (h : lay[c]? = some sh) (he : e = z_ce cA ad I L c sh2) : (z_cs lay cA ad I L ++ xs).set c (ad c, e) = z_cs (lay.set c sh2) cA ad I L ++ xs := by
  subst he
  have hl0 := (List.getElem?_eq_some_iff.mp h).1
  have hl : c < (z_cs lay cA ad I L).length := by
    unfold z_cs
    rw [List.length_mapIdx]
    exact hl0
  rw [List.set_append_left _ _ hl]
  congr 1
  apply List.ext_getElem?
  intro j
  unfold z_cs
  by_cases hj : j = c
  · subst hj
    rw [List.getElem?_set_self (by rw [List.length_mapIdx]; exact hl0), List.getElem?_mapIdx, List.getElem?_set_self hl0]
    rfl
  · rw [List.getElem?_set_ne (Ne.symm hj), List.getElem?_mapIdx, List.getElem?_mapIdx, List.getElem?_set_ne (Ne.symm hj)]
theorem z_osetS {ad : Nat → Nat} {I : z_I} {L : z_L} {c k : Nat} {ss : List (Nat × Nat)} {q q2 : Nat × Nat} {v : Value} (hk : ss[k]? = some q) (hv : v = z_sv ad I L c k q2) : (ss.mapIdx (fun j x => z_sv ad I L c j x)).set k v = (ss.set k q2).mapIdx (fun j x => z_sv ad I L c j x) := by
  subst hv
  have hl0 := (List.getElem?_eq_some_iff.mp hk).1
  apply List.ext_getElem?
  intro j
  by_cases hj : j = k
  · subst hj
    rw [List.getElem?_set_self (by rw [List.length_mapIdx]; exact hl0), List.getElem?_mapIdx, List.getElem?_set_self hl0]
    rfl
  · rw [List.getElem?_set_ne (Ne.symm hj), List.getElem?_mapIdx, List.getElem?_mapIdx, List.getElem?_set_ne (Ne.symm hj)]
theorem z_0.put {n : Nat} {I : z_I} {L : z_L} (h : z_0 n I L) {c k : Nat} {v : Int32} (hc : c < n) : z_0 n (z2 I c k v) L := fun c' j hj => ⟨by rw [z2_o (by omega)]; exact (h c' j hj).1, (h c' j hj).2⟩
theorem z_0.putL {n : Nat} {I : z_I} {L : z_L} (h : z_0 n I L) {c k : Nat} {v : Int64} (hc : c < n) : z_0 n I (z2 L c k v) := fun c' j hj => ⟨(h c' j hj).1, by rw [z2_o (by omega)]; exact (h c' j hj).2⟩
theorem y_putF {n0 : Nat} {lay : List z_Sh} {own : String} {cc : ByteArray} {nL : Nat} {R : Room} {pc : Nat} {lv : List (Nat × Value)} {st : List Value} {I : z_I} {L : z_L} {nc ns : Nat} {layR : List z_Sh} {res : z_R} {mc ms : Nat} {c k idx ci t : Nat} {ss : List (Nat × Nat)} {q : Nat × Nat} {ty : FieldType} {lay2 : List z_Sh} (hd : decode cc pc = .ok (.putfield idx, 3)) (hs : lay[c]? = some (.inr (ci, ss))) (hf : z_FL own idx ci k ty true) (hk : ss[k]? = some q) (hown : ∀ (C : String) (T : u_T) (N : Nat), vwCl[ci]? = some (C, T, N) → k < N → (T k).1 = own) (hn : ∀ a, narrow ty (.ref a) = .ref a) (hfit : ∀ a, fits ty (.ref a) = true) (hly : lay2 = lay.set c (.inr (ci, ss.set k (2, t)))) (kk : z_Y n0 lay2 own cc nL R (pc + 3) lv st I L nc ns layR res mc ms) : z_Y n0 lay own cc nL R pc lv (.ref t :: .ref c :: st) I L nc ns layR res mc ms := by
  intro p l e s m args below meth c0 D cA ad adK adV xs A H locs ls h0 hin0 F hA hZ hP hD hS hl
  obtain ⟨C, T, N, ty0, h1, h2, h3, h4, h5, h6, h7, h8⟩ := hf
  subst hly
  refine va_putF (D := D) (ci := ci) (v := .ref (ad t)) (ty := ty) (C := C) (T := T) (N := N) F.1 F.2.1 F.2.2.2.2.2.1 h4 ty0 h5 h6 F.2.2.2.2.1 F.2.2.2.2.2.2.2 hP hD hS c (z_at hs) h1 k h2 (F.2.2.2.2.2.1 _ h3) (fun _ h9 => h9) h8 hin0 (hown C T N h1 h2) (by rw [h5 k h2, h7]) (hn _) (hfit _) (by rw [List.length_mapIdx]; exact (List.getElem?_eq_some_iff.mp hk).1) hd (fun H1 locs1 hP1 hD1 hS1 => ?_)
  have e1 : (z_cs lay cA ad I L ++ xs).set c (ad c, .inr (ci, (ss.mapIdx (fun j x => z_sv ad I L c j x)).set k (.ref (ad t)))) = z_cs (lay.set c (.inr (ci, ss.set k (2, t)))) cA ad I L ++ xs := z_setS hs (congrArg (fun z => Sum.inr (ci, z)) (z_osetS (q2 := (2, t)) hk rfl))
  rw [e1] at hP1 hD1
  exact kk p l e s m args below meth c0 D cA ad adK adV xs A H1 locs1 ls (by rw [List.length_set]; exact h0) hin0 F hA hZ hP1 hD1 hS1 hl
theorem y_putR {n0 : Nat} {lay : List z_Sh} {own : String} {cc : ByteArray} {nL : Nat} {R : Room} {pc : Nat} {lv : List (Nat × Value)} {st : List Value} {I : z_I} {L : z_L} {nc ns : Nat} {layR : List z_Sh} {res : z_R} {mc ms : Nat} {c k idx ci t : Nat} {ss : List (Nat × Nat)} {q : Nat × Nat} {ty : FieldType} {lay2 : List z_Sh} (hd : decode cc pc = .ok (.putfield idx, 3)) (hs : lay[c]? = some (.inr (ci, ss))) (hf : z_FL own idx ci k ty false) (hk : ss[k]? = some q)  (hn : ∀ a, narrow ty (.ref a) = .ref a) (hfit : ∀ a, fits ty (.ref a) = true) (hly : lay2 = lay.set c (.inr (ci, ss.set k (2, t)))) (kk : z_Y n0 lay2 own cc nL R (pc + 3) lv st I L nc ns layR res mc ms) : z_Y n0 lay own cc nL R pc lv (.ref t :: .ref c :: st) I L nc ns layR res mc ms := by
  intro p l e s m args below meth c0 D cA ad adK adV xs A H locs ls h0 hin0 F hA hZ hP hD hS hl
  obtain ⟨C, T, N, ty0, h1, h2, h3, h4, h5, h6, h7, h8⟩ := hf
  subst hly
  refine va_put (D := D) (ci := ci) (v := .ref (ad t)) (ty := ty) (C := C) (T := T) (N := N) F.1 F.2.1 F.2.2.2.2.2.1 h4 ty0 h5 h6 F.2.2.2.2.1 F.2.2.2.2.2.2.2 hP hD hS c (z_at hs) h1 k h2 (F.2.2.2.2.2.1 _ h3) (fun _ h9 => h9) h8  (by rw [h5 k h2, h7]) (hn _) (hfit _) (by rw [List.length_mapIdx]; exact (List.getElem?_eq_some_iff.mp hk).1) hd (fun H1 locs1 hP1 hD1 hS1 => ?_)
  have e1 : (z_cs lay cA ad I L ++ xs).set c (ad c, .inr (ci, (ss.mapIdx (fun j x => z_sv ad I L c j x)).set k (.ref (ad t)))) = z_cs (lay.set c (.inr (ci, ss.set k (2, t)))) cA ad I L ++ xs := z_setS hs (congrArg (fun z => Sum.inr (ci, z)) (z_osetS (q2 := (2, t)) hk rfl))
  rw [e1] at hP1 hD1
  exact kk p l e s m args below meth c0 D cA ad adK adV xs A H1 locs1 ls (by rw [List.length_set]; exact h0) hin0 F hA hZ hP1 hD1 hS1 hl
theorem y_putI {n0 : Nat} {lay : List z_Sh} {own : String} {cc : ByteArray} {nL : Nat} {R : Room} {pc : Nat} {lv : List (Nat × Value)} {st : List Value} {I : z_I} {L : z_L} {nc ns : Nat} {layR : List z_Sh} {res : z_R} {mc ms : Nat} {c k idx ci t : Nat} {ss : List (Nat × Nat)} {ty : FieldType} {v : Int32} (hd : decode cc pc = .ok (.putfield idx, 3)) (hs : lay[c]? = some (.inr (ci, ss))) (hf : z_FL own idx ci k ty false) (hk : ss[k]? = some (0, t)) (hn : narrow ty (.int v) = .int v) (hfit : fits ty (.int v) = true) {I2 : z_I} (hI : I2 = (z2 I c k v)) (kk : z_Y n0 lay own cc nL R (pc + 3) lv st I2 L nc ns layR res mc ms) : z_Y n0 lay own cc nL R pc lv (.int v :: .ref c :: st) I L nc ns layR res mc ms := by
  intro p l e s m args below meth c0 D cA ad adK adV xs A H locs ls h0 hin0 F hA hZ hP hD hS hl
  subst hI
  obtain ⟨C, T, N, ty0, h1, h2, h3, h4, h5, h6, h7, h8⟩ := hf
  refine va_put (D := D) (ci := ci) (v := .int v) (ty := ty) (C := C) (T := T) (N := N) F.1 F.2.1 F.2.2.2.2.2.1 h4 ty0 h5 h6 F.2.2.2.2.1 F.2.2.2.2.2.2.2 hP hD hS c (z_at hs) h1 k h2 (F.2.2.2.2.2.1 _ h3) (fun _ h9 => h9) h8 (by rw [h5 k h2, h7]) hn hfit (by rw [List.length_mapIdx]; exact (List.getElem?_eq_some_iff.mp hk).1) hd (fun H1 locs1 hP1 hD1 hS1 => ?_)
  have e1 : (z_cs lay cA ad I L ++ xs).set c (ad c, .inr (ci, (ss.mapIdx (fun j x => z_sv ad I L c j x)).set k (.int v))) = z_cs lay cA ad (z2 I c k v) L ++ xs := z_set hs (congrArg (fun z => Sum.inr (ci, z)) (z_oset hk (by unfold z_sv; rw [z2_s, z1_s]; rfl) z_svI)) (fun j hj => z2_o hj) (fun j hj => rfl)
  rw [e1] at hP1 hD1
  exact kk p l e s m args below meth c0 D cA ad adK adV xs A H1 locs1 ls (h0.put (List.getElem?_eq_some_iff.mp hs).1) hin0 F hA hZ hP1 hD1 hS1 hl
theorem y_putL {n0 : Nat} {lay : List z_Sh} {own : String} {cc : ByteArray} {nL : Nat} {R : Room} {pc : Nat} {lv : List (Nat × Value)} {st : List Value} {I : z_I} {L : z_L} {nc ns : Nat} {layR : List z_Sh} {res : z_R} {mc ms : Nat} {c k idx ci t : Nat} {ss : List (Nat × Nat)} {ty : FieldType} {v : Int64} (hd : decode cc pc = .ok (.putfield idx, 3)) (hs : lay[c]? = some (.inr (ci, ss))) (hf : z_FL own idx ci k ty false) (hk : ss[k]? = some (1, t)) (hn : narrow ty (.long v) = .long v) (hfit : fits ty (.long v) = true) {L2 : z_L} (hI : L2 = (z2 L c k v)) (kk : z_Y n0 lay own cc nL R (pc + 3) lv st I L2 nc ns layR res mc ms) : z_Y n0 lay own cc nL R pc lv (.long v :: .ref c :: st) I L nc ns layR res mc ms := by
  intro p l e s m args below meth c0 D cA ad adK adV xs A H locs ls h0 hin0 F hA hZ hP hD hS hl
  subst hI
  obtain ⟨C, T, N, ty0, h1, h2, h3, h4, h5, h6, h7, h8⟩ := hf
  refine va_put (D := D) (ci := ci) (v := .long v) (ty := ty) (C := C) (T := T) (N := N) F.1 F.2.1 F.2.2.2.2.2.1 h4 ty0 h5 h6 F.2.2.2.2.1 F.2.2.2.2.2.2.2 hP hD hS c (z_at hs) h1 k h2 (F.2.2.2.2.2.1 _ h3) (fun _ h9 => h9) h8 (by rw [h5 k h2, h7]) hn hfit (by rw [List.length_mapIdx]; exact (List.getElem?_eq_some_iff.mp hk).1) hd (fun H1 locs1 hP1 hD1 hS1 => ?_)
  have e1 : (z_cs lay cA ad I L ++ xs).set c (ad c, .inr (ci, (ss.mapIdx (fun j x => z_sv ad I L c j x)).set k (.long v))) = z_cs lay cA ad I (z2 L c k v) ++ xs := z_set hs (congrArg (fun z => Sum.inr (ci, z)) (z_oset hk (by unfold z_sv; rw [z2_s, z1_s]; rfl) z_svL)) (fun j hj => rfl) (fun j hj => z2_o hj)
  rw [e1] at hP1 hD1
  exact kk p l e s m args below meth c0 D cA ad adK adV xs A H1 locs1 ls (h0.putL (List.getElem?_eq_some_iff.mp hs).1) hin0 F hA hZ hP1 hD1 hS1 hl
theorem z_Ymono {p : Program} {l : Launch} {e : Env} {R : Room} {s : State} {m : MethodId} {args : Array Value} {below : List Frame} {meth : Method} {c : Code} {H : Heap} {locs : List Loc} {nc ns mc ms n0 : Nat} {lay : List z_Sh} {D : va_G} {cA : FieldType → ClassId} {ad ad1 : Nat → Nat} {xs : va_W} {A : Nat → Prop} {res : z_R} {g : JFrame} (ha : z_agr n0 ad ad1) (k : W p l e R s m args below meth c H locs nc ns (MQ below (z_QY n0 lay D cA ad1 xs A res) args s mc ms A) g) : W p l e R s m args below meth c H locs nc ns (MQ below (z_QY n0 lay D cA ad xs A res) args s mc ms A) g := by
  intro T hT X
  obtain ⟨t, a, o, b1, b2, ⟨b3, ⟨ad', b4, b5⟩, b6⟩, b7⟩ := k T hT X
  exact ⟨t, a, o, b1, b2, ⟨b3, ⟨ad', fun k hk => (b4 k hk).trans (ha k hk), b5⟩, b6⟩, b7⟩
theorem z_S.ad {adK adV ad ad1 : Nat → Nat} {A : Nat → Prop} {U : State} {H : Heap} {n : Nat} (h : z_S adK adV ad A U H) (ha : z_agr n ad ad1) : z_S adK adV ad1 A U H :=
  ⟨h.1, h.2.1, h.2.2.1, h.2.2.2.1, h.2.2.2.2.1, h.2.2.2.2.2.1, fun i hi => ⟨(ha (9000 + i) (Or.inr (by omega))).trans (h.2.2.2.2.2.2 i hi).1, (ha (9002 + i) (Or.inr (by omega))).trans (h.2.2.2.2.2.2 i hi).2⟩⟩
theorem z_agr.le {n n0 : Nat} {ad ad1 : Nat → Nat} (h : z_agr n ad ad1) (hn : n0 ≤ n) : z_agr n0 ad ad1 := fun k hk => h k (by omega)
theorem z_agr1 {n q : Nat} {ad : Nat → Nat} (hn : n < 9000) : z_agr n ad (z1 ad n q) := fun k hk => z1_o (by omega)
def z_dok (ty : FieldType) (s : Nat × Nat) : Bool := match ty with
  | .int => s.1 == 0
  | .long => s.1 == 1
  | .boolean => s.1 == 4
  | .array _ => s.1 == 5
  | .object _ => s.1 == 5
  | _ => false
theorem z_dokv {ty : FieldType} {s : Nat × Nat} {I : z_I} {L : z_L} {c k : Nat} (ad : Nat → Nat) (h : z_dok ty s = true) (h0 : I c k = 0 ∧ L c k = 0) : defaultValue ty = z_sv ad I L c k s := by
  obtain ⟨a, b⟩ := s
  cases ty <;> simp [z_dok] at h <;> subst h <;> simp [z_sv, h0.1, h0.2, zb, zn] <;> rfl
/-- the words of a class that is made: its link, its slots -/
def z_LW (own : String) (idx ci : Nat) (ss : List (Nat × Nat)) : Prop := ∃ (C : String) (T : u_T) (N : Nat) (ty0 : Nat → FieldType), vwCl[ci]? = some (C, T, N) ∧ Cond.classLink own idx C ∈ z_W ∧ Cond.instantiable C N ∈ z_W ∧ Cond.initialized C ∈ z_W ∧ (∀ w ∈ u_ws C T N, w ∈ z_W) ∧ (∀ k, k < N → parseFieldDescriptor (T k).2.2.1 = some (ty0 k)) ∧ N = ss.length ∧ ∀ j, j < N → z_dok (ty0 j) (ss.getD j (9, 9)) = true
theorem y_new {n0 : Nat} {lay : List z_Sh} {own : String} {cc : ByteArray} {nL : Nat} {R : Room} {pc : Nat} {lv : List (Nat × Value)} {st : List Value} {I : z_I} {L : z_L} {nc ns : Nat} {layR : List z_Sh} {res : z_R} {mc ms : Nat} {idx ci n : Nat} {ss : List (Nat × Nat)} {lay2 : List z_Sh} (hd : decode cc pc = .ok (.new idx, 3)) (hw : z_LW own idx ci ss) (hly : lay2 = lay ++ [.inr (ci, ss)]) (hs : lay.all (z_shok lay.length) = true) (hl9 : lay.length = n) (hn9 : n < 9000) (hn0 : n0 ≤ n) (hst : st.all (z_rok n) = true) (hlv : (lv.map (fun q => q.2)).all (z_rok n) = true) (hc : nc + 1 ≤ R.cells) (hsl : ns + ss.length ≤ R.slots) (kk : z_Y n0 lay2 own cc nL R (pc + 3) lv (.ref n :: st) I L (nc + 1) (ns + ss.length) layR res mc ms) : z_Y n0 lay own cc nL R pc lv st I L nc ns layR res mc ms := by
  intro p l e s m args below meth c0 D cA ad adK adV xs A H locs ls h0 hin0 F hA hZ hP hD hS hl
  obtain ⟨C, T, N, ty0, w1, w2, w3, w4, w5, w6, w7, w8⟩ := hw
  subst hly hl9 w7
  have hts := F.2.2.2.2.2.1
  have hz : ∀ (ad1 : Nat → Nat) (j : Nat), j < ss.length → defaultValue (ty0 j) = vp_V (ss.mapIdx (fun k s => z_sv ad1 I L lay.length k s)) j := by
    intro ad1 j hj
    have h8 := w8 j hj
    rw [List.getD_eq_getElem?_getD, List.getElem?_eq_getElem hj] at h8
    have h9 := z_dokv (I := I) (L := L) (c := lay.length) (k := j) ad1 h8 (h0 _ _ (Nat.le_refl _))
    show _ = (ss.mapIdx (fun k s => z_sv ad1 I L lay.length k s)).getD j .null
    rw [List.getD_eq_getElem?_getD, List.getElem?_mapIdx, List.getElem?_eq_getElem hj]
    exact h9
  refine va_new (fs := ss.mapIdx (fun k s => z_sv ad I L lay.length k s)) F.1 F.2.1 hts w5 ty0 w6 F.2.2.2.2.1 (hts _ w2) (hts _ w3) (hts _ w4) F.2.2.2.2.2.2.2 hP hD hS hA w1 (hz ad) hc hsl hd (fun q H1 hP1 hD1 hS1 => ?_)
  have he : (Sum.inr (ci, ss.mapIdx (fun k s => z_sv ad I L lay.length k s)) : va_E) = z_ce cA (z1 ad lay.length q) I L lay.length (.inr (ci, ss)) := by
    show Sum.inr (ci, _) = Sum.inr (ci, _)
    congr 2
    apply List.ext_getElem?
    intro j
    by_cases hj : j < ss.length
    · have a1 := hz ad j hj
      have a2 := hz (z1 ad lay.length q) j hj
      unfold vp_V at a1 a2
      rw [List.getD_eq_getElem?_getD, List.getElem?_eq_getElem (by rw [List.length_mapIdx]; exact hj)] at a1 a2
      rw [List.getElem?_eq_getElem (by rw [List.length_mapIdx]; exact hj), List.getElem?_eq_getElem (by rw [List.length_mapIdx]; exact hj)]
      exact congrArg some (a1.symm.trans a2)
    · rw [List.getElem?_eq_none (by rw [List.length_mapIdx]; omega), List.getElem?_eq_none (by rw [List.length_mapIdx]; omega)]
  have hw9 := z_new hs hn9 he hP1 hD1
  have ha := z_agr1 (n := lay.length) (q := q) (ad := ad) hn9
  refine z_Ymono (ha.le hn0) ?_
  have h9 := kk p l e s m args below meth c0 D cA (z1 ad lay.length q) adK adV xs A H1 locs ls (fun c' j hj => h0 c' j (by rw [List.length_append] at hj; omega)) hin0 F hA (hZ.ad ha) hw9.1 hw9.2 hS1 (by rw [z_lvq ha hlv]; exact hl)
  have e9 : (Value.ref lay.length :: st).map (z_cv (z1 ad lay.length q)) = .ref q :: st.map (z_cv ad) := by
    show Value.ref (z1 ad lay.length q lay.length) :: st.map (z_cv (z1 ad lay.length q)) = _
    rw [z1_s, z_stq ha hst]
  rw [e9] at h9
  exact h9
theorem y_newaI {n0 : Nat} {lay : List z_Sh} {own : String} {cc : ByteArray} {nL : Nat} {R : Room} {pc : Nat} {lv : List (Nat × Value)} {st : List Value} {I : z_I} {L : z_L} {nc ns : Nat} {layR : List z_Sh} {res : z_R} {mc ms : Nat} {n N0 : Nat} {x : Int32} {lay2 : List z_Sh} (hd : decode cc pc = .ok (.newarray .int, 2)) (hw : Cond.arrayClass .int ∈ z_W) (hx : ¬ x < 0) (hN : x.toNatClampNeg = N0) (hb9 : N0 * componentBytes .int ≤ 536870912) (hly : lay2 = lay ++ [.inl (.int, N0, 0, [])]) (hs : lay.all (z_shok lay.length) = true) (hl9 : lay.length = n) (hn9 : n < 9000) (hn0 : n0 ≤ n) (hst : st.all (z_rok n) = true) (hlv : (lv.map (fun q => q.2)).all (z_rok n) = true) (hc : nc + 1 ≤ R.cells) (hsl : ns + N0 ≤ R.slots) (kk : z_Y n0 lay2 own cc nL R (pc + 2) lv (.ref n :: st) I L (nc + 1) (ns + N0) layR res mc ms) : z_Y n0 lay own cc nL R pc lv (.int x :: st) I L nc ns layR res mc ms := by
  intro p l e s m args below meth c0 D cA ad adK adV xs A H locs ls h0 hin0 F hA hZ hP hD hS hl
  subst hly hl9
  have hts := F.2.2.2.2.2.1
  have hz : I lay.length = fun _ => 0 := funext fun j => (h0 _ j (Nat.le_refl _)).1
  refine va_newa (atype := .int) (ty := .int) (a0 := (N0, .inl (I lay.length))) F.1 F.2.1 (hts _ hw) rfl F.2.2.2.2.2.2.2 hP hD hS hA (fun cA => by rw [hz]; rfl) hx hN hb9 hc hsl hd (fun q cA1 H1 hK1 hP1 hD1 hS1 => ?_)
  have hcA : cA1 = cA .int := by
    have a1 : s.vm.findClass ("[" ++ (FieldType.int).toString) = some cA1 := (hK1.2 6 (cA1, .int) rfl).2
    have a2 : s.vm.findClass ("[" ++ (FieldType.int).toString) = some (cA .int) := (F.2.2.2.2.2.2.2.2 0 (cA .int, .int) rfl).2
    exact Option.some.inj (a1.symm.trans a2)
  subst hcA
  have hw9 := z_new (sh := .inl (.int, N0, 0, [])) hs hn9 rfl hP1 hD1
  have ha := z_agr1 (n := lay.length) (q := q) (ad := ad) hn9
  refine z_Ymono (ha.le hn0) ?_
  have h9 := kk p l e s m args below meth c0 D cA (z1 ad lay.length q) adK adV xs A H1 locs ls (fun c' j hj => h0 c' j (by rw [List.length_append] at hj; omega)) hin0 F hA (hZ.ad ha) hw9.1 hw9.2 hS1 (by rw [z_lvq ha hlv]; exact hl)
  have e9 : (Value.ref lay.length :: st).map (z_cv (z1 ad lay.length q)) = .ref q :: st.map (z_cv ad) := by
    show Value.ref (z1 ad lay.length q lay.length) :: st.map (z_cv (z1 ad lay.length q)) = _
    rw [z1_s, z_stq ha hst]
  rw [e9] at h9
  exact h9
theorem y_newaL {n0 : Nat} {lay : List z_Sh} {own : String} {cc : ByteArray} {nL : Nat} {R : Room} {pc : Nat} {lv : List (Nat × Value)} {st : List Value} {I : z_I} {L : z_L} {nc ns : Nat} {layR : List z_Sh} {res : z_R} {mc ms : Nat} {n N0 : Nat} {x : Int32} {lay2 : List z_Sh} (hd : decode cc pc = .ok (.newarray .long, 2)) (hw : Cond.arrayClass .long ∈ z_W) (hx : ¬ x < 0) (hN : x.toNatClampNeg = N0) (hb9 : N0 * componentBytes .long ≤ 536870912) (hly : lay2 = lay ++ [.inl (.long, N0, 1, [])]) (hs : lay.all (z_shok lay.length) = true) (hl9 : lay.length = n) (hn9 : n < 9000) (hn0 : n0 ≤ n) (hst : st.all (z_rok n) = true) (hlv : (lv.map (fun q => q.2)).all (z_rok n) = true) (hc : nc + 1 ≤ R.cells) (hsl : ns + N0 ≤ R.slots) (kk : z_Y n0 lay2 own cc nL R (pc + 2) lv (.ref n :: st) I L (nc + 1) (ns + N0) layR res mc ms) : z_Y n0 lay own cc nL R pc lv (.int x :: st) I L nc ns layR res mc ms := by
  intro p l e s m args below meth c0 D cA ad adK adV xs A H locs ls h0 hin0 F hA hZ hP hD hS hl
  subst hly hl9
  have hts := F.2.2.2.2.2.1
  have hz : L lay.length = fun _ => 0 := funext fun j => (h0 _ j (Nat.le_refl _)).2
  refine va_newa (atype := .long) (ty := .long) (a0 := (N0, .inr (.inl (L lay.length)))) F.1 F.2.1 (hts _ hw) rfl F.2.2.2.2.2.2.2 hP hD hS hA (fun cA => by rw [hz]; rfl) hx hN hb9 hc hsl hd (fun q cA1 H1 hK1 hP1 hD1 hS1 => ?_)
  have hcA : cA1 = cA .long := by
    have a1 : s.vm.findClass ("[" ++ (FieldType.long).toString) = some cA1 := (hK1.2 6 (cA1, .long) rfl).2
    have a2 : s.vm.findClass ("[" ++ (FieldType.long).toString) = some (cA .long) := (F.2.2.2.2.2.2.2.2 1 (cA .long, .long) rfl).2
    exact Option.some.inj (a1.symm.trans a2)
  subst hcA
  have hw9 := z_new (sh := .inl (.long, N0, 1, [])) hs hn9 rfl hP1 hD1
  have ha := z_agr1 (n := lay.length) (q := q) (ad := ad) hn9
  refine z_Ymono (ha.le hn0) ?_
  have h9 := kk p l e s m args below meth c0 D cA (z1 ad lay.length q) adK adV xs A H1 locs ls (fun c' j hj => h0 c' j (by rw [List.length_append] at hj; omega)) hin0 F hA (hZ.ad ha) hw9.1 hw9.2 hS1 (by rw [z_lvq ha hlv]; exact hl)
  have e9 : (Value.ref lay.length :: st).map (z_cv (z1 ad lay.length q)) = .ref q :: st.map (z_cv ad) := by
    show Value.ref (z1 ad lay.length q lay.length) :: st.map (z_cv (z1 ad lay.length q)) = _
    rw [z1_s, z_stq ha hst]
  rw [e9] at h9
  exact h9
theorem y_newaB {n0 : Nat} {lay : List z_Sh} {own : String} {cc : ByteArray} {nL : Nat} {R : Room} {pc : Nat} {lv : List (Nat × Value)} {st : List Value} {I : z_I} {L : z_L} {nc ns : Nat} {layR : List z_Sh} {res : z_R} {mc ms : Nat} {n N0 : Nat} {x : Int32} {lay2 : List z_Sh} (hd : decode cc pc = .ok (.newarray .byte, 2)) (hw : Cond.arrayClass .byte ∈ z_W) (hx : ¬ x < 0) (hN : x.toNatClampNeg = N0) (hb9 : N0 * componentBytes .byte ≤ 536870912) (hly : lay2 = lay ++ [.inl (.byte, N0, 0, [])]) (hs : lay.all (z_shok lay.length) = true) (hl9 : lay.length = n) (hn9 : n < 9000) (hn0 : n0 ≤ n) (hst : st.all (z_rok n) = true) (hlv : (lv.map (fun q => q.2)).all (z_rok n) = true) (hc : nc + 1 ≤ R.cells) (hsl : ns + N0 ≤ R.slots) (kk : z_Y n0 lay2 own cc nL R (pc + 2) lv (.ref n :: st) I L (nc + 1) (ns + N0) layR res mc ms) : z_Y n0 lay own cc nL R pc lv (.int x :: st) I L nc ns layR res mc ms := by
  intro p l e s m args below meth c0 D cA ad adK adV xs A H locs ls h0 hin0 F hA hZ hP hD hS hl
  subst hly hl9
  have hts := F.2.2.2.2.2.1
  have hz : I lay.length = fun _ => 0 := funext fun j => (h0 _ j (Nat.le_refl _)).1
  refine va_newa (atype := .byte) (ty := .byte) (a0 := (N0, .inl (I lay.length))) F.1 F.2.1 (hts _ hw) rfl F.2.2.2.2.2.2.2 hP hD hS hA (fun cA => by rw [hz]; rfl) hx hN hb9 hc hsl hd (fun q cA1 H1 hK1 hP1 hD1 hS1 => ?_)
  have hcA : cA1 = cA .byte := by
    have a1 : s.vm.findClass ("[" ++ (FieldType.byte).toString) = some cA1 := (hK1.2 6 (cA1, .byte) rfl).2
    have a2 : s.vm.findClass ("[" ++ (FieldType.byte).toString) = some (cA .byte) := (F.2.2.2.2.2.2.2.2 2 (cA .byte, .byte) rfl).2
    exact Option.some.inj (a1.symm.trans a2)
  subst hcA
  have hw9 := z_new (sh := .inl (.byte, N0, 0, [])) hs hn9 rfl hP1 hD1
  have ha := z_agr1 (n := lay.length) (q := q) (ad := ad) hn9
  refine z_Ymono (ha.le hn0) ?_
  have h9 := kk p l e s m args below meth c0 D cA (z1 ad lay.length q) adK adV xs A H1 locs ls (fun c' j hj => h0 c' j (by rw [List.length_append] at hj; omega)) hin0 F hA (hZ.ad ha) hw9.1 hw9.2 hS1 (by rw [z_lvq ha hlv]; exact hl)
  have e9 : (Value.ref lay.length :: st).map (z_cv (z1 ad lay.length q)) = .ref q :: st.map (z_cv ad) := by
    show Value.ref (z1 ad lay.length q lay.length) :: st.map (z_cv (z1 ad lay.length q)) = _
    rw [z1_s, z_stq ha hst]
  rw [e9] at h9
  exact h9
theorem y_newqT {n0 : Nat} {lay : List z_Sh} {own : String} {cc : ByteArray} {nL : Nat} {R : Room} {pc : Nat} {lv : List (Nat × Value)} {st : List Value} {I : z_I} {L : z_L} {nc ns : Nat} {layR : List z_Sh} {res : z_R} {mc ms : Nat} {n N0 idx : Nat} {x : Int32} {lay2 : List z_Sh} (hd : decode cc pc = .ok (.anewarray idx, 3)) (hw : Cond.classLink own idx RX8 ∈ z_W) (hx : ¬ x < 0) (hN : x.toNatClampNeg = N0) (hb9 : N0 * 4 ≤ 536870912) (hly : lay2 = lay ++ [.inl (.object RX8, N0, 2, [])]) (hs : lay.all (z_shok lay.length) = true) (hl9 : lay.length = n) (hn9 : n < 9000) (hn0 : n0 ≤ n) (hst : st.all (z_rok n) = true) (hlv : (lv.map (fun q => q.2)).all (z_rok n) = true) (hc : nc + 1 ≤ R.cells) (hsl : ns + N0 ≤ R.slots) (kk : z_Y n0 lay2 own cc nL R (pc + 3) lv (.ref n :: st) I L (nc + 1) (ns + N0) layR res mc ms) : z_Y n0 lay own cc nL R pc lv (.int x :: st) I L nc ns layR res mc ms := by
  intro p l e s m args below meth c0 D cA ad adK adV xs A H locs ls h0 hin0 F hA hZ hP hD hS hl
  subst hly hl9
  have hts := F.2.2.2.2.2.1
  refine va_newq F.1 F.2.1 F.2.2.2.2.1 (hts _ hw) hZ.2.2.2.2.2.1.2.1 F.2.2.2.2.2.2.2 hP hD hS hA hx hN hb9 hc hsl hd (fun q cA1 H1 hK1 hP1 hD1 hS1 => ?_)
  have hcA : cA1 = cA (.object RX8) := by
    obtain ⟨_, _, _, _, _, a1⟩ := (hK1.2 6 (cA1, .object RX8) rfl).2
    obtain ⟨_, _, _, _, _, a2⟩ := (F.2.2.2.2.2.2.2.2 3 (cA (.object RX8), .object RX8) rfl).2
    exact Option.some.inj (a1.symm.trans a2)
  subst hcA
  have hw9 := z_new (sh := .inl (.object RX8, N0, 2, [])) hs hn9 (by
    show (_ : va_E) = (Sum.inl (cA (.object RX8), N0, .inr (.inr (.inr (.inr (fun i => (([] : List Nat)[i]?).map (z1 ad lay.length q)))))) : va_E)
    rfl) hP1 hD1
  have ha := z_agr1 (n := lay.length) (q := q) (ad := ad) hn9
  refine z_Ymono (ha.le hn0) ?_
  have h9 := kk p l e s m args below meth c0 D cA (z1 ad lay.length q) adK adV xs A H1 locs ls (fun c' j hj => h0 c' j (by rw [List.length_append] at hj; omega)) hin0 F hA (hZ.ad ha) hw9.1 hw9.2 hS1 (by rw [z_lvq ha hlv]; exact hl)
  have e9 : (Value.ref lay.length :: st).map (z_cv (z1 ad lay.length q)) = .ref q :: st.map (z_cv ad) := by
    show Value.ref (z1 ad lay.length q lay.length) :: st.map (z_cv (z1 ad lay.length q)) = _
    rw [z1_s, z_stq ha hst]
  rw [e9] at h9
  exact h9
theorem y_newqC {n0 : Nat} {lay : List z_Sh} {own : String} {cc : ByteArray} {nL : Nat} {R : Room} {pc : Nat} {lv : List (Nat × Value)} {st : List Value} {I : z_I} {L : z_L} {nc ns : Nat} {layR : List z_Sh} {res : z_R} {mc ms : Nat} {n N0 idx : Nat} {x : Int32} {lay2 : List z_Sh} (hd : decode cc pc = .ok (.anewarray idx, 3)) (hw : Cond.classLink own idx RX0 ∈ z_W) (hx : ¬ x < 0) (hN : x.toNatClampNeg = N0) (hb9 : N0 * 4 ≤ 536870912) (hly : lay2 = lay ++ [.inl (.object RX0, N0, 2, [])]) (hs : lay.all (z_shok lay.length) = true) (hl9 : lay.length = n) (hn9 : n < 9000) (hn0 : n0 ≤ n) (hst : st.all (z_rok n) = true) (hlv : (lv.map (fun q => q.2)).all (z_rok n) = true) (hc : nc + 1 ≤ R.cells) (hsl : ns + N0 ≤ R.slots) (kk : z_Y n0 lay2 own cc nL R (pc + 3) lv (.ref n :: st) I L (nc + 1) (ns + N0) layR res mc ms) : z_Y n0 lay own cc nL R pc lv (.int x :: st) I L nc ns layR res mc ms := by
  intro p l e s m args below meth c0 D cA ad adK adV xs A H locs ls h0 hin0 F hA hZ hP hD hS hl
  subst hly hl9
  have hts := F.2.2.2.2.2.1
  refine va_newq F.1 F.2.1 F.2.2.2.2.1 (hts _ hw) hZ.2.2.2.2.2.1.2.2.1 F.2.2.2.2.2.2.2 hP hD hS hA hx hN hb9 hc hsl hd (fun q cA1 H1 hK1 hP1 hD1 hS1 => ?_)
  have hcA : cA1 = cA (.object RX0) := by
    obtain ⟨_, _, _, _, _, a1⟩ := (hK1.2 6 (cA1, .object RX0) rfl).2
    obtain ⟨_, _, _, _, _, a2⟩ := (F.2.2.2.2.2.2.2.2 4 (cA (.object RX0), .object RX0) rfl).2
    exact Option.some.inj (a1.symm.trans a2)
  subst hcA
  have hw9 := z_new (sh := .inl (.object RX0, N0, 2, [])) hs hn9 (by
    show (_ : va_E) = (Sum.inl (cA (.object RX0), N0, .inr (.inr (.inr (.inr (fun i => (([] : List Nat)[i]?).map (z1 ad lay.length q)))))) : va_E)
    rfl) hP1 hD1
  have ha := z_agr1 (n := lay.length) (q := q) (ad := ad) hn9
  refine z_Ymono (ha.le hn0) ?_
  have h9 := kk p l e s m args below meth c0 D cA (z1 ad lay.length q) adK adV xs A H1 locs ls (fun c' j hj => h0 c' j (by rw [List.length_append] at hj; omega)) hin0 F hA (hZ.ad ha) hw9.1 hw9.2 hS1 (by rw [z_lvq ha hlv]; exact hl)
  have e9 : (Value.ref lay.length :: st).map (z_cv (z1 ad lay.length q)) = .ref q :: st.map (z_cv ad) := by
    show Value.ref (z1 ad lay.length q lay.length) :: st.map (z_cv (z1 ad lay.length q)) = _
    rw [z1_s, z_stq ha hst]
  rw [e9] at h9
  exact h9
theorem y_newqM {n0 : Nat} {lay : List z_Sh} {own : String} {cc : ByteArray} {nL : Nat} {R : Room} {pc : Nat} {lv : List (Nat × Value)} {st : List Value} {I : z_I} {L : z_L} {nc ns : Nat} {layR : List z_Sh} {res : z_R} {mc ms : Nat} {n N0 idx : Nat} {x : Int32} {lay2 : List z_Sh} (hd : decode cc pc = .ok (.anewarray idx, 3)) (hw : Cond.classLink own idx RX5 ∈ z_W) (hx : ¬ x < 0) (hN : x.toNatClampNeg = N0) (hb9 : N0 * 4 ≤ 536870912) (hly : lay2 = lay ++ [.inl (.object RX5, N0, 2, [])]) (hs : lay.all (z_shok lay.length) = true) (hl9 : lay.length = n) (hn9 : n < 9000) (hn0 : n0 ≤ n) (hst : st.all (z_rok n) = true) (hlv : (lv.map (fun q => q.2)).all (z_rok n) = true) (hc : nc + 1 ≤ R.cells) (hsl : ns + N0 ≤ R.slots) (kk : z_Y n0 lay2 own cc nL R (pc + 3) lv (.ref n :: st) I L (nc + 1) (ns + N0) layR res mc ms) : z_Y n0 lay own cc nL R pc lv (.int x :: st) I L nc ns layR res mc ms := by
  intro p l e s m args below meth c0 D cA ad adK adV xs A H locs ls h0 hin0 F hA hZ hP hD hS hl
  subst hly hl9
  have hts := F.2.2.2.2.2.1
  refine va_newq F.1 F.2.1 F.2.2.2.2.1 (hts _ hw) hZ.2.2.2.2.2.1.2.2.2 F.2.2.2.2.2.2.2 hP hD hS hA hx hN hb9 hc hsl hd (fun q cA1 H1 hK1 hP1 hD1 hS1 => ?_)
  have hcA : cA1 = cA (.object RX5) := by
    obtain ⟨_, _, _, _, _, a1⟩ := (hK1.2 6 (cA1, .object RX5) rfl).2
    obtain ⟨_, _, _, _, _, a2⟩ := (F.2.2.2.2.2.2.2.2 5 (cA (.object RX5), .object RX5) rfl).2
    exact Option.some.inj (a1.symm.trans a2)
  subst hcA
  have hw9 := z_new (sh := .inl (.object RX5, N0, 2, [])) hs hn9 (by
    show (_ : va_E) = (Sum.inl (cA (.object RX5), N0, .inr (.inr (.inr (.inr (fun i => (([] : List Nat)[i]?).map (z1 ad lay.length q)))))) : va_E)
    rfl) hP1 hD1
  have ha := z_agr1 (n := lay.length) (q := q) (ad := ad) hn9
  refine z_Ymono (ha.le hn0) ?_
  have h9 := kk p l e s m args below meth c0 D cA (z1 ad lay.length q) adK adV xs A H1 locs ls (fun c' j hj => h0 c' j (by rw [List.length_append] at hj; omega)) hin0 F hA (hZ.ad ha) hw9.1 hw9.2 hS1 (by rw [z_lvq ha hlv]; exact hl)
  have e9 : (Value.ref lay.length :: st).map (z_cv (z1 ad lay.length q)) = .ref q :: st.map (z_cv ad) := by
    show Value.ref (z1 ad lay.length q lay.length) :: st.map (z_cv (z1 ad lay.length q)) = _
    rw [z1_s, z_stq ha hst]
  rw [e9] at h9
  exact h9
theorem y_aast {n0 : Nat} {lay : List z_Sh} {own : String} {cc : ByteArray} {nL : Nat} {R : Room} {pc : Nat} {lv : List (Nat × Value)} {st : List Value} {I : z_I} {L : z_L} {nc ns : Nat} {layR : List z_Sh} {res : z_R} {mc ms : Nat} {c n v ci : Nat} {rs : List Nat} {vs : List (Nat × Nat)} {i : Int32} {C0 : String} {lay2 : List z_Sh} (t0 : Nat) (hd : decode cc pc = .ok (.aastore, 1)) (hs : lay[c]? = some (.inl (.object C0, n, 2, rs))) (ht : ∀ cA : FieldType → ClassId, (z_ty cA)[t0]? = some (cA (.object C0), .object C0)) (hv : lay[v]? = some (.inr (ci, vs))) (hc : ∃ q : vw_C, vwCl[ci]? = some q ∧ q.1 = C0) (hin : zin i n = true) (hi : i.toNatClampNeg = rs.length) (hly : lay2 = lay.set c (.inl (.object C0, n, 2, rs ++ [v]))) (kk : z_Y n0 lay2 own cc nL R (pc + 1) lv st I L nc ns layR res mc ms) : z_Y n0 lay own cc nL R pc lv (.ref v :: .int i :: .ref c :: st) I L nc ns layR res mc ms := by
  intro p l e s m args below meth c0 D cA ad adK adV xs A H locs ls h0 hin0 F hA hZ hP hD hS hl
  obtain ⟨q, hq1, hq2⟩ := hc
  subst hly hq2
  refine va_astq F.1 F.2.1 F.2.2.2.2.2.2.2 hP hD hS c t0 v ci (z_at hs) (ht cA) (z_at hv) hq1 (zin_vp hin) hd (fun H1 locs1 hP1 hD1 hS1 => ?_)
  have e1 : (z_cs lay cA ad I L ++ xs).set c (ad c, .inl (cA (.object q.1), n, .inr (.inr (.inr (.inr (va_up (fun j => (rs[j]?).map ad) i.toNatClampNeg (some (ad v)))))))) = z_cs (lay.set c (.inl (.object q.1, n, 2, rs ++ [v]))) cA ad I L ++ xs := z_setS hs (by
    have hf : va_up (fun j => (rs[j]?).map ad) i.toNatClampNeg (some (ad v)) = fun j => ((rs ++ [v])[j]?).map ad := by
      funext j
      rw [hi]
      unfold va_up
      by_cases hj : j = rs.length
      · subst hj
        rw [if_pos rfl, List.getElem?_concat_length]
        rfl
      · rw [if_neg hj]
        show (rs[j]?).map ad = ((rs ++ [v])[j]?).map ad
        by_cases hj2 : j < rs.length
        · rw [List.getElem?_append_left hj2]
        · have e1 : rs[j]? = none := List.getElem?_eq_none (by omega)
          have e2 : (rs ++ [v])[j]? = none := List.getElem?_eq_none (by rw [List.length_append, List.length_singleton]; omega)
          rw [e1, e2]
    rw [hf]
    rfl)
  rw [e1] at hP1 hD1
  exact kk p l e s m args below meth c0 D cA ad adK adV xs A H1 locs1 ls (by rw [List.length_set]; exact h0) hin0 F hA hZ hP1 hD1 hS1 hl
theorem y_iast {n0 : Nat} {lay : List z_Sh} {own : String} {cc : ByteArray} {nL : Nat} {R : Room} {pc : Nat} {lv : List (Nat × Value)} {st : List Value} {I : z_I} {L : z_L} {nc ns : Nat} {layR : List z_Sh} {res : z_R} {mc ms : Nat} {c n j0 : Nat} {rs : List Nat} {i x : Int32} (hd : decode cc pc = .ok (.iastore, 1)) (hs : lay[c]? = some (.inl (.int, n, 0, rs))) (hin : zin i n = true) (hj0 : i.toNatClampNeg = j0) {I2 : z_I} (hI : I2 = (z2 I c j0 x)) (kk : z_Y n0 lay own cc nL R (pc + 1) lv st I2 L nc ns layR res mc ms) : z_Y n0 lay own cc nL R pc lv (.int x :: .int i :: .ref c :: st) I L nc ns layR res mc ms := by
  intro p l e s m args below meth c0 D cA ad adK adV xs A H locs ls h0 hin0 F hA hZ hP hD hS hl
  subst hj0 hI
  refine va_iast F.1 F.2.1 F.2.2.2.2.2.2.2 hP hD hS c 0 (z_at hs) rfl (zin_vp hin) hd (fun H1 locs1 hP1 hD1 hS1 => ?_)
  have e1 : (z_cs lay cA ad I L ++ xs).set c (ad c, .inl (cA .int, n, .inl (upd (I c) i.toNatClampNeg x))) = z_cs lay cA ad (z2 I c i.toNatClampNeg x) L ++ xs := z_set hs (by
    show (_ : va_E) = (Sum.inl (cA .int, n, .inl (z2 I c i.toNatClampNeg x c)) : va_E)
    rw [z2_s]
    rfl) (fun j hj => z2_o hj) (fun j hj => rfl)
  rw [e1] at hP1 hD1
  exact kk p l e s m args below meth c0 D cA ad adK adV xs A H1 locs1 ls (h0.put (List.getElem?_eq_some_iff.mp hs).1) hin0 F hA hZ hP1 hD1 hS1 hl
theorem z_backY {p : Program} {l : Launch} {e : Env} {R : Room} {s : State} {m : MethodId} {args : Array Value} {below : List Frame} {meth : Method} {c : Code} {H : Heap} {locs : List Loc} {nc ns mc2 ms2 n1 : Nat} {Q : State → Prop} {lay : List z_Sh} {D : va_G} {cA : FieldType → ClassId} {ad : Nat → Nat} {xs : va_W} {A A1 : Nat → Prop} {I1 : z_I} {L1 : z_L} {a : Array Value} {free : Addr → Prop} {pc : Nat} {ls : Array Slot} {st0 rest : List Value} (hr : va_Run p l e R s m args below meth c H locs nc ns mc2 ms2 (F0 m pc ls st0) rest (z_QY n1 lay D cA ad xs A1 (none, I1, L1) a) free) (hS : va_S A s.heap H locs) (hA : ∀ q, A1 q → A q) (hf : ∀ q, free q → A q)
    (kk : ∀ (H1 : Heap) (locs1 : List Loc) (ad1 : Nat → Nat), z_agr n1 ad ad1 → va_P D vwCl (z_cs lay cA ad1 I1 L1 ++ xs) H1 → va_D A (z_cs lay cA ad1 I1 L1 ++ xs) → va_S A s.heap H1 locs1 → W p l e R s m args below meth c H1 locs1 (nc + mc2) (ns + ms2) Q (F0 m (pc + 3) ls rest)) : W p l e R s m args below meth c H locs nc ns Q (F0 m pc ls st0) := by
  intro T hT X
  obtain ⟨v', st₀, t, T', L, h0, X', hL, e1, e2, ⟨hv, ⟨ad1, hag, hP1, hD1⟩, hK1, hz, hk⟩, st⟩ := hr T hT X
  cases hv
  rw [h0] at hz hk
  rw [← e1] at hP1
  obtain ⟨t2, a1, b1⟩ := kk T'.heap (locs ++ L) ad1 hag hP1 (hD1.weaken (fun _ q _ h => hA q.1 h))
    ⟨Nat.le_trans hS.1 (by rw [e1]; exact hz), fun q h1 h2 => by rw [e1, hk q (Nat.lt_of_lt_of_le h1 hS.1) (fun z => h2 (hA q z))]; exact hS.2.1 q h1 h2, fun q hq => by
      rcases List.mem_append.mp hq with h | h
      · exact hS.2.2 q h
      · exact hf _ (hL q h)⟩ T' rfl X'
  exact ⟨t2, st t2 a1, b1⟩
def z_LI (own : String) (idx : Nat) (y : MethodName) (n : Nat) : Prop := Cond.methodLink own idx y ∈ z_W ∧ Cond.instanceMethod y ∈ z_W ∧ Cond.initialized y.cls ∈ z_W ∧ z_nm y n ∧ y.name = "<init>"
def z_LJ (own : String) (idx : Nat) (y : MethodName) (n : Nat) : Prop := (own, idx, y, RX10) ∈ z_nest ∧ Cond.instanceMethod y ∈ z_W ∧ Cond.initialized y.cls ∈ z_W ∧ z_nm y n ∧ y.name = "<init>"
theorem y_callI {n0 : Nat} {lay : List z_Sh} {own : String} {cc : ByteArray} {nL : Nat} {R : Room} {pc : Nat} {lv : List (Nat × Value)} {st : List Value} {I : z_I} {L : z_L} {nc ns : Nat} {layR : List z_Sh} {res : z_R} {mc ms : Nat} {y : MethodName} {cc2 : ByteArray} {nL2 idx n b n9 mc2 ms2 : Nat} {rm2 : Room} {I1 : z_I} {L1 : z_L} {lay2 : List z_Sh} (As : List Value) {st0 : List Value} (hC : z_CI n9 lay y cc2 nL2 rm2 (.ref b :: As) I L lay2 (none, I1, L1) mc2 ms2) (hd : decode cc pc = .ok (.invokespecial idx, 3)) (hL : z_LI own idx y n) (hcode : Cond.code y cc2 nL2 none ∈ z_W) (hn : As.length = n) (hst9 : st0 = As.reverse ++ .ref b :: st) (hW : (st.map fun v => v.category).sum ≤ 8) (hR : rm2.cells = mc2 ∧ rm2.slots = ms2 ∧ rm2.frames + 1 ≤ R.frames ∧ 8 + (nL2 + 11) + rm2.locals ≤ R.locals) (hc : nc + mc2 ≤ R.cells) (hsl : ns + ms2 ≤ R.slots) (hl9 : lay.length = n9) (hn0 : n0 ≤ n9) (hst : st.all (z_rok n9) = true) (hlv : (lv.map (fun q => q.2)).all (z_rok n9) = true) (hz0 : z_0 n9 I L → z_0 lay2.length I1 L1) (kk : z_Y n0 lay2 own cc nL R (pc + 3) lv st I1 L1 (nc + mc2) (ns + ms2) layR res mc ms) : z_Y n0 lay own cc nL R pc lv st0 I L nc ns layR res mc ms := by
  intro p l e s m args below meth c0 D cA ad adK adV xs A H locs ls h0 hin0 F hA hZ hP hD hS hl
  subst hst9 hl9
  have hpre := z_pre (as := .ref b :: As) F.2.2.2.2.2.2.2 hA hZ hP hD hS
  have hF := z_sub hA hD hS
  obtain ⟨w1, w2, w3, w4, w5⟩ := hL
  have hts := F.2.2.2.2.2.1
  have cb : CallB R s args own idx y cc2 nL2 none (.code y cc2 nL2 none :: z_W) rm2 mc2 ms2 n := callB_of n hts (gi_all (fun w h => (List.mem_cons.mp h).elim (fun h => by rw [h]; exact hcode) id)) rfl hR.1 hR.2.1 (hts _ w3) (hts _ w1) w4 hR.2.2
  refine z_backY (rest := st.map (z_cv ad)) (va_runI (As := As.map (z_cv ad)) ⟨F.1, F.2.1, F.2.2.2.1, F.2.2.2.2.1, hts⟩ (hC l D cA ad adK adV xs H.size h0) ⟨cb, w5, hts _ w2⟩ hpre rfl (by rw [List.length_map]; exact hn) hl.1 (by
    show (As.reverse ++ .ref b :: st).map (z_cv ad) = (As.map (z_cv ad)).reverse ++ .ref (ad b) :: st.map (z_cv ad)
    rw [List.map_append, List.map_reverse]
    rfl) (z_rest hW) hd ⟨hc, hsl⟩) hS hF hF (fun H1 locs1 ad1 hag hP1 hD1 hS1 => ?_)
  refine z_Ymono (hag.le hn0) ?_
  have h9 := kk p l e s m args below meth c0 D cA ad1 adK adV xs A H1 locs1 ls (hz0 h0) hin0 F hA (hZ.ad hag) hP1 hD1 hS1 (by rw [z_lvq hag hlv]; exact hl)
  rw [z_stq hag hst] at h9
  exact h9
theorem y_callJ {n0 : Nat} {lay : List z_Sh} {own : String} {cc : ByteArray} {nL : Nat} {R : Room} {pc : Nat} {lv : List (Nat × Value)} {st : List Value} {I : z_I} {L : z_L} {nc ns : Nat} {layR : List z_Sh} {res : z_R} {mc ms : Nat} {y : MethodName} {cc2 : ByteArray} {nL2 idx n b n9 mc2 ms2 : Nat} {rm2 : Room} {I1 : z_I} {L1 : z_L} {lay2 : List z_Sh} (As : List Value) {st0 : List Value} (hC : z_CI n9 lay y cc2 nL2 rm2 (.ref b :: As) I L lay2 (none, I1, L1) mc2 ms2) (hd : decode cc pc = .ok (.invokespecial idx, 3)) (hL : z_LJ own idx y n) (hcode : Cond.code y cc2 nL2 none ∈ z_W) (hn : As.length = n) (hst9 : st0 = As.reverse ++ .ref b :: st) (hW : (st.map fun v => v.category).sum ≤ 8) (hR : rm2.cells = mc2 ∧ rm2.slots = ms2 ∧ rm2.frames + 1 ≤ R.frames ∧ 8 + (nL2 + 11) + rm2.locals ≤ R.locals) (hc : nc + mc2 ≤ R.cells) (hsl : ns + ms2 ≤ R.slots) (hl9 : lay.length = n9) (hn0 : n0 ≤ n9) (hst : st.all (z_rok n9) = true) (hlv : (lv.map (fun q => q.2)).all (z_rok n9) = true) (hz0 : z_0 n9 I L → z_0 lay2.length I1 L1) (kk : z_Y n0 lay2 own cc nL R (pc + 3) lv st I1 L1 (nc + mc2) (ns + ms2) layR res mc ms) : z_Y n0 lay own cc nL R pc lv st0 I L nc ns layR res mc ms := by
  intro p l e s m args below meth c0 D cA ad adK adV xs A H locs ls h0 hin0 F hA hZ hP hD hS hl
  subst hst9 hl9
  have hpre := z_pre (as := .ref b :: As) F.2.2.2.2.2.2.2 hA hZ hP hD hS
  have hF := z_sub hA hD hS
  obtain ⟨w1, w2, w3, w4, w5⟩ := hL
  have hts := F.2.2.2.2.2.1
  have cb : va_CN R s args own idx y RX10 cc2 nL2 none (.code y cc2 nL2 none :: z_W) rm2 mc2 ms2 n := va_cnB n hts (gi_all (fun w h => (List.mem_cons.mp h).elim (fun h => by rw [h]; exact hcode) id)) rfl hR.1 hR.2.1 (hZ.2.2.2.2.2.1.1 _ w1) (hts _ w3) w4 hR.2.2
  refine z_backY (rest := st.map (z_cv ad)) (va_runIN (As := As.map (z_cv ad)) ⟨F.1, F.2.1, F.2.2.2.1, F.2.2.2.2.1, hts⟩ (hC l D cA ad adK adV xs H.size h0) ⟨cb, w5, hts _ w2⟩ hpre rfl (by rw [List.length_map]; exact hn) hl.1 (by
    show (As.reverse ++ .ref b :: st).map (z_cv ad) = (As.map (z_cv ad)).reverse ++ .ref (ad b) :: st.map (z_cv ad)
    rw [List.map_append, List.map_reverse]
    rfl) (z_rest hW) hd ⟨hc, hsl⟩) hS hF hF (fun H1 locs1 ad1 hag hP1 hD1 hS1 => ?_)
  refine z_Ymono (hag.le hn0) ?_
  have h9 := kk p l e s m args below meth c0 D cA ad1 adK adV xs A H1 locs1 ls (hz0 h0) hin0 F hA (hZ.ad hag) hP1 hD1 hS1 (by rw [z_lvq hag hlv]; exact hl)
  rw [z_stq hag hst] at h9
  exact h9
theorem y_callV {n0 : Nat} {lay : List z_Sh} {own : String} {cc : ByteArray} {nL : Nat} {R : Room} {pc : Nat} {lv : List (Nat × Value)} {st : List Value} {I : z_I} {L : z_L} {nc ns : Nat} {layR : List z_Sh} {res : z_R} {mc ms : Nat} {y : MethodName} {cc2 : ByteArray} {nL2 idx n : Nat} {ret2 : Option FieldType} {rm2 : Room} {I1 : z_I} {L1 : z_L} {b ci : Nat} {ss : List (Nat × Nat)} (As : List Value) {st0 : List Value} (hC : z_C lay y cc2 nL2 ret2 rm2 (.ref b :: As) I L (none, I1, L1)) (hd : decode cc pc = .ok (.invokevirtual idx, 3)) (hL : z_LV own idx y n) (hs : lay[b]? = some (.inr (ci, ss))) (hc : (vwCl[ci]?).map (fun q => q.1) = some y.cls) (hcode : Cond.code y cc2 nL2 ret2 ∈ z_W) (hn : As.length = n) (hst : st0 = As.reverse ++ .ref b :: st) (hW : (st.map fun v => v.category).sum ≤ 8) (hR : rm2.cells = 0 ∧ rm2.slots = 0 ∧ rm2.frames + 1 ≤ R.frames ∧ 8 + (nL2 + 11) + rm2.locals ≤ R.locals) (hnc : nc ≤ R.cells) (hns : ns ≤ R.slots) (hz0 : z_0 lay.length I L → z_0 lay.length I1 L1) (kk : z_Y n0 lay own cc nL R (pc + 3) lv st I1 L1 nc ns layR res mc ms) : z_Y n0 lay own cc nL R pc lv st0 I L nc ns layR res mc ms := by
  intro p l e s m args below meth c0 D cA ad adK adV xs A H locs ls h0 hin0 F hA hZ hP hD hS hl
  subst hst
  have hpre := z_pre (as := .ref b :: As) F.2.2.2.2.2.2.2 hA hZ hP hD hS
  have hF := z_sub hA hD hS
  obtain ⟨q0, hq0, hq1⟩ := Option.map_eq_some_iff.mp hc
  obtain ⟨w1, w2, w3, w4, w5⟩ := hL
  have hts := F.2.2.2.2.2.1
  have cb : CallB R s args own idx y cc2 nL2 ret2 (.code y cc2 nL2 ret2 :: z_W) rm2 0 0 n := callB_of n hts (gi_all (fun w h => (List.mem_cons.mp h).elim (fun h => by rw [h]; exact hcode) id)) rfl hR.1 hR.2.1 (hts _ w4) (hts _ w1) w5 hR.2.2
  have hcr := va_recv F.2.2.2.2.2.2.2 hP hq0 (z_at hs)
  rw [hq1] at hcr
  exact z_back (rest := st.map (z_cv ad)) (va_runV (As := As.map (z_cv ad)) ⟨F.1, F.2.1, F.2.2.2.1, F.2.2.2.2.1, hts⟩ (hC l D cA ad adK adV xs H.size) ⟨cb, hts _ w2, hts _ w3⟩ ⟨hpre.1, hcr, hpre.2⟩ rfl (by rw [List.length_map]; exact hn) hl.1 (by
    show (As.reverse ++ .ref b :: st).map (z_cv ad) = (As.map (z_cv ad)).reverse ++ .ref (ad b) :: st.map (z_cv ad)
    rw [List.map_append, List.map_reverse]
    rfl) (z_rest hW) hd ⟨hnc, hns⟩) hS hF hF (fun H1 locs1 hP1 hD1 hS1 => kk p l e s m args below meth c0 D cA ad adK adV xs A H1 locs1 ls (hz0 h0) hin0 F hA hZ hP1 hD1 hS1 hl)
theorem y_toX {n0 : Nat} {lay : List z_Sh} {own : String} {cc : ByteArray} {nL : Nat} {R : Room} {pc : Nat} {lv : List (Nat × Value)} {st : List Value} {I : z_I} {L : z_L} {nc ns : Nat} {layR : List z_Sh} {res : z_R} {mc ms : Nat} (hX : z_X lay own cc nL none R pc lv st I L res) (hlay : layR = lay) (hc : nc = mc) (hs : ns = ms) (h1 : nc ≤ R.cells) (h2 : ns ≤ R.slots) : z_Y n0 lay own cc nL R pc lv st I L nc ns layR res mc ms := by
  intro p l e s m args below meth c0 D cA ad adK adV xs A H locs ls h0 hin0 F hA hZ hP hD hS hl
  subst hlay hc hs
  have h9 := hX p l e s m args below meth c0 D cA ad adK adV xs A H locs ls nc ns h1 h2 F hA hZ hP hD hS hl
  intro T hT X
  obtain ⟨t, a, o, b1, b2, ⟨b3, b4, b5, b6, b7⟩, b8⟩ := h9 T hT X
  exact ⟨t, a, o, b1, b2, ⟨b3, ⟨ad, fun _ _ => rfl, b4, b6⟩, b5, b7⟩, b8⟩
