theorem z_back {p : Program} {l : Launch} {e : Env} {R : Room} {s : State} {m : MethodId} {args : Array Value} {below : List Frame} {meth : Method} {c : Code} {H : Heap} {locs : List Loc} {nc ns : Nat} {Q : State → Prop} {lay : List z_Sh} {D : va_G} {cA : FieldType → ClassId} {ad : Nat → Nat} {xs : va_W} {A A1 : Nat → Prop} {v : Option Value} {I1 : z_I} {L1 : z_L} {a : Array Value} {free : Addr → Prop} {pc : Nat} {ls : Array Slot} {st0 rest : List Value} (hr : va_Run p l e R s m args below meth c H locs nc ns 0 0 (F0 m pc ls st0) rest (z_Q lay D cA ad xs A1 (v, I1, L1) a) free) (hS : va_S A s.heap H locs) (hA : ∀ q, A1 q → A q) (hf : ∀ q, free q → A q)
    (kk : ∀ (H1 : Heap) (locs1 : List Loc), va_P D vwCl (z_cs lay cA ad I1 L1 ++ xs) H1 → va_D A (z_cs lay cA ad I1 L1 ++ xs) → va_S A s.heap H1 locs1 → W p l e R s m args below meth c H1 locs1 nc ns Q (F0 m (pc + 3) ls (v.toList ++ rest))) : W p l e R s m args below meth c H locs nc ns Q (F0 m pc ls st0) := by
  intro T hT X
  obtain ⟨v', st₀, t, T', L, h0, X', hL, e1, e2, ⟨hv, hP1, hK1, hD1, hz, hk⟩, st⟩ := hr T hT X
  cases hv
  rw [h0] at hz hk
  rw [← e1] at hP1
  obtain ⟨t2, a1, b1⟩ := kk T'.heap (locs ++ L) hP1 (hD1.weaken (fun _ q _ h => hA q.1 h))
    ⟨Nat.le_trans hS.1 (by rw [e1]; exact hz), fun q h1 h2 => by rw [e1, hk q (Nat.lt_of_lt_of_le h1 hS.1) (fun z => h2 (hA q z))]; exact hS.2.1 q h1 h2, fun q hq => by
      rcases List.mem_append.mp hq with h | h
      · exact hS.2.2 q h
      · exact hf _ (hL q h)⟩ T' rfl X'
  exact ⟨t2, st t2 a1, b1⟩
/-- what a contract's start needs, at a call -/
theorem z_pre {lay : List z_Sh} {s : State} {D : va_G} {cA : FieldType → ClassId} {ad adK adV : Nat → Nat} {xs : va_W} {A : Nat → Prop} {H : Heap} {locs : List Loc} {I : z_I} {L : z_L} {as : List Value} (hK : va_K D vwCl (z_ty cA) s) (hA : ∀ q, s.heap.size ≤ q → A q) (hZ : z_S adK adV ad A s s.heap) (hP : va_P D vwCl (z_cs lay cA ad I L ++ xs) H) (hD : va_D A (z_cs lay cA ad I L ++ xs)) (hS : va_S A s.heap H locs) : PreS s H (va_Pc (as.map (z_cv ad)) (fun U => U.heap.size = H.size ∧ va_P D vwCl (z_cs lay cA ad I L ++ xs) U.heap ∧ va_K D vwCl (z_ty cA) U ∧ va_D (fun _ => True) (z_cs lay cA ad I L ++ xs) ∧ z_S adK adV ad (va_A (z_cs lay cA ad I L ++ xs) H.size) U U.heap)) (as.map (z_cv ad)) := by
  refine ⟨fun a U g mk q => ?_, fun U hU hW => ⟨rfl, by rw [hU], by rw [hU]; exact hP, va_K.moved hW.alike hK, hD.weaken (fun _ _ _ _ => trivial), ?_⟩⟩
  · obtain ⟨q0, q1, qP, qK, qD, qZ⟩ := q
    exact ⟨q0, q1, qP, va_K.moved (u := U) (U := U.calling g mk a) (Vm.Alike.refl U.vm) qK, qD, z_S.same (U := U.calling g mk a) qZ rfl⟩
  · rw [hU]
    exact hZ.go hW (fun a h1 h2 => hS.2.1 a h1 h2) (fun q h => by
      rcases h with ⟨k, e, h⟩ | h
      · exact hD.2 k (q, e) h
      · exact hA q (Nat.le_trans hS.1 h))
theorem z_sub {A : Nat → Prop} {ws : va_W} {s : State} {H : Heap} {locs : List Loc} (hA : ∀ q, s.heap.size ≤ q → A q) (hD : va_D A ws) (hS : va_S A s.heap H locs) : ∀ q, va_A ws H.size q → A q := by
  intro q h
  rcases h with ⟨k, e, h⟩ | h
  · exact hD.2 k (q, e) h
  · exact hA q (Nat.le_trans hS.1 h)
theorem z_rest {ad : Nat → Nat} {st : List Value} {m : MethodId} {pc : Nat} {ls : Array Slot} {st0 : List Value} (h : (st.map fun v => v.category).sum ≤ 8) : 2 * (F0 m pc ls st0).monitorRoom + ((st.map (z_cv ad)).map fun v => v.category).sum ≤ 8 := by
  have e0 : ((st.map (z_cv ad)).map fun v => v.category).sum = (st.map fun v => v.category).sum := by
    rw [List.map_map]; congr 2; funext v; exact z_cv_cat ad v
  exact lv_room (by rw [e0]; exact h)
theorem z_vt {ad : Nat → Nat} {v : Option Value} {st : List Value} (hv : ∀ a, v ≠ some (.ref a)) : v.toList ++ st.map (z_cv ad) = (v.toList ++ st).map (z_cv ad) := by
  rw [List.map_append]
  congr 1
  cases v with
  | none => rfl
  | some w => cases w <;> first | rfl | exact absurd rfl (hv _)
theorem x_callV {lay : List z_Sh} {own : String} {cc : ByteArray} {nL : Nat} {ret : Option FieldType} {R : Room} {pc : Nat} {lv : List (Nat × Value)} {st : List Value} {I : z_I} {L : z_L} {res : z_R} {y : MethodName} {cc2 : ByteArray} {nL2 idx n : Nat} {ret2 : Option FieldType} {rm2 : Room} {v : Option Value} {I1 : z_I} {L1 : z_L} {b ci : Nat} {ss : List (Nat × Nat)} (As : List Value) {st0 : List Value} (hC : z_C lay y cc2 nL2 ret2 rm2 (.ref b :: As) I L (v, I1, L1)) (hd : decode cc pc = .ok (.invokevirtual idx, 3)) (hL : z_LV own idx y n) (hs : lay[b]? = some (.inr (ci, ss))) (hc : (vwCl[ci]?).map (fun q => q.1) = some y.cls) (hcode : Cond.code y cc2 nL2 ret2 ∈ z_W) (hv : ∀ a, v ≠ some (.ref a)) (hn : As.length = n) (hst : st0 = As.reverse ++ .ref b :: st) (hW : (st.map fun v => v.category).sum ≤ 8) (hR : rm2.cells = 0 ∧ rm2.slots = 0 ∧ rm2.frames + 1 ≤ R.frames ∧ 8 + (nL2 + 11) + rm2.locals ≤ R.locals) (kk : z_X lay own cc nL ret R (pc + 3) lv (v.toList ++ st) I1 L1 res) : z_X lay own cc nL ret R pc lv st0 I L res := by
  intro p l e s m args below meth c0 D cA ad adK adV xs A H locs ls nc ns hnc hns F hA hZ hP hD hS hl
  subst hst
  have hpre := z_pre (as := .ref b :: As) F.2.2.2.2.2.2.2 hA hZ hP hD hS
  have hF := z_sub hA hD hS
  obtain ⟨q0, hq0, hq1⟩ := Option.map_eq_some_iff.mp hc
  obtain ⟨w1, w2, w3, w4, w5⟩ := hL
  have hts := F.2.2.2.2.2.1
  have cb : CallB R s args own idx y cc2 nL2 ret2 (.code y cc2 nL2 ret2 :: z_W) rm2 0 0 n := callB_of n hts (gi_all (fun w h => (List.mem_cons.mp h).elim (fun h => by rw [h]; exact hcode) id)) rfl hR.1 hR.2.1 (hts _ w4) (hts _ w1) w5 hR.2.2
  have hcr := va_recv F.2.2.2.2.2.2.2 hP hq0 (z_at hs)
  rw [hq1] at hcr
  exact z_back (rest := st.map (z_cv ad)) (va_runV (As := As.map (z_cv ad)) ⟨F.1, F.2.1, F.2.2.2.1, F.2.2.2.2.1, hts⟩ (hC l D cA ad adK adV xs H.size) ⟨cb, hts _ w2, hts _ w3⟩ ⟨hpre.1, hcr, hpre.2⟩ rfl (by rw [List.length_map]; exact hn) hl.1 (by
    show (As.reverse ++ .ref b :: st).map (z_cv ad) = (As.map (z_cv ad)).reverse ++ .ref (ad b) :: st.map (z_cv ad)
    rw [List.map_append, List.map_reverse]
    rfl) (z_rest hW) hd ⟨hnc, hns⟩) hS hF hF (fun H1 locs1 hP1 hD1 hS1 => by
    rw [z_vt hv]
    exact kk p l e s m args below meth c0 D cA ad adK adV xs A H1 locs1 ls nc ns hnc hns F hA hZ hP1 hD1 hS1 hl)
theorem x_callS {lay : List z_Sh} {own : String} {cc : ByteArray} {nL : Nat} {ret : Option FieldType} {R : Room} {pc : Nat} {lv : List (Nat × Value)} {st : List Value} {I : z_I} {L : z_L} {res : z_R} {y : MethodName} {cc2 : ByteArray} {nL2 idx n : Nat} {ret2 : Option FieldType} {rm2 : Room} {v : Option Value} {I1 : z_I} {L1 : z_L} (As : List Value) {st0 : List Value} (hC : z_C lay y cc2 nL2 ret2 rm2 As I L (v, I1, L1)) (hd : decode cc pc = .ok (.invokestatic idx, 3)) (hL : z_LS own idx y n) (hcode : Cond.code y cc2 nL2 ret2 ∈ z_W) (hv : ∀ a, v ≠ some (.ref a)) (hn : As.length = n) (hst : st0 = As.reverse ++ st) (hW : (st.map fun v => v.category).sum ≤ 8) (hR : rm2.cells = 0 ∧ rm2.slots = 0 ∧ rm2.frames + 1 ≤ R.frames ∧ 8 + (nL2 + 11) + rm2.locals ≤ R.locals) (kk : z_X lay own cc nL ret R (pc + 3) lv (v.toList ++ st) I1 L1 res) : z_X lay own cc nL ret R pc lv st0 I L res := by
  intro p l e s m args below meth c0 D cA ad adK adV xs A H locs ls nc ns hnc hns F hA hZ hP hD hS hl
  subst hst
  have hpre := z_pre (as := As) F.2.2.2.2.2.2.2 hA hZ hP hD hS
  have hF := z_sub hA hD hS
  obtain ⟨w1, w2, w4, w5⟩ := hL
  have hts := F.2.2.2.2.2.1
  have cb : CallB R s args own idx y cc2 nL2 ret2 (.code y cc2 nL2 ret2 :: z_W) rm2 0 0 n := callB_of n hts (gi_all (fun w h => (List.mem_cons.mp h).elim (fun h => by rw [h]; exact hcode) id)) rfl hR.1 hR.2.1 (hts _ w4) (hts _ w1) w5 hR.2.2
  exact z_back (rest := st.map (z_cv ad)) (va_runS (As := As.map (z_cv ad)) ⟨F.1, F.2.1, F.2.2.2.1, F.2.2.2.2.1, hts⟩ (hC l D cA ad adK adV xs H.size) ⟨cb, hts _ w2⟩ hpre rfl (by rw [List.length_map]; exact hn) hl.1 (by
    show (As.reverse ++ st).map (z_cv ad) = (As.map (z_cv ad)).reverse ++ st.map (z_cv ad)
    rw [List.map_append, List.map_reverse]) (z_rest hW) hd ⟨hnc, hns⟩) hS hF hF (fun H1 locs1 hP1 hD1 hS1 => by
    rw [z_vt hv]
    exact kk p l e s m args below meth c0 D cA ad adK adV xs A H1 locs1 ls nc ns hnc hns F hA hZ hP1 hD1 hS1 hl)
theorem x_callN {lay : List z_Sh} {own : String} {cc : ByteArray} {nL : Nat} {ret : Option FieldType} {R : Room} {pc : Nat} {lv : List (Nat × Value)} {st : List Value} {I : z_I} {L : z_L} {res : z_R} {y : MethodName} {cc2 : ByteArray} {nL2 idx n : Nat} {ret2 : Option FieldType} {rm2 : Room} {v : Option Value} {I1 : z_I} {L1 : z_L} (As : List Value) {st0 : List Value} (hC : z_C lay y cc2 nL2 ret2 rm2 As I L (v, I1, L1)) (hd : decode cc pc = .ok (.invokestatic idx, 3)) (hL : z_LN own idx y n) (hcode : Cond.code y cc2 nL2 ret2 ∈ z_W) (hv : ∀ a, v ≠ some (.ref a)) (hn : As.length = n) (hst : st0 = As.reverse ++ st) (hW : (st.map fun v => v.category).sum ≤ 8) (hR : rm2.cells = 0 ∧ rm2.slots = 0 ∧ rm2.frames + 1 ≤ R.frames ∧ 8 + (nL2 + 11) + rm2.locals ≤ R.locals) (kk : z_X lay own cc nL ret R (pc + 3) lv (v.toList ++ st) I1 L1 res) : z_X lay own cc nL ret R pc lv st0 I L res := by
  intro p l e s m args below meth c0 D cA ad adK adV xs A H locs ls nc ns hnc hns F hA hZ hP hD hS hl
  subst hst
  have hpre := z_pre (as := As) F.2.2.2.2.2.2.2 hA hZ hP hD hS
  have hF := z_sub hA hD hS
  obtain ⟨w1, w2, w4, w5⟩ := hL
  have hts := F.2.2.2.2.2.1
  have cb : va_CN R s args own idx y RX10 cc2 nL2 ret2 (.code y cc2 nL2 ret2 :: z_W) rm2 0 0 n := va_cnB n hts (gi_all (fun w h => (List.mem_cons.mp h).elim (fun h => by rw [h]; exact hcode) id)) rfl hR.1 hR.2.1 (hZ.2.2.2.2.2.1.1 _ w1) (hts _ w4) w5 hR.2.2
  exact z_back (rest := st.map (z_cv ad)) (va_runSN (As := As.map (z_cv ad)) ⟨F.1, F.2.1, F.2.2.2.1, F.2.2.2.2.1, hts⟩ (hC l D cA ad adK adV xs H.size) ⟨cb, hts _ w2, trivial⟩ hpre rfl (by rw [List.length_map]; exact hn) hl.1 (by
    show (As.reverse ++ st).map (z_cv ad) = (As.map (z_cv ad)).reverse ++ st.map (z_cv ad)
    rw [List.map_append, List.map_reverse]) (z_rest hW) hd ⟨hnc, hns⟩) hS hF hF (fun H1 locs1 hP1 hD1 hS1 => by
    rw [z_vt hv]
    exact kk p l e s m args below meth c0 D cA ad adK adV xs A H1 locs1 ls nc ns hnc hns F hA hZ hP1 hD1 hS1 hl)
theorem x_callVi {lay : List z_Sh} {own : String} {cc : ByteArray} {nL : Nat} {ret : Option FieldType} {R : Room} {pc : Nat} {lv : List (Nat × Value)} {st : List Value} {I : z_I} {L : z_L} {res : z_R} {y : MethodName} {cc2 : ByteArray} {nL2 idx n : Nat} {ret2 : Option FieldType} {rm2 : Room} {I1 : z_I} {L1 : z_L} {w : Int32} {b ci : Nat} {ss : List (Nat × Nat)} (As : List Value) {st0 : List Value} (hC : z_C lay y cc2 nL2 ret2 rm2 (.ref b :: As) I L (some (.int w), I1, L1)) (hd : decode cc pc = .ok (.invokevirtual idx, 3)) (hL : z_LV own idx y n) (hs : lay[b]? = some (.inr (ci, ss))) (hc : (vwCl[ci]?).map (fun q => q.1) = some y.cls) (hcode : Cond.code y cc2 nL2 ret2 ∈ z_W) (hn : As.length = n) (hst : st0 = As.reverse ++ .ref b :: st) (hW : (st.map fun v => v.category).sum ≤ 8) (hR : rm2.cells = 0 ∧ rm2.slots = 0 ∧ rm2.frames + 1 ≤ R.frames ∧ 8 + (nL2 + 11) + rm2.locals ≤ R.locals) (kk : z_X lay own cc nL ret R (pc + 3) lv (.int w :: st) I1 L1 res) : z_X lay own cc nL ret R pc lv st0 I L res := x_callV As hC hd hL hs hc hcode (fun a h => by cases h) hn hst hW hR kk
theorem x_callVl {lay : List z_Sh} {own : String} {cc : ByteArray} {nL : Nat} {ret : Option FieldType} {R : Room} {pc : Nat} {lv : List (Nat × Value)} {st : List Value} {I : z_I} {L : z_L} {res : z_R} {y : MethodName} {cc2 : ByteArray} {nL2 idx n : Nat} {ret2 : Option FieldType} {rm2 : Room} {I1 : z_I} {L1 : z_L} {w : Int64} {b ci : Nat} {ss : List (Nat × Nat)} (As : List Value) {st0 : List Value} (hC : z_C lay y cc2 nL2 ret2 rm2 (.ref b :: As) I L (some (.long w), I1, L1)) (hd : decode cc pc = .ok (.invokevirtual idx, 3)) (hL : z_LV own idx y n) (hs : lay[b]? = some (.inr (ci, ss))) (hc : (vwCl[ci]?).map (fun q => q.1) = some y.cls) (hcode : Cond.code y cc2 nL2 ret2 ∈ z_W) (hn : As.length = n) (hst : st0 = As.reverse ++ .ref b :: st) (hW : (st.map fun v => v.category).sum ≤ 8) (hR : rm2.cells = 0 ∧ rm2.slots = 0 ∧ rm2.frames + 1 ≤ R.frames ∧ 8 + (nL2 + 11) + rm2.locals ≤ R.locals) (kk : z_X lay own cc nL ret R (pc + 3) lv (.long w :: st) I1 L1 res) : z_X lay own cc nL ret R pc lv st0 I L res := x_callV As hC hd hL hs hc hcode (fun a h => by cases h) hn hst hW hR kk
theorem x_callVv {lay : List z_Sh} {own : String} {cc : ByteArray} {nL : Nat} {ret : Option FieldType} {R : Room} {pc : Nat} {lv : List (Nat × Value)} {st : List Value} {I : z_I} {L : z_L} {res : z_R} {y : MethodName} {cc2 : ByteArray} {nL2 idx n : Nat} {ret2 : Option FieldType} {rm2 : Room} {I1 : z_I} {L1 : z_L}  {b ci : Nat} {ss : List (Nat × Nat)} (As : List Value) {st0 : List Value} (hC : z_C lay y cc2 nL2 ret2 rm2 (.ref b :: As) I L (none, I1, L1)) (hd : decode cc pc = .ok (.invokevirtual idx, 3)) (hL : z_LV own idx y n) (hs : lay[b]? = some (.inr (ci, ss))) (hc : (vwCl[ci]?).map (fun q => q.1) = some y.cls) (hcode : Cond.code y cc2 nL2 ret2 ∈ z_W) (hn : As.length = n) (hst : st0 = As.reverse ++ .ref b :: st) (hW : (st.map fun v => v.category).sum ≤ 8) (hR : rm2.cells = 0 ∧ rm2.slots = 0 ∧ rm2.frames + 1 ≤ R.frames ∧ 8 + (nL2 + 11) + rm2.locals ≤ R.locals) (kk : z_X lay own cc nL ret R (pc + 3) lv st I1 L1 res) : z_X lay own cc nL ret R pc lv st0 I L res := x_callV As hC hd hL hs hc hcode (fun a h => by cases h) hn hst hW hR kk
theorem x_callSi {lay : List z_Sh} {own : String} {cc : ByteArray} {nL : Nat} {ret : Option FieldType} {R : Room} {pc : Nat} {lv : List (Nat × Value)} {st : List Value} {I : z_I} {L : z_L} {res : z_R} {y : MethodName} {cc2 : ByteArray} {nL2 idx n : Nat} {ret2 : Option FieldType} {rm2 : Room} {I1 : z_I} {L1 : z_L} {w : Int32} (As : List Value) {st0 : List Value} (hC : z_C lay y cc2 nL2 ret2 rm2 As I L (some (.int w), I1, L1)) (hd : decode cc pc = .ok (.invokestatic idx, 3)) (hL : z_LS own idx y n) (hcode : Cond.code y cc2 nL2 ret2 ∈ z_W) (hn : As.length = n) (hst : st0 = As.reverse ++ st) (hW : (st.map fun v => v.category).sum ≤ 8) (hR : rm2.cells = 0 ∧ rm2.slots = 0 ∧ rm2.frames + 1 ≤ R.frames ∧ 8 + (nL2 + 11) + rm2.locals ≤ R.locals) (kk : z_X lay own cc nL ret R (pc + 3) lv (.int w :: st) I1 L1 res) : z_X lay own cc nL ret R pc lv st0 I L res := x_callS As hC hd hL hcode (fun a h => by cases h) hn hst hW hR kk
theorem x_callSl {lay : List z_Sh} {own : String} {cc : ByteArray} {nL : Nat} {ret : Option FieldType} {R : Room} {pc : Nat} {lv : List (Nat × Value)} {st : List Value} {I : z_I} {L : z_L} {res : z_R} {y : MethodName} {cc2 : ByteArray} {nL2 idx n : Nat} {ret2 : Option FieldType} {rm2 : Room} {I1 : z_I} {L1 : z_L} {w : Int64} (As : List Value) {st0 : List Value} (hC : z_C lay y cc2 nL2 ret2 rm2 As I L (some (.long w), I1, L1)) (hd : decode cc pc = .ok (.invokestatic idx, 3)) (hL : z_LS own idx y n) (hcode : Cond.code y cc2 nL2 ret2 ∈ z_W) (hn : As.length = n) (hst : st0 = As.reverse ++ st) (hW : (st.map fun v => v.category).sum ≤ 8) (hR : rm2.cells = 0 ∧ rm2.slots = 0 ∧ rm2.frames + 1 ≤ R.frames ∧ 8 + (nL2 + 11) + rm2.locals ≤ R.locals) (kk : z_X lay own cc nL ret R (pc + 3) lv (.long w :: st) I1 L1 res) : z_X lay own cc nL ret R pc lv st0 I L res := x_callS As hC hd hL hcode (fun a h => by cases h) hn hst hW hR kk
theorem x_callSv {lay : List z_Sh} {own : String} {cc : ByteArray} {nL : Nat} {ret : Option FieldType} {R : Room} {pc : Nat} {lv : List (Nat × Value)} {st : List Value} {I : z_I} {L : z_L} {res : z_R} {y : MethodName} {cc2 : ByteArray} {nL2 idx n : Nat} {ret2 : Option FieldType} {rm2 : Room} {I1 : z_I} {L1 : z_L}  (As : List Value) {st0 : List Value} (hC : z_C lay y cc2 nL2 ret2 rm2 As I L (none, I1, L1)) (hd : decode cc pc = .ok (.invokestatic idx, 3)) (hL : z_LS own idx y n) (hcode : Cond.code y cc2 nL2 ret2 ∈ z_W) (hn : As.length = n) (hst : st0 = As.reverse ++ st) (hW : (st.map fun v => v.category).sum ≤ 8) (hR : rm2.cells = 0 ∧ rm2.slots = 0 ∧ rm2.frames + 1 ≤ R.frames ∧ 8 + (nL2 + 11) + rm2.locals ≤ R.locals) (kk : z_X lay own cc nL ret R (pc + 3) lv st I1 L1 res) : z_X lay own cc nL ret R pc lv st0 I L res := x_callS As hC hd hL hcode (fun a h => by cases h) hn hst hW hR kk
theorem x_callNi {lay : List z_Sh} {own : String} {cc : ByteArray} {nL : Nat} {ret : Option FieldType} {R : Room} {pc : Nat} {lv : List (Nat × Value)} {st : List Value} {I : z_I} {L : z_L} {res : z_R} {y : MethodName} {cc2 : ByteArray} {nL2 idx n : Nat} {ret2 : Option FieldType} {rm2 : Room} {I1 : z_I} {L1 : z_L} {w : Int32} (As : List Value) {st0 : List Value} (hC : z_C lay y cc2 nL2 ret2 rm2 As I L (some (.int w), I1, L1)) (hd : decode cc pc = .ok (.invokestatic idx, 3)) (hL : z_LN own idx y n) (hcode : Cond.code y cc2 nL2 ret2 ∈ z_W) (hn : As.length = n) (hst : st0 = As.reverse ++ st) (hW : (st.map fun v => v.category).sum ≤ 8) (hR : rm2.cells = 0 ∧ rm2.slots = 0 ∧ rm2.frames + 1 ≤ R.frames ∧ 8 + (nL2 + 11) + rm2.locals ≤ R.locals) (kk : z_X lay own cc nL ret R (pc + 3) lv (.int w :: st) I1 L1 res) : z_X lay own cc nL ret R pc lv st0 I L res := x_callN As hC hd hL hcode (fun a h => by cases h) hn hst hW hR kk
theorem x_callNl {lay : List z_Sh} {own : String} {cc : ByteArray} {nL : Nat} {ret : Option FieldType} {R : Room} {pc : Nat} {lv : List (Nat × Value)} {st : List Value} {I : z_I} {L : z_L} {res : z_R} {y : MethodName} {cc2 : ByteArray} {nL2 idx n : Nat} {ret2 : Option FieldType} {rm2 : Room} {I1 : z_I} {L1 : z_L} {w : Int64} (As : List Value) {st0 : List Value} (hC : z_C lay y cc2 nL2 ret2 rm2 As I L (some (.long w), I1, L1)) (hd : decode cc pc = .ok (.invokestatic idx, 3)) (hL : z_LN own idx y n) (hcode : Cond.code y cc2 nL2 ret2 ∈ z_W) (hn : As.length = n) (hst : st0 = As.reverse ++ st) (hW : (st.map fun v => v.category).sum ≤ 8) (hR : rm2.cells = 0 ∧ rm2.slots = 0 ∧ rm2.frames + 1 ≤ R.frames ∧ 8 + (nL2 + 11) + rm2.locals ≤ R.locals) (kk : z_X lay own cc nL ret R (pc + 3) lv (.long w :: st) I1 L1 res) : z_X lay own cc nL ret R pc lv st0 I L res := x_callN As hC hd hL hcode (fun a h => by cases h) hn hst hW hR kk
theorem x_callNv {lay : List z_Sh} {own : String} {cc : ByteArray} {nL : Nat} {ret : Option FieldType} {R : Room} {pc : Nat} {lv : List (Nat × Value)} {st : List Value} {I : z_I} {L : z_L} {res : z_R} {y : MethodName} {cc2 : ByteArray} {nL2 idx n : Nat} {ret2 : Option FieldType} {rm2 : Room} {I1 : z_I} {L1 : z_L}  (As : List Value) {st0 : List Value} (hC : z_C lay y cc2 nL2 ret2 rm2 As I L (none, I1, L1)) (hd : decode cc pc = .ok (.invokestatic idx, 3)) (hL : z_LN own idx y n) (hcode : Cond.code y cc2 nL2 ret2 ∈ z_W) (hn : As.length = n) (hst : st0 = As.reverse ++ st) (hW : (st.map fun v => v.category).sum ≤ 8) (hR : rm2.cells = 0 ∧ rm2.slots = 0 ∧ rm2.frames + 1 ≤ R.frames ∧ 8 + (nL2 + 11) + rm2.locals ≤ R.locals) (kk : z_X lay own cc nL ret R (pc + 3) lv st I1 L1 res) : z_X lay own cc nL ret R pc lv st0 I L res := x_callN As hC hd hL hcode (fun a h => by cases h) hn hst hW hR kk
def z_min (x y : Int32) : Int32 := if y < x then y else x
def z_max (x y : Int32) : Int32 := if x < y then y else x
def z_abs (x : Int32) : Int32 := if 0 ≤ x then x else 0 - x
def z_maxl (x y : Int64) : Int64 := if y < x then x else y
theorem x_mmin {lay : List z_Sh} {own : String} {cc : ByteArray} {nL : Nat} {ret : Option FieldType} {R : Room} {pc : Nat} {lv : List (Nat × Value)} {st : List Value} {I : z_I} {L : z_L} {res : z_R} {x y : Int32} {idx : Nat} (hd : decode cc pc = .ok (.invokestatic idx, 3)) (hL : z_LS own idx yJ9_min_7cf53 2) (hR : 1 ≤ R.frames ∧ (st.map fun v => v.category).sum + 20 ≤ R.locals) (kk : z_X lay own cc nL ret R (pc + 3) lv (.int (z_min x y) :: st) I L res) : z_X lay own cc nL ret R pc lv (.int y :: .int x :: st) I L res := by
  intro p l e s m args below meth c0 D cA ad adK adV xs A H locs ls nc ns hnc hns F hA hZ hP hD hS hl
  have e0 : ((st.map (z_cv ad)).map fun v => v.category).sum = (st.map fun v => v.category).sum := by
    rw [List.map_map]; congr 2; funext v; exact z_cv_cat ad v
  have hts := F.2.2.2.2.2.1
  exact va_mmin F.1 F.2.1 (F.2.2.2.1.trans hl.1.symm) F.2.2.2.2.1 (show (Cond.methodLink own idx Lib.Math.min.name).before args s = true from hts _ hL.1) (show (Cond.static Lib.Math.min.name).before args s = true from hts _ hL.2.1) (show (Cond.initialized "java/lang/Math").before args s = true from hts _ hL.2.2.1) (show (Cond.code Lib.Math.min.name Lib.Math.min.code 2 (some .int)).before args s = true from hts _ cd_J9_min_7cf53) hR.1 (by rw [e0]; omega) hnc hns hd (kk p l e s m args below meth c0 D cA ad adK adV xs A H locs ls nc ns hnc hns F hA hZ hP hD hS hl)
theorem x_mmax {lay : List z_Sh} {own : String} {cc : ByteArray} {nL : Nat} {ret : Option FieldType} {R : Room} {pc : Nat} {lv : List (Nat × Value)} {st : List Value} {I : z_I} {L : z_L} {res : z_R} {x y : Int32} {idx : Nat} (hd : decode cc pc = .ok (.invokestatic idx, 3)) (hL : z_LS own idx yJ9_max_7cf53 2) (hR : 1 ≤ R.frames ∧ (st.map fun v => v.category).sum + 20 ≤ R.locals) (kk : z_X lay own cc nL ret R (pc + 3) lv (.int (z_max x y) :: st) I L res) : z_X lay own cc nL ret R pc lv (.int y :: .int x :: st) I L res := by
  intro p l e s m args below meth c0 D cA ad adK adV xs A H locs ls nc ns hnc hns F hA hZ hP hD hS hl
  have e0 : ((st.map (z_cv ad)).map fun v => v.category).sum = (st.map fun v => v.category).sum := by
    rw [List.map_map]; congr 2; funext v; exact z_cv_cat ad v
  have hts := F.2.2.2.2.2.1
  exact va_mmax F.1 F.2.1 (F.2.2.2.1.trans hl.1.symm) F.2.2.2.2.1 (show (Cond.methodLink own idx Lib.Math.max.name).before args s = true from hts _ hL.1) (show (Cond.static Lib.Math.max.name).before args s = true from hts _ hL.2.1) (show (Cond.initialized "java/lang/Math").before args s = true from hts _ hL.2.2.1) (show (Cond.code Lib.Math.max.name Lib.Math.max.code 2 (some .int)).before args s = true from hts _ cd_J9_max_7cf53) hR.1 (by rw [e0]; omega) hnc hns hd (kk p l e s m args below meth c0 D cA ad adK adV xs A H locs ls nc ns hnc hns F hA hZ hP hD hS hl)
theorem x_mabs {lay : List z_Sh} {own : String} {cc : ByteArray} {nL : Nat} {ret : Option FieldType} {R : Room} {pc : Nat} {lv : List (Nat × Value)} {st : List Value} {I : z_I} {L : z_L} {res : z_R} {x : Int32} {idx : Nat} (hd : decode cc pc = .ok (.invokestatic idx, 3)) (hL : z_LS own idx yJ9_abs_0f7a4 1) (hR : 1 ≤ R.frames ∧ (st.map fun v => v.category).sum + 20 ≤ R.locals) (kk : z_X lay own cc nL ret R (pc + 3) lv (.int (z_abs x) :: st) I L res) : z_X lay own cc nL ret R pc lv (.int x :: st) I L res := by
  intro p l e s m args below meth c0 D cA ad adK adV xs A H locs ls nc ns hnc hns F hA hZ hP hD hS hl
  have e0 : ((st.map (z_cv ad)).map fun v => v.category).sum = (st.map fun v => v.category).sum := by
    rw [List.map_map]; congr 2; funext v; exact z_cv_cat ad v
  have hts := F.2.2.2.2.2.1
  exact va_mabs F.1 F.2.1 (F.2.2.2.1.trans hl.1.symm) F.2.2.2.2.1 (show (Cond.methodLink own idx Lib.Math.abs.name).before args s = true from hts _ hL.1) (show (Cond.static Lib.Math.abs.name).before args s = true from hts _ hL.2.1) (show (Cond.initialized "java/lang/Math").before args s = true from hts _ hL.2.2.1) (show (Cond.code Lib.Math.abs.name Lib.Math.abs.code 1 (some .int)).before args s = true from hts _ cd_J9_abs_0f7a4) hR.1 (by rw [e0]; omega) hnc hns hd (kk p l e s m args below meth c0 D cA ad adK adV xs A H locs ls nc ns hnc hns F hA hZ hP hD hS hl)
theorem x_mmaxl {lay : List z_Sh} {own : String} {cc : ByteArray} {nL : Nat} {ret : Option FieldType} {R : Room} {pc : Nat} {lv : List (Nat × Value)} {st : List Value} {I : z_I} {L : z_L} {res : z_R} {x y : Int64} {idx : Nat} (hd : decode cc pc = .ok (.invokestatic idx, 3)) (hL : z_LS own idx yJ9_max_f86c9 2) (hR : 1 ≤ R.frames ∧ (st.map fun v => v.category).sum + 20 ≤ R.locals) (kk : z_X lay own cc nL ret R (pc + 3) lv (.long (z_maxl x y) :: st) I L res) : z_X lay own cc nL ret R pc lv (.long y :: .long x :: st) I L res := by
  intro p l e s m args below meth c0 D cA ad adK adV xs A H locs ls nc ns hnc hns F hA hZ hP hD hS hl
  have e0 : ((st.map (z_cv ad)).map fun v => v.category).sum = (st.map fun v => v.category).sum := by
    rw [List.map_map]; congr 2; funext v; exact z_cv_cat ad v
  have hts := F.2.2.2.2.2.1
  exact va_mmax_long F.1 F.2.1 (F.2.2.2.1.trans hl.1.symm) F.2.2.2.2.1 (show (Cond.methodLink own idx Lib.MathLoose.max_long.x).before args s = true from hts _ hL.1) (show (Cond.static Lib.MathLoose.max_long.x).before args s = true from hts _ hL.2.1) (show (Cond.initialized "java/lang/Math").before args s = true from hts _ hL.2.2.1) (show (Cond.code Lib.MathLoose.max_long.x Lib.MathLoose.max_long.code 4 (some .long)).before args s = true from hts _ cd_J9_max_f86c9) hR.1 (by rw [e0]; omega) hnc hns hd (kk p l e s m args below meth c0 D cA ad adK adV xs A H locs ls nc ns hnc hns F hA hZ hP hD hS hl)
theorem f_if {c : Prop} [Decidable c] {α : Type} {a b : Option α} {r : α} (hc : c) (h : (if c then a else b) = some r) : a = some r := by rw [if_pos hc] at h; exact h
theorem f_el {c : Prop} [Decidable c] {α : Type} {a b : Option α} {r : α} (hc : ¬ c) (h : (if c then a else b) = some r) : b = some r := by rw [if_neg hc] at h; exact h
theorem f_gd {c : Prop} [Decidable c] {α : Type} {a : Option α} {r : α} (h : (if c then a else none) = some r) : c ∧ a = some r := by
  by_cases hc : c
  · exact ⟨hc, f_if hc h⟩
  · rw [if_neg hc] at h; cases h
def z_lt {α β : Type} (x : α) (k : α → β) : β := k x
theorem f_lt {α β : Type} {x : α} {k : α → β} {r : β} (h : z_lt x k = r) : ∃ y, y = x ∧ k y = r := ⟨x, rfl, h⟩
theorem t_if {c : Prop} [Decidable c] {α : Type} {a b : α} {r : α} (hc : c) (h : (if c then a else b) = r) : a = r := by rw [if_pos hc] at h; exact h
theorem t_el {c : Prop} [Decidable c] {α : Type} {a b : α} {r : α} (hc : ¬ c) (h : (if c then a else b) = r) : b = r := by rw [if_neg hc] at h; exact h
theorem f_bd {α β : Type} {x : Option α} {k : α → Option β} {r : β} (h : x.bind k = some r) : ∃ a, x = some a ∧ k a = some r := Option.bind_eq_some_iff.mp h
