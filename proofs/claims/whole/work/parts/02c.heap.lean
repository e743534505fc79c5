theorem z_oset {ad : Nat → Nat} {I I' : z_I} {L L' : z_L} {c k : Nat} {ss : List (Nat × Nat)} {q : Nat × Nat} {v : Value} (hk : ss[k]? = some q) (hv : v = z_sv ad I' L' c k q) (ho : ∀ (j : Nat) (x : Nat × Nat), j ≠ k → z_sv ad I' L' c j x = z_sv ad I L c j x) : (ss.mapIdx (fun j x => z_sv ad I L c j x)).set k v = ss.mapIdx (fun j x => z_sv ad I' L' c j x) := by
  subst hv
  have hl : k < (ss.mapIdx (fun j x => z_sv ad I L c j x)).length := by
    rw [List.length_mapIdx]
    exact (List.getElem?_eq_some_iff.mp hk).1
  apply List.ext_getElem?
  intro j
  by_cases hj : j = k
  · subst hj
    rw [List.getElem?_set_self hl, List.getElem?_mapIdx, hk]
    rfl
  · rw [List.getElem?_set_ne (Ne.symm hj), List.getElem?_mapIdx, List.getElem?_mapIdx]
    cases ss[j]? with
    | none => rfl
    | some x => exact (congrArg some (ho j x hj)).symm
theorem z2_s {α : Type} {f : Nat → Nat → α} {c k : Nat} {x : α} : z2 f c k x c = z1 (f c) k x := if_pos rfl
theorem z2_o {α : Type} {f : Nat → Nat → α} {c k j : Nat} {x : α} (h : j ≠ c) : z2 f c k x j = f j := if_neg h
theorem z1_s {α : Type} {f : Nat → α} {k : Nat} {x : α} : z1 f k x k = x := if_pos rfl
theorem z1_o {α : Type} {f : Nat → α} {k j : Nat} {x : α} (h : j ≠ k) : z1 f k x j = f j := if_neg h
theorem zr_s {α : Type} {f : Nat → Nat → α} {c : Nat} {g : Nat → α} : zr f c g c = g := if_pos rfl
theorem zr_o {α : Type} {f : Nat → Nat → α} {c j : Nat} {g : Nat → α} (h : j ≠ c) : zr f c g j = f j := if_neg h
theorem z_svI {ad : Nat → Nat} {I : z_I} {L : z_L} {c k : Nat} {v : Int32} (j : Nat) (x : Nat × Nat) (h : j ≠ k) : z_sv ad (z2 I c k v) L c j x = z_sv ad I L c j x := by
  unfold z_sv
  rw [z2_s, z1_o h]
theorem z_svL {ad : Nat → Nat} {I : z_I} {L : z_L} {c k : Nat} {v : Int64} (j : Nat) (x : Nat × Nat) (h : j ≠ k) : z_sv ad I (z2 L c k v) c j x = z_sv ad I L c j x := by
  unfold z_sv
  rw [z2_s, z1_o h]
theorem x_getI {lay : List z_Sh} {own : String} {cc : ByteArray} {nL : Nat} {ret : Option FieldType} {R : Room} {pc : Nat} {lv : List (Nat × Value)} {st : List Value} {I : z_I} {L : z_L} {res : z_R} {c k idx ci t : Nat} {ss : List (Nat × Nat)} {ty : FieldType} {fin : Bool} {v : Int32} (hd : decode cc pc = .ok (.getfield idx, 3)) (hs : lay[c]? = some (.inr (ci, ss))) (hf : z_FL own idx ci k ty fin) (hk : ss[k]? = some (0, t)) (hv : I c k = v) (kk : z_X lay own cc nL ret R (pc + 3) lv (.int v :: st) I L res) : z_X lay own cc nL ret R pc lv (.ref c :: st) I L res := by
  intro p l e s m args below meth c0 D cA ad adK adV xs A H locs ls nc ns hnc hns F hA hZ hP hD hS hl
  subst hv
  obtain ⟨C, T, N, ty0, h1, h2, h3, h4, h5, h6, h7, h8⟩ := hf
  exact va_get (D := D) (ci := ci) (v := .int (I c k)) (C := C) (T := T) (N := N) F.1 F.2.1 F.2.2.2.2.2.1 h4 F.2.2.2.2.1 F.2.2.2.2.2.2.2 hP c (z_at hs) h1 k h2 (F.2.2.2.2.2.1 _ h3) (fun _ h9 => h9) (by rw [List.getElem?_mapIdx, hk]; rfl) hd (kk p l e s m args below meth c0 D cA ad adK adV xs A H locs ls nc ns hnc hns F hA hZ hP hD hS hl)
theorem x_getL {lay : List z_Sh} {own : String} {cc : ByteArray} {nL : Nat} {ret : Option FieldType} {R : Room} {pc : Nat} {lv : List (Nat × Value)} {st : List Value} {I : z_I} {L : z_L} {res : z_R} {c k idx ci t : Nat} {ss : List (Nat × Nat)} {ty : FieldType} {fin : Bool} {v : Int64} (hd : decode cc pc = .ok (.getfield idx, 3)) (hs : lay[c]? = some (.inr (ci, ss))) (hf : z_FL own idx ci k ty fin) (hk : ss[k]? = some (1, t)) (hv : L c k = v) (kk : z_X lay own cc nL ret R (pc + 3) lv (.long v :: st) I L res) : z_X lay own cc nL ret R pc lv (.ref c :: st) I L res := by
  intro p l e s m args below meth c0 D cA ad adK adV xs A H locs ls nc ns hnc hns F hA hZ hP hD hS hl
  subst hv
  obtain ⟨C, T, N, ty0, h1, h2, h3, h4, h5, h6, h7, h8⟩ := hf
  exact va_get (D := D) (ci := ci) (v := .long (L c k)) (C := C) (T := T) (N := N) F.1 F.2.1 F.2.2.2.2.2.1 h4 F.2.2.2.2.1 F.2.2.2.2.2.2.2 hP c (z_at hs) h1 k h2 (F.2.2.2.2.2.1 _ h3) (fun _ h9 => h9) (by rw [List.getElem?_mapIdx, hk]; rfl) hd (kk p l e s m args below meth c0 D cA ad adK adV xs A H locs ls nc ns hnc hns F hA hZ hP hD hS hl)
theorem x_getR {lay : List z_Sh} {own : String} {cc : ByteArray} {nL : Nat} {ret : Option FieldType} {R : Room} {pc : Nat} {lv : List (Nat × Value)} {st : List Value} {I : z_I} {L : z_L} {res : z_R} {c k idx ci t : Nat} {ss : List (Nat × Nat)} {ty : FieldType} {fin : Bool} (hd : decode cc pc = .ok (.getfield idx, 3)) (hs : lay[c]? = some (.inr (ci, ss))) (hf : z_FL own idx ci k ty fin) (hk : ss[k]? = some (2, t))  (kk : z_X lay own cc nL ret R (pc + 3) lv (.ref t :: st) I L res) : z_X lay own cc nL ret R pc lv (.ref c :: st) I L res := by
  intro p l e s m args below meth c0 D cA ad adK adV xs A H locs ls nc ns hnc hns F hA hZ hP hD hS hl
  obtain ⟨C, T, N, ty0, h1, h2, h3, h4, h5, h6, h7, h8⟩ := hf
  exact va_get (D := D) (ci := ci) (v := .ref (ad t)) (C := C) (T := T) (N := N) F.1 F.2.1 F.2.2.2.2.2.1 h4 F.2.2.2.2.1 F.2.2.2.2.2.2.2 hP c (z_at hs) h1 k h2 (F.2.2.2.2.2.1 _ h3) (fun _ h9 => h9) (by rw [List.getElem?_mapIdx, hk]; rfl) hd (kk p l e s m args below meth c0 D cA ad adK adV xs A H locs ls nc ns hnc hns F hA hZ hP hD hS hl)
theorem x_getQ {lay : List z_Sh} {own : String} {cc : ByteArray} {nL : Nat} {ret : Option FieldType} {R : Room} {pc : Nat} {lv : List (Nat × Value)} {st : List Value} {I : z_I} {L : z_L} {res : z_R} {c k idx ci t : Nat} {ss : List (Nat × Nat)} {ty : FieldType} {fin : Bool} {v : Nat} (hd : decode cc pc = .ok (.getfield idx, 3)) (hs : lay[c]? = some (.inr (ci, ss))) (hf : z_FL own idx ci k ty fin) (hk : ss[k]? = some (3, t)) (hv : (I c k).toNatClampNeg = v) (kk : z_X lay own cc nL ret R (pc + 3) lv (.ref v :: st) I L res) : z_X lay own cc nL ret R pc lv (.ref c :: st) I L res := by
  intro p l e s m args below meth c0 D cA ad adK adV xs A H locs ls nc ns hnc hns F hA hZ hP hD hS hl
  subst hv
  obtain ⟨C, T, N, ty0, h1, h2, h3, h4, h5, h6, h7, h8⟩ := hf
  exact va_get (D := D) (ci := ci) (v := .ref (ad (I c k).toNatClampNeg)) (C := C) (T := T) (N := N) F.1 F.2.1 F.2.2.2.2.2.1 h4 F.2.2.2.2.1 F.2.2.2.2.2.2.2 hP c (z_at hs) h1 k h2 (F.2.2.2.2.2.1 _ h3) (fun _ h9 => h9) (by rw [List.getElem?_mapIdx, hk]; rfl) hd (kk p l e s m args below meth c0 D cA ad adK adV xs A H locs ls nc ns hnc hns F hA hZ hP hD hS hl)
theorem x_getB {lay : List z_Sh} {own : String} {cc : ByteArray} {nL : Nat} {ret : Option FieldType} {R : Room} {pc : Nat} {lv : List (Nat × Value)} {st : List Value} {I : z_I} {L : z_L} {res : z_R} {c k idx ci t : Nat} {ss : List (Nat × Nat)} {ty : FieldType} {fin : Bool} {v : Bool} (hd : decode cc pc = .ok (.getfield idx, 3)) (hs : lay[c]? = some (.inr (ci, ss))) (hf : z_FL own idx ci k ty fin) (hk : ss[k]? = some (4, t)) (hv : zn (I c k) = v) (kk : z_X lay own cc nL ret R (pc + 3) lv (.int (zb v) :: st) I L res) : z_X lay own cc nL ret R pc lv (.ref c :: st) I L res := by
  intro p l e s m args below meth c0 D cA ad adK adV xs A H locs ls nc ns hnc hns F hA hZ hP hD hS hl
  subst hv
  obtain ⟨C, T, N, ty0, h1, h2, h3, h4, h5, h6, h7, h8⟩ := hf
  exact va_get (D := D) (ci := ci) (v := .int (zb (zn (I c k)))) (C := C) (T := T) (N := N) F.1 F.2.1 F.2.2.2.2.2.1 h4 F.2.2.2.2.1 F.2.2.2.2.2.2.2 hP c (z_at hs) h1 k h2 (F.2.2.2.2.2.1 _ h3) (fun _ h9 => h9) (by rw [List.getElem?_mapIdx, hk]; rfl) hd (kk p l e s m args below meth c0 D cA ad adK adV xs A H locs ls nc ns hnc hns F hA hZ hP hD hS hl)
theorem x_putI {lay : List z_Sh} {own : String} {cc : ByteArray} {nL : Nat} {ret : Option FieldType} {R : Room} {pc : Nat} {lv : List (Nat × Value)} {st : List Value} {I : z_I} {L : z_L} {res : z_R} {c k idx ci t : Nat} {ss : List (Nat × Nat)} {ty : FieldType} {v : Int32} (hd : decode cc pc = .ok (.putfield idx, 3)) (hs : lay[c]? = some (.inr (ci, ss))) (hf : z_FL own idx ci k ty false) (hk : ss[k]? = some (0, t)) (hn : narrow ty (.int v) = .int v) (hfit : fits ty (.int v) = true) {I2 : z_I} (hI : I2 = (z2 I c k v)) (kk : z_X lay own cc nL ret R (pc + 3) lv st I2 L res) : z_X lay own cc nL ret R pc lv (.int v :: .ref c :: st) I L res := by
  intro p l e s m args below meth c0 D cA ad adK adV xs A H locs ls nc ns hnc hns F hA hZ hP hD hS hl
  subst hI
  obtain ⟨C, T, N, ty0, h1, h2, h3, h4, h5, h6, h7, h8⟩ := hf
  refine va_put (D := D) (ci := ci) (v := .int v) (ty := ty) (C := C) (T := T) (N := N) F.1 F.2.1 F.2.2.2.2.2.1 h4 ty0 h5 h6 F.2.2.2.2.1 F.2.2.2.2.2.2.2 hP hD hS c (z_at hs) h1 k h2 (F.2.2.2.2.2.1 _ h3) (fun _ h9 => h9) h8 (by rw [h5 k h2, h7]) hn hfit (by rw [List.length_mapIdx]; exact (List.getElem?_eq_some_iff.mp hk).1) hd (fun H1 locs1 hP1 hD1 hS1 => ?_)
  have e1 : (z_cs lay cA ad I L ++ xs).set c (ad c, .inr (ci, (ss.mapIdx (fun j x => z_sv ad I L c j x)).set k (.int v))) = z_cs lay cA ad (z2 I c k v) L ++ xs := z_set hs (congrArg (fun z => Sum.inr (ci, z)) (z_oset hk (by unfold z_sv; rw [z2_s, z1_s]; rfl) z_svI)) (fun j hj => z2_o hj) (fun j hj => rfl)
  rw [e1] at hP1 hD1
  exact kk p l e s m args below meth c0 D cA ad adK adV xs A H1 locs1 ls nc ns hnc hns F hA hZ hP1 hD1 hS1 hl
theorem x_putL {lay : List z_Sh} {own : String} {cc : ByteArray} {nL : Nat} {ret : Option FieldType} {R : Room} {pc : Nat} {lv : List (Nat × Value)} {st : List Value} {I : z_I} {L : z_L} {res : z_R} {c k idx ci t : Nat} {ss : List (Nat × Nat)} {ty : FieldType} {v : Int64} (hd : decode cc pc = .ok (.putfield idx, 3)) (hs : lay[c]? = some (.inr (ci, ss))) (hf : z_FL own idx ci k ty false) (hk : ss[k]? = some (1, t)) (hn : narrow ty (.long v) = .long v) (hfit : fits ty (.long v) = true) {L2 : z_L} (hI : L2 = (z2 L c k v)) (kk : z_X lay own cc nL ret R (pc + 3) lv st I L2 res) : z_X lay own cc nL ret R pc lv (.long v :: .ref c :: st) I L res := by
  intro p l e s m args below meth c0 D cA ad adK adV xs A H locs ls nc ns hnc hns F hA hZ hP hD hS hl
  subst hI
  obtain ⟨C, T, N, ty0, h1, h2, h3, h4, h5, h6, h7, h8⟩ := hf
  refine va_put (D := D) (ci := ci) (v := .long v) (ty := ty) (C := C) (T := T) (N := N) F.1 F.2.1 F.2.2.2.2.2.1 h4 ty0 h5 h6 F.2.2.2.2.1 F.2.2.2.2.2.2.2 hP hD hS c (z_at hs) h1 k h2 (F.2.2.2.2.2.1 _ h3) (fun _ h9 => h9) h8 (by rw [h5 k h2, h7]) hn hfit (by rw [List.length_mapIdx]; exact (List.getElem?_eq_some_iff.mp hk).1) hd (fun H1 locs1 hP1 hD1 hS1 => ?_)
  have e1 : (z_cs lay cA ad I L ++ xs).set c (ad c, .inr (ci, (ss.mapIdx (fun j x => z_sv ad I L c j x)).set k (.long v))) = z_cs lay cA ad I (z2 L c k v) ++ xs := z_set hs (congrArg (fun z => Sum.inr (ci, z)) (z_oset hk (by unfold z_sv; rw [z2_s, z1_s]; rfl) z_svL)) (fun j hj => rfl) (fun j hj => z2_o hj)
  rw [e1] at hP1 hD1
  exact kk p l e s m args below meth c0 D cA ad adK adV xs A H1 locs1 ls nc ns hnc hns F hA hZ hP1 hD1 hS1 hl
theorem x_putB {lay : List z_Sh} {own : String} {cc : ByteArray} {nL : Nat} {ret : Option FieldType} {R : Room} {pc : Nat} {lv : List (Nat × Value)} {st : List Value} {I : z_I} {L : z_L} {res : z_R} {c k idx ci t : Nat} {ss : List (Nat × Nat)} {ty : FieldType} {b : Bool} (hd : decode cc pc = .ok (.putfield idx, 3)) (hs : lay[c]? = some (.inr (ci, ss))) (hf : z_FL own idx ci k ty false) (hk : ss[k]? = some (4, t)) (ht : ty = .boolean) {I2 : z_I} (hI : I2 = (z2 I c k (zb b))) (kk : z_X lay own cc nL ret R (pc + 3) lv st I2 L res) : z_X lay own cc nL ret R pc lv (.int (zb b) :: .ref c :: st) I L res := by
  intro p l e s m args below meth c0 D cA ad adK adV xs A H locs ls nc ns hnc hns F hA hZ hP hD hS hl
  subst hI
  obtain ⟨C, T, N, ty0, h1, h2, h3, h4, h5, h6, h7, h8⟩ := hf
  refine va_put (D := D) (ci := ci) (v := .int (zb b)) (ty := ty) (C := C) (T := T) (N := N) F.1 F.2.1 F.2.2.2.2.2.1 h4 ty0 h5 h6 F.2.2.2.2.1 F.2.2.2.2.2.2.2 hP hD hS c (z_at hs) h1 k h2 (F.2.2.2.2.2.1 _ h3) (fun _ h9 => h9) h8 (by rw [h5 k h2, h7]) (by subst ht; cases b <;> rfl) (by subst ht; cases b <;> rfl) (by rw [List.length_mapIdx]; exact (List.getElem?_eq_some_iff.mp hk).1) hd (fun H1 locs1 hP1 hD1 hS1 => ?_)
  have e1 : (z_cs lay cA ad I L ++ xs).set c (ad c, .inr (ci, (ss.mapIdx (fun j x => z_sv ad I L c j x)).set k (.int (zb b)))) = z_cs lay cA ad (z2 I c k (zb b)) L ++ xs := z_set hs (congrArg (fun z => Sum.inr (ci, z)) (z_oset hk (by unfold z_sv; rw [z2_s, z1_s, zn_zb]; rfl) z_svI)) (fun j hj => z2_o hj) (fun j hj => rfl)
  rw [e1] at hP1 hD1
  exact kk p l e s m args below meth c0 D cA ad adK adV xs A H1 locs1 ls nc ns hnc hns F hA hZ hP1 hD1 hS1 hl
theorem x_putQ {lay : List z_Sh} {own : String} {cc : ByteArray} {nL : Nat} {ret : Option FieldType} {R : Room} {pc : Nat} {lv : List (Nat × Value)} {st : List Value} {I : z_I} {L : z_L} {res : z_R} {c k idx ci t : Nat} {ss : List (Nat × Nat)} {ty : FieldType} {v : Nat} {C0 : String} (hd : decode cc pc = .ok (.putfield idx, 3)) (hs : lay[c]? = some (.inr (ci, ss))) (hf : z_FL own idx ci k ty false) (hk : ss[k]? = some (3, t)) (ht : ty = .object C0) (hv : (Int32.ofNat v).toNatClampNeg = v) {I2 : z_I} (hI : I2 = (z2 I c k (Int32.ofNat v))) (kk : z_X lay own cc nL ret R (pc + 3) lv st I2 L res) : z_X lay own cc nL ret R pc lv (.ref v :: .ref c :: st) I L res := by
  intro p l e s m args below meth c0 D cA ad adK adV xs A H locs ls nc ns hnc hns F hA hZ hP hD hS hl
  subst hI
  obtain ⟨C, T, N, ty0, h1, h2, h3, h4, h5, h6, h7, h8⟩ := hf
  refine va_put (D := D) (ci := ci) (v := .ref (ad v)) (ty := ty) (C := C) (T := T) (N := N) F.1 F.2.1 F.2.2.2.2.2.1 h4 ty0 h5 h6 F.2.2.2.2.1 F.2.2.2.2.2.2.2 hP hD hS c (z_at hs) h1 k h2 (F.2.2.2.2.2.1 _ h3) (fun _ h9 => h9) h8 (by rw [h5 k h2, h7]) (by subst ht; rfl) (by subst ht; rfl) (by rw [List.length_mapIdx]; exact (List.getElem?_eq_some_iff.mp hk).1) hd (fun H1 locs1 hP1 hD1 hS1 => ?_)
  have e1 : (z_cs lay cA ad I L ++ xs).set c (ad c, .inr (ci, (ss.mapIdx (fun j x => z_sv ad I L c j x)).set k (.ref (ad v)))) = z_cs lay cA ad (z2 I c k (Int32.ofNat v)) L ++ xs := z_set hs (congrArg (fun z => Sum.inr (ci, z)) (z_oset hk (by unfold z_sv; rw [z2_s, z1_s, hv]; rfl) z_svI)) (fun j hj => z2_o hj) (fun j hj => rfl)
  rw [e1] at hP1 hD1
  exact kk p l e s m args below meth c0 D cA ad adK adV xs A H1 locs1 ls nc ns hnc hns F hA hZ hP1 hD1 hS1 hl
theorem x_iald {lay : List z_Sh} {own : String} {cc : ByteArray} {nL : Nat} {ret : Option FieldType} {R : Room} {pc : Nat} {lv : List (Nat × Value)} {st : List Value} {I : z_I} {L : z_L} {res : z_R} {c n j : Nat} {rs : List Nat} {i : Int32} {v : Int32} (hd : decode cc pc = .ok (.iaload, 1)) (hs : lay[c]? = some (.inl (.int, n, 0, rs))) (hin : zin i n = true) (hj : i.toNatClampNeg = j) (hv : I c j = v) (kk : z_X lay own cc nL ret R (pc + 1) lv (.int v :: st) I L res) : z_X lay own cc nL ret R pc lv (.int i :: .ref c :: st) I L res := by
  intro p l e s m args below meth c0 D cA ad adK adV xs A H locs ls nc ns hnc hns F hA hZ hP hD hS hl
  subst hj hv
  exact va_iald F.1 F.2.1 F.2.2.2.2.2.2.2 hP c 0 (z_at hs) rfl (zin_vp hin) hd (kk p l e s m args below meth c0 D cA ad adK adV xs A H locs ls nc ns hnc hns F hA hZ hP hD hS hl)
theorem x_bald {lay : List z_Sh} {own : String} {cc : ByteArray} {nL : Nat} {ret : Option FieldType} {R : Room} {pc : Nat} {lv : List (Nat × Value)} {st : List Value} {I : z_I} {L : z_L} {res : z_R} {c n j : Nat} {rs : List Nat} {i : Int32} {v : Int32} (hd : decode cc pc = .ok (.baload, 1)) (hs : lay[c]? = some (.inl (.byte, n, 0, rs))) (hin : zin i n = true) (hj : i.toNatClampNeg = j) (hv : I c j = v) (kk : z_X lay own cc nL ret R (pc + 1) lv (.int v :: st) I L res) : z_X lay own cc nL ret R pc lv (.int i :: .ref c :: st) I L res := by
  intro p l e s m args below meth c0 D cA ad adK adV xs A H locs ls nc ns hnc hns F hA hZ hP hD hS hl
  subst hj hv
  exact va_bald F.1 F.2.1 F.2.2.2.2.2.2.2 hP c 2 (z_at hs) rfl (zin_vp hin) hd (kk p l e s m args below meth c0 D cA ad adK adV xs A H locs ls nc ns hnc hns F hA hZ hP hD hS hl)
theorem x_lald {lay : List z_Sh} {own : String} {cc : ByteArray} {nL : Nat} {ret : Option FieldType} {R : Room} {pc : Nat} {lv : List (Nat × Value)} {st : List Value} {I : z_I} {L : z_L} {res : z_R} {c n j : Nat} {rs : List Nat} {i : Int32} {v : Int64} (hd : decode cc pc = .ok (.laload, 1)) (hs : lay[c]? = some (.inl (.long, n, 1, rs))) (hin : zin i n = true) (hj : i.toNatClampNeg = j) (hv : L c j = v) (kk : z_X lay own cc nL ret R (pc + 1) lv (.long v :: st) I L res) : z_X lay own cc nL ret R pc lv (.int i :: .ref c :: st) I L res := by
  intro p l e s m args below meth c0 D cA ad adK adV xs A H locs ls nc ns hnc hns F hA hZ hP hD hS hl
  subst hj hv
  exact va_lald F.1 F.2.1 F.2.2.2.2.2.2.2 hP c 1 (z_at hs) rfl (zin_vp hin) hd (kk p l e s m args below meth c0 D cA ad adK adV xs A H locs ls nc ns hnc hns F hA hZ hP hD hS hl)
theorem x_aald {lay : List z_Sh} {own : String} {cc : ByteArray} {nL : Nat} {ret : Option FieldType} {R : Room} {pc : Nat} {lv : List (Nat × Value)} {st : List Value} {I : z_I} {L : z_L} {res : z_R} {c n v : Nat} {rs : List Nat} {i : Int32} {C0 : String} (t0 : Nat) (hd : decode cc pc = .ok (.aaload, 1)) (hs : lay[c]? = some (.inl (.object C0, n, 2, rs))) (ht : ∀ cA : FieldType → ClassId, (z_ty cA)[t0]? = some (cA (.object C0), .object C0)) (hin : zin i n = true) (hv : rs[i.toNatClampNeg]? = some v) (kk : z_X lay own cc nL ret R (pc + 1) lv (.ref v :: st) I L res) : z_X lay own cc nL ret R pc lv (.int i :: .ref c :: st) I L res := by
  intro p l e s m args below meth c0 D cA ad adK adV xs A H locs ls nc ns hnc hns F hA hZ hP hD hS hl
  refine va_aldq F.1 F.2.1 F.2.2.2.2.2.2.2 hP c t0 (z_at hs) (ht cA) (zin_vp hin) hd ?_
  rw [hv]
  exact kk p l e s m args below meth c0 D cA ad adK adV xs A H locs ls nc ns hnc hns F hA hZ hP hD hS hl
theorem x_iast {lay : List z_Sh} {own : String} {cc : ByteArray} {nL : Nat} {ret : Option FieldType} {R : Room} {pc : Nat} {lv : List (Nat × Value)} {st : List Value} {I : z_I} {L : z_L} {res : z_R} {c n j0 : Nat} {rs : List Nat} {i : Int32} {x : Int32} (hd : decode cc pc = .ok (.iastore, 1)) (hs : lay[c]? = some (.inl (.int, n, 0, rs))) (hin : zin i n = true) (hj0 : i.toNatClampNeg = j0) {I2 : z_I} (hI : I2 = (z2 I c j0 x)) (kk : z_X lay own cc nL ret R (pc + 1) lv st I2 L res) : z_X lay own cc nL ret R pc lv (.int x :: .int i :: .ref c :: st) I L res := by
  intro p l e s m args below meth c0 D cA ad adK adV xs A H locs ls nc ns hnc hns F hA hZ hP hD hS hl
  subst hj0 hI
  refine va_iast F.1 F.2.1 F.2.2.2.2.2.2.2 hP hD hS c 0 (z_at hs) rfl (zin_vp hin) hd (fun H1 locs1 hP1 hD1 hS1 => ?_)
  have e1 : (z_cs lay cA ad I L ++ xs).set c (ad c, .inl (cA .int, n, .inl (upd (I c) i.toNatClampNeg x))) = z_cs lay cA ad (z2 I c i.toNatClampNeg x) L ++ xs := z_set hs (by
    show (_ : va_E) = (Sum.inl (cA .int, n, .inl (z2 I c i.toNatClampNeg x c)) : va_E)
    rw [z2_s]
    rfl) (fun j hj => z2_o hj) (fun j hj => rfl)
  rw [e1] at hP1 hD1
  exact kk p l e s m args below meth c0 D cA ad adK adV xs A H1 locs1 ls nc ns hnc hns F hA hZ hP1 hD1 hS1 hl
theorem x_bast {lay : List z_Sh} {own : String} {cc : ByteArray} {nL : Nat} {ret : Option FieldType} {R : Room} {pc : Nat} {lv : List (Nat × Value)} {st : List Value} {I : z_I} {L : z_L} {res : z_R} {c n j0 : Nat} {rs : List Nat} {i : Int32} {x : Int32} (hd : decode cc pc = .ok (.bastore, 1)) (hs : lay[c]? = some (.inl (.byte, n, 0, rs))) (hin : zin i n = true) (hj0 : i.toNatClampNeg = j0) {I2 : z_I} (hI : I2 = (z2 I c j0 (vp_nar .byte x))) (kk : z_X lay own cc nL ret R (pc + 1) lv st I2 L res) : z_X lay own cc nL ret R pc lv (.int x :: .int i :: .ref c :: st) I L res := by
  intro p l e s m args below meth c0 D cA ad adK adV xs A H locs ls nc ns hnc hns F hA hZ hP hD hS hl
  subst hj0 hI
  refine va_bast F.1 F.2.1 F.2.2.2.2.2.2.2 hP hD hS c 2 (z_at hs) rfl (zin_vp hin) hd (fun H1 locs1 hP1 hD1 hS1 => ?_)
  have e1 : (z_cs lay cA ad I L ++ xs).set c (ad c, .inl (cA .byte, n, .inl (upd (I c) i.toNatClampNeg (vp_nar .byte x)))) = z_cs lay cA ad (z2 I c i.toNatClampNeg (vp_nar .byte x)) L ++ xs := z_set hs (by
    show (_ : va_E) = (Sum.inl (cA .byte, n, .inl (z2 I c i.toNatClampNeg (vp_nar .byte x) c)) : va_E)
    rw [z2_s]
    rfl) (fun j hj => z2_o hj) (fun j hj => rfl)
  rw [e1] at hP1 hD1
  exact kk p l e s m args below meth c0 D cA ad adK adV xs A H1 locs1 ls nc ns hnc hns F hA hZ hP1 hD1 hS1 hl
theorem x_last {lay : List z_Sh} {own : String} {cc : ByteArray} {nL : Nat} {ret : Option FieldType} {R : Room} {pc : Nat} {lv : List (Nat × Value)} {st : List Value} {I : z_I} {L : z_L} {res : z_R} {c n j0 : Nat} {rs : List Nat} {i : Int32} {x : Int64} (hd : decode cc pc = .ok (.lastore, 1)) (hs : lay[c]? = some (.inl (.long, n, 1, rs))) (hin : zin i n = true) (hj0 : i.toNatClampNeg = j0) {L2 : z_L} (hI : L2 = (z2 L c j0 x)) (kk : z_X lay own cc nL ret R (pc + 1) lv st I L2 res) : z_X lay own cc nL ret R pc lv (.long x :: .int i :: .ref c :: st) I L res := by
  intro p l e s m args below meth c0 D cA ad adK adV xs A H locs ls nc ns hnc hns F hA hZ hP hD hS hl
  subst hj0 hI
  refine va_last F.1 F.2.1 F.2.2.2.2.2.2.2 hP hD hS c 1 (z_at hs) rfl (zin_vp hin) hd (fun H1 locs1 hP1 hD1 hS1 => ?_)
  have e1 : (z_cs lay cA ad I L ++ xs).set c (ad c, .inl (cA .long, n, .inr (.inl (vp_updL (L c) i.toNatClampNeg x)))) = z_cs lay cA ad I (z2 L c i.toNatClampNeg x) ++ xs := z_set hs (by
    show (_ : va_E) = (Sum.inl (cA .long, n, .inr (.inl (z2 L c i.toNatClampNeg x c))) : va_E)
    rw [z2_s]
    rfl) (fun j hj => rfl) (fun j hj => z2_o hj)
  rw [e1] at hP1 hD1
  exact kk p l e s m args below meth c0 D cA ad adK adV xs A H1 locs1 ls nc ns hnc hns F hA hZ hP1 hD1 hS1 hl
theorem x_alenI {lay : List z_Sh} {own : String} {cc : ByteArray} {nL : Nat} {ret : Option FieldType} {R : Room} {pc : Nat} {lv : List (Nat × Value)} {st : List Value} {I : z_I} {L : z_L} {res : z_R} {c n : Nat} {rs : List Nat} {v : Int32} (hd : decode cc pc = .ok (.arraylength, 1)) (hs : lay[c]? = some (.inl (.int, n, 0, rs))) (hv : Int32.ofNat n = v) (kk : z_X lay own cc nL ret R (pc + 1) lv (.int v :: st) I L res) : z_X lay own cc nL ret R pc lv (.ref c :: st) I L res := by
  intro p l e s m args below meth c0 D cA ad adK adV xs A H locs ls nc ns hnc hns F hA hZ hP hD hS hl
  exact va_alen F.1 F.2.1 F.2.2.2.2.2.2.2 hP c 0 (z_at hs) (ty := .int) rfl hv hd (kk p l e s m args below meth c0 D cA ad adK adV xs A H locs ls nc ns hnc hns F hA hZ hP hD hS hl)
theorem x_alenB {lay : List z_Sh} {own : String} {cc : ByteArray} {nL : Nat} {ret : Option FieldType} {R : Room} {pc : Nat} {lv : List (Nat × Value)} {st : List Value} {I : z_I} {L : z_L} {res : z_R} {c n : Nat} {rs : List Nat} {v : Int32} (hd : decode cc pc = .ok (.arraylength, 1)) (hs : lay[c]? = some (.inl (.byte, n, 0, rs))) (hv : Int32.ofNat n = v) (kk : z_X lay own cc nL ret R (pc + 1) lv (.int v :: st) I L res) : z_X lay own cc nL ret R pc lv (.ref c :: st) I L res := by
  intro p l e s m args below meth c0 D cA ad adK adV xs A H locs ls nc ns hnc hns F hA hZ hP hD hS hl
  exact va_alen F.1 F.2.1 F.2.2.2.2.2.2.2 hP c 2 (z_at hs) (ty := .byte) rfl hv hd (kk p l e s m args below meth c0 D cA ad adK adV xs A H locs ls nc ns hnc hns F hA hZ hP hD hS hl)
theorem x_alenL {lay : List z_Sh} {own : String} {cc : ByteArray} {nL : Nat} {ret : Option FieldType} {R : Room} {pc : Nat} {lv : List (Nat × Value)} {st : List Value} {I : z_I} {L : z_L} {res : z_R} {c n : Nat} {rs : List Nat} {v : Int32} (hd : decode cc pc = .ok (.arraylength, 1)) (hs : lay[c]? = some (.inl (.long, n, 1, rs))) (hv : Int32.ofNat n = v) (kk : z_X lay own cc nL ret R (pc + 1) lv (.int v :: st) I L res) : z_X lay own cc nL ret R pc lv (.ref c :: st) I L res := by
  intro p l e s m args below meth c0 D cA ad adK adV xs A H locs ls nc ns hnc hns F hA hZ hP hD hS hl
  exact va_alen F.1 F.2.1 F.2.2.2.2.2.2.2 hP c 1 (z_at hs) (ty := .long) rfl hv hd (kk p l e s m args below meth c0 D cA ad adK adV xs A H locs ls nc ns hnc hns F hA hZ hP hD hS hl)
theorem x_cpyI {lay : List z_Sh} {own : String} {cc : ByteArray} {nL : Nat} {ret : Option FieldType} {R : Room} {pc : Nat} {lv : List (Nat × Value)} {st : List Value} {I : z_I} {L : z_L} {res : z_R} {c c1 n n1 idx : Nat} {rs rs1 : List Nat} {sp dp m0 : Int32} (hd : decode cc pc = .ok (.invokestatic idx, 3)) (hw : Cond.methodLink own idx arraycopyName ∈ z_W ∧ Cond.native arraycopyName ∈ z_W ∧ Cond.static arraycopyName ∈ z_W ∧ Cond.initialized "java/lang/System" ∈ z_W) (hs1 : lay[c1]? = some (.inl (.int, n1, 0, rs1))) (hs : lay[c]? = some (.inl (.int, n, 0, rs))) (g1 : ¬ sp < 0) (g2 : ¬ dp < 0) (g3 : ¬ m0 < 0) (g4 : sp.toNatClampNeg + m0.toNatClampNeg ≤ n1) (g5 : dp.toNatClampNeg + m0.toNatClampNeg ≤ n) (hR : 1 ≤ R.frames ∧ (st.map fun v => v.category).sum + (nativeFrameWords "java/lang/System" "arraycopy" 5 + 11) ≤ R.locals) {I2 : z_I} (hI : I2 = (zr I c (va_cpy (I c1) (I c) sp.toNatClampNeg dp.toNatClampNeg m0.toNatClampNeg))) (kk : z_X lay own cc nL ret R (pc + 3) lv st I2 L res) : z_X lay own cc nL ret R pc lv (.int m0 :: .int dp :: .ref c :: .int sp :: .ref c1 :: st) I L res := by
  intro p l e s m args below meth c0 D cA ad adK adV xs A H locs ls nc ns hnc hns F hA hZ hP hD hS hl
  subst hI
  refine va_copyi F.1 F.2.1 (F.2.2.2.1.trans hl.1.symm) F.2.2.2.2.1 (F.2.2.2.2.2.1 _ hw.1) (F.2.2.2.2.2.1 _ hw.2.1) (F.2.2.2.2.2.1 _ hw.2.2.1) (F.2.2.2.2.2.1 _ hw.2.2.2) F.2.2.2.2.2.2.2 hP hD hS c1 c 0 0 (z_at hs1) (z_at hs) (ty := .int) rfl rfl rfl g1 g2 g3 g4 g5 (fun _ _ => rfl) hR.1 (by
    have e0 : ((st.map (z_cv ad)).map fun v => v.category).sum = (st.map fun v => v.category).sum := by
      rw [List.map_map]; congr 2; funext v; exact z_cv_cat ad v
    rw [e0]; exact hR.2) hd (fun H1 locs1 hP1 hD1 hS1 => ?_)
  have e1 : (z_cs lay cA ad I L ++ xs).set c (ad c, .inl (cA .int, n, .inl (va_cpy (I c1) (I c) sp.toNatClampNeg dp.toNatClampNeg m0.toNatClampNeg))) = z_cs lay cA ad (zr I c (va_cpy (I c1) (I c) sp.toNatClampNeg dp.toNatClampNeg m0.toNatClampNeg)) L ++ xs := z_set hs (by
    show (_ : va_E) = (Sum.inl (cA .int, n, .inl (zr I c (va_cpy (I c1) (I c) sp.toNatClampNeg dp.toNatClampNeg m0.toNatClampNeg) c)) : va_E)
    rw [zr_s]) (fun j hj => zr_o hj) (fun j hj => rfl)
  rw [e1] at hP1 hD1
  exact kk p l e s m args below meth c0 D cA ad adK adV xs A H1 locs1 ls nc ns hnc hns F hA hZ hP1 hD1 hS1 hl
theorem x_cpyL {lay : List z_Sh} {own : String} {cc : ByteArray} {nL : Nat} {ret : Option FieldType} {R : Room} {pc : Nat} {lv : List (Nat × Value)} {st : List Value} {I : z_I} {L : z_L} {res : z_R} {c c1 n n1 idx : Nat} {rs rs1 : List Nat} {sp dp m0 : Int32} (hd : decode cc pc = .ok (.invokestatic idx, 3)) (hw : Cond.methodLink own idx arraycopyName ∈ z_W ∧ Cond.native arraycopyName ∈ z_W ∧ Cond.static arraycopyName ∈ z_W ∧ Cond.initialized "java/lang/System" ∈ z_W) (hs1 : lay[c1]? = some (.inl (.long, n1, 1, rs1))) (hs : lay[c]? = some (.inl (.long, n, 1, rs))) (g1 : ¬ sp < 0) (g2 : ¬ dp < 0) (g3 : ¬ m0 < 0) (g4 : sp.toNatClampNeg + m0.toNatClampNeg ≤ n1) (g5 : dp.toNatClampNeg + m0.toNatClampNeg ≤ n) (hR : 1 ≤ R.frames ∧ (st.map fun v => v.category).sum + (nativeFrameWords "java/lang/System" "arraycopy" 5 + 11) ≤ R.locals) {L2 : z_L} (hI : L2 = (zr L c (va_cpy (L c1) (L c) sp.toNatClampNeg dp.toNatClampNeg m0.toNatClampNeg))) (kk : z_X lay own cc nL ret R (pc + 3) lv st I L2 res) : z_X lay own cc nL ret R pc lv (.int m0 :: .int dp :: .ref c :: .int sp :: .ref c1 :: st) I L res := by
  intro p l e s m args below meth c0 D cA ad adK adV xs A H locs ls nc ns hnc hns F hA hZ hP hD hS hl
  subst hI
  refine va_copyl F.1 F.2.1 (F.2.2.2.1.trans hl.1.symm) F.2.2.2.2.1 (F.2.2.2.2.2.1 _ hw.1) (F.2.2.2.2.2.1 _ hw.2.1) (F.2.2.2.2.2.1 _ hw.2.2.1) (F.2.2.2.2.2.1 _ hw.2.2.2) F.2.2.2.2.2.2.2 hP hD hS c1 c 1 1 (z_at hs1) (z_at hs) (ty := .long) rfl rfl rfl g1 g2 g3 g4 g5 (fun _ _ => rfl) hR.1 (by
    have e0 : ((st.map (z_cv ad)).map fun v => v.category).sum = (st.map fun v => v.category).sum := by
      rw [List.map_map]; congr 2; funext v; exact z_cv_cat ad v
    rw [e0]; exact hR.2) hd (fun H1 locs1 hP1 hD1 hS1 => ?_)
  have e1 : (z_cs lay cA ad I L ++ xs).set c (ad c, .inl (cA .long, n, .inr (.inl (va_cpy (L c1) (L c) sp.toNatClampNeg dp.toNatClampNeg m0.toNatClampNeg)))) = z_cs lay cA ad I (zr L c (va_cpy (L c1) (L c) sp.toNatClampNeg dp.toNatClampNeg m0.toNatClampNeg)) ++ xs := z_set hs (by
    show (_ : va_E) = (Sum.inl (cA .long, n, .inr (.inl (zr L c (va_cpy (L c1) (L c) sp.toNatClampNeg dp.toNatClampNeg m0.toNatClampNeg) c))) : va_E)
    rw [zr_s]) (fun j hj => rfl) (fun j hj => zr_o hj)
  rw [e1] at hP1 hD1
  exact kk p l e s m args below meth c0 D cA ad adK adV xs A H1 locs1 ls nc ns hnc hns F hA hZ hP1 hD1 hS1 hl
