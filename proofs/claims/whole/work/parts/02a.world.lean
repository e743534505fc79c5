/-! memory: an int and a long for each cell and place -/
abbrev z_I : Type := Nat → Nat → Int32
abbrev z_L : Type := Nat → Nat → Int64
/-- a cell's shape: an array (type, length, kind of its contents: 0 ints, 1 longs, else the cells that it refers to), or an object (class, its slots: 0 int, 1 long, 2 a cell, 3 a cell by number, else boolean) -/
abbrev z_Sh : Type := (FieldType × Nat × Nat × List Nat) ⊕ (Nat × List (Nat × Nat))
def z1 {α : Type} (f : Nat → α) (k : Nat) (x : α) : Nat → α := fun j => if j = k then x else f j
def z2 {α : Type} (f : Nat → Nat → α) (c k : Nat) (x : α) : Nat → Nat → α := fun j => if j = c then z1 (f c) k x else f j
/-- a whole row is put -/
def zr {α : Type} (f : Nat → Nat → α) (c : Nat) (g : Nat → α) : Nat → Nat → α := fun j => if j = c then g else f j
def zb (b : Bool) : Int32 := if b = true then 1 else 0
def zn (x : Int32) : Bool := !decide (x = 0)
def zin (i : Int32) (n : Nat) : Bool := decide (¬ (i < 0 ∨ n ≤ i.toNatClampNeg))
theorem zin_vp {i : Int32} {n : Nat} (h : zin i n = true) : vp_in i n := of_decide_eq_true (p := ¬ (i < 0 ∨ n ≤ i.toNatClampNeg)) h
theorem zn_zb (b : Bool) : zn (zb b) = b := by cases b <;> decide
theorem zb_0 (b : Bool) : zb b = 0 ↔ b = false := by cases b <;> decide
def z_cv (ad : Nat → Nat) (v : Value) : Value := match v with
  | .ref a => .ref (ad a)
  | w => w
theorem z_cv_cat (ad : Nat → Nat) (v : Value) : (z_cv ad v).category = v.category := by cases v <;> rfl
def z_sv (ad : Nat → Nat) (I : z_I) (L : z_L) (c k : Nat) (s : Nat × Nat) : Value := match s.1 with
  | 0 => .int (I c k)
  | 1 => .long (L c k)
  | 2 => .ref (ad s.2)
  | 3 => .ref (ad (I c k).toNatClampNeg)
  | 5 => .null
  | _ => .int (zb (zn (I c k)))
def z_ce (cA : FieldType → ClassId) (ad : Nat → Nat) (I : z_I) (L : z_L) (c : Nat) (sh : z_Sh) : va_E := match sh with
  | .inl (ty, n, 0, _) => .inl (cA ty, n, .inl (I c))
  | .inl (ty, n, 1, _) => .inl (cA ty, n, .inr (.inl (L c)))
  | .inl (ty, n, _, rs) => .inl (cA ty, n, .inr (.inr (.inr (.inr (fun i => (rs[i]?).map ad)))))
  | .inr (ci, ss) => .inr (ci, ss.mapIdx (fun k s => z_sv ad I L c k s))
def z_cs (lay : List z_Sh) (cA : FieldType → ClassId) (ad : Nat → Nat) (I : z_I) (L : z_L) : va_W := lay.mapIdx (fun c sh => (ad c, z_ce cA ad I L c sh))
theorem z_at {lay : List z_Sh} {cA : FieldType → ClassId} {ad : Nat → Nat} {I : z_I} {L : z_L} {xs : va_W} {c : Nat} {sh : z_Sh} (h : lay[c]? = some sh) : (z_cs lay cA ad I L ++ xs)[c]? = some (ad c, z_ce cA ad I L c sh) := by
  have hl : c < (z_cs lay cA ad I L).length := by
    unfold z_cs
    rw [List.length_mapIdx]
    exact (List.getElem?_eq_some_iff.mp h).1
  rw [List.getElem?_append_left hl]
  unfold z_cs
  rw [List.getElem?_mapIdx, h]
  rfl
theorem z_set {lay : List z_Sh} {cA : FieldType → ClassId} {ad : Nat → Nat} {I I' : z_I} {L L' : z_L} {xs : va_W} {c : Nat} {sh : z_Sh} {e : va_E} (h : lay[c]? = some sh) (he : e = z_ce cA ad I' L' c sh) (hI : ∀ j, j ≠ c → I' j = I j) (hL : ∀ j, j ≠ c → L' j = L j) : (z_cs lay cA ad I L ++ xs).set c (ad c, e) = z_cs lay cA ad I' L' ++ xs := by
  subst he
  have hl : c < (z_cs lay cA ad I L).length := by
    unfold z_cs
    rw [List.length_mapIdx]
    exact (List.getElem?_eq_some_iff.mp h).1
  rw [List.set_append_left _ _ hl]
  congr 1
  apply List.ext_getElem?
  intro j
  by_cases hj : j = c
  · subst hj
    rw [List.getElem?_set_self hl]
    unfold z_cs
    rw [List.getElem?_mapIdx, h]
    rfl
  · rw [List.getElem?_set_ne (Ne.symm hj)]
    unfold z_cs
    rw [List.getElem?_mapIdx, List.getElem?_mapIdx]
    cases hq : lay[j]? with
    | none => rfl
    | some q =>
      have e1 : z_ce cA ad I L j q = z_ce cA ad I' L' j q := by
        have hsv : ∀ (k : Nat) (x : Nat × Nat), z_sv ad I L j k x = z_sv ad I' L' j k x := by
          intro k x
          unfold z_sv
          rw [hI j hj, hL j hj]
        unfold z_ce
        rw [hI j hj, hL j hj]
        split <;> first | rfl | (simp only [hsv])
      show some (ad j, z_ce cA ad I L j q) = some (ad j, z_ce cA ad I' L' j q)
      rw [e1]
def z_ty (cA : FieldType → ClassId) : List (ClassId × FieldType) := [(cA .int, .int), (cA .long, .long), (cA .byte, .byte), (cA (.object RX8), .object RX8), (cA (.object RX0), .object RX0), (cA (.object RX5), .object RX5)]
/-! texts -/
def z_t0 : String := "odds bed crocus sham case weight claim at cost of scholar gold make walk pick night forget any when made loop end stop "
def z_t1 : String := " odds bed case claim scholar crocus sham weight at cost of gold make walk pick night forget any when loop end stop made "
def z_len : List Nat := [119, 120]
def z_byt : List (List Int32) := [[111, 100, 100, 115, 32, 98, 101, 100, 32, 99, 114, 111, 99, 117, 115, 32, 115, 104, 97, 109, 32, 99, 97, 115, 101, 32, 119, 101, 105, 103, 104, 116, 32, 99, 108, 97, 105, 109, 32, 97, 116, 32, 99, 111, 115, 116, 32, 111, 102, 32, 115, 99, 104, 111, 108, 97, 114, 32, 103, 111, 108, 100, 32, 109, 97, 107, 101, 32, 119, 97, 108, 107, 32, 112, 105, 99, 107, 32, 110, 105, 103, 104, 116, 32, 102, 111, 114, 103, 101, 116, 32, 97, 110, 121, 32, 119, 104, 101, 110, 32, 109, 97, 100, 101, 32, 108, 111, 111, 112, 32, 101, 110, 100, 32, 115, 116, 111, 112, 32], [32, 111, 100, 100, 115, 32, 98, 101, 100, 32, 99, 97, 115, 101, 32, 99, 108, 97, 105, 109, 32, 115, 99, 104, 111, 108, 97, 114, 32, 99, 114, 111, 99, 117, 115, 32, 115, 104, 97, 109, 32, 119, 101, 105, 103, 104, 116, 32, 97, 116, 32, 99, 111, 115, 116, 32, 111, 102, 32, 103, 111, 108, 100, 32, 109, 97, 107, 101, 32, 119, 97, 108, 107, 32, 112, 105, 99, 107, 32, 110, 105, 103, 104, 116, 32, 102, 111, 114, 103, 101, 116, 32, 97, 110, 121, 32, 119, 104, 101, 110, 32, 108, 111, 111, 112, 32, 101, 110, 100, 32, 115, 116, 111, 112, 32, 109, 97, 100, 101, 32]]
def z_N (U : State) : Prop := (∀ q ∈ z_nest, va_Nw (.methodLinkNest q.1 q.2.1 q.2.2.1 q.2.2.2) U) ∧ va_AO RX8 U ∧ va_AO RX0 U ∧ va_AO RX5 U
def z_S (adK adV ad : Nat → Nat) (A : Nat → Prop) (U : State) (H : Heap) : Prop :=
  vk_S 2 z_len z_byt adK adV A U H ∧ vk_R RX7 19 z_t0 (adK 0) U ∧ vk_R RX11 192 z_t1 (adK 1) U ∧ va_Z "java/lang/String" "COMPACT_STRINGS" "Z" (.int 1) A U H ∧ va_Zq "jdk/internal/util/Preconditions" "SIOOBE_FORMATTER" "Ljava/util/function/BiFunction;" A U H ∧ z_N U ∧ ∀ i, i < 2 → ad (9000 + i) = adK i ∧ ad (9002 + i) = adV i
theorem z_S.go {adK adV ad : Nat → Nat} {A A1 : Nat → Prop} {s U : State} {H0 H : Heap} (h : z_S adK adV ad A s H0) (hW : s.WarmedH U.vm) (hq : ∀ a : Nat, a < H0.size → ¬ A a → H[a]? = H0[a]?) (hA : ∀ q, A1 q → A q) : z_S adK adV ad A1 U H :=
  ⟨((h.1.kept hq).moved hW.alike).narrow hA, h.2.1.warm hW, h.2.2.1.warm hW, ((h.2.2.2.1.kept hq).moved hW.alike).narrow hA, ((h.2.2.2.2.1.kept hq).moved hW.alike).narrow hA, ⟨fun q hq => va_Nw.warmM hW (h.2.2.2.2.2.1.1 q hq), va_AO.moved hW.alike h.2.2.2.2.2.1.2.1, va_AO.moved hW.alike h.2.2.2.2.2.1.2.2.1, va_AO.moved hW.alike h.2.2.2.2.2.1.2.2.2⟩, h.2.2.2.2.2.2⟩
theorem z_S.same {adK adV ad : Nat → Nat} {A : Nat → Prop} {u U : State} {H : Heap} (h : z_S adK adV ad A u H) (hv : U.vm = u.vm) : z_S adK adV ad A U H := by
  have ha : u.vm.Alike U.vm := by rw [hv]; exact Vm.Alike.refl u.vm
  exact ⟨h.1.moved ha, h.2.1.same hv, h.2.2.1.same hv, h.2.2.2.1.moved ha, h.2.2.2.2.1.moved ha, ⟨fun q hq => va_tabs rfl hv.symm (h.2.2.2.2.2.1.1 q hq), va_AO.moved ha h.2.2.2.2.2.1.2.1, va_AO.moved ha h.2.2.2.2.2.1.2.2.1, va_AO.moved ha h.2.2.2.2.2.1.2.2.2⟩, h.2.2.2.2.2.2⟩
/-! locals -/
def z_lv (ad : Nat → Nat) (lv : List (Nat × Value)) : List (Nat × Value) := lv.map (fun q => (q.1, z_cv ad q.2))
theorem z_lvat {ad : Nat → Nat} {lv : List (Nat × Value)} {k i : Nat} {v : Value} (h : lv[k]? = some (i, v)) : (z_lv ad lv)[k]? = some (i, z_cv ad v) := by
  unfold z_lv
  rw [List.getElem?_map, h]
  rfl
theorem z_lv1 {ad : Nat → Nat} {lv lv' : List (Nat × Value)} {i : Nat} {v : Value} (h : (i, v) :: lv.filter (fun q => !(q.1 == i) && !(q.1 + 1 == i && q.2.category == 2)) = lv') : (i, z_cv ad v) :: (z_lv ad lv).filter (fun q => !(q.1 == i) && !(q.1 + 1 == i && q.2.category == 2)) = z_lv ad lv' := by
  subst h
  unfold z_lv
  rw [List.filter_map, List.map_cons]
  congr 2
  congr 1
  funext q
  simp only [Function.comp, z_cv_cat]
theorem z_lv2 {ad : Nat → Nat} {lv lv' : List (Nat × Value)} {i : Nat} {v : Value} (h : (i, v) :: lv.filter (fun q => !(q.1 == i) && (!(q.1 == i + 1) && !(q.1 + 1 == i && q.2.category == 2))) = lv') : (i, z_cv ad v) :: (z_lv ad lv).filter (fun q => !(q.1 == i) && (!(q.1 == i + 1) && !(q.1 + 1 == i && q.2.category == 2))) = z_lv ad lv' := by
  subst h
  unfold z_lv
  rw [List.filter_map, List.map_cons]
  congr 2
  congr 1
  funext q
  simp only [Function.comp, z_cv_cat]
theorem z_lvargs (ad : Nat → Nat) : ∀ (vs : List Value) (i : Nat), lv_args i (vs.map (z_cv ad)) = z_lv ad (lv_args i vs)
  | [], _ => rfl
  | v :: vs, i => by
    show (i, z_cv ad v) :: lv_args (if (z_cv ad v).category = 2 then i + 2 else i + 1) (vs.map (z_cv ad)) = (i, z_cv ad v) :: z_lv ad (lv_args (if v.category = 2 then i + 2 else i + 1) vs)
    rw [z_cv_cat, z_lvargs ad vs]
/-! the predicate: from here on, the machine comes to the method's end with this result and this memory -/
def z_F (own : String) (cc : ByteArray) (nL : Nat) (ret : Option FieldType) (p : Program) (s : State) (m : MethodId) (args : Array Value) (meth : Method) (c : Code) (D : va_G) (cA : FieldType → ClassId) : Prop :=
  p.tables.exec = Jvm.exec ∧ c.code = cc ∧ meth.sig.returnType = ret ∧ c.maxLocals = nL ∧ s.vm.findClass own = some m.cls ∧ (∀ w ∈ z_W, w.before args s = true) ∧ meth.locks = false ∧ va_K D vwCl (z_ty cA) s
abbrev z_R : Type := Option Value × z_I × z_L
def z_Q (lay : List z_Sh) (D : va_G) (cA : FieldType → ClassId) (ad : Nat → Nat) (xs : va_W) (A : Nat → Prop) (res : z_R) : Array Value → State → Outcome → State → Prop := fun _ st oc t =>
  oc = .returned res.1 ∧ va_P D vwCl (z_cs lay cA ad res.2.1 res.2.2 ++ xs) t.heap ∧ va_K D vwCl (z_ty cA) t ∧ va_D A (z_cs lay cA ad res.2.1 res.2.2 ++ xs) ∧ va_F A st t
def z_X (lay : List z_Sh) (own : String) (cc : ByteArray) (nL : Nat) (ret : Option FieldType) (R : Room) (pc : Nat) (lv : List (Nat × Value)) (st : List Value) (I : z_I) (L : z_L) (res : z_R) : Prop :=
  ∀ (p : Program) (l : Launch) (e : Env) (s : State) (m : MethodId) (args : Array Value) (below : List Frame) (meth : Method) (c : Code) (D : va_G) (cA : FieldType → ClassId) (ad adK adV : Nat → Nat) (xs : va_W) (A : Nat → Prop) (H : Heap) (locs : List Loc) (ls : Array Slot) (nc ns : Nat), nc ≤ R.cells → ns ≤ R.slots →
    z_F own cc nL ret p s m args meth c D cA → (∀ q, s.heap.size ≤ q → A q) → z_S adK adV ad A s s.heap → va_P D vwCl (z_cs lay cA ad I L ++ xs) H → va_D A (z_cs lay cA ad I L ++ xs) → va_S A s.heap H locs → lv_has ls nL (z_lv ad lv) →
    W p l e R s m args below meth c H locs nc ns (MQ below (z_Q lay D cA ad xs A res) args s nc ns A) (F0 m pc ls (st.map (z_cv ad)))
/-- a method's contract: with these arguments, on this memory, it comes to this result and that memory -/
def z_C (lay : List z_Sh) (y : MethodName) (cc : ByteArray) (nL : Nat) (ret : Option FieldType) (rm : Room) (as : List Value) (I : z_I) (L : z_L) (res : z_R) : Prop :=
  ∀ (l : Launch) (D : va_G) (cA : FieldType → ClassId) (ad adK adV : Nat → Nat) (xs : va_W) (sz : Nat),
    Met l y (.code y cc nL ret :: z_W) rm (va_Pc (as.map (z_cv ad)) (fun U => U.heap.size = sz ∧ va_P D vwCl (z_cs lay cA ad I L ++ xs) U.heap ∧ va_K D vwCl (z_ty cA) U ∧ va_D (fun _ => True) (z_cs lay cA ad I L ++ xs) ∧ z_S adK adV ad (va_A (z_cs lay cA ad I L ++ xs) sz) U U.heap))
      (z_Q lay D cA ad xs (va_A (z_cs lay cA ad I L ++ xs) sz) res) 0 0 (va_A (z_cs lay cA ad I L ++ xs) sz)
set_option maxHeartbeats 1000000 in
theorem z_C.of {lay : List z_Sh} {y : MethodName} {cc : ByteArray} {nL : Nat} {ret : Option FieldType} {rm : Room} {as : List Value} {I : z_I} {L : z_L} {res : z_R} (hy : plainName y.cls = true) (hn : (lg_sl as).length ≤ nL) (h : z_X lay y.cls cc nL ret rm 0 (lv_args 0 as) [] I L res) : z_C lay y cc nL ret rm as I L res := by
  intro l D cA ad adK adV xs sz
  refine Met.ofW (cc := cc) (maxL := nL) (ret := ret) hy rfl ?_
  intro p e s m args below meth c s₁ B hml hv
  obtain ⟨rfl, hsz, hP, hK, hD0, hZ⟩ := hv
  have hts := atoms_spec (ws := .code y cc nL ret :: z_W) B.pre
  have hown : s.vm.findClass y.cls = some m.cls := findClass_of_methodNamed B.named
  subst hsz
  have hD := hD0.self (sz := s.heap.size)
  have hA : ∀ q : Nat, s.heap.size ≤ q → va_A (z_cs lay cA ad I L ++ xs) s.heap.size q := fun q h => Or.inr h
  have hS : va_S (va_A (z_cs lay cA ad I L ++ xs) s.heap.size) s.heap s.heap [] := va_S.rf
  have hn' : (lg_sl (as.map (z_cv ad))).length ≤ nL := by
    have hq : ∀ vs : List Value, (lg_sl (vs.map (z_cv ad))).length = (lg_sl vs).length := by
      intro vs
      induction vs with
      | nil => rfl
      | cons v vs ih => cases v <;> simp [lg_sl, z_cv, Value.category] at ih ⊢ <;> omega
    rw [hq]
    exact hn
  have hl := lv_entry (as.map (z_cv ad)) (n := nL) hn'
  rw [z_lvargs] at hl
  have e0 : entryFrame m (List.map (z_cv ad) as).toArray nL = F0 m 0 ((lg_sl (as.map (z_cv ad)) ++ List.replicate (nL - (lg_sl (as.map (z_cv ad))).length) Slot.unset).toArray) [] := lg_entry_eq m _ nL
  rw [e0]
  exact h p l e s m _ below meth c D cA ad adK adV xs _ s.heap [] _ 0 0 (Nat.zero_le _) (Nat.zero_le _) ⟨B.exec, B.bytes, B.returns, hml, hown, fun w hw => hts w (List.mem_cons_of_mem _ hw), B.notSynchronized, hK⟩ hA hZ hP hD hS hl
