def R_law : String := "SaffronCourtLaw"
def lw_P (b : Addr) (xs : List Int32) (args : Array Value) (s : State) : Prop := args = #[.ref b] ∧ s.IntsAt b xs ∧ xs.length ≤ 3072 ∧ (Jvm.Cond.and given_1 narrow_1).before args s = true
def lw_Q (_ : Array Value) (s : State) (o : Outcome) (t : State) : Prop := o = .returned (some (.int 1)) ∧ Framed s o t [] 600000 7302250
def lw_Z (below : List Frame) (a : Array Value) (s : State) : State → Prop := fun t => ∃ o, t.status = .running ∧ Ended t below o ∧ lw_Q a s o t
/-- the law's own end, with 1 on the stack, nothing written that was there before, its room as the claim has it -/
theorem lw_ret {p : Program} {l : Launch} {e : Env} {s : State} {m : MethodId} {below : List Frame} {meth : Method} {c : Code} {b : Nat} (hx : p.tables.exec = Jvm.exec) (hb : c.code = code) (hr : meth.sig.returnType = ret) (hlocks : meth.locks = false) {pc : Nat} {H : Heap} {ls : Array Slot} (hdg : decode code pc = .ok (.ireturn, 1)) : W p l e room_1 s m #[Value.ref b] below meth c H [] 600000 7302250 (lw_Z below #[Value.ref b] s) (F0 m pc ls [.int 1]) := by
  intro T hT X
  obtain ⟨fs, hret, hrun, hended, hW, hframe⟩ := X.leave (v := some (.int 1)) (hlocks := hlocks) (fun h => by rw [hr] at h; cases h)
  have hmeth' : T.vm.method? m = some meth := X.method'
  refine ⟨T.setFrames fs, ?_, .returned (some (.int 1)), hrun, hended, rfl, ⟨_, rfl⟩, hW, hframe⟩
  jvm_step X.here [X.here.top, hx, hb, hdg, hmeth', hr, ret, narrow_b1]
  (try refine ⟨rfl, ?_⟩); (try refine ⟨rfl, ?_⟩)
  first | (intro acts; rw [hret _ acts rfl rfl rfl]) | rw [hret _ _ rfl rfl rfl]
  exact Steps.refl _
/-- what holds at the law's entry: the machine, the code, the tables' words (any of lw_tbl by 'hts w (by decide +kernel)'), the script of L ints xs at the cell b, what the Statement gives of the start (any of its parts by flat_of_before) -/
def lw_At (p : Program) (s : State) (m : MethodId) (meth : Method) (c : Code) (b L : Nat) (xs : Nat → Int32) : Prop :=
  p.tables.exec = Jvm.exec ∧ c.code = code ∧ meth.sig.returnType = ret ∧ c.maxLocals = 4 ∧ s.vm.findClass R_law = some m.cls ∧ (∀ w ∈ lw_tbl, w.before #[Value.ref b] s = true) ∧ va_X b L xs s s.heap ∧ b < s.heap.size ∧ meth.locks = false ∧ (Jvm.Cond.and given_1 narrow_1).before #[Value.ref b] s = true
def z_w (b : Nat) (adX adM : Nat → Nat) : Nat → Nat := fun k => if k = 1 then b else if k = 2 then adX 0 else adM 0
/-- from here on, with the script xs of Ln ints at b, the class's memory I L and the reference's J K, the law ends with true -/
def z_V (b Ln : Nat) (xs : Nat → Int32) (pc : Nat) (lv : List (Nat × Value)) (st : List Value) (I : z_I) (L : z_L) (J : z_I) (K : z_L) : Prop :=
  ∀ (p : Program) (l : Launch) (e : Env) (s : State) (m : MethodId) (below : List Frame) (meth : Method) (c : Code) (D : va_G) (cA : FieldType → ClassId) (adX adM adK adV : Nat → Nat) (H : Heap) (locs : List Loc) (ls : Array Slot),
    lw_At p s m meth c b Ln xs → va_K D vwCl (z_ty cA) s → z_S adK adV adX (fun q => s.heap.size ≤ q) s s.heap → z_S adK adV adM (fun q => s.heap.size ≤ q) s s.heap → va_P D vwCl (z_cs layX cA adX I L ++ z_cs layM cA adM J K) H → va_D (fun q => s.heap.size ≤ q) (z_cs layX cA adX I L ++ z_cs layM cA adM J K) → va_S (fun q => s.heap.size ≤ q) s.heap H locs → lv_has ls 4 (z_lv (z_w b adX adM) lv) →
    W p l e room_1 s m #[Value.ref b] below meth c H locs 600000 7302250 (lw_Z below #[Value.ref b] s) (F0 m pc ls (st.map (z_cv (z_w b adX adM))))
def z_nr (v : Value) : Bool := match v with
  | .ref _ => false
  | _ => true
theorem z_nrq {ad ad' : Nat → Nat} {As : List Value} (h : As.all z_nr = true) : As.map (z_cv ad) = As.map (z_cv ad') := by
  apply List.map_congr_left
  intro v hv
  have := List.all_eq_true.mp h v hv
  cases v <;> first | rfl | cases this
theorem w_iconst {b Ln : Nat} {xs : Nat → Int32} {pc : Nat} {lv : List (Nat × Value)} {st : List Value} {I : z_I} {L : z_L} {J : z_I} {K : z_L} {n : Int} {v : Int32} (hd : decode code pc = .ok (.iconst n, 1)) (hv : Int32.ofInt n = v) (k : z_V b Ln xs (pc + 1) lv (.int v :: st) I L J K) : z_V b Ln xs pc lv st I L J K := by
  intro p l e s m below meth c D cA adX adM adK adV H locs ls F hK hZX hZM hP hD hS hl
  exact lv_iconst F.1 F.2.1 hd hv (k p l e s m below meth c D cA adX adM adK adV H locs ls F hK hZX hZM hP hD hS hl)
theorem w_bipush {b Ln : Nat} {xs : Nat → Int32} {pc : Nat} {lv : List (Nat × Value)} {st : List Value} {I : z_I} {L : z_L} {J : z_I} {K : z_L} {n : Int} {v : Int32} (hd : decode code pc = .ok (.bipush n, 2)) (hv : (Int8.ofInt n).toInt32 = v) (k : z_V b Ln xs (pc + 2) lv (.int v :: st) I L J K) : z_V b Ln xs pc lv st I L J K := by
  intro p l e s m below meth c D cA adX adM adK adV H locs ls F hK hZX hZM hP hD hS hl
  exact lv_bipush F.1 F.2.1 hd hv (k p l e s m below meth c D cA adX adM adK adV H locs ls F hK hZX hZM hP hD hS hl)
theorem w_iload_n {b Ln : Nat} {xs : Nat → Int32} {pc : Nat} {lv : List (Nat × Value)} {st : List Value} {I : z_I} {L : z_L} {J : z_I} {K : z_L} {k4 : Fin 4} {i : Nat} {x : Int32} (q : Nat) (hd : decode code pc = .ok (.iload_n k4, 1)) (hi : (k4 : Nat) = i) (hq : lv[q]? = some (i, .int x)) (k : z_V b Ln xs (pc + 1) lv (.int x :: st) I L J K) : z_V b Ln xs pc lv st I L J K := by
  intro p l e s m below meth c D cA adX adM adK adV H locs ls F hK hZX hZM hP hD hS hl
  exact lv_iload_n F.1 F.2.1 hd hi (lv_at hl q (z_lvat hq)) (k p l e s m below meth c D cA adX adM adK adV H locs ls F hK hZX hZM hP hD hS hl)
theorem w_aload_n {b Ln : Nat} {xs : Nat → Int32} {pc : Nat} {lv : List (Nat × Value)} {st : List Value} {I : z_I} {L : z_L} {J : z_I} {K : z_L} {k4 : Fin 4} {i : Nat} {x : Nat} (q : Nat) (hd : decode code pc = .ok (.aload_n k4, 1)) (hi : (k4 : Nat) = i) (hq : lv[q]? = some (i, .ref x)) (k : z_V b Ln xs (pc + 1) lv (.ref x :: st) I L J K) : z_V b Ln xs pc lv st I L J K := by
  intro p l e s m below meth c D cA adX adM adK adV H locs ls F hK hZX hZM hP hD hS hl
  exact lv_aload_n F.1 F.2.1 hd hi (lv_at hl q (z_lvat hq)) (k p l e s m below meth c D cA adX adM adK adV H locs ls F hK hZX hZM hP hD hS hl)
theorem w_istore_n {b Ln : Nat} {xs : Nat → Int32} {pc : Nat} {lv : List (Nat × Value)} {st : List Value} {I : z_I} {L : z_L} {J : z_I} {K : z_L} {k4 : Fin 4} {i : Nat} {x : Int32} (lv2 : List (Nat × Value)) (hd : decode code pc = .ok (.istore_n k4, 1)) (hi : (k4 : Nat) = i) (hn : i < 4) (h2 : (i, Value.int x) :: lv.filter (fun q => !(q.1 == i) && !(q.1 + 1 == i && q.2.category == 2)) = lv2) (k : z_V b Ln xs (pc + 1) lv2 st I L J K) : z_V b Ln xs pc lv (.int x :: st) I L J K := by
  intro p l e s m below meth c D cA adX adM adK adV H locs ls F hK hZX hZM hP hD hS hl
  exact lv_istore_n F.1 F.2.1 hd hi hl hn (z_lv1 h2) (fun ls2 hl2 => k p l e s m below meth c D cA adX adM adK adV H locs ls2 F hK hZX hZM hP hD hS hl2)
theorem w_astore_n {b Ln : Nat} {xs : Nat → Int32} {pc : Nat} {lv : List (Nat × Value)} {st : List Value} {I : z_I} {L : z_L} {J : z_I} {K : z_L} {k4 : Fin 4} {i : Nat} {x : Nat} (lv2 : List (Nat × Value)) (hd : decode code pc = .ok (.astore_n k4, 1)) (hi : (k4 : Nat) = i) (hn : i < 4) (h2 : (i, Value.ref x) :: lv.filter (fun q => !(q.1 == i) && !(q.1 + 1 == i && q.2.category == 2)) = lv2) (k : z_V b Ln xs (pc + 1) lv2 st I L J K) : z_V b Ln xs pc lv (.ref x :: st) I L J K := by
  intro p l e s m below meth c D cA adX adM adK adV H locs ls F hK hZX hZM hP hD hS hl
  exact lv_astore_n F.1 F.2.1 hd hi hl hn (z_lv1 h2) (fun ls2 hl2 => k p l e s m below meth c D cA adX adM adK adV H locs ls2 F hK hZX hZM hP hD hS hl2)
theorem w_iinc {b Ln : Nat} {xs : Nat → Int32} {pc : Nat} {lv : List (Nat × Value)} {st : List Value} {I : z_I} {L : z_L} {J : z_I} {K : z_L} {i : Nat} {n : Int} {x v : Int32} (q : Nat) (lv2 : List (Nat × Value)) (hd : decode code pc = .ok (.iinc i n, 3)) (hq : lv[q]? = some (i, .int x)) (hv : x + Int32.ofInt n = v) (hn : i < 4) (h2 : (i, Value.int v) :: lv.filter (fun q => !(q.1 == i) && !(q.1 + 1 == i && q.2.category == 2)) = lv2) (k : z_V b Ln xs (pc + 3) lv2 st I L J K) : z_V b Ln xs pc lv st I L J K := by
  intro p l e s m below meth c D cA adX adM adK adV H locs ls F hK hZX hZM hP hD hS hl
  exact lv_iinc F.1 F.2.1 hd hl (z_lvat hq) hv hn (z_lv1 h2) (fun ls2 hl2 => k p l e s m below meth c D cA adX adM adK adV H locs ls2 F hK hZX hZM hP hD hS hl2)
theorem w_lv {b Ln : Nat} {xs : Nat → Int32} {pc : Nat} {lv : List (Nat × Value)} {st : List Value} {I : z_I} {L : z_L} {J : z_I} {K : z_L} (lv2 : List (Nat × Value)) (ks : List Nat) (h : lv_pick lv ks = lv2) (k : z_V b Ln xs pc lv2 st I L J K) : z_V b Ln xs pc lv st I L J K := by
  intro p l e s m below meth c D cA adX adM adK adV H locs ls F hK hZX hZM hP hD hS hl
  refine k p l e s m below meth c D cA adX adM adK adV H locs ls F hK hZX hZM hP hD hS (lv_sub hl ks ?_)
  subst h
  unfold lv_pick z_lv
  rw [List.map_filterMap]
  congr 1
  funext q
  rw [List.getElem?_map]
theorem w_iadd {b Ln : Nat} {xs : Nat → Int32} {pc : Nat} {lv : List (Nat × Value)} {st : List Value} {I : z_I} {L : z_L} {J : z_I} {K : z_L} {x y : Int32} (hd : decode code pc = .ok (.iadd, 1))  (k : z_V b Ln xs (pc + 1) lv (.int (x + y) :: st) I L J K) : z_V b Ln xs pc lv (.int y :: .int x :: st) I L J K := by
  intro p l e s m below meth c D cA adX adM adK adV H locs ls F hK hZX hZM hP hD hS hl
  exact lv_iadd F.1 F.2.1 hd  (k p l e s m below meth c D cA adX adM adK adV H locs ls F hK hZX hZM hP hD hS hl)
theorem w_isub {b Ln : Nat} {xs : Nat → Int32} {pc : Nat} {lv : List (Nat × Value)} {st : List Value} {I : z_I} {L : z_L} {J : z_I} {K : z_L} {x y : Int32} (hd : decode code pc = .ok (.isub, 1))  (k : z_V b Ln xs (pc + 1) lv (.int (x - y) :: st) I L J K) : z_V b Ln xs pc lv (.int y :: .int x :: st) I L J K := by
  intro p l e s m below meth c D cA adX adM adK adV H locs ls F hK hZX hZM hP hD hS hl
  exact lv_isub F.1 F.2.1 hd  (k p l e s m below meth c D cA adX adM adK adV H locs ls F hK hZX hZM hP hD hS hl)
theorem w_iand {b Ln : Nat} {xs : Nat → Int32} {pc : Nat} {lv : List (Nat × Value)} {st : List Value} {I : z_I} {L : z_L} {J : z_I} {K : z_L} {x y : Int32} (hd : decode code pc = .ok (.iand, 1))  (k : z_V b Ln xs (pc + 1) lv (.int (x &&& y) :: st) I L J K) : z_V b Ln xs pc lv (.int y :: .int x :: st) I L J K := by
  intro p l e s m below meth c D cA adX adM adK adV H locs ls F hK hZX hZM hP hD hS hl
  exact lv_iand F.1 F.2.1 hd  (k p l e s m below meth c D cA adX adM adK adV H locs ls F hK hZX hZM hP hD hS hl)
theorem w_land {b Ln : Nat} {xs : Nat → Int32} {pc : Nat} {lv : List (Nat × Value)} {st : List Value} {I : z_I} {L : z_L} {J : z_I} {K : z_L} {x y : Int64} (hd : decode code pc = .ok (.land, 1))  (k : z_V b Ln xs (pc + 1) lv (.long (x &&& y) :: st) I L J K) : z_V b Ln xs pc lv (.long y :: .long x :: st) I L J K := by
  intro p l e s m below meth c D cA adX adM adK adV H locs ls F hK hZX hZM hP hD hS hl
  exact lv_land F.1 F.2.1 hd  (k p l e s m below meth c D cA adX adM adK adV H locs ls F hK hZX hZM hP hD hS hl)
theorem w_lor {b Ln : Nat} {xs : Nat → Int32} {pc : Nat} {lv : List (Nat × Value)} {st : List Value} {I : z_I} {L : z_L} {J : z_I} {K : z_L} {x y : Int64} (hd : decode code pc = .ok (.lor, 1))  (k : z_V b Ln xs (pc + 1) lv (.long (x ||| y) :: st) I L J K) : z_V b Ln xs pc lv (.long y :: .long x :: st) I L J K := by
  intro p l e s m below meth c D cA adX adM adK adV H locs ls F hK hZX hZM hP hD hS hl
  exact lv_lor F.1 F.2.1 hd  (k p l e s m below meth c D cA adX adM adK adV H locs ls F hK hZX hZM hP hD hS hl)
theorem w_lshl {b Ln : Nat} {xs : Nat → Int32} {pc : Nat} {lv : List (Nat × Value)} {st : List Value} {I : z_I} {L : z_L} {J : z_I} {K : z_L} {x : Int64} {y : Int32} (hd : decode code pc = .ok (.lshl, 1))  (k : z_V b Ln xs (pc + 1) lv (.long (x <<< (y.toInt64 &&& 63)) :: st) I L J K) : z_V b Ln xs pc lv (.int y :: .long x :: st) I L J K := by
  intro p l e s m below meth c D cA adX adM adK adV H locs ls F hK hZX hZM hP hD hS hl
  exact lv_lshl F.1 F.2.1 hd rfl (k p l e s m below meth c D cA adX adM adK adV H locs ls F hK hZX hZM hP hD hS hl)
theorem w_i2l {b Ln : Nat} {xs : Nat → Int32} {pc : Nat} {lv : List (Nat × Value)} {st : List Value} {I : z_I} {L : z_L} {J : z_I} {K : z_L} {x : Int32} (hd : decode code pc = .ok (.i2l, 1))  (k : z_V b Ln xs (pc + 1) lv (.long x.toInt64 :: st) I L J K) : z_V b Ln xs pc lv (.int x :: st) I L J K := by
  intro p l e s m below meth c D cA adX adM adK adV H locs ls F hK hZX hZM hP hD hS hl
  exact lv_i2l F.1 F.2.1 hd rfl (k p l e s m below meth c D cA adX adM adK adV H locs ls F hK hZX hZM hP hD hS hl)
theorem w_ldc2 {b Ln : Nat} {xs : Nat → Int32} {pc : Nat} {lv : List (Nat × Value)} {st : List Value} {I : z_I} {L : z_L} {J : z_I} {K : z_L} {idx : Nat} {v : Int64} (hd : decode code pc = .ok (.ldc2_w idx, 3)) (hw : Cond.constantLong R_law idx v ∈ z_W) (k : z_V b Ln xs (pc + 3) lv (.long v :: st) I L J K) : z_V b Ln xs pc lv st I L J K := by
  intro p l e s m below meth c D cA adX adM adK adV H locs ls F hK hZX hZM hP hD hS hl
  exact lv_ldc2 F.1 F.2.1 F.2.2.2.2.1 (F.2.2.2.2.2.1 _ (List.mem_filter.mp hw).1) hd (k p l e s m below meth c D cA adX adM adK adV H locs ls F hK hZX hZM hP hD hS hl)
theorem w_topL {b Ln : Nat} {xs : Nat → Int32} {pc : Nat} {lv : List (Nat × Value)} {st : List Value} {I : z_I} {L : z_L} {J : z_I} {K : z_L} {x w : Int64} (h : w = x) (k : z_V b Ln xs pc lv (.long w :: st) I L J K) : z_V b Ln xs pc lv (.long x :: st) I L J K := h ▸ k
theorem w_topI {b Ln : Nat} {xs : Nat → Int32} {pc : Nat} {lv : List (Nat × Value)} {st : List Value} {I : z_I} {L : z_L} {J : z_I} {K : z_L} {x w : Int32} (h : w = x) (k : z_V b Ln xs pc lv (.int w :: st) I L J K) : z_V b Ln xs pc lv (.int x :: st) I L J K := h ▸ k
theorem w_if_eq {b Ln : Nat} {xs : Nat → Int32} {pc : Nat} {lv : List (Nat × Value)} {st : List Value} {I : z_I} {L : z_L} {J : z_I} {K : z_L} {x : Int32} {off : Int} (tgt : Nat) (hd : decode code pc = .ok (.ifCond .eq off, 3)) (ht : (pc : Int) + off = (tgt : Int)) (kt : x = 0 → z_V b Ln xs tgt lv st I L J K) (kf : ¬ x = 0 → z_V b Ln xs (pc + 3) lv st I L J K) : z_V b Ln xs pc lv (.int x :: st) I L J K := by
  intro p l e s m below meth c D cA adX adM adK adV H locs ls F hK hZX hZM hP hD hS hl
  exact lv_if_eq F.1 F.2.1 hd ht (fun h => kt h p l e s m below meth c D cA adX adM adK adV H locs ls F hK hZX hZM hP hD hS hl) (fun h => kf h p l e s m below meth c D cA adX adM adK adV H locs ls F hK hZX hZM hP hD hS hl)
theorem w_icmp_eq {b Ln : Nat} {xs : Nat → Int32} {pc : Nat} {lv : List (Nat × Value)} {st : List Value} {I : z_I} {L : z_L} {J : z_I} {K : z_L} {x y : Int32} {off : Int} (tgt : Nat) (hd : decode code pc = .ok (.if_icmp .eq off, 3)) (ht : (pc : Int) + off = (tgt : Int)) (kt : x = y → z_V b Ln xs tgt lv st I L J K) (kf : ¬ x = y → z_V b Ln xs (pc + 3) lv st I L J K) : z_V b Ln xs pc lv (.int y :: .int x :: st) I L J K := by
  intro p l e s m below meth c D cA adX adM adK adV H locs ls F hK hZX hZM hP hD hS hl
  exact lv_icmp_eq F.1 F.2.1 hd ht (fun h => kt h p l e s m below meth c D cA adX adM adK adV H locs ls F hK hZX hZM hP hD hS hl) (fun h => kf h p l e s m below meth c D cA adX adM adK adV H locs ls F hK hZX hZM hP hD hS hl)
theorem w_icmp_gt {b Ln : Nat} {xs : Nat → Int32} {pc : Nat} {lv : List (Nat × Value)} {st : List Value} {I : z_I} {L : z_L} {J : z_I} {K : z_L} {x y : Int32} {off : Int} (tgt : Nat) (hd : decode code pc = .ok (.if_icmp .gt off, 3)) (ht : (pc : Int) + off = (tgt : Int)) (kt : y < x → z_V b Ln xs tgt lv st I L J K) (kf : ¬ y < x → z_V b Ln xs (pc + 3) lv st I L J K) : z_V b Ln xs pc lv (.int y :: .int x :: st) I L J K := by
  intro p l e s m below meth c D cA adX adM adK adV H locs ls F hK hZX hZM hP hD hS hl
  exact lv_icmp_gt F.1 F.2.1 hd ht (fun h => kt h p l e s m below meth c D cA adX adM adK adV H locs ls F hK hZX hZM hP hD hS hl) (fun h => kf h p l e s m below meth c D cA adX adM adK adV H locs ls F hK hZX hZM hP hD hS hl)
theorem w_lcmp_eq {b Ln : Nat} {xs : Nat → Int32} {pc : Nat} {lv : List (Nat × Value)} {st : List Value} {I : z_I} {L : z_L} {J : z_I} {K : z_L} {x y : Int64} {off : Int} (tgt : Nat) (hd : decode code pc = .ok (.lcmp, 1)) (hd2 : decode code (pc + 1) = .ok (.ifCond .eq off, 3)) (ht : ((pc + 1 : Nat) : Int) + off = (tgt : Int)) (kt : x = y → z_V b Ln xs tgt lv st I L J K) (kf : ¬ x = y → z_V b Ln xs (pc + 1 + 3) lv st I L J K) : z_V b Ln xs pc lv (.long y :: .long x :: st) I L J K := by
  intro p l e s m below meth c D cA adX adM adK adV H locs ls F hK hZX hZM hP hD hS hl
  exact W.lcmp F.1 F.2.1 hd (lv_if_eq F.1 F.2.1 hd2 ht (fun h => kt ((lg_cmp_eq x y).mp h) p l e s m below meth c D cA adX adM adK adV H locs ls F hK hZX hZM hP hD hS hl) (fun h => kf (fun z => h ((lg_cmp_eq x y).mpr z)) p l e s m below meth c D cA adX adM adK adV H locs ls F hK hZX hZM hP hD hS hl))
theorem w_goto {b Ln : Nat} {xs : Nat → Int32} {pc : Nat} {lv : List (Nat × Value)} {st : List Value} {I : z_I} {L : z_L} {J : z_I} {K : z_L} {off : Int} (tgt : Nat) (hd : decode code pc = .ok (.goto off, 3)) (ht : (pc : Int) + off = (tgt : Int)) (k : z_V b Ln xs tgt lv st I L J K) : z_V b Ln xs pc lv st I L J K := by
  intro p l e s m below meth c D cA adX adM adK adV H locs ls F hK hZX hZM hP hD hS hl
  exact lv_goto F.1 F.2.1 hd ht (k p l e s m below meth c D cA adX adM adK adV H locs ls F hK hZX hZM hP hD hS hl)
theorem w_tabIn {b Ln : Nat} {xs : Nat → Int32} {pc : Nat} {lv : List (Nat × Value)} {st : List Value} {I : z_I} {L : z_L} {J : z_I} {K : z_L} {dflt lo hi off : Int} {offs : Array Int} {len : Nat} {x : Int32} (v : Int32) (tgt : Nat) (hd : decode code pc = .ok (.tableswitch dflt lo hi offs, len)) (hx : x = v) (h1 : ¬ v.toInt < lo) (h2 : ¬ hi < v.toInt) (ho : offs[(v.toInt - lo).toNat]? = some off) (ht : (pc : Int) + off = (tgt : Int)) (k : z_V b Ln xs tgt lv st I L J K) : z_V b Ln xs pc lv (.int x :: st) I L J K := by
  intro p l e s m below meth c D cA adX adM adK adV H locs ls F hK hZX hZM hP hD hS hl
  subst hx
  exact lv_tableIn F.1 F.2.1 hd h1 h2 ho ht (k p l e s m below meth c D cA adX adM adK adV H locs ls F hK hZX hZM hP hD hS hl)
theorem w_tabOut {b Ln : Nat} {xs : Nat → Int32} {pc : Nat} {lv : List (Nat × Value)} {st : List Value} {I : z_I} {L : z_L} {J : z_I} {K : z_L} {dflt lo hi : Int} {offs : Array Int} {len : Nat} {x : Int32} (tgt : Nat) (hd : decode code pc = .ok (.tableswitch dflt lo hi offs, len)) (h : x.toInt < lo ∨ hi < x.toInt) (ht : (pc : Int) + dflt = (tgt : Int)) (k : z_V b Ln xs tgt lv st I L J K) : z_V b Ln xs pc lv (.int x :: st) I L J K := by
  intro p l e s m below meth c D cA adX adM adK adV H locs ls F hK hZX hZM hP hD hS hl
  exact lv_tableOut F.1 F.2.1 hd h ht (k p l e s m below meth c D cA adX adM adK adV H locs ls F hK hZX hZM hP hD hS hl)
theorem w_sld {b Ln : Nat} {xs : Nat → Int32} {pc : Nat} {lv : List (Nat × Value)} {st : List Value} {I : z_I} {L : z_L} {J : z_I} {K : z_L} {i v : Int32} (hd : decode code pc = .ok (.iaload, 1)) (hin : vp_in i Ln) (hv : xs i.toNatClampNeg = v) (k : z_V b Ln xs (pc + 1) lv (.int v :: st) I L J K) : z_V b Ln xs pc lv (.int i :: .ref 1 :: st) I L J K := by
  intro p l e s m below meth c D cA adX adM adK adV H locs ls F hK hZX hZM hP hD hS hl
  subst hv
  exact va_sld F.1 F.2.1 F.2.2.2.2.2.2.1 F.2.2.2.2.2.2.2.1 (Nat.not_le.mpr F.2.2.2.2.2.2.2.1) hS hin hd (k p l e s m below meth c D cA adX adM adK adV H locs ls F hK hZX hZM hP hD hS hl)
theorem w_slen {b Ln : Nat} {xs : Nat → Int32} {pc : Nat} {lv : List (Nat × Value)} {st : List Value} {I : z_I} {L : z_L} {J : z_I} {K : z_L} (hd : decode code pc = .ok (.arraylength, 1)) (k : z_V b Ln xs (pc + 1) lv (.int (Int32.ofNat Ln) :: st) I L J K) : z_V b Ln xs pc lv (.ref 1 :: st) I L J K := by
  intro p l e s m below meth c D cA adX adM adK adV H locs ls F hK hZX hZM hP hD hS hl
  exact va_slen F.1 F.2.1 F.2.2.2.2.2.2.1 F.2.2.2.2.2.2.2.1 (Nat.not_le.mpr F.2.2.2.2.2.2.2.1) hS hd (k p l e s m below meth c D cA adX adM adK adV H locs ls F hK hZX hZM hP hD hS hl)
theorem w_ret {b Ln : Nat} {xs : Nat → Int32} {pc : Nat} {lv : List (Nat × Value)} {I : z_I} {L : z_L} {J : z_I} {K : z_L} (hd : decode code pc = .ok (.ireturn, 1)) : z_V b Ln xs pc lv [.int 1] I L J K := by
  intro p l e s m below meth c D cA adX adM adK adV H locs ls F hK hZX hZM hP hD hS hl
  refine va_forget (fun q hq => hS.2.2 q hq) ?_
  exact lw_ret F.1 F.2.1 F.2.2.1 F.2.2.2.2.2.2.2.2.1 hd
theorem w_callX {b Ln : Nat} {xs : Nat → Int32} {pc : Nat} {lv : List (Nat × Value)} {st : List Value} {I : z_I} {L : z_L} {J : z_I} {K : z_L} {y : MethodName} {cc2 : ByteArray} {nL2 idx n : Nat} {ret2 : Option FieldType} {rm2 : Room} {v : Option Value} {I1 : z_I} {L1 : z_L} (As : List Value) {st0 : List Value} (hC : z_C layX y cc2 nL2 ret2 rm2 (.ref 0 :: As) I L (v, I1, L1)) (hd : decode code pc = .ok (.invokevirtual idx, 3)) (hL : z_LV R_law idx y n) (hy : y.cls = RX10) (hcode : Cond.code y cc2 nL2 ret2 ∈ z_W) (hv : ∀ a, v ≠ some (.ref a)) (hnr : As.all z_nr = true) (hn : As.length = n) (hst : st0 = As.reverse ++ .ref 2 :: st) (hW : (st.map fun v => v.category).sum ≤ 8) (hR : rm2.cells = 0 ∧ rm2.slots = 0 ∧ rm2.frames + 1 ≤ room_1.frames ∧ 8 + (nL2 + 11) + rm2.locals ≤ room_1.locals) (kk : z_V b Ln xs (pc + 3) lv (v.toList ++ st) I1 L1 J K) : z_V b Ln xs pc lv st0 I L J K := by
  intro p l e s m below meth c D cA adX adM adK adV H locs ls F hK hZX hZM hP hD hS hl
  subst hst
  have hA : ∀ q : Nat, s.heap.size ≤ q → (fun q : Nat => s.heap.size ≤ q) q := fun _ h => h
  have hpre := z_pre (as := .ref 0 :: As) hK hA hZX hP hD hS
  have hF := z_sub hA hD hS
  obtain ⟨w1, w2, w3, w4, w5⟩ := hL
  have hts : ∀ w ∈ z_W, w.before #[Value.ref b] s = true := fun w hw => F.2.2.2.2.2.1 w (List.mem_filter.mp hw).1
  have cb : CallB room_1 s #[Value.ref b] R_law idx y cc2 nL2 ret2 (.code y cc2 nL2 ret2 :: z_W) rm2 0 0 n := callB_of n hts (gi_all (fun w h => (List.mem_cons.mp h).elim (fun h => by rw [h]; exact hcode) id)) rfl hR.1 hR.2.1 (hts _ w4) (hts _ w1) w5 hR.2.2
  have hcr := va_recv (ci := 10) (q0 := 0) hK hP rfl (z_at (c := 0) lx_0)
  have hcr : ∃ cell : Cell, H[adX 0]? = some cell ∧ cell.vm.isStatics = false ∧ s.vm.findClass y.cls = some cell.cls := by rw [hy]; exact hcr
  have e9 := z_nrq (ad := adX) (ad' := z_w b adX adM) hnr
  exact z_back (rest := st.map (z_cv (z_w b adX adM))) (va_runV (As := As.map (z_cv adX)) ⟨F.1, F.2.1, F.2.2.2.1, F.2.2.2.2.1, hts⟩ (hC l D cA adX adK adV (z_cs layM cA adM J K) H.size) ⟨cb, hts _ w2, hts _ w3⟩ ⟨hpre.1, hcr, hpre.2⟩ rfl (by rw [List.length_map]; exact hn) hl.1 (by
    show (As.reverse ++ .ref 2 :: st).map (z_cv (z_w b adX adM)) = (As.map (z_cv adX)).reverse ++ .ref (adX 0) :: st.map (z_cv (z_w b adX adM))
    rw [List.map_append, List.map_reverse, e9]
    rfl) (z_rest hW) hd ⟨Nat.le_refl _, Nat.le_refl _⟩) hS hF hF (fun H1 locs1 hP1 hD1 hS1 => by
    rw [z_vt hv]
    exact kk p l e s m below meth c D cA adX adM adK adV H1 locs1 ls F hK hZX hZM hP1 hD1 hS1 hl)
theorem w_callXi {b Ln : Nat} {xs : Nat → Int32} {pc : Nat} {lv : List (Nat × Value)} {st : List Value} {I : z_I} {L : z_L} {J : z_I} {K : z_L} {y : MethodName} {cc2 : ByteArray} {nL2 idx n : Nat} {ret2 : Option FieldType} {rm2 : Room} {I1 : z_I} {L1 : z_L} (As : List Value) {st0 : List Value} {w : Int32} (hC : z_C layX y cc2 nL2 ret2 rm2 (.ref 0 :: As) I L (some (.int w), I1, L1)) (hd : decode code pc = .ok (.invokevirtual idx, 3)) (hL : z_LV R_law idx y n) (hy : y.cls = RX10) (hcode : Cond.code y cc2 nL2 ret2 ∈ z_W) (hnr : As.all z_nr = true) (hn : As.length = n) (hst : st0 = As.reverse ++ .ref 2 :: st) (hW : (st.map fun v => v.category).sum ≤ 8) (hR : rm2.cells = 0 ∧ rm2.slots = 0 ∧ rm2.frames + 1 ≤ room_1.frames ∧ 8 + (nL2 + 11) + rm2.locals ≤ room_1.locals) (kk : z_V b Ln xs (pc + 3) lv (.int w :: st) I1 L1 J K) : z_V b Ln xs pc lv st0 I L J K := w_callX As hC hd hL hy hcode (fun a h => by cases h) hnr hn hst hW hR kk
theorem w_callXl {b Ln : Nat} {xs : Nat → Int32} {pc : Nat} {lv : List (Nat × Value)} {st : List Value} {I : z_I} {L : z_L} {J : z_I} {K : z_L} {y : MethodName} {cc2 : ByteArray} {nL2 idx n : Nat} {ret2 : Option FieldType} {rm2 : Room} {I1 : z_I} {L1 : z_L} (As : List Value) {st0 : List Value} {w : Int64} (hC : z_C layX y cc2 nL2 ret2 rm2 (.ref 0 :: As) I L (some (.long w), I1, L1)) (hd : decode code pc = .ok (.invokevirtual idx, 3)) (hL : z_LV R_law idx y n) (hy : y.cls = RX10) (hcode : Cond.code y cc2 nL2 ret2 ∈ z_W) (hnr : As.all z_nr = true) (hn : As.length = n) (hst : st0 = As.reverse ++ .ref 2 :: st) (hW : (st.map fun v => v.category).sum ≤ 8) (hR : rm2.cells = 0 ∧ rm2.slots = 0 ∧ rm2.frames + 1 ≤ room_1.frames ∧ 8 + (nL2 + 11) + rm2.locals ≤ room_1.locals) (kk : z_V b Ln xs (pc + 3) lv (.long w :: st) I1 L1 J K) : z_V b Ln xs pc lv st0 I L J K := w_callX As hC hd hL hy hcode (fun a h => by cases h) hnr hn hst hW hR kk
theorem w_callM {b Ln : Nat} {xs : Nat → Int32} {pc : Nat} {lv : List (Nat × Value)} {st : List Value} {I : z_I} {L : z_L} {J : z_I} {K : z_L} {y : MethodName} {cc2 : ByteArray} {nL2 idx n : Nat} {ret2 : Option FieldType} {rm2 : Room} {v : Option Value} {I1 : z_I} {L1 : z_L} (As : List Value) {st0 : List Value} (hC : z_C layM y cc2 nL2 ret2 rm2 (.ref 0 :: As) J K (v, I1, L1)) (hd : decode code pc = .ok (.invokevirtual idx, 3)) (hL : z_LV R_law idx y n) (hy : y.cls = RX11) (hcode : Cond.code y cc2 nL2 ret2 ∈ z_W) (hv : ∀ a, v ≠ some (.ref a)) (hnr : As.all z_nr = true) (hn : As.length = n) (hst : st0 = As.reverse ++ .ref 3 :: st) (hW : (st.map fun v => v.category).sum ≤ 8) (hR : rm2.cells = 0 ∧ rm2.slots = 0 ∧ rm2.frames + 1 ≤ room_1.frames ∧ 8 + (nL2 + 11) + rm2.locals ≤ room_1.locals) (kk : z_V b Ln xs (pc + 3) lv (v.toList ++ st) I L I1 L1) : z_V b Ln xs pc lv st0 I L J K := by
  intro p l e s m below meth c D cA adX adM adK adV H locs ls F hK hZX hZM hP hD hS hl
  subst hst
  have hP := z_pperm (List.perm_append_comm (l₁ := z_cs layX cA adX I L) (l₂ := z_cs layM cA adM J K)) hP
  have hD := z_dperm (List.perm_append_comm (l₁ := z_cs layX cA adX I L) (l₂ := z_cs layM cA adM J K)) hD
  have hA : ∀ q : Nat, s.heap.size ≤ q → (fun q : Nat => s.heap.size ≤ q) q := fun _ h => h
  have hpre := z_pre (as := .ref 0 :: As) hK hA hZM hP hD hS
  have hF := z_sub hA hD hS
  obtain ⟨w1, w2, w3, w4, w5⟩ := hL
  have hts : ∀ w ∈ z_W, w.before #[Value.ref b] s = true := fun w hw => F.2.2.2.2.2.1 w (List.mem_filter.mp hw).1
  have cb : CallB room_1 s #[Value.ref b] R_law idx y cc2 nL2 ret2 (.code y cc2 nL2 ret2 :: z_W) rm2 0 0 n := callB_of n hts (gi_all (fun w h => (List.mem_cons.mp h).elim (fun h => by rw [h]; exact hcode) id)) rfl hR.1 hR.2.1 (hts _ w4) (hts _ w1) w5 hR.2.2
  have hcr := va_recv (ci := 11) (q0 := 0) hK hP rfl (z_at (c := 0) lm_0)
  have hcr : ∃ cell : Cell, H[adM 0]? = some cell ∧ cell.vm.isStatics = false ∧ s.vm.findClass y.cls = some cell.cls := by rw [hy]; exact hcr
  have e9 := z_nrq (ad := adM) (ad' := z_w b adX adM) hnr
  exact z_back (rest := st.map (z_cv (z_w b adX adM))) (va_runV (As := As.map (z_cv adM)) ⟨F.1, F.2.1, F.2.2.2.1, F.2.2.2.2.1, hts⟩ (hC l D cA adM adK adV (z_cs layX cA adX I L) H.size) ⟨cb, hts _ w2, hts _ w3⟩ ⟨hpre.1, hcr, hpre.2⟩ rfl (by rw [List.length_map]; exact hn) hl.1 (by
    show (As.reverse ++ .ref 3 :: st).map (z_cv (z_w b adX adM)) = (As.map (z_cv adM)).reverse ++ .ref (adM 0) :: st.map (z_cv (z_w b adX adM))
    rw [List.map_append, List.map_reverse, e9]
    rfl) (z_rest hW) hd ⟨Nat.le_refl _, Nat.le_refl _⟩) hS hF hF (fun H1 locs1 hP1 hD1 hS1 => by
    rw [z_vt hv]
    exact kk p l e s m below meth c D cA adX adM adK adV H1 locs1 ls F hK hZX hZM (z_pperm (List.perm_append_comm (l₁ := z_cs layM cA adM I1 L1) (l₂ := z_cs layX cA adX I L)) hP1) (z_dperm (List.perm_append_comm (l₁ := z_cs layM cA adM I1 L1) (l₂ := z_cs layX cA adX I L)) hD1) hS1 hl)
theorem w_callMi {b Ln : Nat} {xs : Nat → Int32} {pc : Nat} {lv : List (Nat × Value)} {st : List Value} {I : z_I} {L : z_L} {J : z_I} {K : z_L} {y : MethodName} {cc2 : ByteArray} {nL2 idx n : Nat} {ret2 : Option FieldType} {rm2 : Room} {I1 : z_I} {L1 : z_L} (As : List Value) {st0 : List Value} {w : Int32} (hC : z_C layM y cc2 nL2 ret2 rm2 (.ref 0 :: As) J K (some (.int w), I1, L1)) (hd : decode code pc = .ok (.invokevirtual idx, 3)) (hL : z_LV R_law idx y n) (hy : y.cls = RX11) (hcode : Cond.code y cc2 nL2 ret2 ∈ z_W) (hnr : As.all z_nr = true) (hn : As.length = n) (hst : st0 = As.reverse ++ .ref 3 :: st) (hW : (st.map fun v => v.category).sum ≤ 8) (hR : rm2.cells = 0 ∧ rm2.slots = 0 ∧ rm2.frames + 1 ≤ room_1.frames ∧ 8 + (nL2 + 11) + rm2.locals ≤ room_1.locals) (kk : z_V b Ln xs (pc + 3) lv (.int w :: st) I L I1 L1) : z_V b Ln xs pc lv st0 I L J K := w_callM As hC hd hL hy hcode (fun a h => by cases h) hnr hn hst hW hR kk
theorem w_callMl {b Ln : Nat} {xs : Nat → Int32} {pc : Nat} {lv : List (Nat × Value)} {st : List Value} {I : z_I} {L : z_L} {J : z_I} {K : z_L} {y : MethodName} {cc2 : ByteArray} {nL2 idx n : Nat} {ret2 : Option FieldType} {rm2 : Room} {I1 : z_I} {L1 : z_L} (As : List Value) {st0 : List Value} {w : Int64} (hC : z_C layM y cc2 nL2 ret2 rm2 (.ref 0 :: As) J K (some (.long w), I1, L1)) (hd : decode code pc = .ok (.invokevirtual idx, 3)) (hL : z_LV R_law idx y n) (hy : y.cls = RX11) (hcode : Cond.code y cc2 nL2 ret2 ∈ z_W) (hnr : As.all z_nr = true) (hn : As.length = n) (hst : st0 = As.reverse ++ .ref 3 :: st) (hW : (st.map fun v => v.category).sum ≤ 8) (hR : rm2.cells = 0 ∧ rm2.slots = 0 ∧ rm2.frames + 1 ≤ room_1.frames ∧ 8 + (nL2 + 11) + rm2.locals ≤ room_1.locals) (kk : z_V b Ln xs (pc + 3) lv (.long w :: st) I L I1 L1) : z_V b Ln xs pc lv st0 I L J K := w_callM As hC hd hL hy hcode (fun a h => by cases h) hnr hn hst hW hR kk
