def z_zI : z_I := fun _ _ => 0
def z_zL : z_L := fun _ _ => 0
theorem z_dflt {ty0 : Nat → FieldType} {ss : List (Nat × Nat)} {I : z_I} {L : z_L} {c : Nat} (ad : Nat → Nat) (h : ∀ j, j < ss.length → z_dok (ty0 j) (ss.getD j (9, 9)) = true) (h0 : ∀ j, I c j = 0 ∧ L c j = 0) : ∀ j, j < ss.length → defaultValue (ty0 j) = vp_V (ss.mapIdx (fun k s => z_sv ad I L c k s)) j := by
  intro j hj
  have h8 := h j hj
  rw [List.getD_eq_getElem?_getD, List.getElem?_eq_getElem hj] at h8
  have h9 := z_dokv (I := I) (L := L) (c := c) (k := j) ad h8 (h0 j)
  show _ = (ss.mapIdx (fun k s => z_sv ad I L c k s)).getD j .null
  rw [List.getD_eq_getElem?_getD, List.getElem?_mapIdx, List.getElem?_eq_getElem hj]
  exact h9
theorem z_dfl2 {ty0 : Nat → FieldType} {ss : List (Nat × Nat)} {I : z_I} {L : z_L} {c : Nat} (ad ad1 : Nat → Nat) (h : ∀ j, j < ss.length → z_dok (ty0 j) (ss.getD j (9, 9)) = true) (h0 : ∀ j, I c j = 0 ∧ L c j = 0) : ss.mapIdx (fun k s => z_sv ad I L c k s) = ss.mapIdx (fun k s => z_sv ad1 I L c k s) := by
  apply List.ext_getElem?
  intro j
  by_cases hj : j < ss.length
  · have a1 := z_dflt ad h h0 j hj
    have a2 := z_dflt ad1 h h0 j hj
    unfold vp_V at a1 a2
    rw [List.getD_eq_getElem?_getD, List.getElem?_eq_getElem (by rw [List.length_mapIdx]; exact hj)] at a1 a2
    rw [List.getElem?_eq_getElem (by rw [List.length_mapIdx]; exact hj), List.getElem?_eq_getElem (by rw [List.length_mapIdx]; exact hj)]
    exact congrArg some (a1.symm.trans a2)
  · rw [List.getElem?_eq_none (by rw [List.length_mapIdx]; omega), List.getElem?_eq_none (by rw [List.length_mapIdx]; omega)]
section VNEW
variable {p : Program} {l : Launch} {e : Env} {R : Room} {s : State} {m : MethodId} {args : Array Value} {below : List Frame} {meth : Method} {c : Code} {H : Heap} {locs : List Loc} {nc ns : Nat} {Q : State → Prop} {pc : Nat} {ls : Array Slot} {rest : List Value} {D : va_G} {cA : FieldType → ClassId} {xs : va_W} {A : Nat → Prop} {own : String} {cc : ByteArray}
theorem v_new (ad : Nat → Nat) {idx ci : Nat} {ss : List (Nat × Nat)} (hx : p.tables.exec = Jvm.exec) (hb : c.code = cc) (hts : ∀ w ∈ z_W, w.before args s = true) (hown : s.vm.findClass own = some m.cls) (hd : decode cc pc = .ok (.new idx, 3)) (hw : z_LW own idx ci ss) (hK : va_K D vwCl (z_ty cA) s) (hP : va_P D vwCl xs H) (hD : va_D A xs) (hS : va_S A s.heap H locs) (hA : ∀ q, s.heap.size ≤ q → A q) (hc : nc + 1 ≤ R.cells) (hs : ns + ss.length ≤ R.slots)
    (kk : ∀ (q : Nat) (H1 : Heap), va_P D vwCl (z_cs [.inr (ci, ss)] cA (z1 ad 0 q) z_zI z_zL ++ xs) H1 → va_D A (z_cs [.inr (ci, ss)] cA (z1 ad 0 q) z_zI z_zL ++ xs) → va_S A s.heap H1 locs → W p l e R s m args below meth c H1 locs (nc + 1) (ns + ss.length) Q (F0 m (pc + 3) ls (.ref q :: rest))) : W p l e R s m args below meth c H locs nc ns Q (F0 m pc ls rest) := by
  obtain ⟨C, T, N, ty0, w1, w2, w3, w4, w5, w6, w7, w8⟩ := hw
  subst w7
  have h0 : ∀ j, z_zI 0 j = 0 ∧ z_zL 0 j = 0 := fun _ => ⟨rfl, rfl⟩
  refine va_new (fs := ss.mapIdx (fun k s => z_sv ad z_zI z_zL 0 k s)) hx hb hts w5 ty0 w6 hown (hts _ w2) (hts _ w3) (hts _ w4) hK hP hD hS hA w1 (z_dflt ad w8 h0) hc hs hd (fun q H1 hP1 hD1 hS1 => ?_)
  have he : (Sum.inr (ci, ss.mapIdx (fun k s => z_sv ad z_zI z_zL 0 k s)) : va_E) = z_ce cA (z1 ad ([] : List z_Sh).length q) z_zI z_zL ([] : List z_Sh).length (.inr (ci, ss)) := by
    show Sum.inr (ci, _) = Sum.inr (ci, _)
    rw [z_dfl2 ad (z1 ad 0 q) w8 h0]
    rfl
  have hw9 := z_new (lay := []) (cA := cA) (ad := ad) (I := z_zI) (L := z_zL) (xs := xs) rfl (by decide) he hP1 hD1
  exact kk q H1 hw9.1 hw9.2 hS1
theorem v_callI {y : MethodName} {cc2 : ByteArray} {nL nL2 idx n9 mc2 ms2 : Nat} {rm2 : Room} {I L I1 L1 : _} {lay lay2 : List z_Sh} {ad adK adV : Nat → Nat} (hC : z_CI n9 lay y cc2 nL2 rm2 [.ref 0] I L lay2 (none, I1, L1) mc2 ms2) (h0 : z_0 lay.length I L) (hx : p.tables.exec = Jvm.exec) (hb : c.code = cc) (hml : c.maxLocals = nL) (hts : ∀ w ∈ z_W, w.before args s = true) (hown : s.vm.findClass own = some m.cls) (hd : decode cc pc = .ok (.invokespecial idx, 3)) (hL : z_LI own idx y 0) (hcode : Cond.code y cc2 nL2 none ∈ z_W) (hls : ls.size = nL) (hW : (rest.map fun v => v.category).sum ≤ 8) (hR : rm2.cells = mc2 ∧ rm2.slots = ms2 ∧ rm2.frames + 1 ≤ R.frames ∧ 8 + (nL2 + 11) + rm2.locals ≤ R.locals) (hc : nc + mc2 ≤ R.cells) (hsl : ns + ms2 ≤ R.slots) (hK : va_K D vwCl (z_ty cA) s) (hZ : z_S adK adV ad A s s.heap) (hP : va_P D vwCl (z_cs lay cA ad I L ++ xs) H) (hD : va_D A (z_cs lay cA ad I L ++ xs)) (hS : va_S A s.heap H locs) (hA : ∀ q, s.heap.size ≤ q → A q)
    (kk : ∀ (H1 : Heap) (locs1 : List Loc) (ad1 : Nat → Nat), z_agr n9 ad ad1 → va_P D vwCl (z_cs lay2 cA ad1 I1 L1 ++ xs) H1 → va_D A (z_cs lay2 cA ad1 I1 L1 ++ xs) → va_S A s.heap H1 locs1 → W p l e R s m args below meth c H1 locs1 (nc + mc2) (ns + ms2) Q (F0 m (pc + 3) ls rest)) : W p l e R s m args below meth c H locs nc ns Q (F0 m pc ls (.ref (ad 0) :: rest)) := by
  have hpre := z_pre (as := [.ref 0]) hK hA hZ hP hD hS
  have hF := z_sub hA hD hS
  obtain ⟨w1, w2, w3, w4, w5⟩ := hL
  have cb : CallB R s args own idx y cc2 nL2 none (.code y cc2 nL2 none :: z_W) rm2 mc2 ms2 0 := callB_of 0 hts (gi_all (fun w h => (List.mem_cons.mp h).elim (fun h => by rw [h]; exact hcode) id)) rfl hR.1 hR.2.1 (hts _ w3) (hts _ w1) w4 hR.2.2
  exact z_backY (rest := rest) (va_runI (As := []) ⟨hx, hb, hml, hown, hts⟩ (hC l D cA ad adK adV xs H.size h0) ⟨cb, w5, hts _ w2⟩ hpre rfl rfl hls rfl (lv_room hW) hd ⟨hc, hsl⟩) hS hF hF kk
end VNEW
def z_tm2 (i : Nat) : Term := if i = 0 then .string RX7 19 else .string RX11 192
theorem fl_ex : ∀ i, i < 2 → Cond.exactly (z_tm2 i) "java/lang/String" ∈ flatC (Jvm.Cond.and given_1 narrow_1) := by decide +kernel
theorem fl_co : ∀ i, i < 2 → Cond.eq (.field (z_tm2 i) "java/lang/String" "coder" "B") (.int 0) ∈ flatC (Jvm.Cond.and given_1 narrow_1) := by decide +kernel
theorem fl_ar : ∀ i, i < 2 → Cond.arrayOf (.field (z_tm2 i) "java/lang/String" "value" "[B") .byte ∈ flatC (Jvm.Cond.and given_1 narrow_1) := by decide +kernel
theorem fl_le : ∀ i, i < 2 → Cond.eq (.length (.field (z_tm2 i) "java/lang/String" "value" "[B")) (.int (Int32.ofNat (z_len.getD i 0))) ∈ flatC (Jvm.Cond.and given_1 narrow_1) := by decide +kernel
def z_el (i n : Nat) : List Cond := (List.range n).map (fun j => Cond.eq (.elem (.field (z_tm2 i) "java/lang/String" "value" "[B") (.int (Int32.ofNat j))) (.int ((z_byt.getD i []).getD j 0)))
theorem fl_e0 : ((flatC (Jvm.Cond.and given_1 narrow_1)).drop 49).take 119 = z_el 0 119 := by decide +kernel
theorem fl_e1 : ((flatC (Jvm.Cond.and given_1 narrow_1)).drop 172).take 120 = z_el 1 120 := by decide +kernel
theorem fl_el : ∀ i, i < 2 → ∀ j, j < z_len.getD i 0 → Cond.eq (.elem (.field (z_tm2 i) "java/lang/String" "value" "[B") (.int (Int32.ofNat j))) (.int ((z_byt.getD i []).getD j 0)) ∈ flatC (Jvm.Cond.and given_1 narrow_1) := by
  have key : ∀ (i n o : Nat), ((flatC (Jvm.Cond.and given_1 narrow_1)).drop o).take n = z_el i n → ∀ j, j < n → Cond.eq (.elem (.field (z_tm2 i) "java/lang/String" "value" "[B") (.int (Int32.ofNat j))) (.int ((z_byt.getD i []).getD j 0)) ∈ flatC (Jvm.Cond.and given_1 narrow_1) := by
    intro i n o h j hj
    have hm : Cond.eq (.elem (.field (z_tm2 i) "java/lang/String" "value" "[B") (.int (Int32.ofNat j))) (.int ((z_byt.getD i []).getD j 0)) ∈ z_el i n := List.mem_map.mpr ⟨j, List.mem_range.mpr hj, rfl⟩
    rw [← h] at hm
    exact List.mem_of_mem_drop (List.mem_of_mem_take hm)
  intro i hi
  match i, hi with
  | 0, _ => exact key 0 119 49 fl_e0
  | 1, _ => exact key 1 120 172 fl_e1
theorem fl_ne : Cond.not (Cond.eq (z_tm2 0) (z_tm2 1)) ∈ flatC (Jvm.Cond.and given_1 narrow_1) := by decide +kernel
theorem fl_cs : Cond.eq (.static "java/lang/String" "COMPACT_STRINGS" "Z") (.int 1) ∈ flatC (Jvm.Cond.and given_1 narrow_1) := by decide +kernel
theorem fl_sf : Cond.isRef (.static "jdk/internal/util/Preconditions" "SIOOBE_FORMATTER" "Ljava/util/function/BiFunction;") ∈ flatC (Jvm.Cond.and given_1 narrow_1) := by decide +kernel
theorem tb_l1 : Cond.laysStatic "java/lang/String" "COMPACT_STRINGS" "Z" ∈ lw_tbl := List.mem_of_getElem? (i := 329) (by decide +kernel)
theorem tb_l2 : Cond.laysStatic "jdk/internal/util/Preconditions" "SIOOBE_FORMATTER" "Ljava/util/function/BiFunction;" ∈ lw_tbl := List.mem_of_getElem? (i := 345) (by decide +kernel)
theorem tb_i1 : Cond.initialized "java/lang/String" ∈ lw_tbl := List.mem_of_getElem? (i := 137) (by decide +kernel)
theorem tb_i2 : Cond.initialized "jdk/internal/util/Preconditions" ∈ lw_tbl := List.mem_of_getElem? (i := 139) (by decide +kernel)
theorem tb_s1 : Cond.stringRef RX7 19 z_t0 ∈ lw_tbl := List.mem_of_getElem? (i := 319) (by decide +kernel)
theorem tb_s2 : Cond.stringRef RX11 192 z_t1 ∈ lw_tbl := List.mem_of_getElem? (i := 1593) (by decide +kernel)
theorem tb_o1 : Cond.arrayOver (.object RX8) ∈ lw_tbl := List.mem_of_getElem? (i := 162) (by decide +kernel)
theorem tb_o2 : Cond.arrayOver (.object RX0) ∈ lw_tbl := List.mem_of_getElem? (i := 311) (by decide +kernel)
theorem tb_o3 : Cond.arrayOver (.object RX5) ∈ lw_tbl := List.mem_of_getElem? (i := 312) (by decide +kernel)
theorem tb_n : ∀ q ∈ z_nest, Cond.methodLinkNest q.1 q.2.1 q.2.2.1 q.2.2.2 ∈ lw_tbl := by decide +kernel
theorem st_S {s : State} {b : Nat} (hgv : (Jvm.Cond.and given_1 narrow_1).before #[Value.ref b] s = true) (hts : ∀ w ∈ lw_tbl, w.before #[Value.ref b] s = true) : ∃ adK adV : Nat → Nat, ∀ ad : Nat → Nat, (∀ i, i < 2 → ad (9000 + i) = adK i ∧ ad (9002 + i) = adV i) → z_S adK adV ad (fun q => s.heap.size ≤ q) s s.heap := by
  have hf := flat_of_before _ hgv
  have hA : ∀ a : Nat, a < s.heap.size → ¬ (fun q : Nat => s.heap.size ≤ q) a := fun a h => Nat.not_le.mpr h
  obtain ⟨adK, adV, hS, hE⟩ := vk_Sof (args := #[Value.ref b]) (s := s) (N := 2) (tm := z_tm2) (len := z_len) (byt := z_byt) (A := fun q => s.heap.size ≤ q) (by decide) (fun i hi => hf _ (fl_ex i hi)) (fun i hi => hf _ (fl_co i hi)) (fun i hi => hf _ (fl_ar i hi)) (fun i hi => hf _ (fl_le i hi)) (fun i hi j hj => hf _ (fl_el i hi j hj)) (fun i j hi hj hij => by
    have h01 := hf _ fl_ne
    rcases (show (i = 0 ∧ j = 1) ∨ (i = 1 ∧ j = 0) by omega) with ⟨rfl, rfl⟩ | ⟨rfl, rfl⟩
    · exact Or.inl h01
    · exact Or.inr h01) hA
  refine ⟨adK, adV, fun ad had => ⟨hS, vk_R.of (hts _ tb_s1) (hE 0 (by decide)), vk_R.of (hts _ tb_s2) (hE 1 (by decide)), va_Zof (hts _ tb_l1) (hts _ tb_i1) (va_eqt (hf _ fl_cs)) hA, va_Zqof (hts _ tb_l2) (hts _ tb_i2) (hf _ fl_sf) hA, ⟨fun q hq => va_tabs rfl rfl (hts _ (tb_n q hq)), va_AO.of (hts _ tb_o1), va_AO.of (hts _ tb_o2), va_AO.of (hts _ tb_o3)⟩, had⟩⟩
theorem st_K {s : State} {b : Nat} (hts : ∀ w ∈ lw_tbl, w.before #[Value.ref b] s = true) : ∃ (D : va_G) (cA : FieldType → ClassId), va_K D vwCl (z_ty cA) s := by
  have hts2 : ∀ w ∈ z_W, w.before #[Value.ref b] s = true := fun w hw => hts w (List.mem_filter.mp hw).1
  obtain ⟨c0, iS0, hKn0⟩ := u_known (C := RX0) (T := TX0) (N := 17) (n := 17) hts2 zu_0 (hts _ (List.mem_of_getElem? (i := 164) (by decide +kernel)))
  obtain ⟨c1, iS1, hKn1⟩ := u_known (C := RX1) (T := TX1) (N := 5) (n := 5) hts2 zu_1 (hts _ (List.mem_of_getElem? (i := 417) (by decide +kernel)))
  obtain ⟨c2, iS2, hKn2⟩ := u_known (C := RX2) (T := TX2) (N := 3) (n := 3) hts2 zu_2 (hts _ (List.mem_of_getElem? (i := 525) (by decide +kernel)))
  obtain ⟨c3, iS3, hKn3⟩ := u_known (C := RX3) (T := TX3) (N := 2) (n := 2) hts2 zu_3 (hts _ (List.mem_of_getElem? (i := 541) (by decide +kernel)))
  obtain ⟨c4, iS4, hKn4⟩ := u_known (C := RX4) (T := TX4) (N := 12) (n := 12) hts2 zu_4 (hts _ (List.mem_of_getElem? (i := 461) (by decide +kernel)))
  obtain ⟨c5, iS5, hKn5⟩ := u_known (C := RX5) (T := TX5) (N := 8) (n := 8) hts2 zu_5 (hts _ (List.mem_of_getElem? (i := 265) (by decide +kernel)))
  obtain ⟨c6, iS6, hKn6⟩ := u_known (C := RX6) (T := TX6) (N := 5) (n := 5) hts2 zu_6 (hts _ (List.mem_of_getElem? (i := 439) (by decide +kernel)))
  obtain ⟨c7, iS7, hKn7⟩ := u_known (C := RX7) (T := TX7) (N := 13) (n := 13) hts2 zu_7 (hts _ (List.mem_of_getElem? (i := 314) (by decide +kernel)))
  obtain ⟨c8, iS8, hKn8⟩ := u_known (C := RX8) (T := TX8) (N := 4) (n := 4) hts2 zu_8 (hts _ (List.mem_of_getElem? (i := 555) (by decide +kernel)))
  obtain ⟨c9, iS9, hKn9⟩ := u_known (C := RX9) (T := TX9) (N := 3) (n := 3) hts2 zu_9 (hts _ (List.mem_of_getElem? (i := 507) (by decide +kernel)))
  obtain ⟨c10, iS10, hKn10⟩ := u_known (C := RX10) (T := TX10) (N := 20) (n := 20) hts2 zu_10 (hts _ (List.mem_of_getElem? (i := 154) (by decide +kernel)))
  obtain ⟨c11, iS11, hKn11⟩ := u_known (C := RX11) (T := TX11) (N := 46) (n := 46) hts2 zu_11 (hts _ (List.mem_of_getElem? (i := 1358) (by decide +kernel)))
  have hKc : ∀ (k : Nat) (q : vw_C), vwCl[k]? = some q → u_Kn s q.1 q.2.1 q.2.2 ((fun k => if k = 0 then c0 else if k = 1 then c1 else if k = 2 then c2 else if k = 3 then c3 else if k = 4 then c4 else if k = 5 then c5 else if k = 6 then c6 else if k = 7 then c7 else if k = 8 then c8 else if k = 9 then c9 else if k = 10 then c10 else c11 : Nat → ClassId) k) ((fun k => if k = 0 then iS0 else if k = 1 then iS1 else if k = 2 then iS2 else if k = 3 then iS3 else if k = 4 then iS4 else if k = 5 then iS5 else if k = 6 then iS6 else if k = 7 then iS7 else if k = 8 then iS8 else if k = 9 then iS9 else if k = 10 then iS10 else iS11 : Nat → Nat → Nat) k) := by
    intro k q hq
    match k, hq with
    | 0, hq => cases hq; exact hKn0
    | 1, hq => cases hq; exact hKn1
    | 2, hq => cases hq; exact hKn2
    | 3, hq => cases hq; exact hKn3
    | 4, hq => cases hq; exact hKn4
    | 5, hq => cases hq; exact hKn5
    | 6, hq => cases hq; exact hKn6
    | 7, hq => cases hq; exact hKn7
    | 8, hq => cases hq; exact hKn8
    | 9, hq => cases hq; exact hKn9
    | 10, hq => cases hq; exact hKn10
    | 11, hq => cases hq; exact hKn11
    | k + 12, hq => simp [vwCl] at hq
  refine ⟨((fun k => if k = 0 then c0 else if k = 1 then c1 else if k = 2 then c2 else if k = 3 then c3 else if k = 4 then c4 else if k = 5 then c5 else if k = 6 then c6 else if k = 7 then c7 else if k = 8 then c8 else if k = 9 then c9 else if k = 10 then c10 else c11 : Nat → ClassId), (fun k => if k = 0 then iS0 else if k = 1 then iS1 else if k = 2 then iS2 else if k = 3 then iS3 else if k = 4 then iS4 else if k = 5 then iS5 else if k = 6 then iS6 else if k = 7 then iS7 else if k = 8 then iS8 else if k = 9 then iS9 else if k = 10 then iS10 else iS11 : Nat → Nat → Nat)), fun ty => (s.vm.findClass ("[" ++ ty.toString)).getD 0, hKc, ?_⟩
  have prim : ∀ (ty : FieldType), Cond.arrayClass ty ∈ z_W → ArrOfT s ((s.vm.findClass ("[" ++ ty.toString)).getD 0) ty ∧ s.vm.findClass ("[" ++ ty.toString) = some ((s.vm.findClass ("[" ++ ty.toString)).getD 0) := by
    intro ty h
    obtain ⟨c, k, comp, h1, h2, h3⟩ := Cond.arrayClass_spec (hts2 _ h)
    rw [h1]
    exact ⟨fun n z => ⟨fun k h => (by cases h), k, h2, comp, h3⟩, rfl⟩
  have refa : ∀ (C : String), Cond.arrayOver (.object C) ∈ lw_tbl → ArrOfT s ((s.vm.findClass ("[" ++ (FieldType.object C).toString)).getD 0) (.object C) ∧ va_RA s ((s.vm.findClass ("[" ++ (FieldType.object C).toString)).getD 0) (.object C) := by
    intro C h
    obtain ⟨comp, c, k, h1, h2, h3, h4, h5⟩ := Cond.arrayOver_spec (hts _ h)
    rw [h5]
    exact ⟨fun n z => ⟨fun k h => (by cases h), k, h3, comp, h4⟩, k, comp, h3, h4, h1, h5⟩
  intro k q hk
  match k, hk with
  | 0, hk => cases hk; exact prim .int ar_int
  | 1, hk => cases hk; exact prim .long ar_long
  | 2, hk => cases hk; exact prim .byte ar_byte
  | 3, hk => cases hk; exact refa RX8 tb_o1
  | 4, hk => cases hk; exact refa RX0 tb_o2
  | 5, hk => cases hk; exact refa RX5 tb_o3
  | k + 6, hk => simp [z_ty] at hk
