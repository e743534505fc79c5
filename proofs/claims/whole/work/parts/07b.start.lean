theorem z_cs_swap {lay : List z_Sh} {cA : FieldType → ClassId} {ad : Nat → Nat} {I I2 : z_I} {L : z_L} {c : Nat} {sh2 sh3 : z_Sh} (h : lay[c]? = some sh2) (he : z_ce cA ad I2 L c sh3 = z_ce cA ad I L c sh2) (hI : ∀ j, j ≠ c → I2 j = I j) : z_cs (lay.set c sh3) cA ad I2 L = z_cs lay cA ad I L := by
  have hl := (List.getElem?_eq_some_iff.mp h).1
  apply List.ext_getElem?
  intro j
  unfold z_cs
  rw [List.getElem?_mapIdx, List.getElem?_mapIdx]
  by_cases hj : j = c
  · subst hj
    rw [List.getElem?_set_self hl, h]
    show some (ad j, z_ce cA ad I2 L j sh3) = some (ad j, z_ce cA ad I L j sh2)
    rw [he]
  · rw [List.getElem?_set_ne (Ne.symm hj)]
    cases hq : lay[j]? with
    | none => rfl
    | some q =>
      have e1 : z_ce cA ad I2 L j q = z_ce cA ad I L j q := by
        have hsv : ∀ (k : Nat) (x : Nat × Nat), z_sv ad I2 L j k x = z_sv ad I L j k x := by
          intro k x
          unfold z_sv
          rw [hI j hj]
        unfold z_ce
        rw [hI j hj]
        split <;> first | rfl | (simp only [hsv])
      show some (ad j, z_ce cA ad I2 L j q) = some (ad j, z_ce cA ad I L j q)
      rw [e1]
theorem z_layset : yl_235.set 45 (.inr (4, [(2, 46), (4, 0), (0, 0), (2, 14), (2, 47), (3, 0), (0, 0), (0, 0), (0, 0), (0, 0), (0, 0), (4, 0)])) = layX := by decide +kernel
theorem z_life0 {cA : FieldType → ClassId} {ad : Nat → Nat} {I : z_I} {L : z_L} : z_ce cA ad (z2 I 45 5 3) L 45 (.inr (4, [(2, 46), (4, 0), (0, 0), (2, 14), (2, 47), (3, 0), (0, 0), (0, 0), (0, 0), (0, 0), (0, 0), (4, 0)])) = z_ce cA ad I L 45 (.inr (4, [(2, 46), (4, 0), (0, 0), (2, 14), (2, 47), (2, 3), (0, 0), (0, 0), (0, 0), (0, 0), (0, 0), (4, 0)])) := by
  have e3 : (3 : Int32).toNatClampNeg = 3 := by decide
  unfold z_ce
  simp [List.mapIdx_cons, z_sv, z2, z1, e3]
theorem z_yl45 : yl_235[45]? = some (.inr (4, [(2, 46), (4, 0), (0, 0), (2, 14), (2, 47), (2, 3), (0, 0), (0, 0), (0, 0), (0, 0), (0, 0), (4, 0)])) := by decide +kernel
theorem z_court0 {cA : FieldType → ClassId} {ad : Nat → Nat} {I : z_I} {L : z_L} : z_cs yl_235 cA ad I L = z_cs layX cA ad (z2 I 45 5 3) L := by
  have h := z_cs_swap (cA := cA) (ad := ad) (I := I) (I2 := z2 I 45 5 3) (L := L) z_yl45 z_life0 (fun j hj => z2_o hj)
  rw [z_layset] at h
  exact h.symm
theorem z_model0 : yl_280 = layM := by decide +kernel
set_option maxRecDepth 100000 in
set_option maxHeartbeats 1000000 in
/-- behind both constructors -/
theorem wo_3 {Rel : z_I → z_L → z_I → z_L → Prop} (h_status : s_status Rel) (h_top : s_top Rel) (h_bottom : s_bottom Rel) (h_tray : s_tray Rel) (h_write : s_write Rel) (h_read : s_read Rel) (h_pour : s_pour Rel) (h_feed : s_feed Rel) (h_court : s_court Rel) (h_terms : s_terms Rel) (h_fault : s_fault Rel) (h_told : s_told Rel) (h_bed : s_bed Rel) (h_weight : s_weight Rel) (h_claim : s_claim Rel) (h_scholar : s_scholar Rel) (h_make : s_make Rel) (h_recant : s_recant Rel) (h_forget : s_forget Rel) (h_walk : s_walk Rel) (h_pick : s_pick Rel) (h_night : s_night Rel) (h_weed : s_weed Rel) (h_teach : s_teach Rel) (h_weigh : s_weigh Rel) (h_think : s_think Rel) (h_rule : s_rule Rel) (h_partOf : s_partOf Rel) (h_couples : s_couples Rel) (h_parting : s_parting Rel) (h_barren : s_barren Rel) (h_most : s_most Rel) (h_first : s_first Rel) (h_fewest : s_fewest Rel) (h_fewestSet : s_fewestSet Rel) (h_deep : s_deep Rel) (h_askDeep : s_askDeep Rel) (h_dear : s_dear Rel) (h_askDear : s_askDear Rel) (h_fits : s_fits Rel) (h_likely : s_likely Rel) (h_oddsThat : s_oddsThat Rel) (h_next : s_next Rel) (h_gather : s_gather Rel) (h_brisk : s_brisk Rel) (h_game : s_game Rel) (h_moveOf : s_moveOf Rel) (h_blind : s_blind Rel) (h_share : s_share Rel) (h_copyBeds : s_copyBeds Rel) (h_live : s_live Rel) (h_lived : s_lived Rel) (h_mean : s_mean Rel) (h_mark : s_mark Rel) (h_undo : s_undo Rel) {I : z_I} {L : z_L} {J : z_I} {K : z_L} (hR0 : Rel I L J K) {p : Program} {l : Launch} {e : Env} {s : State} {m : MethodId} {below : List Frame} {meth : Method} {c : Code} {b Ln : Nat} {xs : Nat → Int32} (hL : Ln ≤ 3072) (C0 : lw_At p s m meth c b Ln xs) {D : va_G} {cA : FieldType → ClassId} {adX adM adK adV : Nat → Nat} {H : Heap} {locs : List Loc} {nc ns : Nat} (hnc : nc ≤ 600000) (hns : ns ≤ 7302250) (hK : va_K D vwCl (z_ty cA) s) (hZX : z_S adK adV adX (fun q => s.heap.size ≤ q) s s.heap) (hZM : z_S adK adV adM (fun q => s.heap.size ≤ q) s s.heap) (hP : va_P D vwCl (z_cs layX cA adX I L ++ z_cs layM cA adM J K) H) (hD : va_D (fun q => s.heap.size ≤ q) (z_cs layX cA adX I L ++ z_cs layM cA adM J K)) (hS : va_S (fun q => s.heap.size ≤ q) s.heap H locs) {ls : Array Slot} (hl : lv_has ls 4 [(1, .ref (adX 0)), (0, .ref b)]) : W p l e room_1 s m #[Value.ref b] below meth c H locs nc ns (lw_Z below #[Value.ref b] s) (F0 m 15 ls [.ref (adM 0)]) := by
  have hx := C0.1
  have hb := C0.2.1
  refine lv_astore_n (lv' := [(2, .ref (adM 0)), (1, .ref (adX 0)), (0, .ref b)]) hx hb dL_law_15 rfl hl (by decide) rfl (fun ls hl => ?_)
  refine lv_iconst (v := 0) hx hb dL_law_16 (by decide) ?_
  refine lv_istore_n (lv' := [(3, .int 0), (2, .ref (adM 0)), (1, .ref (adX 0)), (0, .ref b)]) hx hb dL_law_17 rfl hl (by decide) rfl (fun ls hl => ?_)
  refine W.widen (k := 600000) (n := 7302250) hnc hns ?_
  have hl2 : lv_has ls 4 (z_lv (z_w b adX adM) [(0, .ref 1), (1, .ref 2), (2, .ref 3), (3, .int 0)]) := lv_sub hl [3, 2, 1, 0] rfl
  exact w_loop h_status h_top h_bottom h_tray h_write h_read h_pour h_feed h_court h_terms h_fault h_told h_bed h_weight h_claim h_scholar h_make h_recant h_forget h_walk h_pick h_night h_weed h_teach h_weigh h_think h_rule h_partOf h_couples h_parting h_barren h_most h_first h_fewest h_fewestSet h_deep h_askDeep h_dear h_askDear h_fits h_likely h_oddsThat h_next h_gather h_brisk h_game h_moveOf h_blind h_share h_copyBeds h_live h_lived h_mean h_mark h_undo hL (Ln + 7) 0 0 I L J K rfl (by omega) (by omega) hR0 p l e s m below meth c D cA adX adM adK adV H locs ls C0 hK hZX hZM hP hD hS hl2
set_option maxRecDepth 100000 in
set_option maxHeartbeats 1000000 in
/-- behind the first constructor -/
theorem wo_2 {Rel : z_I → z_L → z_I → z_L → Prop} (h_status : s_status Rel) (h_top : s_top Rel) (h_bottom : s_bottom Rel) (h_tray : s_tray Rel) (h_write : s_write Rel) (h_read : s_read Rel) (h_pour : s_pour Rel) (h_feed : s_feed Rel) (h_court : s_court Rel) (h_terms : s_terms Rel) (h_fault : s_fault Rel) (h_told : s_told Rel) (h_bed : s_bed Rel) (h_weight : s_weight Rel) (h_claim : s_claim Rel) (h_scholar : s_scholar Rel) (h_make : s_make Rel) (h_recant : s_recant Rel) (h_forget : s_forget Rel) (h_walk : s_walk Rel) (h_pick : s_pick Rel) (h_night : s_night Rel) (h_weed : s_weed Rel) (h_teach : s_teach Rel) (h_weigh : s_weigh Rel) (h_think : s_think Rel) (h_rule : s_rule Rel) (h_partOf : s_partOf Rel) (h_couples : s_couples Rel) (h_parting : s_parting Rel) (h_barren : s_barren Rel) (h_most : s_most Rel) (h_first : s_first Rel) (h_fewest : s_fewest Rel) (h_fewestSet : s_fewestSet Rel) (h_deep : s_deep Rel) (h_askDeep : s_askDeep Rel) (h_dear : s_dear Rel) (h_askDear : s_askDear Rel) (h_fits : s_fits Rel) (h_likely : s_likely Rel) (h_oddsThat : s_oddsThat Rel) (h_next : s_next Rel) (h_gather : s_gather Rel) (h_brisk : s_brisk Rel) (h_game : s_game Rel) (h_moveOf : s_moveOf Rel) (h_blind : s_blind Rel) (h_share : s_share Rel) (h_copyBeds : s_copyBeds Rel) (h_live : s_live Rel) (h_lived : s_lived Rel) (h_mean : s_mean Rel) (h_mark : s_mark Rel) (h_undo : s_undo Rel) {I9 : z_I} (h9 : f_X11_plain (z2 (z2 (z2 (z2 (z2 (z2 z_zI 4 0 (-1)) 4 1 (-1)) 4 2 (-1)) 4 3 (-1)) 0 16 (-1)) 0 17 (-1)) (0 : Int32) = some I9) (hz9 : z_0 23 (z2 (z2 (z2 (z2 (z2 (z2 z_zI 4 0 (-1)) 4 1 (-1)) 4 2 (-1)) 4 3 (-1)) 0 16 (-1)) 0 17 (-1)) (z2 z_zL 0 4 (1)) → z_0 23 I9 (z2 z_zL 0 4 (1))) {I : z_I} {L : z_L} (hR0 : Rel I L I9 (z2 z_zL 0 4 (1))) {p : Program} {l : Launch} {e : Env} {s : State} {m : MethodId} {below : List Frame} {meth : Method} {c : Code} {b Ln : Nat} {xs : Nat → Int32} (hL : Ln ≤ 3072) (C0 : lw_At p s m meth c b Ln xs) {D : va_G} {cA : FieldType → ClassId} {ad0 adX adK adV : Nat → Nat} {H : Heap} {locs : List Loc} {nc ns : Nat} (hnc : nc ≤ 1000) (hns : ns ≤ 100000) (hK : va_K D vwCl (z_ty cA) s) (hZX : z_S adK adV adX (fun q => s.heap.size ≤ q) s s.heap) (hZ0 : ∀ q : Nat, z_S adK adV (z1 ad0 0 q) (fun q => s.heap.size ≤ q) s s.heap) (hP : va_P D vwCl (z_cs layX cA adX I L) H) (hD : va_D (fun q => s.heap.size ≤ q) (z_cs layX cA adX I L)) (hS : va_S (fun q => s.heap.size ≤ q) s.heap H locs) {ls : Array Slot} (hl : lv_has ls 4 [(1, .ref (adX 0)), (0, .ref b)]) : W p l e room_1 s m #[Value.ref b] below meth c H locs nc ns (lw_Z below #[Value.ref b] s) (F0 m 8 ls []) := by
  obtain ⟨hx, hb, hr, hml, hown, hts, -⟩ := id C0
  have hts2 : ∀ w ∈ z_W, w.before #[Value.ref b] s = true := fun w hw => hts w (List.mem_filter.mp hw).1
  have hA : ∀ q : Nat, s.heap.size ≤ q → (fun q : Nat => s.heap.size ≤ q) q := fun _ h => h
  refine v_new ad0 hx hb hts2 hown dL_law_8 lw_L_10 hK hP hD hS hA (show nc + 1 ≤ 600000 by omega) (show ns + 46 ≤ 7302250 by omega) (fun q2 H hP hD hS => ?_)
  refine lv_dup hx hb dL_law_11 rfl ?_
  have hC := k_X11_init_0 (I := z_zI) (L := z_zL) h9 hz9
  have hz : z_0 (yl_281 : List z_Sh).length z_zI z_zL := fun _ _ _ => ⟨rfl, rfl⟩
  have hP : va_P D vwCl (z_cs yl_281 cA (z1 ad0 0 q2) z_zI z_zL ++ z_cs layX cA adX I L) H := hP
  have hD : va_D (fun q => s.heap.size ≤ q) (z_cs yl_281 cA (z1 ad0 0 q2) z_zI z_zL ++ z_cs layX cA adX I L) := hD
  refine W.eq (g2 := F0 m (8 + 3 + 1) ls (.ref (z1 ad0 0 q2 0) :: [.ref q2])) rfl ?_
  refine v_callI hC hz hx hb hml hts2 hown dL_law_12 li_L_12 cd_X11_init hl.1 (Nat.le_of_ble_eq_true rfl) ⟨rfl, rfl, Nat.le_of_ble_eq_true rfl, Nat.le_of_ble_eq_true rfl⟩ (show nc + 1 + 22 ≤ 600000 by omega) (show ns + 46 + 5007 ≤ 7302250 by omega) hK (hZ0 q2) hP hD hS hA (fun H locs adM hag2 hP hD hS => ?_)
  have hZM := (hZ0 q2).ad hag2
  have hq2 : adM 0 = q2 := hag2 0 (Or.inl (by decide))
  rw [z_model0] at hP hD
  have hP3 := z_pperm List.perm_append_comm hP
  have hD3 := z_dperm List.perm_append_comm hD
  subst hq2
  refine W.widen (k := 600000) (n := 7302250) (show nc + 1 + 22 ≤ 600000 by omega) (show ns + 46 + 5007 ≤ 7302250 by omega) ?_
  refine W.eq (g2 := F0 m 15 ls [.ref (adM 0)]) rfl ?_
  refine wo_3 (adX := adX) (adM := adM) (adK := adK) (adV := adV) (D := D) (cA := cA) (nc := 600000) (ns := 7302250) h_status h_top h_bottom h_tray h_write h_read h_pour h_feed h_court h_terms h_fault h_told h_bed h_weight h_claim h_scholar h_make h_recant h_forget h_walk h_pick h_night h_weed h_teach h_weigh h_think h_rule h_partOf h_couples h_parting h_barren h_most h_first h_fewest h_fewestSet h_deep h_askDeep h_dear h_askDear h_fits h_likely h_oddsThat h_next h_gather h_brisk h_game h_moveOf h_blind h_share h_copyBeds h_live h_lived h_mean h_mark h_undo hR0 hL C0 ?_ ?_ ?_ ?_ ?_ ?_ ?_ ?_ ?_
  · exact Nat.le_of_ble_eq_true rfl
  · exact Nat.le_of_ble_eq_true rfl
  · exact hK
  · exact hZX
  · exact hZM
  · exact hP3
  · exact hD3
  · exact hS
  · exact hl
set_option maxRecDepth 100000 in
set_option maxHeartbeats 4000000 in
/-- the law from its entry, over a relation that is kept -/
theorem whole_open {Rel : z_I → z_L → z_I → z_L → Prop} (h_status : s_status Rel) (h_top : s_top Rel) (h_bottom : s_bottom Rel) (h_tray : s_tray Rel) (h_write : s_write Rel) (h_read : s_read Rel) (h_pour : s_pour Rel) (h_feed : s_feed Rel) (h_court : s_court Rel) (h_terms : s_terms Rel) (h_fault : s_fault Rel) (h_told : s_told Rel) (h_bed : s_bed Rel) (h_weight : s_weight Rel) (h_claim : s_claim Rel) (h_scholar : s_scholar Rel) (h_make : s_make Rel) (h_recant : s_recant Rel) (h_forget : s_forget Rel) (h_walk : s_walk Rel) (h_pick : s_pick Rel) (h_night : s_night Rel) (h_weed : s_weed Rel) (h_teach : s_teach Rel) (h_weigh : s_weigh Rel) (h_think : s_think Rel) (h_rule : s_rule Rel) (h_partOf : s_partOf Rel) (h_couples : s_couples Rel) (h_parting : s_parting Rel) (h_barren : s_barren Rel) (h_most : s_most Rel) (h_first : s_first Rel) (h_fewest : s_fewest Rel) (h_fewestSet : s_fewestSet Rel) (h_deep : s_deep Rel) (h_askDeep : s_askDeep Rel) (h_dear : s_dear Rel) (h_askDear : s_askDear Rel) (h_fits : s_fits Rel) (h_likely : s_likely Rel) (h_oddsThat : s_oddsThat Rel) (h_next : s_next Rel) (h_gather : s_gather Rel) (h_brisk : s_brisk Rel) (h_game : s_game Rel) (h_moveOf : s_moveOf Rel) (h_blind : s_blind Rel) (h_share : s_share Rel) (h_copyBeds : s_copyBeds Rel) (h_live : s_live Rel) (h_lived : s_lived Rel) (h_mean : s_mean Rel) (h_mark : s_mark Rel) (h_undo : s_undo Rel) {L1 : z_L} (h7 : f_X7_tail z_zL = some L1) (hz7 : ∀ I : z_I, z_0 40 I z_zL → z_0 41 I L1) {I9 : z_I} (h9 : f_X11_plain (z2 (z2 (z2 (z2 (z2 (z2 z_zI 4 0 (-1)) 4 1 (-1)) 4 2 (-1)) 4 3 (-1)) 0 16 (-1)) 0 17 (-1)) (0 : Int32) = some I9) (hz9 : z_0 23 (z2 (z2 (z2 (z2 (z2 (z2 z_zI 4 0 (-1)) 4 1 (-1)) 4 2 (-1)) 4 3 (-1)) 0 16 (-1)) 0 17 (-1)) (z2 z_zL 0 4 (1)) → z_0 23 I9 (z2 z_zL 0 4 (1))) (hR0 : Rel (z2 (z2 (z2 (z2 (z2 (z2 (z2 (z2 z_zI 3 14 (8)) 22 14 (8)) 0 16 (-1)) 0 17 (-1)) 63 14 (8)) 80 14 (8)) 97 14 (8)) 45 5 3) (z2 L1 54 1 (1)) I9 (z2 z_zL 0 4 (1))) {p : Program} {e : Env} {s : State} {m : MethodId} {below : List Frame} {meth : Method} {c : Code} (l : Launch) {b Ln : Nat} {xs : Nat → Int32} (hL : Ln ≤ 3072) (C0 : lw_At p s m meth c b Ln xs) : W p l e room_1 s m #[Value.ref b] below meth c s.heap [] 0 0 (lw_Z below #[Value.ref b] s) (entryFrame m ([Value.ref b] : List Value).toArray 4) := by
  obtain ⟨hx, hb, hr, hml, hown, hts, hX, hbl, hlocks, hgv⟩ := id C0
  obtain ⟨adK, adV, hZ0⟩ := st_S hgv hts
  obtain ⟨D, cA, hK⟩ := st_K hts
  have hts2 : ∀ w ∈ z_W, w.before #[Value.ref b] s = true := fun w hw => hts w (List.mem_filter.mp hw).1
  have hA : ∀ q : Nat, s.heap.size ≤ q → (fun q : Nat => s.heap.size ≤ q) q := fun _ h => h
  have hS : va_S (fun q : Nat => s.heap.size ≤ q) s.heap s.heap [] := va_S.rf
  have hP : va_P D vwCl [] s.heap := fun k q h => by simp at h
  have hD : va_D (fun q : Nat => s.heap.size ≤ q) [] := ⟨fun i j p q h => by simp at h, fun k q h => by simp at h⟩
  obtain ⟨ad0, had⟩ : ∃ ad0 : Nat → Nat, ad0 = fun k => if k = 9000 then adK 0 else if k = 9001 then adK 1 else if k = 9002 then adV 0 else adV 1 := ⟨_, rfl⟩
  have had0 : ∀ q : Nat, z_S adK adV (z1 ad0 0 q) (fun q => s.heap.size ≤ q) s s.heap := by
    intro q
    refine hZ0 _ (fun i hi => ?_)
    rw [z1_o (by omega), z1_o (by omega), had]
    match i, hi with
    | 0, _ => exact ⟨rfl, rfl⟩
    | 1, _ => exact ⟨rfl, rfl⟩
  have hl := lv_entry ([.ref b]) (n := 4) (Nat.le_of_ble_eq_true rfl)
  rw [lg_entry_eq]
  generalize (lg_sl ([.ref b]) ++ List.replicate (4 - (lg_sl ([.ref b])).length) Slot.unset).toArray = ls at hl ⊢
  have hl : lv_has ls 4 [(0, .ref b)] := hl
  refine v_new ad0 hx hb hts2 hown dL_law_0 lw_L_7 hK hP hD hS hA (Nat.le_of_ble_eq_true rfl) (Nat.le_of_ble_eq_true rfl) (fun q H hP hD hS => ?_)
  refine lv_dup hx hb dL_law_3 rfl ?_
  have hC := k_X10_init_0 (I := z_zI) (L := z_zL) h7 hz7
  have hz : z_0 (yl_236 : List z_Sh).length z_zI z_zL := fun _ _ _ => ⟨rfl, rfl⟩
  have hP : va_P D vwCl (z_cs yl_236 cA (z1 ad0 0 q) z_zI z_zL ++ []) H := hP
  have hD : va_D (fun q => s.heap.size ≤ q) (z_cs yl_236 cA (z1 ad0 0 q) z_zI z_zL ++ []) := hD
  refine W.eq (g2 := F0 m (0 + 3 + 1) ls (.ref (z1 ad0 0 q 0) :: [.ref q])) rfl ?_
  refine v_callI hC hz hx hb hml hts2 hown dL_law_4 li_L_9 cd_X10_init hl.1 (Nat.le_of_ble_eq_true rfl) ⟨rfl, rfl, Nat.le_of_ble_eq_true rfl, Nat.le_of_ble_eq_true rfl⟩ (Nat.le_of_ble_eq_true rfl) (Nat.le_of_ble_eq_true rfl) hK (had0 q) hP hD hS hA (fun H locs adX hag hP3 hD3 hS3 => ?_)
  have hZX := (had0 q).ad hag
  have hq : adX 0 = q := hag 0 (Or.inl (by decide))
  rw [List.append_nil, z_court0] at hP3 hD3
  subst hq
  refine lv_astore_n (lv' := [(1, .ref (adX 0)), (0, .ref b)]) hx hb dL_law_7 rfl hl (by decide) rfl (fun ls hl => ?_)
  exact wo_2 h_status h_top h_bottom h_tray h_write h_read h_pour h_feed h_court h_terms h_fault h_told h_bed h_weight h_claim h_scholar h_make h_recant h_forget h_walk h_pick h_night h_weed h_teach h_weigh h_think h_rule h_partOf h_couples h_parting h_barren h_most h_first h_fewest h_fewestSet h_deep h_askDeep h_dear h_askDear h_fits h_likely h_oddsThat h_next h_gather h_brisk h_game h_moveOf h_blind h_share h_copyBeds h_live h_lived h_mean h_mark h_undo h9 hz9 hR0 hL C0 (Nat.le_of_ble_eq_true rfl) (Nat.le_of_ble_eq_true rfl) hK hZX had0 hP3 hD3 hS3 hl
