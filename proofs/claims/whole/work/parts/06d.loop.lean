theorem z_le6 {i0 Ln : Nat} {v3 : Int32} (hL : Ln ≤ 3072) (hi : i0 ≤ Ln + 6) (e3 : nI i0 = v3) (h : ¬ Int32.ofNat Ln - 6 < v3) : i0 + 6 ≤ Ln := by
  subst e3
  by_cases h6 : 6 ≤ Ln
  · have e1 : Int32.ofNat Ln - 6 = nI (Ln - 6) := pk_sub (a := Ln) (b := 6) h6
    rw [e1] at h
    by_cases q : Ln - 6 < i0
    · exact absurd (nI_lt (a := Ln - 6) (b := i0) q (by omega)) h
    · omega
  · exfalso
    apply h
    have e1 : Int32.ofNat Ln - 6 < 0 := pk_sneg (a := Ln) (b := 6) (by decide) (by omega)
    have e2 : (0 : Int32) ≤ nI i0 := nI_pos' (by omega)
    exact Int32.lt_of_lt_of_le e1 e2
set_option maxRecDepth 100000 in
set_option maxHeartbeats 4000000 in
theorem w_loop {Rel : z_I → z_L → z_I → z_L → Prop} (h_status : s_status Rel) (h_top : s_top Rel) (h_bottom : s_bottom Rel) (h_tray : s_tray Rel) (h_write : s_write Rel) (h_read : s_read Rel) (h_pour : s_pour Rel) (h_feed : s_feed Rel) (h_court : s_court Rel) (h_terms : s_terms Rel) (h_fault : s_fault Rel) (h_told : s_told Rel) (h_bed : s_bed Rel) (h_weight : s_weight Rel) (h_claim : s_claim Rel) (h_scholar : s_scholar Rel) (h_make : s_make Rel) (h_recant : s_recant Rel) (h_forget : s_forget Rel) (h_walk : s_walk Rel) (h_pick : s_pick Rel) (h_night : s_night Rel) (h_weed : s_weed Rel) (h_teach : s_teach Rel) (h_weigh : s_weigh Rel) (h_think : s_think Rel) (h_rule : s_rule Rel) (h_partOf : s_partOf Rel) (h_couples : s_couples Rel) (h_parting : s_parting Rel) (h_barren : s_barren Rel) (h_most : s_most Rel) (h_first : s_first Rel) (h_fewest : s_fewest Rel) (h_fewestSet : s_fewestSet Rel) (h_deep : s_deep Rel) (h_askDeep : s_askDeep Rel) (h_dear : s_dear Rel) (h_askDear : s_askDear Rel) (h_fits : s_fits Rel) (h_likely : s_likely Rel) (h_oddsThat : s_oddsThat Rel) (h_next : s_next Rel) (h_gather : s_gather Rel) (h_brisk : s_brisk Rel) (h_game : s_game Rel) (h_moveOf : s_moveOf Rel) (h_blind : s_blind Rel) (h_share : s_share Rel) (h_copyBeds : s_copyBeds Rel) (h_live : s_live Rel) (h_lived : s_lived Rel) (h_mean : s_mean Rel) (h_mark : s_mark Rel) (h_undo : s_undo Rel) {b Ln : Nat} {xs : Nat → Int32} (hL : Ln ≤ 3072) : ∀ (n i0 : Nat) (v3 : Int32) (I : z_I) (L : z_L) (J : z_I) (K : z_L), nI i0 = v3 → i0 ≤ Ln + 6 → Ln + 7 ≤ i0 + n → Rel I L J K → z_V b Ln xs 18 [(0, .ref 1), (1, .ref 2), (2, .ref 3), (3, .int v3)] [] I L J K := by
  intro n
  induction n with
  | zero => intro i0 v3 I L J K _ h1 h2; omega
  | succ n ih =>
    intro i0 v3 I L J K e3 hi hn hR
    refine w_iload_n 3 dL_law_18 rfl rfl ?_
    refine w_aload_n 0 dL_law_19 rfl rfl ?_
    refine w_slen dL_law_20 ?_
    refine w_bipush (v := 6) dL_law_21 (by decide) ?_
    refine w_isub dL_law_23 ?_
    refine w_icmp_gt 1848 dL_law_24 (by decide) (fun _ => ?_) (fun hB => ?_)
    · refine w_iconst (v := 1) dL_law_1848 (by decide) ?_
      exact w_ret dL_law_1849
    have h6 : i0 + 6 ≤ Ln := z_le6 hL hi e3 hB
    refine w_aload_n 0 dL_law_27 rfl rfl ?_
    refine w_iload_n 3 dL_law_28 rfl rfl ?_
    obtain ⟨a0, ha0⟩ : ∃ a, xs (v3.toNatClampNeg) = a := ⟨_, rfl⟩
    refine w_sld dL_law_29 (e3 ▸ vp_in_nI (by omega) (by omega)) ha0 ?_
    refine w_bipush (v := 63) dL_law_30 (by decide) ?_
    refine w_iand dL_law_32 ?_
    have nx9 : ∀ (I : z_I) (L : z_L) (J : z_I) (K : z_L), Rel I L J K → z_V b Ln xs 1842 [(0, .ref 1), (1, .ref 2), (2, .ref 3), (3, .int v3)] [] I L J K := by
      intro I L J K hR
      refine w_iinc (v := v3 + 6) 3 [(3, .int (v3 + 6)), (0, .ref 1), (1, .ref 2), (2, .ref 3)] dL_law_1842 rfl rfl (by decide) rfl ?_
      refine w_goto 18 dL_law_1845 (by decide) ?_
      refine w_lv [(0, .ref 1), (1, .ref 2), (2, .ref 3), (3, .int (v3 + 6))] [1, 2, 3, 0] rfl ?_
      exact ih (i0 + 6) (v3 + 6) I L J K (by rw [← e3]; exact (nI_add i0 6).symm) (by omega) (by omega) hR
    by_cases hs0 : (a0 &&& (63 : Int32)) = (0)
    · exact w_tabIn (0) 268 dL_law_33 hs0 (by decide) (by decide) rfl (by decide) (w_status_case h_status hR e3 h6 hL nx9)
    by_cases hs1 : (a0 &&& (63 : Int32)) = (1)
    · exact w_tabIn (1) 281 dL_law_33 hs1 (by decide) (by decide) rfl (by decide) (w_top_case h_top hR e3 h6 hL nx9)
    by_cases hs2 : (a0 &&& (63 : Int32)) = (2)
    · exact w_tabIn (2) 295 dL_law_33 hs2 (by decide) (by decide) rfl (by decide) (w_bottom_case h_bottom hR e3 h6 hL nx9)
    by_cases hs3 : (a0 &&& (63 : Int32)) = (3)
    · exact w_tabIn (3) 309 dL_law_33 hs3 (by decide) (by decide) rfl (by decide) (w_tray_case h_tray hR e3 h6 hL nx9)
    by_cases hs4 : (a0 &&& (63 : Int32)) = (4)
    · exact w_tabIn (4) 352 dL_law_33 hs4 (by decide) (by decide) rfl (by decide) (w_write_case h_write hR e3 h6 hL nx9)
    by_cases hs5 : (a0 &&& (63 : Int32)) = (5)
    · exact w_tabIn (5) 425 dL_law_33 hs5 (by decide) (by decide) rfl (by decide) (w_read_case h_read hR e3 h6 hL nx9)
    by_cases hs6 : (a0 &&& (63 : Int32)) = (6)
    · exact w_tabIn (6) 459 dL_law_33 hs6 (by decide) (by decide) rfl (by decide) (w_pour_case h_pour hR e3 h6 hL nx9)
    by_cases hs7 : (a0 &&& (63 : Int32)) = (7)
    · exact w_tabIn (7) 522 dL_law_33 hs7 (by decide) (by decide) rfl (by decide) (w_feed_case h_feed hR e3 h6 hL nx9)
    by_cases hs8 : (a0 &&& (63 : Int32)) = (8)
    · exact w_tabIn (8) 585 dL_law_33 hs8 (by decide) (by decide) rfl (by decide) (w_court_case h_court hR e3 h6 hL nx9)
    by_cases hs9 : (a0 &&& (63 : Int32)) = (9)
    · exact w_tabIn (9) 608 dL_law_33 hs9 (by decide) (by decide) rfl (by decide) (w_terms_case h_terms hR e3 h6 hL nx9)
    by_cases hs10 : (a0 &&& (63 : Int32)) = (10)
    · exact w_tabIn (10) 631 dL_law_33 hs10 (by decide) (by decide) rfl (by decide) (w_fault_case h_fault hR e3 h6 hL nx9)
    by_cases hs11 : (a0 &&& (63 : Int32)) = (11)
    · exact w_tabIn (11) 654 dL_law_33 hs11 (by decide) (by decide) rfl (by decide) (w_told_case h_told hR e3 h6 hL nx9)
    by_cases hs12 : (a0 &&& (63 : Int32)) = (12)
    · exact w_tabIn (12) 677 dL_law_33 hs12 (by decide) (by decide) rfl (by decide) (w_bed_case h_bed hR e3 h6 hL nx9)
    by_cases hs13 : (a0 &&& (63 : Int32)) = (13)
    · exact w_tabIn (13) 710 dL_law_33 hs13 (by decide) (by decide) rfl (by decide) (w_weight_case h_weight hR e3 h6 hL nx9)
    by_cases hs14 : (a0 &&& (63 : Int32)) = (14)
    · exact w_tabIn (14) 733 dL_law_33 hs14 (by decide) (by decide) rfl (by decide) (w_claim_case h_claim hR e3 h6 hL nx9)
    by_cases hs15 : (a0 &&& (63 : Int32)) = (15)
    · exact w_tabIn (15) 766 dL_law_33 hs15 (by decide) (by decide) rfl (by decide) (w_scholar_case h_scholar hR e3 h6 hL nx9)
    by_cases hs16 : (a0 &&& (63 : Int32)) = (16)
    · exact w_tabIn (16) 799 dL_law_33 hs16 (by decide) (by decide) rfl (by decide) (w_make_case h_make hR e3 h6 hL nx9)
    by_cases hs17 : (a0 &&& (63 : Int32)) = (17)
    · exact w_tabIn (17) 822 dL_law_33 hs17 (by decide) (by decide) rfl (by decide) (w_recant_case h_recant hR e3 h6 hL nx9)
    by_cases hs18 : (a0 &&& (63 : Int32)) = (18)
    · exact w_tabIn (18) 845 dL_law_33 hs18 (by decide) (by decide) rfl (by decide) (w_forget_case h_forget hR e3 h6 hL nx9)
    by_cases hs19 : (a0 &&& (63 : Int32)) = (19)
    · exact w_tabIn (19) 858 dL_law_33 hs19 (by decide) (by decide) rfl (by decide) (w_walk_case h_walk hR e3 h6 hL nx9)
    by_cases hs20 : (a0 &&& (63 : Int32)) = (20)
    · exact w_tabIn (20) 891 dL_law_33 hs20 (by decide) (by decide) rfl (by decide) (w_pick_case h_pick hR e3 h6 hL nx9)
    by_cases hs21 : (a0 &&& (63 : Int32)) = (21)
    · exact w_tabIn (21) 914 dL_law_33 hs21 (by decide) (by decide) rfl (by decide) (w_night_case h_night hR e3 h6 hL nx9)
    by_cases hs22 : (a0 &&& (63 : Int32)) = (22)
    · exact w_tabIn (22) 937 dL_law_33 hs22 (by decide) (by decide) rfl (by decide) (w_weed_case h_weed hR e3 h6 hL nx9)
    by_cases hs23 : (a0 &&& (63 : Int32)) = (23)
    · exact w_tabIn (23) 960 dL_law_33 hs23 (by decide) (by decide) rfl (by decide) (w_teach_case h_teach hR e3 h6 hL nx9)
    by_cases hs24 : (a0 &&& (63 : Int32)) = (24)
    · exact w_tabIn (24) 1019 dL_law_33 hs24 (by decide) (by decide) rfl (by decide) (w_weigh_case h_weigh hR e3 h6 hL nx9)
    by_cases hs25 : (a0 &&& (63 : Int32)) = (25)
    · exact w_tabIn (25) 1052 dL_law_33 hs25 (by decide) (by decide) rfl (by decide) (w_think_case h_think hR e3 h6 hL nx9)
    by_cases hs26 : (a0 &&& (63 : Int32)) = (26)
    · exact w_tabIn (26) 1095 dL_law_33 hs26 (by decide) (by decide) rfl (by decide) (w_rule_case h_rule hR e3 h6 hL nx9)
    by_cases hs27 : (a0 &&& (63 : Int32)) = (27)
    · exact w_tabIn (27) 1118 dL_law_33 hs27 (by decide) (by decide) rfl (by decide) (w_partOf_case h_partOf hR e3 h6 hL nx9)
    by_cases hs28 : (a0 &&& (63 : Int32)) = (28)
    · exact w_tabIn (28) 1141 dL_law_33 hs28 (by decide) (by decide) rfl (by decide) (w_couples_case h_couples hR e3 h6 hL nx9)
    by_cases hs29 : (a0 &&& (63 : Int32)) = (29)
    · exact w_tabIn (29) 1154 dL_law_33 hs29 (by decide) (by decide) rfl (by decide) (w_parting_case h_parting hR e3 h6 hL nx9)
    by_cases hs30 : (a0 &&& (63 : Int32)) = (30)
    · exact w_tabIn (30) 1187 dL_law_33 hs30 (by decide) (by decide) rfl (by decide) (w_barren_case h_barren hR e3 h6 hL nx9)
    by_cases hs31 : (a0 &&& (63 : Int32)) = (31)
    · exact w_tabIn (31) 1200 dL_law_33 hs31 (by decide) (by decide) rfl (by decide) (w_most_case h_most hR e3 h6 hL nx9)
    by_cases hs32 : (a0 &&& (63 : Int32)) = (32)
    · exact w_tabIn (32) 1223 dL_law_33 hs32 (by decide) (by decide) rfl (by decide) (w_first_case h_first hR e3 h6 hL nx9)
    by_cases hs33 : (a0 &&& (63 : Int32)) = (33)
    · exact w_tabIn (33) 1256 dL_law_33 hs33 (by decide) (by decide) rfl (by decide) (w_fewest_case h_fewest hR e3 h6 hL nx9)
    by_cases hs34 : (a0 &&& (63 : Int32)) = (34)
    · exact w_tabIn (34) 1279 dL_law_33 hs34 (by decide) (by decide) rfl (by decide) (w_fewestSet_case h_fewestSet hR e3 h6 hL nx9)
    by_cases hs35 : (a0 &&& (63 : Int32)) = (35)
    · exact w_tabIn (35) 1302 dL_law_33 hs35 (by decide) (by decide) rfl (by decide) (w_deep_case h_deep hR e3 h6 hL nx9)
    by_cases hs36 : (a0 &&& (63 : Int32)) = (36)
    · exact w_tabIn (36) 1325 dL_law_33 hs36 (by decide) (by decide) rfl (by decide) (w_askDeep_case h_askDeep hR e3 h6 hL nx9)
    by_cases hs37 : (a0 &&& (63 : Int32)) = (37)
    · exact w_tabIn (37) 1348 dL_law_33 hs37 (by decide) (by decide) rfl (by decide) (w_dear_case h_dear hR e3 h6 hL nx9)
    by_cases hs38 : (a0 &&& (63 : Int32)) = (38)
    · exact w_tabIn (38) 1371 dL_law_33 hs38 (by decide) (by decide) rfl (by decide) (w_askDear_case h_askDear hR e3 h6 hL nx9)
    by_cases hs39 : (a0 &&& (63 : Int32)) = (39)
    · exact w_tabIn (39) 1394 dL_law_33 hs39 (by decide) (by decide) rfl (by decide) (w_fits_case h_fits hR e3 h6 hL nx9)
    by_cases hs40 : (a0 &&& (63 : Int32)) = (40)
    · exact w_tabIn (40) 1427 dL_law_33 hs40 (by decide) (by decide) rfl (by decide) (w_likely_case h_likely hR e3 h6 hL nx9)
    by_cases hs41 : (a0 &&& (63 : Int32)) = (41)
    · exact w_tabIn (41) 1460 dL_law_33 hs41 (by decide) (by decide) rfl (by decide) (w_oddsThat_case h_oddsThat hR e3 h6 hL nx9)
    by_cases hs42 : (a0 &&& (63 : Int32)) = (42)
    · exact w_tabIn (42) 1503 dL_law_33 hs42 (by decide) (by decide) rfl (by decide) (w_next_case h_next hR e3 h6 hL nx9)
    by_cases hs43 : (a0 &&& (63 : Int32)) = (43)
    · exact w_tabIn (43) 1536 dL_law_33 hs43 (by decide) (by decide) rfl (by decide) (w_gather_case h_gather hR e3 h6 hL nx9)
    by_cases hs44 : (a0 &&& (63 : Int32)) = (44)
    · exact w_tabIn (44) 1569 dL_law_33 hs44 (by decide) (by decide) rfl (by decide) (w_brisk_case h_brisk hR e3 h6 hL nx9)
    by_cases hs45 : (a0 &&& (63 : Int32)) = (45)
    · exact w_tabIn (45) 1602 dL_law_33 hs45 (by decide) (by decide) rfl (by decide) (w_game_case h_game hR e3 h6 hL nx9)
    by_cases hs46 : (a0 &&& (63 : Int32)) = (46)
    · exact w_tabIn (46) 1625 dL_law_33 hs46 (by decide) (by decide) rfl (by decide) (w_moveOf_case h_moveOf hR e3 h6 hL nx9)
    by_cases hs47 : (a0 &&& (63 : Int32)) = (47)
    · exact w_tabIn (47) 1648 dL_law_33 hs47 (by decide) (by decide) rfl (by decide) (w_blind_case h_blind hR e3 h6 hL nx9)
    by_cases hs48 : (a0 &&& (63 : Int32)) = (48)
    · exact w_tabIn (48) 1691 dL_law_33 hs48 (by decide) (by decide) rfl (by decide) (w_share_case h_share hR e3 h6 hL nx9)
    by_cases hs49 : (a0 &&& (63 : Int32)) = (49)
    · exact w_tabIn (49) 1714 dL_law_33 hs49 (by decide) (by decide) rfl (by decide) (w_copyBeds_case h_copyBeds hR e3 h6 hL nx9)
    by_cases hs50 : (a0 &&& (63 : Int32)) = (50)
    · exact w_tabIn (50) 1737 dL_law_33 hs50 (by decide) (by decide) rfl (by decide) (w_live_case h_live hR e3 h6 hL nx9)
    by_cases hs51 : (a0 &&& (63 : Int32)) = (51)
    · exact w_tabIn (51) 1760 dL_law_33 hs51 (by decide) (by decide) rfl (by decide) (w_lived_case h_lived hR e3 h6 hL nx9)
    by_cases hs52 : (a0 &&& (63 : Int32)) = (52)
    · exact w_tabIn (52) 1783 dL_law_33 hs52 (by decide) (by decide) rfl (by decide) (w_mean_case h_mean hR e3 h6 hL nx9)
    by_cases hs53 : (a0 &&& (63 : Int32)) = (53)
    · exact w_tabIn (53) 1816 dL_law_33 hs53 (by decide) (by decide) rfl (by decide) (w_mark_case h_mark hR e3 h6 hL nx9)
    by_cases hs54 : (a0 &&& (63 : Int32)) = (54)
    · exact w_tabIn (54) 1829 dL_law_33 hs54 (by decide) (by decide) rfl (by decide) (w_undo_case h_undo hR e3 h6 hL nx9)
    refine w_tabOut 1842 dL_law_33 (by have := lv_neT (a := 0) hs0 (by decide); have := lv_neT (a := 1) hs1 (by decide); have := lv_neT (a := 2) hs2 (by decide); have := lv_neT (a := 3) hs3 (by decide); have := lv_neT (a := 4) hs4 (by decide); have := lv_neT (a := 5) hs5 (by decide); have := lv_neT (a := 6) hs6 (by decide); have := lv_neT (a := 7) hs7 (by decide); have := lv_neT (a := 8) hs8 (by decide); have := lv_neT (a := 9) hs9 (by decide); have := lv_neT (a := 10) hs10 (by decide); have := lv_neT (a := 11) hs11 (by decide); have := lv_neT (a := 12) hs12 (by decide); have := lv_neT (a := 13) hs13 (by decide); have := lv_neT (a := 14) hs14 (by decide); have := lv_neT (a := 15) hs15 (by decide); have := lv_neT (a := 16) hs16 (by decide); have := lv_neT (a := 17) hs17 (by decide); have := lv_neT (a := 18) hs18 (by decide); have := lv_neT (a := 19) hs19 (by decide); have := lv_neT (a := 20) hs20 (by decide); have := lv_neT (a := 21) hs21 (by decide); have := lv_neT (a := 22) hs22 (by decide); have := lv_neT (a := 23) hs23 (by decide); have := lv_neT (a := 24) hs24 (by decide); have := lv_neT (a := 25) hs25 (by decide); have := lv_neT (a := 26) hs26 (by decide); have := lv_neT (a := 27) hs27 (by decide); have := lv_neT (a := 28) hs28 (by decide); have := lv_neT (a := 29) hs29 (by decide); have := lv_neT (a := 30) hs30 (by decide); have := lv_neT (a := 31) hs31 (by decide); have := lv_neT (a := 32) hs32 (by decide); have := lv_neT (a := 33) hs33 (by decide); have := lv_neT (a := 34) hs34 (by decide); have := lv_neT (a := 35) hs35 (by decide); have := lv_neT (a := 36) hs36 (by decide); have := lv_neT (a := 37) hs37 (by decide); have := lv_neT (a := 38) hs38 (by decide); have := lv_neT (a := 39) hs39 (by decide); have := lv_neT (a := 40) hs40 (by decide); have := lv_neT (a := 41) hs41 (by decide); have := lv_neT (a := 42) hs42 (by decide); have := lv_neT (a := 43) hs43 (by decide); have := lv_neT (a := 44) hs44 (by decide); have := lv_neT (a := 45) hs45 (by decide); have := lv_neT (a := 46) hs46 (by decide); have := lv_neT (a := 47) hs47 (by decide); have := lv_neT (a := 48) hs48 (by decide); have := lv_neT (a := 49) hs49 (by decide); have := lv_neT (a := 50) hs50 (by decide); have := lv_neT (a := 51) hs51 (by decide); have := lv_neT (a := 52) hs52 (by decide); have := lv_neT (a := 53) hs53 (by decide); have := lv_neT (a := 54) hs54 (by decide); omega) (by decide) ?_
    exact nx9 _ _ _ _ hR
