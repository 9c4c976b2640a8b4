set_option maxHeartbeats 4000000 in
set_option maxRecDepth 100000 in
theorem kX1_day (l : Launch) (G_w : va_G) (a_w : Nat → Nat) (cI cZ : ClassId) (g_w : Nat → Int32) (f_w : Nat → Nat → Int32) (cd : Nat → Int32) (tc_w : Int32) : rdr l yX1_day wsX1_day { frames := 0, cells := 0, slots := 0, locals := 0 } G_w (wD a_w cI cZ g_w f_w cd tc_w) (tyIZ cI cZ) [.ref (a_w 0)] (fun r_w => r_w = g_w 0) := by
  refine rdr_of (cc := cX1_day) (nL := 1) (ty := .int) (by decide) rfl (Nat.le_of_ble_eq_true rfl) ?_
  intro p_w e_w s_w m_w args_w below meth_w c_w H ls Q hx hb_w hml hown hts hP hK_w hret hl
  have hl : lv_has ls 1 [(0, .ref (a_w 0))] := hl
  have hinX1 : ∀ w_w ∈ wsX10, w_w ∈ wsX1_day := by decide +kernel
  refine lv_aload_n hx hb_w dX1_day_0 rfl (lv_at hl 0 rfl) ?_
  refine dget (index := 74) (v := .int (g_w 0)) hx hb_w hts hinX1 hown hK_w hP 3 (by decide) (List.mem_of_getElem? (i := 1) rfl) rfl dX1_day_1 ?_
  exact hret (g_w 0) _ _ dX1_day_4 rfl rfl
set_option maxHeartbeats 4000000 in
set_option maxRecDepth 100000 in
theorem kX1_foretold (l : Launch) (G_w : va_G) (a_w : Nat → Nat) (cI cZ : ClassId) (g_w : Nat → Int32) (f_w : Nat → Nat → Int32) (cd : Nat → Int32) (tc_w : Int32) : rdr l yX1_foretold wsX1_foretold { frames := 0, cells := 0, slots := 0, locals := 0 } G_w (wD a_w cI cZ g_w f_w cd tc_w) (tyIZ cI cZ) [.ref (a_w 0)] (fun r_w => r_w = g_w 7) := by
  refine rdr_of (cc := cX1_foretold) (nL := 1) (ty := .int) (by decide) rfl (Nat.le_of_ble_eq_true rfl) ?_
  intro p_w e_w s_w m_w args_w below meth_w c_w H ls Q hx hb_w hml hown hts hP hK_w hret hl
  have hl : lv_has ls 1 [(0, .ref (a_w 0))] := hl
  have hinX1 : ∀ w_w ∈ wsX10, w_w ∈ wsX1_foretold := by decide +kernel
  refine lv_aload_n hx hb_w dX1_foretold_0 rfl (lv_at hl 0 rfl) ?_
  refine dget (index := 40) (v := .int (g_w 7)) hx hb_w hts hinX1 hown hK_w hP 4 (by decide) (List.mem_of_getElem? (i := 1) rfl) rfl dX1_foretold_1 ?_
  exact hret (g_w 7) _ _ dX1_foretold_4 rfl rfl
set_option maxHeartbeats 4000000 in
set_option maxRecDepth 100000 in
theorem kX1_shift (l : Launch) (G_w : va_G) (a_w : Nat → Nat) (cI cZ : ClassId) (g_w : Nat → Int32) (f_w : Nat → Nat → Int32) (cd : Nat → Int32) (tc_w : Int32) : rdr l yX1_shift wsX1_shift { frames := 0, cells := 0, slots := 0, locals := 0 } G_w (wD a_w cI cZ g_w f_w cd tc_w) (tyIZ cI cZ) [.ref (a_w 0)] (fun r_w => r_w = g_w 8) := by
  refine rdr_of (cc := cX1_shift) (nL := 1) (ty := .int) (by decide) rfl (Nat.le_of_ble_eq_true rfl) ?_
  intro p_w e_w s_w m_w args_w below meth_w c_w H ls Q hx hb_w hml hown hts hP hK_w hret hl
  have hl : lv_has ls 1 [(0, .ref (a_w 0))] := hl
  have hinX1 : ∀ w_w ∈ wsX10, w_w ∈ wsX1_shift := by decide +kernel
  refine lv_aload_n hx hb_w dX1_shift_0 rfl (lv_at hl 0 rfl) ?_
  refine dget (index := 123) (v := .int (g_w 8)) hx hb_w hts hinX1 hown hK_w hP 5 (by decide) (List.mem_of_getElem? (i := 1) rfl) rfl dX1_shift_1 ?_
  exact hret (g_w 8) _ _ dX1_shift_4 rfl rfl
set_option maxHeartbeats 4000000 in
set_option maxRecDepth 100000 in
theorem kX1_setPattern (l : Launch) (hst : l.stackTraces = false) (G_w : va_G) (a_w : Nat → Nat) (cI cZ : ClassId) (g_w : Nat → Int32) (f_w : Nat → Nat → Int32) (cd : Nat → Int32) (tc_w : Int32) (hap : apart a_w 7) (sz_w : Nat) (p0_w p1_w p2_w p3_w : Int32) (ct : Nat) (hc_w : ct ≤ 512) (hI : Inv ct g_w f_w) (hp2 : p2_w = 0 ∨ p2_w = 1): thv l yX1_setPattern wsX1_setPattern { frames := 6, cells := 1, slots := 6, locals := 108 } G_w (wD a_w cI cZ g_w f_w cd tc_w) (tyIZ cI cZ) (aS a_w 7 sz_w) sz_w [.ref (a_w 0), .int p0_w, .int p1_w, .int p2_w, .int p3_w] (fun u_w => u_w = ((lkS (gSP g_w p0_w p1_w p2_w p3_w) f_w).1, (lkS (gSP g_w p0_w p1_w p2_w p3_w) f_w).2, cd, tc_w) ∧ okSP p0_w p1_w p3_w = true) (wfD a_w cI cZ) (fun E_w => E_w = xA ∧ okSP p0_w p1_w p3_w = false) := by
  refine thv_of (cc := cX1_setPattern) (nL := 5) hst ⟨by decide, by decide, by decide, by decide⟩ rfl (Nat.le_of_ble_eq_true rfl) ?_
  intro p_w e_w s_w m_w args_w below meth_w c_w H locs_w ls Q hx hb_w hml hown hts hP hK_w hS_w hret hthr hl
  have hl : lv_has ls 5 [(0, .ref (a_w 0)), (1, .int p0_w), (2, .int p1_w), (3, .int p2_w), (4, .int p3_w)] := hl
  have hinX1 : ∀ w_w ∈ wsX10, w_w ∈ wsX1_setPattern := by decide +kernel
  refine lv_iload_n hx hb_w dX1_setPattern_0 rfl (lv_at hl 1 rfl) ?_
  refine lv_iconst (v := 1) hx hb_w dX1_setPattern_1 (by decide) ?_
  refine lv_bipush (v := 90) hx hb_w dX1_setPattern_2 (by decide) ?_
  refine rdr_S (As := [.int p0_w, .int 1, .int 90]) (rest := []) ⟨hx, hb_w, hml, hown, hts⟩ (kX1_isWithin l G_w _ _ p0_w 1 90 ) (va_cwS 3 hts gX1_setPattern_X1_isWithin rfl rfl rfl (by decide +kernel) ⟨Nat.le_of_ble_eq_true rfl, Nat.le_of_ble_eq_true rfl⟩)  hP hK_w rfl hl.1 rfl (Nat.le_of_ble_eq_true rfl) dX1_setPattern_4 (by decide) (fun r4 h4 => ?_)
  replace h4 : r4 = bI (isW p0_w 1 90) := h4
  subst h4
  refine lv_if_ne (tgt := 20) hx hb_w dX1_setPattern_7 (by decide) (fun c7_w => ?_) (fun c7_w => ?_)
  · replace c7_w := bIn c7_w
    refine lv_iload_n hx hb_w dX1_setPattern_20 rfl (lv_at hl 2 rfl) ?_
    refine lv_iconst (v := 1) hx hb_w dX1_setPattern_21 (by decide) ?_
    refine lv_bipush (v := 20) hx hb_w dX1_setPattern_22 (by decide) ?_
    refine rdr_S (As := [.int p1_w, .int 1, .int 20]) (rest := []) ⟨hx, hb_w, hml, hown, hts⟩ (kX1_isWithin l G_w _ _ p1_w 1 20 ) (va_cwS 3 hts gX1_setPattern_X1_isWithin rfl rfl rfl (by decide +kernel) ⟨Nat.le_of_ble_eq_true rfl, Nat.le_of_ble_eq_true rfl⟩)  hP hK_w rfl hl.1 rfl (Nat.le_of_ble_eq_true rfl) dX1_setPattern_24 (by decide) (fun r24 h24 => ?_)
    replace h24 : r24 = bI (isW p1_w 1 20) := h24
    subst h24
    refine lv_if_ne (tgt := 40) hx hb_w dX1_setPattern_27 (by decide) (fun c27_w => ?_) (fun c27_w => ?_)
    · replace c27_w := bIn c27_w
      refine lv_iload hx hb_w dX1_setPattern_40 (lv_at hl 4 rfl) ?_
      refine lv_iconst (v := 0) hx hb_w dX1_setPattern_42 (by decide) ?_
      refine lv_sipush (v := 4094) hx hb_w dX1_setPattern_43 (by decide) ?_
      refine rdr_S (As := [.int p3_w, .int 0, .int 4094]) (rest := []) ⟨hx, hb_w, hml, hown, hts⟩ (kX1_isWithin l G_w _ _ p3_w 0 4094 ) (va_cwS 3 hts gX1_setPattern_X1_isWithin rfl rfl rfl (by decide +kernel) ⟨Nat.le_of_ble_eq_true rfl, Nat.le_of_ble_eq_true rfl⟩)  hP hK_w rfl hl.1 rfl (Nat.le_of_ble_eq_true rfl) dX1_setPattern_46 (by decide) (fun r46 h46 => ?_)
      replace h46 : r46 = bI (isW p3_w 0 4094) := h46
      subst h46
      refine lv_if_ne (tgt := 62) hx hb_w dX1_setPattern_49 (by decide) (fun c49 => ?_) (fun c49 => ?_)
      · replace c49 := bIn c49
        have hok : okSP p0_w p1_w p3_w = true := by unfold okSP; rw [c7_w, c27_w, c49]; rfl
        refine lv_aload_n hx hb_w dX1_setPattern_62 rfl (lv_at hl 0 rfl) ?_
        refine dget (index := 10) (v := .ref (a_w 1)) hx hb_w hts hinX1 hown hK_w hP 0 (by decide) (List.mem_of_getElem? (i := 3) rfl) rfl dX1_setPattern_63 ?_
        refine lv_iload_n hx hb_w dX1_setPattern_66 rfl (lv_at hl 1 rfl) ?_
        refine lv_iload_n hx hb_w dX1_setPattern_67 rfl (lv_at hl 2 rfl) ?_
        refine lv_iload_n hx hb_w dX1_setPattern_68 rfl (lv_at hl 3 rfl) ?_
        refine lv_iload hx hb_w dX1_setPattern_69 (lv_at hl 4 rfl) ?_
        refine wrv_V (As := [.int p0_w, .int p1_w, .int p2_w, .int p3_w]) (rest := []) ⟨hx, hb_w, hml, hown, hts⟩ (kX0_change l G_w a_w cI cZ g_w f_w cd tc_w hap _ p0_w p1_w p2_w p3_w hp2) (cwV 4 hts gX1_setPattern_X0_change rfl rfl rfl (by decide +kernel) ⟨Nat.le_of_ble_eq_true rfl, Nat.le_of_ble_eq_true rfl⟩) (va_recv hK_w hP (ci := 0) (q0 := 1) rfl rfl) hP hK_w hS_w rfl hl.1 rfl (Nat.le_of_ble_eq_true rfl) dX1_setPattern_71 (by decide) (fun u71 H locs_w h71 hP hS_w => ?_)
        subst h71
        have hP : va_P G_w vwCl (wD a_w cI cZ (gSP g_w p0_w p1_w p2_w p3_w) f_w cd tc_w) H := hP
        refine lv_aload_n hx hb_w dX1_setPattern_74 rfl (lv_at hl 0 rfl) ?_
        refine wrv_V (As := []) (rest := []) ⟨hx, hb_w, hml, hown, hts⟩ (kX1_foretellDueIssues l G_w a_w cI cZ (gSP g_w p0_w p1_w p2_w p3_w) f_w cd tc_w hap _  ct hc_w (inv_SP hI hok hp2)) (cwV 0 hts gX1_setPattern_X1_foretellDueIssues rfl rfl rfl (by decide +kernel) ⟨Nat.le_of_ble_eq_true rfl, Nat.le_of_ble_eq_true rfl⟩) (va_recv hK_w hP (ci := 1) (q0 := 0) rfl rfl) hP hK_w hS_w rfl hl.1 rfl (Nat.le_of_ble_eq_true rfl) dX1_setPattern_75 (by decide) (fun u75 H locs_w h75 hP hS_w => ?_)
        subst h75
        have hP : va_P G_w vwCl (wD a_w cI cZ (lkS (gSP g_w p0_w p1_w p2_w p3_w) f_w).1 (lkS (gSP g_w p0_w p1_w p2_w p3_w) f_w).2 cd tc_w) H := hP
        exact hret ((lkS (gSP g_w p0_w p1_w p2_w p3_w) f_w).1, (lkS (gSP g_w p0_w p1_w p2_w p3_w) f_w).2, cd, tc_w) _ _ _ _ dX1_setPattern_78 hP hS_w ⟨rfl, hok⟩
      replace c49 := bI0 c49
      exact hthr (xA, 50, 54) "the skipped months are not 0 to 4094" 59 _ _ _ _ hP hS_w hl.1 (by decide) ⟨rfl, by simp [okSP, c7_w, c27_w, c49]⟩ (by decide) (List.mem_of_getElem? (i := 1) rfl) (List.mem_of_getElem? (i := 2) rfl) (fun w_w h_w => List.mem_cons_of_mem _ (List.mem_append_right _ h_w)) dX1_setPattern_52 dX1_setPattern_55 dX1_setPattern_56 dX1_setPattern_58 dX1_setPattern_61
    replace c27_w := bI0 c27_w
    exact hthr (xA, 50, 54) "the size is not 1 to 20" 57 _ _ _ _ hP hS_w hl.1 (by decide) ⟨rfl, by simp [okSP, c7_w, c27_w]⟩ (by decide) (List.mem_of_getElem? (i := 1) rfl) (List.mem_of_getElem? (i := 2) rfl) (fun w_w h_w => List.mem_cons_of_mem _ (List.mem_append_right _ h_w)) dX1_setPattern_30 dX1_setPattern_33 dX1_setPattern_34 dX1_setPattern_36 dX1_setPattern_39
  replace c7_w := bI0 c7_w
  exact hthr (xA, 50, 54) "the gap is not 1 to 90" 52 _ _ _ _ hP hS_w hl.1 (by decide) ⟨rfl, by simp [okSP, c7_w]⟩ (by decide) (List.mem_of_getElem? (i := 1) rfl) (List.mem_of_getElem? (i := 2) rfl) (fun w_w h_w => List.mem_cons_of_mem _ (List.mem_append_right _ h_w)) dX1_setPattern_10 dX1_setPattern_13 dX1_setPattern_14 dX1_setPattern_16 dX1_setPattern_19
set_option maxHeartbeats 4000000 in
set_option maxRecDepth 100000 in
theorem kX1_setClaims (l : Launch) (hst : l.stackTraces = false) (G_w : va_G) (a_w : Nat → Nat) (cI cZ : ClassId) (g_w : Nat → Int32) (f_w : Nat → Nat → Int32) (cd : Nat → Int32) (tc_w : Int32) (hap : apart a_w 7) (sz_w : Nat) (p0_w p1_w : Int32): thv l yX1_setClaims wsX1_setClaims { frames := 6, cells := 1, slots := 6, locals := 90 } G_w (wD a_w cI cZ g_w f_w cd tc_w) (tyIZ cI cZ) (aS a_w 7 sz_w) sz_w [.ref (a_w 0), .int p0_w, .int p1_w] (fun u_w => u_w = (upd (upd g_w 5 p0_w) 6 p1_w, f_w, cd, tc_w) ∧ okSC p0_w p1_w = true) (wfD a_w cI cZ) (fun E_w => E_w = xA ∧ okSC p0_w p1_w = false) := by
  refine thv_of (cc := cX1_setClaims) (nL := 3) hst ⟨by decide, by decide, by decide, by decide⟩ rfl (Nat.le_of_ble_eq_true rfl) ?_
  intro p_w e_w s_w m_w args_w below meth_w c_w H locs_w ls Q hx hb_w hml hown hts hP hK_w hS_w hret hthr hl
  have hl : lv_has ls 3 [(0, .ref (a_w 0)), (1, .int p0_w), (2, .int p1_w)] := hl
  have hinX1 : ∀ w_w ∈ wsX10, w_w ∈ wsX1_setClaims := by decide +kernel
  refine lv_iload_n hx hb_w dX1_setClaims_0 rfl (lv_at hl 1 rfl) ?_
  refine lv_iconst (v := 0) hx hb_w dX1_setClaims_1 (by decide) ?_
  refine lv_bipush (v := 100) hx hb_w dX1_setClaims_2 (by decide) ?_
  refine rdr_S (As := [.int p0_w, .int 0, .int 100]) (rest := []) ⟨hx, hb_w, hml, hown, hts⟩ (kX1_isWithin l G_w _ _ p0_w 0 100 ) (va_cwS 3 hts gX1_setClaims_X1_isWithin rfl rfl rfl (by decide +kernel) ⟨Nat.le_of_ble_eq_true rfl, Nat.le_of_ble_eq_true rfl⟩)  hP hK_w rfl hl.1 rfl (Nat.le_of_ble_eq_true rfl) dX1_setClaims_4 (by decide) (fun r4 h4 => ?_)
  replace h4 : r4 = bI (isW p0_w 0 100) := h4
  subst h4
  refine lv_if_ne (tgt := 20) hx hb_w dX1_setClaims_7 (by decide) (fun c7_w => ?_) (fun c7_w => ?_)
  · replace c7_w := bIn c7_w
    refine lv_iload_n hx hb_w dX1_setClaims_20 rfl (lv_at hl 2 rfl) ?_
    refine lv_iconst (v := 1) hx hb_w dX1_setClaims_21 (by decide) ?_
    refine lv_bipush (v := 100) hx hb_w dX1_setClaims_22 (by decide) ?_
    refine rdr_S (As := [.int p1_w, .int 1, .int 100]) (rest := []) ⟨hx, hb_w, hml, hown, hts⟩ (kX1_isWithin l G_w _ _ p1_w 1 100 ) (va_cwS 3 hts gX1_setClaims_X1_isWithin rfl rfl rfl (by decide +kernel) ⟨Nat.le_of_ble_eq_true rfl, Nat.le_of_ble_eq_true rfl⟩)  hP hK_w rfl hl.1 rfl (Nat.le_of_ble_eq_true rfl) dX1_setClaims_24 (by decide) (fun r24 h24 => ?_)
    replace h24 : r24 = bI (isW p1_w 1 100) := h24
    subst h24
    refine lv_if_ne (tgt := 40) hx hb_w dX1_setClaims_27 (by decide) (fun c27_w => ?_) (fun c27_w => ?_)
    · replace c27_w := bIn c27_w
      refine lv_aload_n hx hb_w dX1_setClaims_40 rfl (lv_at hl 0 rfl) ?_
      refine lv_iload_n hx hb_w dX1_setClaims_41 rfl (lv_at hl 1 rfl) ?_
      refine dput (index := 16) (v := .int p0_w) (upd g_w 5 p0_w) tc_w hx hb_w hts hinX1 hown hK_w hP hap hS_w 1 (by decide) (List.mem_of_getElem? (i := 3) rfl) rfl rfl rfl rfl rfl dX1_setClaims_42 (fun H locs_w hP hS_w => ?_)
      refine lv_aload_n hx hb_w dX1_setClaims_45 rfl (lv_at hl 0 rfl) ?_
      refine lv_iload_n hx hb_w dX1_setClaims_46 rfl (lv_at hl 2 rfl) ?_
      refine dput (index := 20) (v := .int p1_w) (upd (upd g_w 5 p0_w) 6 p1_w) tc_w hx hb_w hts hinX1 hown hK_w hP hap hS_w 2 (by decide) (List.mem_of_getElem? (i := 4) rfl) rfl rfl rfl rfl rfl dX1_setClaims_47 (fun H locs_w hP hS_w => ?_)
      exact hret ((upd (upd g_w 5 p0_w) 6 p1_w), f_w, cd, tc_w) _ _ _ _ dX1_setClaims_50 hP hS_w ⟨rfl, by unfold okSC; rw [c7_w, c27_w]; rfl⟩
    replace c27_w := bI0 c27_w
    exact hthr (xA, 50, 54) "the pause is not 1 to 100" 70 _ _ _ _ hP hS_w hl.1 (by decide) ⟨rfl, by simp [okSC, c7_w, c27_w]⟩ (by decide) (List.mem_of_getElem? (i := 1) rfl) (List.mem_of_getElem? (i := 2) rfl) (fun w_w h_w => List.mem_cons_of_mem _ (List.mem_append_right _ h_w)) dX1_setClaims_30 dX1_setClaims_33 dX1_setClaims_34 dX1_setClaims_36 dX1_setClaims_39
  replace c7_w := bI0 c7_w
  exact hthr (xA, 50, 54) "the grace is not 0 to 100" 68 _ _ _ _ hP hS_w hl.1 (by decide) ⟨rfl, by simp [okSC, c7_w]⟩ (by decide) (List.mem_of_getElem? (i := 1) rfl) (List.mem_of_getElem? (i := 2) rfl) (fun w_w h_w => List.mem_cons_of_mem _ (List.mem_append_right _ h_w)) dX1_setClaims_10 dX1_setClaims_13 dX1_setClaims_14 dX1_setClaims_16 dX1_setClaims_19
set_option maxHeartbeats 4000000 in
set_option maxRecDepth 100000 in
theorem kX1_advance (l : Launch) (hst : l.stackTraces = false) (G_w : va_G) (a_w : Nat → Nat) (cI cZ : ClassId) (g_w : Nat → Int32) (f_w : Nat → Nat → Int32) (cd : Nat → Int32) (tc_w : Int32) (hap : apart a_w 7) (sz_w : Nat) (p0_w : Int32) (ct : Nat) (hc_w : ct ≤ 512) (hI : Inv ct g_w f_w): thi l yX1_advance wsX1_advance { frames := 6, cells := 1, slots := 6, locals := 108 } G_w (wD a_w cI cZ g_w f_w cd tc_w) (tyIZ cI cZ) (aS a_w 7 sz_w) sz_w [.ref (a_w 0), .int p0_w] (fun r_w u_w => r_w = (lkS (upd g_w 0 (g_w 0 + p0_w)) f_w).1 0 ∧ u_w = ((lkS (upd g_w 0 (g_w 0 + p0_w)) f_w).1, (lkS (upd g_w 0 (g_w 0 + p0_w)) f_w).2, cd, tc_w) ∧ thA g_w p0_w = 0) (wfD a_w cI cZ) (fun E_w => (E_w = xA ∧ thA g_w p0_w = 1) ∨ (E_w = xS ∧ thA g_w p0_w = 2)) := by
  refine thi_of (cc := cX1_advance) (nL := 2) (ty := .int) hst ⟨by decide, by decide, by decide, by decide⟩ rfl (Nat.le_of_ble_eq_true rfl) ?_
  intro p_w e_w s_w m_w args_w below meth_w c_w H locs_w ls Q hx hb_w hml hown hts hP hK_w hS_w hret hthr hl
  have hl : lv_has ls 2 [(0, .ref (a_w 0)), (1, .int p0_w)] := hl
  have hinX1 : ∀ w_w ∈ wsX10, w_w ∈ wsX1_advance := by decide +kernel
  refine lv_iload_n hx hb_w dX1_advance_0 rfl (lv_at hl 1 rfl) ?_
  refine lv_iconst (v := 1) hx hb_w dX1_advance_1 (by decide) ?_
  refine lv_sipush (v := 400) hx hb_w dX1_advance_2 (by decide) ?_
  refine rdr_S (As := [.int p0_w, .int 1, .int 400]) (rest := []) ⟨hx, hb_w, hml, hown, hts⟩ (kX1_isWithin l G_w _ _ p0_w 1 400 ) (va_cwS 3 hts gX1_advance_X1_isWithin rfl rfl rfl (by decide +kernel) ⟨Nat.le_of_ble_eq_true rfl, Nat.le_of_ble_eq_true rfl⟩)  hP hK_w rfl hl.1 rfl (Nat.le_of_ble_eq_true rfl) dX1_advance_5 (by decide) (fun r5_w h5 => ?_)
  replace h5 : r5_w = bI (isW p0_w 1 400) := h5
  subst h5
  refine lv_if_ne (tgt := 21) hx hb_w dX1_advance_8 (by decide) (fun c8_w => ?_) (fun c8_w => ?_)
  · replace c8_w := bIn c8_w
    refine lv_aload_n hx hb_w dX1_advance_21 rfl (lv_at hl 0 rfl) ?_
    refine dget (index := 74) (v := .int (g_w 0)) hx hb_w hts hinX1 hown hK_w hP 3 (by decide) (List.mem_of_getElem? (i := 5) rfl) rfl dX1_advance_22 ?_
    refine lv_iload_n hx hb_w dX1_advance_25 rfl (lv_at hl 1 rfl) ?_
    refine lv_iadd hx hb_w dX1_advance_26 ?_
    refine lv_sipush (v := 7200) hx hb_w dX1_advance_27 (by decide) ?_
    refine lv_icmp_le (tgt := 43) hx hb_w dX1_advance_30 (by decide) (fun c30_w => ?_) (fun c30_w => ?_)
    · refine lv_aload_n hx hb_w dX1_advance_43 rfl (lv_at hl 0 rfl) ?_
      refine lv_dup hx hb_w dX1_advance_44 rfl ?_
      refine dget (index := 74) (v := .int (g_w 0)) hx hb_w hts hinX1 hown hK_w hP 3 (by decide) (List.mem_of_getElem? (i := 5) rfl) rfl dX1_advance_45 ?_
      refine lv_iload_n hx hb_w dX1_advance_48 rfl (lv_at hl 1 rfl) ?_
      refine lv_iadd hx hb_w dX1_advance_49 ?_
      refine dput (index := 74) (v := .int ((g_w 0) + p0_w)) (upd g_w 0 ((g_w 0) + p0_w)) tc_w hx hb_w hts hinX1 hown hK_w hP hap hS_w 3 (by decide) (List.mem_of_getElem? (i := 5) rfl) rfl rfl rfl rfl rfl dX1_advance_50 (fun H locs_w hP hS_w => ?_)
      refine lv_aload_n hx hb_w dX1_advance_53 rfl (lv_at hl 0 rfl) ?_
      refine wrv_V (As := []) (rest := []) ⟨hx, hb_w, hml, hown, hts⟩ (kX1_foretellDueIssues l G_w a_w cI cZ (upd g_w 0 ((g_w 0) + p0_w)) f_w cd tc_w hap _  ct hc_w (inv_A hI c8_w (Int32.not_lt.mpr c30_w))) (cwV 0 hts gX1_advance_X1_foretellDueIssues rfl rfl rfl (by decide +kernel) ⟨Nat.le_of_ble_eq_true rfl, Nat.le_of_ble_eq_true rfl⟩) (va_recv hK_w hP (ci := 1) (q0 := 0) rfl rfl) hP hK_w hS_w rfl hl.1 rfl (Nat.le_of_ble_eq_true rfl) dX1_advance_54 (by decide) (fun u54 H locs_w h54 hP hS_w => ?_)
      subst h54
      have hP : va_P G_w vwCl (wD a_w cI cZ (lkS (upd g_w 0 (g_w 0 + p0_w)) f_w).1 (lkS (upd g_w 0 (g_w 0 + p0_w)) f_w).2 cd tc_w) H := hP
      refine lv_aload_n hx hb_w dX1_advance_57 rfl (lv_at hl 0 rfl) ?_
      refine dget (index := 74) (v := .int ((lkS (upd g_w 0 (g_w 0 + p0_w)) f_w).1 0)) hx hb_w hts hinX1 hown hK_w hP 3 (by decide) (List.mem_of_getElem? (i := 5) rfl) rfl dX1_advance_58 ?_
      exact hret ((lkS (upd g_w 0 (g_w 0 + p0_w)) f_w).1 0) ((lkS (upd g_w 0 (g_w 0 + p0_w)) f_w).1, (lkS (upd g_w 0 (g_w 0 + p0_w)) f_w).2, cd, tc_w) _ _ _ _ dX1_advance_61 rfl hP hS_w ⟨rfl, rfl, by unfold thA; rw [if_neg (by rw [c8_w]; decide), if_neg (Int32.not_lt.mpr c30_w)]⟩
    exact hthr (xS, 77, 81) "the day would be above 7200" 79 _ _ _ _ hP hS_w hl.1 (by decide) (Or.inr ⟨rfl, by unfold thA; rw [if_neg (by rw [c8_w]; decide), if_pos (Int32.not_le.mp c30_w)]⟩) (by decide) (List.mem_of_getElem? (i := 3) rfl) (List.mem_of_getElem? (i := 4) rfl) (fun w_w h_w => List.mem_cons_of_mem _ (List.mem_append_right _ h_w)) dX1_advance_33 dX1_advance_36 dX1_advance_37 dX1_advance_39 dX1_advance_42
  replace c8_w := bI0 c8_w
  exact hthr (xA, 50, 54) "the days are not 1 to 400" 72 _ _ _ _ hP hS_w hl.1 (by decide) (Or.inl ⟨rfl, by unfold thA; rw [if_pos c8_w]⟩) (by decide) (List.mem_of_getElem? (i := 1) rfl) (List.mem_of_getElem? (i := 2) rfl) (fun w_w h_w => List.mem_cons_of_mem _ (List.mem_append_left _ (List.mem_append_right _ h_w))) dX1_advance_11 dX1_advance_14 dX1_advance_15 dX1_advance_17 dX1_advance_20
set_option maxHeartbeats 4000000 in
set_option maxRecDepth 100000 in
theorem kX1_checkIn (l : Launch) (hst : l.stackTraces = false) (G_w : va_G) (a_w : Nat → Nat) (cI cZ : ClassId) (g_w : Nat → Int32) (f_w : Nat → Nat → Int32) (cd : Nat → Int32) (tc_w : Int32) (hap : apart a_w 7) (sz_w : Nat) (p0_w p1_w : Int32) (ct : Nat) (hc_w : ct < 512) (hI : Inv ct g_w f_w): thi l yX1_checkIn wsX1_checkIn { frames := 6, cells := 1, slots := 6, locals := 109 } G_w (wD a_w cI cZ g_w f_w cd tc_w) (tyIZ cI cZ) (aS a_w 7 sz_w) sz_w [.ref (a_w 0), .int p0_w, .int p1_w] (fun r_w u_w => r_w = (ciS g_w f_w p0_w.toNatClampNeg p1_w.toNatClampNeg).1 7 ∧ u_w = ((ciS g_w f_w p0_w.toNatClampNeg p1_w.toNatClampNeg).1, (ciS g_w f_w p0_w.toNatClampNeg p1_w.toNatClampNeg).2, cd, tc_w) ∧ thC g_w f_w p0_w p1_w = 0) (wfD a_w cI cZ) (fun E_w => (E_w = xI ∧ thC g_w f_w p0_w p1_w = 1) ∨ (E_w = xA ∧ thC g_w f_w p0_w p1_w = 2) ∨ (E_w = xS ∧ thC g_w f_w p0_w p1_w = 3)) := by
  refine thi_of (cc := cX1_checkIn) (nL := 4) (ty := .int) hst ⟨by decide, by decide, by decide, by decide⟩ rfl (Nat.le_of_ble_eq_true rfl) ?_
  intro p_w e_w s_w m_w args_w below meth_w c_w H locs_w ls Q hx hb_w hml hown hts hP hK_w hS_w hret hthr hl
  have hl : lv_has ls 4 [(0, .ref (a_w 0)), (1, .int p0_w), (2, .int p1_w)] := hl
  have hinX1 : ∀ w_w ∈ wsX10, w_w ∈ wsX1_checkIn := by decide +kernel
  refine lv_iload_n hx hb_w dX1_checkIn_0 rfl (lv_at hl 1 rfl) ?_
  refine rdr_S (As := [.int p0_w]) (rest := []) ⟨hx, hb_w, hml, hown, hts⟩ (kX1_isIssue l G_w _ _ p0_w ) (va_cwS 1 hts gX1_checkIn_X1_isIssue rfl rfl rfl (by decide +kernel) ⟨Nat.le_of_ble_eq_true rfl, Nat.le_of_ble_eq_true rfl⟩)  hP hK_w rfl hl.1 rfl (Nat.le_of_ble_eq_true rfl) dX1_checkIn_1 (by decide) (fun r1_w h1 => ?_)
  replace h1 : r1_w = bI (isI p0_w) := h1
  subst h1
  refine lv_if_ne (tgt := 17) hx hb_w dX1_checkIn_4 (by decide) (fun c4_w => ?_) (fun c4_w => ?_)
  · replace c4_w := bIn c4_w
    obtain ⟨i_w, hi_w, ei, eci⟩ := isI_k c4_w
    subst ei
    refine lv_iload_n hx hb_w dX1_checkIn_17 rfl (lv_at hl 2 rfl) ?_
    refine lv_iconst (v := 0) hx hb_w dX1_checkIn_18 (by decide) ?_
    refine lv_iconst (v := 5) hx hb_w dX1_checkIn_19 (by decide) ?_
    refine rdr_S (As := [.int p1_w, .int 0, .int 5]) (rest := []) ⟨hx, hb_w, hml, hown, hts⟩ (kX1_isWithin l G_w _ _ p1_w 0 5 ) (va_cwS 3 hts gX1_checkIn_X1_isWithin rfl rfl rfl (by decide +kernel) ⟨Nat.le_of_ble_eq_true rfl, Nat.le_of_ble_eq_true rfl⟩)  hP hK_w rfl hl.1 rfl (Nat.le_of_ble_eq_true rfl) dX1_checkIn_20 (by decide) (fun r20 h20 => ?_)
    replace h20 : r20 = bI (isW p1_w 0 5) := h20
    subst h20
    refine lv_if_eq (tgt := 35) hx hb_w dX1_checkIn_23 (by decide) (fun c23_w => ?_) (fun c23_w => ?_)
    · replace c23_w := bI0 c23_w
      exact hthr (xA, 50, 54) "bound is out of range" 91 _ _ _ _ hP hS_w hl.1 (by decide) (Or.inr (Or.inl ⟨rfl, by unfold thC; rw [if_neg (by rw [c4_w]; decide), if_pos (by unfold ciG; rw [c23_w]; rfl)]⟩)) (by decide) (List.mem_of_getElem? (i := 3) rfl) (List.mem_of_getElem? (i := 4) rfl) (fun w_w h_w => List.mem_cons_of_mem _ (List.mem_append_left _ (List.mem_append_right _ h_w))) dX1_checkIn_35 dX1_checkIn_38 dX1_checkIn_39 dX1_checkIn_41 dX1_checkIn_44
    replace c23_w := bIn c23_w
    obtain ⟨j_w, -, hj5, ej⟩ := isW_nI (a := 0) (b := 5) (by decide) (by decide) c23_w
    subst ej
    have ecj : (nI j_w).toNatClampNeg = j_w := nI_clamp (by omega)
    refine lv_iload_n hx hb_w dX1_checkIn_26 rfl (lv_at hl 1 rfl) ?_
    refine lv_iload_n hx hb_w dX1_checkIn_27 rfl (lv_at hl 2 rfl) ?_
    refine lv_iadd hx hb_w dX1_checkIn_28 ?_
    refine top_eq (z := nI (i_w + j_w)) (nI_add _ _) ?_
    refine rdr_S (As := [.int (nI (i_w + j_w))]) (rest := []) ⟨hx, hb_w, hml, hown, hts⟩ (kX1_isIssue l G_w _ _ (nI (i_w + j_w)) ) (va_cwS 1 hts gX1_checkIn_X1_isIssue rfl rfl rfl (by decide +kernel) ⟨Nat.le_of_ble_eq_true rfl, Nat.le_of_ble_eq_true rfl⟩)  hP hK_w rfl hl.1 rfl (Nat.le_of_ble_eq_true rfl) dX1_checkIn_29 (by decide) (fun r29 h29 => ?_)
    replace h29 : r29 = bI (isI (nI (i_w + j_w))) := h29
    subst h29
    refine lv_if_ne (tgt := 45) hx hb_w dX1_checkIn_32 (by decide) (fun c32_w => ?_) (fun c32_w => ?_)
    · replace c32_w := bIn c32_w
      have hg : ciG (nI i_w) (nI j_w) = true := by unfold ciG; rw [c23_w, nI_add]; rw [isI_add (by omega)] at c32_w; exact c32_w
      obtain ⟨j2_w, -, ej2, -, hij2⟩ := ciG_k rfl hi_w hg
      have hij : i_w + j_w < 200 := by rw [(nI_eq (by omega) (by omega)).mp ej2]; exact hij2
      refine lv_iload_n hx hb_w dX1_checkIn_45 rfl (lv_at hl 1 rfl) ?_
      refine lv_iload_n hx hb_w dX1_checkIn_46 rfl (lv_at hl 2 rfl) ?_
      refine lv_iadd hx hb_w dX1_checkIn_47 ?_
      refine top_eq (z := nI (i_w + j_w)) (nI_add _ _) ?_
      refine lv_istore_n (lv' := [(3, .int (nI (i_w + j_w))), (0, .ref (a_w 0)), (1, .int (nI i_w)), (2, .int (nI j_w))]) hx hb_w dX1_checkIn_48 rfl hl (by decide) rfl (fun ls hl => ?_)
      refine lv_aload_n hx hb_w dX1_checkIn_49 rfl (lv_at hl 1 rfl) ?_
      refine lv_iload_n hx hb_w dX1_checkIn_50 rfl (lv_at hl 2 rfl) ?_
      refine lv_iload_n hx hb_w dX1_checkIn_51 rfl (lv_at hl 0 rfl) ?_
      refine rdr_V (As := [.int (nI i_w), .int (nI (i_w + j_w))]) (rest := []) ⟨hx, hb_w, hml, hown, hts⟩ (kX1_canAllCome l G_w a_w cI cZ g_w f_w cd tc_w i_w (i_w + j_w) (by omega) (by omega)) (cwV 2 hts gX1_checkIn_X1_canAllCome rfl rfl rfl (by decide +kernel) ⟨Nat.le_of_ble_eq_true rfl, Nat.le_of_ble_eq_true rfl⟩) (va_recv hK_w hP (ci := 1) (q0 := 0) rfl rfl) hP hK_w rfl hl.1 rfl (Nat.le_of_ble_eq_true rfl) dX1_checkIn_52 (by decide) (fun r52 h52 => ?_)
      replace h52 : r52 = bI (allR (opB g_w f_w) i_w ((i_w + j_w) + 1 - i_w)) := h52
      subst h52
      refine lv_if_ne (tgt := 68) hx hb_w dX1_checkIn_55 (by decide) (fun c55 => ?_) (fun c55 => ?_)
      · replace c55 := bIn c55
        have ht : thC g_w f_w (nI i_w) (nI j_w) = 0 := by unfold thC; rw [if_neg (by rw [c4_w]; decide), if_neg (by rw [hg]; decide), eci, ecj, if_pos c55]
        refine lv_aload_n hx hb_w dX1_checkIn_68 rfl (lv_at hl 1 rfl) ?_
        refine lv_iload_n hx hb_w dX1_checkIn_69 rfl (lv_at hl 0 rfl) ?_
        refine wrv_V (As := [.int (nI (i_w + j_w))]) (rest := []) ⟨hx, hb_w, hml, hown, hts⟩ (kX1_foretellUpTo l G_w a_w cI cZ g_w f_w cd tc_w hap _ (i_w + j_w) ct (by omega) (Nat.le_of_lt hc_w) hI) (cwV 1 hts gX1_checkIn_X1_foretellUpTo rfl rfl rfl (by decide +kernel) ⟨Nat.le_of_ble_eq_true rfl, Nat.le_of_ble_eq_true rfl⟩) (va_recv hK_w hP (ci := 1) (q0 := 0) rfl rfl) hP hK_w hS_w rfl hl.1 rfl (Nat.le_of_ble_eq_true rfl) dX1_checkIn_70 (by decide) (fun u70 H locs_w h70 hP hS_w => ?_)
        subst h70
        have hP : va_P G_w vwCl (wD a_w cI cZ (ciM g_w f_w i_w j_w).1 (ciM g_w f_w i_w j_w).2 cd tc_w) H := hP
        obtain ⟨hI2, M_w, hM7, hM1, hM2⟩ := ciM_inv (Nat.le_of_lt hc_w) hI hij
        refine lv_aload_n hx hb_w dX1_checkIn_73 rfl (lv_at hl 1 rfl) ?_
        refine lv_iload_n hx hb_w dX1_checkIn_74 rfl (lv_at hl 2 rfl) ?_
        refine lv_iload_n hx hb_w dX1_checkIn_75 rfl (lv_at hl 0 rfl) ?_
        refine wrv_V (As := [.int (nI i_w), .int (nI (i_w + j_w))]) (rest := []) ⟨hx, hb_w, hml, hown, hts⟩ (kX1_takeIn l G_w a_w cI cZ (ciM g_w f_w i_w j_w).1 (ciM g_w f_w i_w j_w).2 cd tc_w hap _ i_w (i_w + j_w) M_w (by omega) (by omega) hM7 hM2) (cwV 2 hts gX1_checkIn_X1_takeIn rfl rfl rfl (by decide +kernel) ⟨Nat.le_of_ble_eq_true rfl, Nat.le_of_ble_eq_true rfl⟩) (va_recv hK_w hP (ci := 1) (q0 := 0) rfl rfl) hP hK_w hS_w rfl hl.1 rfl (Nat.le_of_ble_eq_true rfl) dX1_checkIn_76 (by decide) (fun u76 H locs_w h76 hP hS_w => ?_)
        subst h76
        have hP : va_P G_w vwCl (wD a_w cI cZ (ciM g_w f_w i_w j_w).1 (up2 (ciM g_w f_w i_w j_w).2 1 (tkU ((ciM g_w f_w i_w j_w).2 1) i_w (i_w + j_w + 1))) cd tc_w) H := hP
        refine lv_aload_n hx hb_w dX1_checkIn_79 rfl (lv_at hl 1 rfl) ?_
        refine lv_iload_n hx hb_w dX1_checkIn_80 rfl (lv_at hl 2 rfl) ?_
        refine wrv_V (As := [.int (nI i_w)]) (rest := []) ⟨hx, hb_w, hml, hown, hts⟩ (kX1_noteDifference l G_w a_w cI cZ (ciM g_w f_w i_w j_w).1 (up2 (ciM g_w f_w i_w j_w).2 1 (tkU ((ciM g_w f_w i_w j_w).2 1) i_w (i_w + j_w + 1))) cd tc_w hap _ i_w M_w ct (by omega) hM7 hM2 (inv_row hI2 rfl rfl)) (cwV 1 hts gX1_checkIn_X1_noteDifference rfl rfl rfl (by decide +kernel) ⟨Nat.le_of_ble_eq_true rfl, Nat.le_of_ble_eq_true rfl⟩) (va_recv hK_w hP (ci := 1) (q0 := 0) rfl rfl) hP hK_w hS_w rfl hl.1 rfl (Nat.le_of_ble_eq_true rfl) dX1_checkIn_81 (by decide) (fun u81 H locs_w h81 hP hS_w => ?_)
        rw [rowD_tk] at h81
        subst h81
        have hP : va_P G_w vwCl (wD a_w cI cZ (cntG (ciM g_w f_w i_w j_w).1 ((ciM g_w f_w i_w j_w).1 0 - (ciM g_w f_w i_w j_w).2 0 i_w) (rowD (ciM g_w f_w i_w j_w).1 (ciM g_w f_w i_w j_w).2 i_w) i_w) (up2 (ciM g_w f_w i_w j_w).2 1 (tkU ((ciM g_w f_w i_w j_w).2 1) i_w (i_w + j_w + 1))) cd tc_w) H := hP
        refine lv_aload_n hx hb_w dX1_checkIn_84 rfl (lv_at hl 1 rfl) ?_
        refine wrv_V (As := []) (rest := []) ⟨hx, hb_w, hml, hown, hts⟩ (kX1_foretellDueIssues l G_w a_w cI cZ (cntG (ciM g_w f_w i_w j_w).1 ((ciM g_w f_w i_w j_w).1 0 - (ciM g_w f_w i_w j_w).2 0 i_w) (rowD (ciM g_w f_w i_w j_w).1 (ciM g_w f_w i_w j_w).2 i_w) i_w) (up2 (ciM g_w f_w i_w j_w).2 1 (tkU ((ciM g_w f_w i_w j_w).2 1) i_w (i_w + j_w + 1))) cd tc_w hap _  (ct + 1) hc_w (inv_row (inv_cnt hc_w hI2 hi_w) rfl rfl)) (cwV 0 hts gX1_checkIn_X1_foretellDueIssues rfl rfl rfl (by decide +kernel) ⟨Nat.le_of_ble_eq_true rfl, Nat.le_of_ble_eq_true rfl⟩) (va_recv hK_w hP (ci := 1) (q0 := 0) rfl rfl) hP hK_w hS_w rfl hl.1 rfl (Nat.le_of_ble_eq_true rfl) dX1_checkIn_85 (by decide) (fun u85 H locs_w h85 hP hS_w => ?_)
        subst h85
        have hP : va_P G_w vwCl (wD a_w cI cZ (ciS g_w f_w i_w j_w).1 (ciS g_w f_w i_w j_w).2 cd tc_w) H := hP
        refine lv_aload_n hx hb_w dX1_checkIn_88 rfl (lv_at hl 1 rfl) ?_
        refine dget (index := 40) (v := .int ((ciS g_w f_w i_w j_w).1 7)) hx hb_w hts hinX1 hown hK_w hP 4 (by decide) (List.mem_of_getElem? (i := 7) rfl) rfl dX1_checkIn_89 ?_
        exact hret ((ciS g_w f_w i_w j_w).1 7) ((ciS g_w f_w i_w j_w).1, (ciS g_w f_w i_w j_w).2, cd, tc_w) _ _ _ _ dX1_checkIn_92 rfl hP hS_w ⟨by rw [eci, ecj], by rw [eci, ecj], ht⟩
      replace c55 := bI0 c55
      exact hthr (xS, 77, 81) "one of these issues is not waited for" 97 _ _ _ _ hP hS_w hl.1 (by decide) (Or.inr (Or.inr ⟨rfl, by unfold thC; rw [if_neg (by rw [c4_w]; decide), if_neg (by rw [hg]; decide), eci, ecj, if_neg (by rw [c55]; decide)]⟩)) (by decide) (List.mem_of_getElem? (i := 5) rfl) (List.mem_of_getElem? (i := 6) rfl) (fun w_w h_w => List.mem_cons_of_mem _ (List.mem_append_right _ h_w)) dX1_checkIn_58 dX1_checkIn_61 dX1_checkIn_62 dX1_checkIn_64 dX1_checkIn_67
    replace c32_w := bI0 c32_w
    exact hthr (xA, 50, 54) "bound is out of range" 91 _ _ _ _ hP hS_w hl.1 (by decide) (Or.inr (Or.inl ⟨rfl, by unfold thC; rw [if_neg (by rw [c4_w]; decide), if_pos (by unfold ciG; rw [c23_w, nI_add]; rw [isI_add (by omega)] at c32_w; exact c32_w)]⟩)) (by decide) (List.mem_of_getElem? (i := 3) rfl) (List.mem_of_getElem? (i := 4) rfl) (fun w_w h_w => List.mem_cons_of_mem _ (List.mem_append_left _ (List.mem_append_right _ h_w))) dX1_checkIn_35 dX1_checkIn_38 dX1_checkIn_39 dX1_checkIn_41 dX1_checkIn_44
  replace c4_w := bI0 c4_w
  exact hthr (xI, 86, 90) "there is no such issue" 88 _ _ _ _ hP hS_w hl.1 (by decide) (Or.inl ⟨rfl, by unfold thC; rw [if_pos c4_w]⟩) (by decide) (List.mem_of_getElem? (i := 1) rfl) (List.mem_of_getElem? (i := 2) rfl) (fun w_w h_w => List.mem_cons_of_mem _ (List.mem_append_left _ (List.mem_append_left _ (List.mem_append_right _ h_w)))) dX1_checkIn_7 dX1_checkIn_10 dX1_checkIn_11 dX1_checkIn_13 dX1_checkIn_16
set_option maxHeartbeats 4000000 in
set_option maxRecDepth 100000 in
theorem kX1_skip (l : Launch) (hst : l.stackTraces = false) (G_w : va_G) (a_w : Nat → Nat) (cI cZ : ClassId) (g_w : Nat → Int32) (f_w : Nat → Nat → Int32) (cd : Nat → Int32) (tc_w : Int32) (hap : apart a_w 7) (sz_w : Nat) (p0_w : Int32): thv l yX1_skip wsX1_skip { frames := 6, cells := 1, slots := 6, locals := 90 } G_w (wD a_w cI cZ g_w f_w cd tc_w) (tyIZ cI cZ) (aS a_w 7 sz_w) sz_w [.ref (a_w 0), .int p0_w] (fun u_w => u_w = (g_w, up2 f_w 1 (upd (f_w 1) p0_w.toNatClampNeg 3), cd, tc_w) ∧ skT g_w f_w p0_w = 0) (wfD a_w cI cZ) (fun E_w => (E_w = xI ∧ skT g_w f_w p0_w = 1) ∨ (E_w = xS ∧ skT g_w f_w p0_w = 2)) := by
  refine thv_of (cc := cX1_skip) (nL := 2) hst ⟨by decide, by decide, by decide, by decide⟩ rfl (Nat.le_of_ble_eq_true rfl) ?_
  intro p_w e_w s_w m_w args_w below meth_w c_w H locs_w ls Q hx hb_w hml hown hts hP hK_w hS_w hret hthr hl
  have hl : lv_has ls 2 [(0, .ref (a_w 0)), (1, .int p0_w)] := hl
  have hinX1 : ∀ w_w ∈ wsX10, w_w ∈ wsX1_skip := by decide +kernel
  refine lv_aload_n hx hb_w dX1_skip_0 rfl (lv_at hl 0 rfl) ?_
  refine lv_iload_n hx hb_w dX1_skip_1 rfl (lv_at hl 1 rfl) ?_
  refine rdr_V (As := [.int p0_w]) (rest := []) ⟨hx, hb_w, hml, hown, hts⟩ (kX1_isForetold l G_w a_w cI cZ g_w f_w cd tc_w p0_w ) (cwV 1 hts gX1_skip_X1_isForetold rfl rfl rfl (by decide +kernel) ⟨Nat.le_of_ble_eq_true rfl, Nat.le_of_ble_eq_true rfl⟩) (va_recv hK_w hP (ci := 1) (q0 := 0) rfl rfl) hP hK_w rfl hl.1 rfl (Nat.le_of_ble_eq_true rfl) dX1_skip_2 (by decide) (fun r2 h2 => ?_)
  replace h2 : r2 = bI (isF g_w p0_w) := h2
  subst h2
  refine lv_if_ne (tgt := 18) hx hb_w dX1_skip_5 (by decide) (fun c5_w => ?_) (fun c5_w => ?_)
  · replace c5_w := bIn c5_w
    obtain ⟨k_w, hk, ek, ec⟩ := isF_k c5_w
    refine lv_aload_n hx hb_w dX1_skip_18 rfl (lv_at hl 0 rfl) ?_
    refine dget (index := 27) (v := .ref (a_w 3)) hx hb_w hts hinX1 hown hK_w hP 7 (by decide) (List.mem_of_getElem? (i := 5) rfl) rfl dX1_skip_19 ?_
    refine lv_iload_n hx hb_w dX1_skip_22 rfl (lv_at hl 1 rfl) ?_
    refine arI (j := k_w) (h := (f_w 1)) hx hb_w hK_w hP 3 rfl ek hk dX1_skip_23 ?_
    refine lv_if_eq (tgt := 37) hx hb_w dX1_skip_24 (by decide) (fun c24_w => ?_) (fun c24_w => ?_)
    · refine lv_aload_n hx hb_w dX1_skip_37 rfl (lv_at hl 0 rfl) ?_
      refine dget (index := 27) (v := .ref (a_w 3)) hx hb_w hts hinX1 hown hK_w hP 7 (by decide) (List.mem_of_getElem? (i := 5) rfl) rfl dX1_skip_38 ?_
      refine lv_iload_n hx hb_w dX1_skip_41 rfl (lv_at hl 1 rfl) ?_
      refine lv_iconst (v := 3) hx hb_w dX1_skip_42 (by decide) ?_
      refine asI (j := k_w) (h := (f_w 1)) (x := 3) (wD a_w cI cZ g_w (up2 f_w 1 (upd (f_w 1) k_w 3)) cd tc_w) hx hb_w hK_w hP (wD_D hap _) hS_w 3 rfl ek hk rfl dX1_skip_43 (fun H locs_w hP hS_w => ?_)
      exact hret (g_w, (up2 f_w 1 (upd (f_w 1) k_w 3)), cd, tc_w) _ _ _ _ dX1_skip_44 hP hS_w ⟨by rw [ec], by unfold skT; rw [if_neg (by rw [c5_w]; decide), ec, if_pos c24_w]⟩
    exact hthr (xS, 77, 81) "the issue is not waited for" 115 _ _ _ _ hP hS_w hl.1 (by decide) (Or.inr ⟨rfl, by unfold skT; rw [if_neg (by rw [c5_w]; decide), ec, if_neg c24_w]⟩) (by decide) (List.mem_of_getElem? (i := 3) rfl) (List.mem_of_getElem? (i := 4) rfl) (fun w_w h_w => List.mem_cons_of_mem _ (List.mem_append_right _ h_w)) dX1_skip_27 dX1_skip_30 dX1_skip_31 dX1_skip_33 dX1_skip_36
  replace c5_w := bI0 c5_w
  exact hthr (xI, 86, 90) "the issue is not foretold" 113 _ _ _ _ hP hS_w hl.1 (by decide) (Or.inl ⟨rfl, by unfold skT; rw [if_pos c5_w]⟩) (by decide) (List.mem_of_getElem? (i := 1) rfl) (List.mem_of_getElem? (i := 2) rfl) (fun w_w h_w => List.mem_cons_of_mem _ (List.mem_append_left _ (List.mem_append_right _ h_w))) dX1_skip_8 dX1_skip_11 dX1_skip_12 dX1_skip_14 dX1_skip_17
set_option maxHeartbeats 4000000 in
set_option maxRecDepth 100000 in
theorem kX1_dayOf (l : Launch) (hst : l.stackTraces = false) (G_w : va_G) (a_w : Nat → Nat) (cI cZ : ClassId) (g_w : Nat → Int32) (f_w : Nat → Nat → Int32) (cd : Nat → Int32) (tc_w : Int32) (hap : apart a_w 7) (sz_w : Nat) (p0_w : Int32): thi l yX1_dayOf wsX1_dayOf { frames := 6, cells := 1, slots := 6, locals := 90 } G_w (wD a_w cI cZ g_w f_w cd tc_w) (tyIZ cI cZ) (aS a_w 7 sz_w) sz_w [.ref (a_w 0), .int p0_w] (fun r_w u_w => r_w = askV g_w (f_w 0) p0_w ∧ u_w = (g_w, f_w, cd, tc_w) ∧ isF g_w p0_w = true) (wfD a_w cI cZ) (fun E_w => E_w = xI ∧ isF g_w p0_w = false) := by
  refine thi_of (cc := cX1_dayOf) (nL := 2) (ty := .int) hst ⟨by decide, by decide, by decide, by decide⟩ rfl (Nat.le_of_ble_eq_true rfl) ?_
  intro p_w e_w s_w m_w args_w below meth_w c_w H locs_w ls Q hx hb_w hml hown hts hP hK_w hS_w hret hthr hl
  have hl : lv_has ls 2 [(0, .ref (a_w 0)), (1, .int p0_w)] := hl
  have hinX1 : ∀ w_w ∈ wsX10, w_w ∈ wsX1_dayOf := by decide +kernel
  refine lv_aload_n hx hb_w dX1_dayOf_0 rfl (lv_at hl 0 rfl) ?_
  refine lv_iload_n hx hb_w dX1_dayOf_1 rfl (lv_at hl 1 rfl) ?_
  refine rdr_V (As := [.int p0_w]) (rest := []) ⟨hx, hb_w, hml, hown, hts⟩ (kX1_isForetold l G_w a_w cI cZ g_w f_w cd tc_w p0_w ) (cwV 1 hts gX1_dayOf_X1_isForetold rfl rfl rfl (by decide +kernel) ⟨Nat.le_of_ble_eq_true rfl, Nat.le_of_ble_eq_true rfl⟩) (va_recv hK_w hP (ci := 1) (q0 := 0) rfl rfl) hP hK_w rfl hl.1 rfl (Nat.le_of_ble_eq_true rfl) dX1_dayOf_2 (by decide) (fun r2 h2 => ?_)
  replace h2 : r2 = bI (isF g_w p0_w) := h2
  subst h2
  refine lv_if_ne (tgt := 18) hx hb_w dX1_dayOf_5 (by decide) (fun c5_w => ?_) (fun c5_w => ?_)
  · replace c5_w := bIn c5_w
    obtain ⟨k_w, hk, ek, ec⟩ := isF_k c5_w
    refine lv_aload_n hx hb_w dX1_dayOf_18 rfl (lv_at hl 0 rfl) ?_
    refine dget (index := 23) (v := .ref (a_w 2)) hx hb_w hts hinX1 hown hK_w hP 6 (by decide) (List.mem_of_getElem? (i := 3) rfl) rfl dX1_dayOf_19 ?_
    refine lv_iload_n hx hb_w dX1_dayOf_22 rfl (lv_at hl 1 rfl) ?_
    refine arI (j := k_w) (h := (f_w 0)) hx hb_w hK_w hP 2 rfl ek hk dX1_dayOf_23 ?_
    exact hret ((f_w 0) k_w) (g_w, f_w, cd, tc_w) _ _ _ _ dX1_dayOf_24 rfl hP hS_w ⟨by unfold askV; rw [if_pos c5_w, ec], rfl, c5_w⟩
  replace c5_w := bI0 c5_w
  exact hthr (xI, 86, 90) "the issue is not foretold" 113 _ _ _ _ hP hS_w hl.1 (by decide) ⟨rfl, c5_w⟩ (by decide) (List.mem_of_getElem? (i := 1) rfl) (List.mem_of_getElem? (i := 2) rfl) (fun w_w h_w => List.mem_cons_of_mem _ (List.mem_append_right _ h_w)) dX1_dayOf_8 dX1_dayOf_11 dX1_dayOf_12 dX1_dayOf_14 dX1_dayOf_17
set_option maxHeartbeats 4000000 in
set_option maxRecDepth 100000 in
theorem kX1_stateOf (l : Launch) (hst : l.stackTraces = false) (G_w : va_G) (a_w : Nat → Nat) (cI cZ : ClassId) (g_w : Nat → Int32) (f_w : Nat → Nat → Int32) (cd : Nat → Int32) (tc_w : Int32) (hap : apart a_w 7) (sz_w : Nat) (p0_w : Int32): thi l yX1_stateOf wsX1_stateOf { frames := 6, cells := 1, slots := 6, locals := 90 } G_w (wD a_w cI cZ g_w f_w cd tc_w) (tyIZ cI cZ) (aS a_w 7 sz_w) sz_w [.ref (a_w 0), .int p0_w] (fun r_w u_w => r_w = askV g_w (f_w 1) p0_w ∧ u_w = (g_w, f_w, cd, tc_w) ∧ isF g_w p0_w = true) (wfD a_w cI cZ) (fun E_w => E_w = xI ∧ isF g_w p0_w = false) := by
  refine thi_of (cc := cX1_stateOf) (nL := 2) (ty := .int) hst ⟨by decide, by decide, by decide, by decide⟩ rfl (Nat.le_of_ble_eq_true rfl) ?_
  intro p_w e_w s_w m_w args_w below meth_w c_w H locs_w ls Q hx hb_w hml hown hts hP hK_w hS_w hret hthr hl
  have hl : lv_has ls 2 [(0, .ref (a_w 0)), (1, .int p0_w)] := hl
  have hinX1 : ∀ w_w ∈ wsX10, w_w ∈ wsX1_stateOf := by decide +kernel
  refine lv_aload_n hx hb_w dX1_stateOf_0 rfl (lv_at hl 0 rfl) ?_
  refine lv_iload_n hx hb_w dX1_stateOf_1 rfl (lv_at hl 1 rfl) ?_
  refine rdr_V (As := [.int p0_w]) (rest := []) ⟨hx, hb_w, hml, hown, hts⟩ (kX1_isForetold l G_w a_w cI cZ g_w f_w cd tc_w p0_w ) (cwV 1 hts gX1_stateOf_X1_isForetold rfl rfl rfl (by decide +kernel) ⟨Nat.le_of_ble_eq_true rfl, Nat.le_of_ble_eq_true rfl⟩) (va_recv hK_w hP (ci := 1) (q0 := 0) rfl rfl) hP hK_w rfl hl.1 rfl (Nat.le_of_ble_eq_true rfl) dX1_stateOf_2 (by decide) (fun r2 h2 => ?_)
  replace h2 : r2 = bI (isF g_w p0_w) := h2
  subst h2
  refine lv_if_ne (tgt := 18) hx hb_w dX1_stateOf_5 (by decide) (fun c5_w => ?_) (fun c5_w => ?_)
  · replace c5_w := bIn c5_w
    obtain ⟨k_w, hk, ek, ec⟩ := isF_k c5_w
    refine lv_aload_n hx hb_w dX1_stateOf_18 rfl (lv_at hl 0 rfl) ?_
    refine dget (index := 27) (v := .ref (a_w 3)) hx hb_w hts hinX1 hown hK_w hP 7 (by decide) (List.mem_of_getElem? (i := 3) rfl) rfl dX1_stateOf_19 ?_
    refine lv_iload_n hx hb_w dX1_stateOf_22 rfl (lv_at hl 1 rfl) ?_
    refine arI (j := k_w) (h := (f_w 1)) hx hb_w hK_w hP 3 rfl ek hk dX1_stateOf_23 ?_
    exact hret ((f_w 1) k_w) (g_w, f_w, cd, tc_w) _ _ _ _ dX1_stateOf_24 rfl hP hS_w ⟨by unfold askV; rw [if_pos c5_w, ec], rfl, c5_w⟩
  replace c5_w := bI0 c5_w
  exact hthr (xI, 86, 90) "the issue is not foretold" 113 _ _ _ _ hP hS_w hl.1 (by decide) ⟨rfl, c5_w⟩ (by decide) (List.mem_of_getElem? (i := 1) rfl) (List.mem_of_getElem? (i := 2) rfl) (fun w_w h_w => List.mem_cons_of_mem _ (List.mem_append_right _ h_w)) dX1_stateOf_8 dX1_stateOf_11 dX1_stateOf_12 dX1_stateOf_14 dX1_stateOf_17
set_option maxHeartbeats 4000000 in
set_option maxRecDepth 100000 in
theorem kX1_claimsOf (l : Launch) (hst : l.stackTraces = false) (G_w : va_G) (a_w : Nat → Nat) (cI cZ : ClassId) (g_w : Nat → Int32) (f_w : Nat → Nat → Int32) (cd : Nat → Int32) (tc_w : Int32) (hap : apart a_w 7) (sz_w : Nat) (p0_w : Int32): thi l yX1_claimsOf wsX1_claimsOf { frames := 6, cells := 1, slots := 6, locals := 90 } G_w (wD a_w cI cZ g_w f_w cd tc_w) (tyIZ cI cZ) (aS a_w 7 sz_w) sz_w [.ref (a_w 0), .int p0_w] (fun r_w u_w => r_w = askV g_w (f_w 2) p0_w ∧ u_w = (g_w, f_w, cd, tc_w) ∧ isF g_w p0_w = true) (wfD a_w cI cZ) (fun E_w => E_w = xI ∧ isF g_w p0_w = false) := by
  refine thi_of (cc := cX1_claimsOf) (nL := 2) (ty := .int) hst ⟨by decide, by decide, by decide, by decide⟩ rfl (Nat.le_of_ble_eq_true rfl) ?_
  intro p_w e_w s_w m_w args_w below meth_w c_w H locs_w ls Q hx hb_w hml hown hts hP hK_w hS_w hret hthr hl
  have hl : lv_has ls 2 [(0, .ref (a_w 0)), (1, .int p0_w)] := hl
  have hinX1 : ∀ w_w ∈ wsX10, w_w ∈ wsX1_claimsOf := by decide +kernel
  refine lv_aload_n hx hb_w dX1_claimsOf_0 rfl (lv_at hl 0 rfl) ?_
  refine lv_iload_n hx hb_w dX1_claimsOf_1 rfl (lv_at hl 1 rfl) ?_
  refine rdr_V (As := [.int p0_w]) (rest := []) ⟨hx, hb_w, hml, hown, hts⟩ (kX1_isForetold l G_w a_w cI cZ g_w f_w cd tc_w p0_w ) (cwV 1 hts gX1_claimsOf_X1_isForetold rfl rfl rfl (by decide +kernel) ⟨Nat.le_of_ble_eq_true rfl, Nat.le_of_ble_eq_true rfl⟩) (va_recv hK_w hP (ci := 1) (q0 := 0) rfl rfl) hP hK_w rfl hl.1 rfl (Nat.le_of_ble_eq_true rfl) dX1_claimsOf_2 (by decide) (fun r2 h2 => ?_)
  replace h2 : r2 = bI (isF g_w p0_w) := h2
  subst h2
  refine lv_if_ne (tgt := 18) hx hb_w dX1_claimsOf_5 (by decide) (fun c5_w => ?_) (fun c5_w => ?_)
  · replace c5_w := bIn c5_w
    obtain ⟨k_w, hk, ek, ec⟩ := isF_k c5_w
    refine lv_aload_n hx hb_w dX1_claimsOf_18 rfl (lv_at hl 0 rfl) ?_
    refine dget (index := 30) (v := .ref (a_w 4)) hx hb_w hts hinX1 hown hK_w hP 8 (by decide) (List.mem_of_getElem? (i := 3) rfl) rfl dX1_claimsOf_19 ?_
    refine lv_iload_n hx hb_w dX1_claimsOf_22 rfl (lv_at hl 1 rfl) ?_
    refine arI (j := k_w) (h := (f_w 2)) hx hb_w hK_w hP 4 rfl ek hk dX1_claimsOf_23 ?_
    exact hret ((f_w 2) k_w) (g_w, f_w, cd, tc_w) _ _ _ _ dX1_claimsOf_24 rfl hP hS_w ⟨by unfold askV; rw [if_pos c5_w, ec], rfl, c5_w⟩
  replace c5_w := bI0 c5_w
  exact hthr (xI, 86, 90) "the issue is not foretold" 113 _ _ _ _ hP hS_w hl.1 (by decide) ⟨rfl, c5_w⟩ (by decide) (List.mem_of_getElem? (i := 1) rfl) (List.mem_of_getElem? (i := 2) rfl) (fun w_w h_w => List.mem_cons_of_mem _ (List.mem_append_right _ h_w)) dX1_claimsOf_8 dX1_claimsOf_11 dX1_claimsOf_12 dX1_claimsOf_14 dX1_claimsOf_17
set_option maxHeartbeats 4000000 in
set_option maxRecDepth 100000 in
theorem kX1_labelOf (l : Launch) (hst : l.stackTraces = false) (G_w : va_G) (a_w : Nat → Nat) (cI cZ : ClassId) (g_w : Nat → Int32) (f_w : Nat → Nat → Int32) (cd : Nat → Int32) (tc_w : Int32) (hap : apart a_w 7) (sz_w : Nat) (p0_w : Int32): thi l yX1_labelOf wsX1_labelOf { frames := 6, cells := 1, slots := 6, locals := 90 } G_w (wD a_w cI cZ g_w f_w cd tc_w) (tyIZ cI cZ) (aS a_w 7 sz_w) sz_w [.ref (a_w 0), .int p0_w] (fun r_w u_w => r_w = 1000 * volD g_w p0_w + numD g_w p0_w ∧ u_w = (g_w, f_w, cd, tc_w) ∧ isI p0_w = true) (wfD a_w cI cZ) (fun E_w => E_w = xI ∧ isI p0_w = false) := by
  refine thi_of (cc := cX1_labelOf) (nL := 2) (ty := .int) hst ⟨by decide, by decide, by decide, by decide⟩ rfl (Nat.le_of_ble_eq_true rfl) ?_
  intro p_w e_w s_w m_w args_w below meth_w c_w H locs_w ls Q hx hb_w hml hown hts hP hK_w hS_w hret hthr hl
  have hl : lv_has ls 2 [(0, .ref (a_w 0)), (1, .int p0_w)] := hl
  have hinX1 : ∀ w_w ∈ wsX10, w_w ∈ wsX1_labelOf := by decide +kernel
  refine lv_iload_n hx hb_w dX1_labelOf_0 rfl (lv_at hl 1 rfl) ?_
  refine rdr_S (As := [.int p0_w]) (rest := []) ⟨hx, hb_w, hml, hown, hts⟩ (kX1_isIssue l G_w _ _ p0_w ) (va_cwS 1 hts gX1_labelOf_X1_isIssue rfl rfl rfl (by decide +kernel) ⟨Nat.le_of_ble_eq_true rfl, Nat.le_of_ble_eq_true rfl⟩)  hP hK_w rfl hl.1 rfl (Nat.le_of_ble_eq_true rfl) dX1_labelOf_1 (by decide) (fun r1_w h1 => ?_)
  replace h1 : r1_w = bI (isI p0_w) := h1
  subst h1
  refine lv_if_ne (tgt := 17) hx hb_w dX1_labelOf_4 (by decide) (fun c4_w => ?_) (fun c4_w => ?_)
  · replace c4_w := bIn c4_w
    refine lv_sipush (v := 1000) hx hb_w dX1_labelOf_17 (by decide) ?_
    refine lv_aload_n hx hb_w dX1_labelOf_20 rfl (lv_at hl 0 rfl) ?_
    refine dget (index := 10) (v := .ref (a_w 1)) hx hb_w hts hinX1 hown hK_w hP 0 (by decide) (List.mem_of_getElem? (i := 3) rfl) rfl dX1_labelOf_21 ?_
    refine lv_iload_n hx hb_w dX1_labelOf_24 rfl (lv_at hl 1 rfl) ?_
    refine rdr_V (As := [.int p0_w]) (rest := [.int 1000]) ⟨hx, hb_w, hml, hown, hts⟩ (kX0_volumeOf l G_w a_w cI cZ g_w f_w cd tc_w p0_w ) (cwV 1 hts gX1_labelOf_X0_volumeOf rfl rfl rfl (by decide +kernel) ⟨Nat.le_of_ble_eq_true rfl, Nat.le_of_ble_eq_true rfl⟩) (va_recv hK_w hP (ci := 0) (q0 := 1) rfl rfl) hP hK_w rfl hl.1 rfl (Nat.le_of_ble_eq_true rfl) dX1_labelOf_25 (by decide) (fun r25 h25 => ?_)
    replace h25 : r25 = volD g_w p0_w := h25
    subst h25
    refine lv_imul hx hb_w dX1_labelOf_28 ?_
    refine lv_aload_n hx hb_w dX1_labelOf_29 rfl (lv_at hl 0 rfl) ?_
    refine dget (index := 10) (v := .ref (a_w 1)) hx hb_w hts hinX1 hown hK_w hP 0 (by decide) (List.mem_of_getElem? (i := 3) rfl) rfl dX1_labelOf_30 ?_
    refine lv_iload_n hx hb_w dX1_labelOf_33 rfl (lv_at hl 1 rfl) ?_
    refine rdr_V (As := [.int p0_w]) (rest := [.int (1000 * (volD g_w p0_w))]) ⟨hx, hb_w, hml, hown, hts⟩ (kX0_numberOf l G_w a_w cI cZ g_w f_w cd tc_w p0_w ) (cwV 1 hts gX1_labelOf_X0_numberOf rfl rfl rfl (by decide +kernel) ⟨Nat.le_of_ble_eq_true rfl, Nat.le_of_ble_eq_true rfl⟩) (va_recv hK_w hP (ci := 0) (q0 := 1) rfl rfl) hP hK_w rfl hl.1 rfl (Nat.le_of_ble_eq_true rfl) dX1_labelOf_34 (by decide) (fun r34 h34 => ?_)
    replace h34 : r34 = numD g_w p0_w := h34
    subst h34
    refine lv_iadd hx hb_w dX1_labelOf_37 ?_
    exact hret ((1000 * (volD g_w p0_w)) + (numD g_w p0_w)) (g_w, f_w, cd, tc_w) _ _ _ _ dX1_labelOf_38 rfl hP hS_w ⟨rfl, rfl, c4_w⟩
  replace c4_w := bI0 c4_w
  exact hthr (xI, 86, 90) "there is no such issue" 88 _ _ _ _ hP hS_w hl.1 (by decide) ⟨rfl, c4_w⟩ (by decide) (List.mem_of_getElem? (i := 1) rfl) (List.mem_of_getElem? (i := 2) rfl) (fun w_w h_w => List.mem_cons_of_mem _ (List.mem_append_right _ h_w)) dX1_labelOf_7 dX1_labelOf_10 dX1_labelOf_11 dX1_labelOf_13 dX1_labelOf_16
set_option maxHeartbeats 4000000 in
set_option maxRecDepth 100000 in
theorem kX1_rangeAt (l : Launch) (hst : l.stackTraces = false) (G_w : va_G) (a_w : Nat → Nat) (cI cZ : ClassId) (g_w : Nat → Int32) (f_w : Nat → Nat → Int32) (cd : Nat → Int32) (tc_w : Int32) (hap : apart a_w 7) (sz_w : Nat) (p0_w : Int32): thi l yX1_rangeAt wsX1_rangeAt { frames := 6, cells := 1, slots := 6, locals := 106 } G_w (wD a_w cI cZ g_w f_w cd tc_w) (tyIZ cI cZ) (aS a_w 7 sz_w) sz_w [.ref (a_w 0), .int p0_w] (fun r_w u_w => r_w = rgA g_w f_w p0_w ∧ u_w = (g_w, f_w, cd, tc_w) ∧ rgT g_w f_w p0_w = 0) (wfD a_w cI cZ) (fun E_w => E_w = xI ∧ rgT g_w f_w p0_w = 1) := by
  refine thi_of (cc := cX1_rangeAt) (nL := 3) (ty := .int) hst ⟨by decide, by decide, by decide, by decide⟩ rfl (Nat.le_of_ble_eq_true rfl) ?_
  intro p_w e_w s_w m_w args_w below meth_w c_w H locs_w ls Q hx hb_w hml hown hts hP hK_w hS_w hret hthr hl
  have hl : lv_has ls 3 [(0, .ref (a_w 0)), (1, .int p0_w)] := hl
  refine lv_aload_n hx hb_w dX1_rangeAt_0 rfl (lv_at hl 0 rfl) ?_
  refine lv_iload_n hx hb_w dX1_rangeAt_1 rfl (lv_at hl 1 rfl) ?_
  refine rdr_V (As := [.int p0_w]) (rest := []) ⟨hx, hb_w, hml, hown, hts⟩ (kX1_startOfRange l G_w a_w cI cZ g_w f_w cd tc_w p0_w ) (cwV 1 hts gX1_rangeAt_X1_startOfRange rfl rfl rfl (by decide +kernel) ⟨Nat.le_of_ble_eq_true rfl, Nat.le_of_ble_eq_true rfl⟩) (va_recv hK_w hP (ci := 1) (q0 := 0) rfl rfl) hP hK_w rfl hl.1 rfl (Nat.le_of_ble_eq_true rfl) dX1_rangeAt_2 (by decide) (fun r2 h2 => ?_)
  replace h2 : r2 = scan (rsB g_w f_w) p0_w 0 200 0 := h2
  subst h2
  refine lv_istore_n (lv' := [(2, .int (scan (rsB g_w f_w) p0_w 0 200 0)), (0, .ref (a_w 0)), (1, .int p0_w)]) hx hb_w dX1_rangeAt_5 rfl hl (by decide) rfl (fun ls hl => ?_)
  refine lv_iload_n hx hb_w dX1_rangeAt_6 rfl (lv_at hl 0 rfl) ?_
  refine lv_iconst (v := (-1)) hx hb_w dX1_rangeAt_7 (by decide) ?_
  refine lv_icmp_ne (tgt := 21) hx hb_w dX1_rangeAt_8 (by decide) (fun c8_w => ?_) (fun c8_w => ?_)
  · obtain ⟨k_w, hk, ek⟩ := rg_k c8_w
    rw [ek] at hl
    refine lv_sipush (v := 1000) hx hb_w dX1_rangeAt_21 (by decide) ?_
    refine lv_iload_n hx hb_w dX1_rangeAt_24 rfl (lv_at hl 0 rfl) ?_
    refine lv_imul hx hb_w dX1_rangeAt_25 ?_
    refine lv_aload_n hx hb_w dX1_rangeAt_26 rfl (lv_at hl 1 rfl) ?_
    refine lv_iload_n hx hb_w dX1_rangeAt_27 rfl (lv_at hl 0 rfl) ?_
    refine rdr_V (As := [.int (nI k_w)]) (rest := [.int (1000 * (nI k_w))]) ⟨hx, hb_w, hml, hown, hts⟩ (kX1_endOfRange l G_w a_w cI cZ g_w f_w cd tc_w k_w hk) (cwV 1 hts gX1_rangeAt_X1_endOfRange rfl rfl rfl (by decide +kernel) ⟨Nat.le_of_ble_eq_true rfl, Nat.le_of_ble_eq_true rfl⟩) (va_recv hK_w hP (ci := 1) (q0 := 0) rfl rfl) hP hK_w rfl hl.1 rfl (Nat.le_of_ble_eq_true rfl) dX1_rangeAt_28 (by decide) (fun r28 h28 => ?_)
    replace h28 : r28 = nI (eoR g_w f_w (199 - k_w) k_w) := h28
    subst h28
    refine lv_iadd hx hb_w dX1_rangeAt_31 ?_
    exact hret ((1000 * (nI k_w)) + (nI (eoR g_w f_w (199 - k_w) k_w))) (g_w, f_w, cd, tc_w) _ _ _ _ dX1_rangeAt_32 rfl hP hS_w ⟨by unfold rgA; rw [show rgK g_w f_w p0_w = nI k_w from ek, if_neg (nI_nm1 hk), nI_clamp (show k_w < 2 ^ 31 by omega)], rfl, by unfold rgT; exact if_neg c8_w⟩
  exact hthr (xI, 86, 90) "there are not so many ranges" 139 _ _ _ _ hP hS_w hl.1 (by decide) ⟨rfl, by unfold rgT; exact if_pos c8_w⟩ (by decide) (List.mem_of_getElem? (i := 1) rfl) (List.mem_of_getElem? (i := 2) rfl) (fun w_w h_w => List.mem_cons_of_mem _ (List.mem_append_right _ h_w)) dX1_rangeAt_11 dX1_rangeAt_14 dX1_rangeAt_15 dX1_rangeAt_17 dX1_rangeAt_20
set_option maxHeartbeats 4000000 in
set_option maxRecDepth 100000 in
theorem kX1_give (l : Launch) (hst : l.stackTraces = false) (G_w : va_G) (a_w : Nat → Nat) (cI cZ : ClassId) (g_w : Nat → Int32) (f_w : Nat → Nat → Int32) (cd : Nat → Int32) (tc_w : Int32) (hap : apart a_w 7) (sz_w : Nat) (p0_w p1_w : Int32) (h01 : ∀ k_w, f_w 4 k_w = 0 ∨ f_w 4 k_w = 1) (htc : tc_w = nI (cnt (thB (f_w 4)) 200)): thi l yX1_give wsX1_give { frames := 6, cells := 1, slots := 6, locals := 90 } G_w (wD a_w cI cZ g_w f_w cd tc_w) (tyIZ cI cZ) (aS a_w 7 sz_w) sz_w [.ref (a_w 0), .int p0_w, .int p1_w] (fun r_w u_w => r_w = nI (cnt (thB (gvU (f_w 4) p0_w.toNatClampNeg p1_w.toNatClampNeg)) 200) ∧ u_w = (g_w, up2 f_w 4 (gvU (f_w 4) p0_w.toNatClampNeg p1_w.toNatClampNeg), cd, nI (cnt (thB (gvU (f_w 4) p0_w.toNatClampNeg p1_w.toNatClampNeg)) 200)) ∧ okG p0_w p1_w = true) (wfD a_w cI cZ) (fun E_w => E_w = xA ∧ okG p0_w p1_w = false) := by
  refine thi_of (cc := cX1_give) (nL := 4) (ty := .int) hst ⟨by decide, by decide, by decide, by decide⟩ rfl (Nat.le_of_ble_eq_true rfl) ?_
  intro p_w e_w s_w m_w args_w below meth_w c_w H locs_w ls Q hx hb_w hml hown hts hP hK_w hS_w hret hthr hl
  have hl : lv_has ls 4 [(0, .ref (a_w 0)), (1, .int p0_w), (2, .int p1_w)] := hl
  have hinX1 : ∀ w_w ∈ wsX10, w_w ∈ wsX1_give := by decide +kernel
  refine lv_iload_n hx hb_w dX1_give_0 rfl (lv_at hl 1 rfl) ?_
  refine rdr_S (As := [.int p0_w]) (rest := []) ⟨hx, hb_w, hml, hown, hts⟩ (kX1_isIssue l G_w _ _ p0_w ) (va_cwS 1 hts gX1_give_X1_isIssue rfl rfl rfl (by decide +kernel) ⟨Nat.le_of_ble_eq_true rfl, Nat.le_of_ble_eq_true rfl⟩)  hP hK_w rfl hl.1 rfl (Nat.le_of_ble_eq_true rfl) dX1_give_1 (by decide) (fun r1_w h1 => ?_)
  replace h1 : r1_w = bI (isI p0_w) := h1
  subst h1
  refine lv_if_ne (tgt := 17) hx hb_w dX1_give_4 (by decide) (fun c4_w => ?_) (fun c4_w => ?_)
  · replace c4_w := bIn c4_w
    refine lv_iload_n hx hb_w dX1_give_17 rfl (lv_at hl 2 rfl) ?_
    refine lv_iload_n hx hb_w dX1_give_18 rfl (lv_at hl 1 rfl) ?_
    refine lv_sipush (v := 199) hx hb_w dX1_give_19 (by decide) ?_
    refine rdr_S (As := [.int p1_w, .int p0_w, .int 199]) (rest := []) ⟨hx, hb_w, hml, hown, hts⟩ (kX1_isWithin l G_w _ _ p1_w p0_w 199 ) (va_cwS 3 hts gX1_give_X1_isWithin rfl rfl rfl (by decide +kernel) ⟨Nat.le_of_ble_eq_true rfl, Nat.le_of_ble_eq_true rfl⟩)  hP hK_w rfl hl.1 rfl (Nat.le_of_ble_eq_true rfl) dX1_give_22 (by decide) (fun r22 h22 => ?_)
    replace h22 : r22 = bI (isW p1_w p0_w 199) := h22
    subst h22
    refine lv_if_ne (tgt := 38) hx hb_w dX1_give_25 (by decide) (fun c25_w => ?_) (fun c25_w => ?_)
    · replace c25_w := bIn c25_w
      have hok : okG p0_w p1_w = true := by unfold okG; rw [c4_w, c25_w]; rfl
      obtain ⟨i_w, j_w, ei, ej, hij, hj, eci, ecj⟩ := okG_k hok
      subst ei
      subst ej
      refine lv_iload_n hx hb_w dX1_give_38 rfl (lv_at hl 1 rfl) ?_
      refine lv_istore_n (lv' := [(3, .int (nI i_w)), (0, .ref (a_w 0)), (1, .int (nI i_w)), (2, .int (nI j_w))]) hx hb_w dX1_give_39 rfl hl (by decide) rfl (fun ls hl => ?_)
      have loop40 : ∀ (n_w : Nat) (kk : Nat) (h1 : Nat → Int32) (t1_w : Int32), i_w ≤ kk → kk ≤ j_w + 1 → j_w + 1 - kk < n_w → h1 = gpU (f_w 4) i_w j_w kk → t1_w = nI (cnt (thB h1) 200) → ∀ (H : Heap) (locs_w : List Loc), va_P G_w vwCl (wD a_w cI cZ g_w (up2 f_w 4 h1) cd t1_w) H → va_S (aS a_w 7 s_w.heap.size) s_w.heap H locs_w → ∀ (ls : Array Slot), lv_has ls 4 [(0, .ref (a_w 0)), (1, .int (nI i_w)), (2, .int (nI j_w)), (3, .int (nI kk))] → W p_w l e_w { frames := 6, cells := 1, slots := 6, locals := 90 } s_w m_w args_w below meth_w c_w H locs_w 0 0 Q (F0 m_w 40 ls []) := by
        intro n_w
        induction n_w with
        | zero => intro kk h1 t1_w hm0 hm_w hn eh et; intros; exact absurd hn (Nat.not_lt_zero _)
        | succ n_w ih40 =>
          intro kk h1 t1_w hm0 hm_w hn eh et H locs_w hP hS_w ls hl
          refine lv_iload_n hx hb_w dX1_give_40 rfl (lv_at hl 3 rfl) ?_
          refine lv_iload_n hx hb_w dX1_give_41 rfl (lv_at hl 2 rfl) ?_
          refine lv_icmp_gt (tgt := 77) hx hb_w dX1_give_42 (by decide) (fun c42 => ?_) (fun c42 => ?_)
          · have em : kk = j_w + 1 := by have := lt_nI (a := j_w) (b := kk) (by omega) (by omega) c42; omega
            refine lv_aload_n hx hb_w dX1_give_77 rfl (lv_at hl 0 rfl) ?_
            refine dget (index := 148) (v := .int t1_w) hx hb_w hts hinX1 hown hK_w hP 14 (by decide) (List.mem_of_getElem? (i := 4) rfl) rfl dX1_give_78 ?_
            have hgv : h1 = gvU (f_w 4) i_w j_w := by rw [eh, em]; exact gpU_end2
            rw [et, hgv] at hP
            exact hret t1_w (g_w, up2 f_w 4 (gvU (f_w 4) i_w j_w), cd, nI (cnt (thB (gvU (f_w 4) i_w j_w)) 200)) _ _ _ _ dX1_give_81 rfl hP hS_w ⟨by rw [eci, ecj, et, hgv], by rw [eci, ecj], hok⟩
          have hmj : kk ≤ j_w := nlt_nI (by omega) (by omega) c42
          have hm2 : kk < 200 := by omega
          have zm : h1 kk = f_w 4 kk := by rw [eh]; unfold gpU; rw [if_neg (by omega)]
          refine lv_aload_n hx hb_w dX1_give_45 rfl (lv_at hl 0 rfl) ?_
          refine dget (index := 36) (v := .ref (a_w 6)) hx hb_w hts hinX1 hown hK_w hP 13 (by decide) (List.mem_of_getElem? (i := 3) rfl) rfl dX1_give_46 ?_
          refine lv_iload_n hx hb_w dX1_give_49 rfl (lv_at hl 3 rfl) ?_
          refine arZ (j := kk) (h := h1) hx hb_w hK_w hP 6 rfl rfl hm2 dX1_give_50 ?_
          refine lv_if_ne (tgt := 71) hx hb_w dX1_give_51 (by decide) (fun c51_w => ?_) (fun c51_w => ?_)
          · refine lv_iinc (v := nI (kk + 1)) (lv' := [(3, .int (nI (kk + 1))), (0, .ref (a_w 0)), (1, .int (nI i_w)), (2, .int (nI j_w))]) hx hb_w dX1_give_71 hl (k := 3) rfl (nI_1 _) (by decide) rfl (fun ls hl => ?_)
            refine lv_goto (tgt := 40) hx hb_w dX1_give_74 (by decide) ?_
            exact ih40 (kk + 1) h1 t1_w (by omega) (by omega) (by omega) (by rw [eh]; exact w_same fun k_w => by by_cases q_w : k_w = kk; (rw [q_w]; unfold gpU; rw [if_pos ⟨by omega, by omega, by omega⟩, if_neg (by omega)]; exact ((h01 kk).resolve_left (by rw [← zm]; exact c51_w)).symm); (unfold gpU; simp only [lt_ne q_w])) et _ _ hP hS_w _ (lv_sub hl [1, 2, 3, 0] rfl)
          refine lv_aload_n hx hb_w dX1_give_54 rfl (lv_at hl 0 rfl) ?_
          refine dget (index := 36) (v := .ref (a_w 6)) hx hb_w hts hinX1 hown hK_w hP 13 (by decide) (List.mem_of_getElem? (i := 3) rfl) rfl dX1_give_55 ?_
          refine lv_iload_n hx hb_w dX1_give_58 rfl (lv_at hl 3 rfl) ?_
          refine lv_iconst (v := 1) hx hb_w dX1_give_59 (by decide) ?_
          refine asZ (j := kk) (h := h1) (x := 1) (wD a_w cI cZ g_w (up2 f_w 4 (upd h1 kk 1)) cd t1_w) hx hb_w hK_w hP (wD_D hap _) hS_w 6 rfl rfl hm2 rfl rfl dX1_give_60 (fun H locs_w hP hS_w => ?_)
          refine lv_aload_n hx hb_w dX1_give_61 rfl (lv_at hl 0 rfl) ?_
          refine lv_dup hx hb_w dX1_give_62 rfl ?_
          refine dget (index := 148) (v := .int t1_w) hx hb_w hts hinX1 hown hK_w hP 14 (by decide) (List.mem_of_getElem? (i := 4) rfl) rfl dX1_give_63 ?_
          refine lv_iconst (v := 1) hx hb_w dX1_give_66 (by decide) ?_
          refine lv_iadd hx hb_w dX1_give_67 ?_
          refine dput (index := 148) (v := .int (t1_w + 1)) g_w (t1_w + 1) hx hb_w hts hinX1 hown hK_w hP hap hS_w 14 (by decide) (List.mem_of_getElem? (i := 4) rfl) rfl rfl rfl rfl rfl dX1_give_68 (fun H locs_w hP hS_w => ?_)
          refine lv_iinc (v := nI (kk + 1)) (lv' := [(3, .int (nI (kk + 1))), (0, .ref (a_w 0)), (1, .int (nI i_w)), (2, .int (nI j_w))]) hx hb_w dX1_give_71 hl (k := 3) rfl (nI_1 _) (by decide) rfl (fun ls hl => ?_)
          refine lv_goto (tgt := 40) hx hb_w dX1_give_74 (by decide) ?_
          exact ih40 (kk + 1) (upd h1 kk 1) (t1_w + 1) (by omega) (by omega) (by omega) (by rw [eh]; exact w_step (by unfold gpU; rw [if_pos ⟨by omega, by omega, by omega⟩]) (fun k_w q_w => by unfold gpU; simp only [lt_ne q_w])) (by rw [et, nI_1, cnt_put hm2 c51_w]) _ _ hP hS_w _ (lv_sub hl [1, 2, 3, 0] rfl)
      exact loop40 (j_w + 2) i_w (f_w 4) tc_w (by omega) (by omega) (by omega) (w_same fun k_w => by unfold gpU; rw [if_neg (by omega)]) htc _ _ hP hS_w _ (lv_sub hl [1, 2, 3, 0] rfl)
    replace c25_w := bI0 c25_w
    exact hthr (xA, 50, 54) "last is not first to 199" 146 _ _ _ _ hP hS_w hl.1 (by decide) ⟨rfl, by simp [okG, c4_w, c25_w]⟩ (by decide) (List.mem_of_getElem? (i := 1) rfl) (List.mem_of_getElem? (i := 2) rfl) (fun w_w h_w => List.mem_cons_of_mem _ (List.mem_append_right _ h_w)) dX1_give_28 dX1_give_31 dX1_give_32 dX1_give_34 dX1_give_37
  replace c4_w := bI0 c4_w
  exact hthr (xA, 50, 54) "first is not 0 to 199" 144 _ _ _ _ hP hS_w hl.1 (by decide) ⟨rfl, by simp [okG, c4_w]⟩ (by decide) (List.mem_of_getElem? (i := 1) rfl) (List.mem_of_getElem? (i := 2) rfl) (fun w_w h_w => List.mem_cons_of_mem _ (List.mem_append_right _ h_w)) dX1_give_7 dX1_give_10 dX1_give_11 dX1_give_13 dX1_give_16
set_option maxHeartbeats 4000000 in
set_option maxRecDepth 100000 in
theorem kX1_only (l : Launch) (hst : l.stackTraces = false) (G_w : va_G) (a_w : Nat → Nat) (cI cZ : ClassId) (g_w : Nat → Int32) (f_w : Nat → Nat → Int32) (cd : Nat → Int32) (tc_w : Int32) (hap : apart a_w 7) (sz_w : Nat) (p0_w p1_w : Int32) (hp0 : p0_w = 0 ∨ p0_w = 1) (h01 : ∀ k_w, f_w 4 k_w = 0 ∨ f_w 4 k_w = 1): thi l yX1_only wsX1_only { frames := 6, cells := 1, slots := 6, locals := 90 } G_w (wD a_w cI cZ g_w f_w cd tc_w) (tyIZ cI cZ) (aS a_w 7 sz_w) sz_w [.ref (a_w 0), .int p0_w, .int p1_w] (fun r_w u_w => r_w = scan (onB g_w f_w p0_w) p1_w 0 200 0 ∧ u_w = (g_w, f_w, cd, tc_w) ∧ 0 ≤ p1_w) (wfD a_w cI cZ) (fun E_w => E_w = xA ∧ ¬ 0 ≤ p1_w) := by
  refine thi_of (cc := cX1_only) (nL := 6) (ty := .int) hst ⟨by decide, by decide, by decide, by decide⟩ rfl (Nat.le_of_ble_eq_true rfl) ?_
  intro p_w e_w s_w m_w args_w below meth_w c_w H locs_w ls Q hx hb_w hml hown hts hP hK_w hS_w hret hthr hl
  have hl : lv_has ls 6 [(0, .ref (a_w 0)), (1, .int p0_w), (2, .int p1_w)] := hl
  have hinX1 : ∀ w_w ∈ wsX10, w_w ∈ wsX1_only := by decide +kernel
  refine lv_iload_n hx hb_w dX1_only_0 rfl (lv_at hl 2 rfl) ?_
  refine lv_if_ge (tgt := 14) hx hb_w dX1_only_1 (by decide) (fun c1_w => ?_) (fun c1_w => ?_)
  · refine lv_iconst (v := 0) hx hb_w dX1_only_14 (by decide) ?_
    refine lv_istore_n (lv' := [(3, .int 0), (0, .ref (a_w 0)), (1, .int p0_w), (2, .int p1_w)]) hx hb_w dX1_only_15 rfl hl (by decide) rfl (fun ls hl => ?_)
    refine lv_iconst (v := 0) hx hb_w dX1_only_16 (by decide) ?_
    refine lv_istore (lv' := [(4, .int 0), (3, .int 0), (0, .ref (a_w 0)), (1, .int p0_w), (2, .int p1_w)]) hx hb_w dX1_only_17 hl (by decide) rfl (fun ls hl => ?_)
    have loop19 : ∀ (n_w : Nat) (i_w sN_w : Nat) (x : Int32), i_w ≤ 200 → 200 - i_w < n_w → x = nI sN_w → scan (onB g_w f_w p0_w) p1_w i_w (200 - i_w) sN_w = scan (onB g_w f_w p0_w) p1_w 0 200 0 → ∀ (H : Heap) (locs_w : List Loc), va_P G_w vwCl (wD a_w cI cZ g_w f_w cd tc_w) H → va_S (aS a_w 7 s_w.heap.size) s_w.heap H locs_w → ∀ (ls : Array Slot), lv_has ls 6 [(0, .ref (a_w 0)), (1, .int p0_w), (2, .int p1_w), (3, .int x), (4, .int (nI i_w))] → W p_w l e_w { frames := 6, cells := 1, slots := 6, locals := 90 } s_w m_w args_w below meth_w c_w H locs_w 0 0 Q (F0 m_w 19 ls []) := by
      intro n_w
      induction n_w with
      | zero => intro i_w sN_w x hi_w hn ex_w hq; intros; exact absurd hn (Nat.not_lt_zero _)
      | succ n_w ih19 =>
        intro i_w sN_w x hi_w hn ex_w hq H locs_w hP hS_w ls hl
        refine lv_iload hx hb_w dX1_only_19 (lv_at hl 4 rfl) ?_
        refine lv_sipush (v := 200) hx hb_w dX1_only_21 (by decide) ?_
        refine lv_icmp_ge (tgt := 70) hx hb_w dX1_only_24 (by decide) (fun c24_w => ?_) (fun c24_w => ?_)
        · have ei := ge_200 c24_w (by omega)
          refine lv_iconst (v := (-1)) hx hb_w dX1_only_70 (by decide) ?_
          exact hret (-1) (g_w, f_w, cd, tc_w) _ _ _ _ dX1_only_71 rfl hP hS_w ⟨by rw [← hq, ei]; rfl, rfl, c1_w⟩
        have hi2 := nge_200 c24_w (by omega)
        refine lv_aload_n hx hb_w dX1_only_27 rfl (lv_at hl 0 rfl) ?_
        refine lv_iload hx hb_w dX1_only_28 (lv_at hl 4 rfl) ?_
        refine rdr_V (As := [.int (nI i_w)]) (rest := []) ⟨hx, hb_w, hml, hown, hts⟩ (kX1_isInHouse l G_w a_w cI cZ g_w f_w cd tc_w (nI i_w) ) (cwV 1 hts gX1_only_X1_isInHouse rfl rfl rfl (by decide +kernel) ⟨Nat.le_of_ble_eq_true rfl, Nat.le_of_ble_eq_true rfl⟩) (va_recv hK_w hP (ci := 1) (q0 := 0) rfl rfl) hP hK_w rfl hl.1 rfl (Nat.le_of_ble_eq_true rfl) dX1_only_30 (by decide) (fun r30 h30 => ?_)
        replace h30 : r30 = bI (hereI g_w f_w (nI i_w)) := h30
        subst h30
        refine lv_istore (lv' := [(5, .int (bI (hereI g_w f_w (nI i_w)))), (0, .ref (a_w 0)), (1, .int p0_w), (2, .int p1_w), (3, .int x), (4, .int (nI i_w))]) hx hb_w dX1_only_33 hl (by decide) rfl (fun ls hl => ?_)
        refine lv_iload hx hb_w dX1_only_35 (lv_at hl 0 rfl) ?_
        refine lv_aload_n hx hb_w dX1_only_37 rfl (lv_at hl 1 rfl) ?_
        refine dget (index := 36) (v := .ref (a_w 6)) hx hb_w hts hinX1 hown hK_w hP 13 (by decide) (List.mem_of_getElem? (i := 3) rfl) rfl dX1_only_38 ?_
        refine lv_iload hx hb_w dX1_only_41 (lv_at hl 5 rfl) ?_
        refine arZ (j := i_w) (h := (f_w 4)) hx hb_w hK_w hP 6 rfl rfl hi2 dX1_only_43 ?_
        refine lv_icmp_eq (tgt := 64) hx hb_w dX1_only_44 (by decide) (fun c44_w => ?_) (fun c44_w => ?_)
        · have ho : onB g_w f_w p0_w i_w = false := on_same (h01 i_w) (by rw [← hereI_nI hi2]; exact c44_w)
          refine lv_iinc (v := nI (i_w + 1)) (lv' := [(4, .int (nI (i_w + 1))), (5, .int (bI (hereI g_w f_w (nI i_w)))), (0, .ref (a_w 0)), (1, .int p0_w), (2, .int p1_w), (3, .int x)]) hx hb_w dX1_only_64 hl (k := 5) rfl (nI_1 _) (by decide) rfl (fun ls hl => ?_)
          refine lv_goto (tgt := 19) hx hb_w dX1_only_67 (by decide) ?_
          exact ih19 (i_w + 1) sN_w x (by omega) (by omega) ex_w (by rw [← hq, scan_step hi2, if_neg (by rw [ho]; decide)]) _ _ hP hS_w _ (lv_sub hl [2, 3, 4, 5, 0] rfl)
        refine lv_iload hx hb_w dX1_only_47 (lv_at hl 0 rfl) ?_
        refine lv_iload_n hx hb_w dX1_only_49 rfl (lv_at hl 2 rfl) ?_
        refine lv_icmp_ne (tgt := 64) hx hb_w dX1_only_50 (by decide) (fun c50 => ?_) (fun c50 => ?_)
        · have ho : onB g_w f_w p0_w i_w = false := on_ne hp0 (by rw [← hereI_nI hi2]; exact c50)
          refine lv_iinc (v := nI (i_w + 1)) (lv' := [(4, .int (nI (i_w + 1))), (5, .int (bI (hereI g_w f_w (nI i_w)))), (0, .ref (a_w 0)), (1, .int p0_w), (2, .int p1_w), (3, .int x)]) hx hb_w dX1_only_64 hl (k := 5) rfl (nI_1 _) (by decide) rfl (fun ls hl => ?_)
          refine lv_goto (tgt := 19) hx hb_w dX1_only_67 (by decide) ?_
          exact ih19 (i_w + 1) sN_w x (by omega) (by omega) ex_w (by rw [← hq, scan_step hi2, if_neg (by rw [ho]; decide)]) _ _ hP hS_w _ (lv_sub hl [2, 3, 4, 5, 0] rfl)
        have ho : onB g_w f_w p0_w i_w = true := on_eq (h01 i_w) (by rw [← hereI_nI hi2]; exact c44_w) (by rw [← hereI_nI hi2]; exact c50)
        refine lv_iload_n hx hb_w dX1_only_53 rfl (lv_at hl 4 rfl) ?_
        refine lv_iload_n hx hb_w dX1_only_54 rfl (lv_at hl 3 rfl) ?_
        refine lv_icmp_ne (tgt := 61) hx hb_w dX1_only_55 (by decide) (fun c55 => ?_) (fun c55 => ?_)
        · refine lv_iinc (v := x + 1) (lv' := [(3, .int (x + 1)), (5, .int (bI (hereI g_w f_w (nI i_w)))), (0, .ref (a_w 0)), (1, .int p0_w), (2, .int p1_w), (4, .int (nI i_w))]) hx hb_w dX1_only_61 hl (k := 4) rfl rfl (by decide) rfl (fun ls hl => ?_)
          refine lv_iinc (v := nI (i_w + 1)) (lv' := [(4, .int (nI (i_w + 1))), (3, .int (x + 1)), (5, .int (bI (hereI g_w f_w (nI i_w)))), (0, .ref (a_w 0)), (1, .int p0_w), (2, .int p1_w)]) hx hb_w dX1_only_64 hl (k := 5) rfl (nI_1 _) (by decide) rfl (fun ls hl => ?_)
          refine lv_goto (tgt := 19) hx hb_w dX1_only_67 (by decide) ?_
          exact ih19 (i_w + 1) (sN_w + 1) (x + 1) (by omega) (by omega) (by rw [ex_w]; exact nI_1 _) (by rw [← hq, scan_step hi2, if_pos ho, if_neg (by rw [← ex_w]; exact c55)]) _ _ hP hS_w _ (lv_sub hl [3, 4, 5, 1, 0] rfl)
        refine lv_iload hx hb_w dX1_only_58 (lv_at hl 5 rfl) ?_
        exact hret (nI i_w) (g_w, f_w, cd, tc_w) _ _ _ _ dX1_only_60 rfl hP hS_w ⟨by rw [← hq, scan_step hi2, if_pos ho, if_pos (by rw [← ex_w]; exact c55)], rfl, c1_w⟩
    exact loop19 201 0 0 0 (by omega) (by omega) rfl rfl _ _ hP hS_w _ (lv_sub hl [2, 3, 4, 1, 0] rfl)
  exact hthr (xA, 50, 54) "k is below 0" 151 _ _ _ _ hP hS_w hl.1 (by decide) ⟨rfl, c1_w⟩ (by decide) (List.mem_of_getElem? (i := 1) rfl) (List.mem_of_getElem? (i := 2) rfl) (fun w_w h_w => List.mem_cons_of_mem _ (List.mem_append_right _ h_w)) dX1_only_4 dX1_only_7 dX1_only_8 dX1_only_10 dX1_only_13
