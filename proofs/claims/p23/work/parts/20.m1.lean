set_option maxHeartbeats 4000000 in
set_option maxRecDepth 100000 in
theorem kX1_isWithin (l : Launch) (G_w : va_G) (ws_w : va_W) (tys : List (ClassId × FieldType)) (p0_w p1_w p2_w : Int32): rdr l yX1_isWithin wsX1_isWithin { frames := 0, cells := 0, slots := 0, locals := 0 } G_w ws_w tys [.int p0_w, .int p1_w, .int p2_w] (fun r_w => r_w = bI (isW p0_w p1_w p2_w)) := by
  refine rdr_of (cc := cX1_isWithin) (nL := 3) (ty := .boolean) (by decide) rfl (Nat.le_of_ble_eq_true rfl) ?_
  intro p_w e_w s_w m_w args_w below meth_w c_w H ls Q hx hb_w hml hown hts hP hK_w hret hl
  have hl : lv_has ls 3 [(0, .int p0_w), (1, .int p1_w), (2, .int p2_w)] := hl
  refine lv_iload_n hx hb_w dX1_isWithin_0 rfl (lv_at hl 0 rfl) ?_
  refine lv_iload_n hx hb_w dX1_isWithin_1 rfl (lv_at hl 1 rfl) ?_
  refine lv_icmp_lt (tgt := 14) hx hb_w dX1_isWithin_2 (by decide) (fun c2_w => ?_) (fun c2_w => ?_)
  · refine lv_iconst (v := 0) hx hb_w dX1_isWithin_14 (by decide) ?_
    exact hret 0 _ _ dX1_isWithin_15 rfl (by simp [bI, isW, c2_w])
  refine lv_iload_n hx hb_w dX1_isWithin_5 rfl (lv_at hl 0 rfl) ?_
  refine lv_iload_n hx hb_w dX1_isWithin_6 rfl (lv_at hl 2 rfl) ?_
  refine lv_icmp_gt (tgt := 14) hx hb_w dX1_isWithin_7 (by decide) (fun c7_w => ?_) (fun c7_w => ?_)
  · refine lv_iconst (v := 0) hx hb_w dX1_isWithin_14 (by decide) ?_
    exact hret 0 _ _ dX1_isWithin_15 rfl (by simp [bI, isW, c2_w, c7_w])
  refine lv_iconst (v := 1) hx hb_w dX1_isWithin_10 (by decide) ?_
  refine lv_goto (tgt := 15) hx hb_w dX1_isWithin_11 (by decide) ?_
  exact hret 1 _ _ dX1_isWithin_15 rfl (by simp [bI, isW, c2_w, c7_w])
set_option maxHeartbeats 4000000 in
set_option maxRecDepth 100000 in
theorem kX1_isIssue (l : Launch) (G_w : va_G) (ws_w : va_W) (tys : List (ClassId × FieldType)) (p0_w : Int32): rdr l yX1_isIssue wsX1_isIssue { frames := 0, cells := 0, slots := 0, locals := 0 } G_w ws_w tys [.int p0_w] (fun r_w => r_w = bI (isI p0_w)) := by
  refine rdr_of (cc := cX1_isIssue) (nL := 1) (ty := .boolean) (by decide) rfl (Nat.le_of_ble_eq_true rfl) ?_
  intro p_w e_w s_w m_w args_w below meth_w c_w H ls Q hx hb_w hml hown hts hP hK_w hret hl
  have hl : lv_has ls 1 [(0, .int p0_w)] := hl
  refine lv_iload_n hx hb_w dX1_isIssue_0 rfl (lv_at hl 0 rfl) ?_
  refine lv_if_lt (tgt := 15) hx hb_w dX1_isIssue_1 (by decide) (fun c1_w => ?_) (fun c1_w => ?_)
  · refine lv_iconst (v := 0) hx hb_w dX1_isIssue_15 (by decide) ?_
    exact hret 0 _ _ dX1_isIssue_16 rfl (by simp [bI, isI, c1_w])
  refine lv_iload_n hx hb_w dX1_isIssue_4 rfl (lv_at hl 0 rfl) ?_
  refine lv_sipush (v := 200) hx hb_w dX1_isIssue_5 (by decide) ?_
  refine lv_icmp_ge (tgt := 15) hx hb_w dX1_isIssue_8 (by decide) (fun c8_w => ?_) (fun c8_w => ?_)
  · refine lv_iconst (v := 0) hx hb_w dX1_isIssue_15 (by decide) ?_
    exact hret 0 _ _ dX1_isIssue_16 rfl (by simp [bI, isI, c1_w, c8_w])
  refine lv_iconst (v := 1) hx hb_w dX1_isIssue_11 (by decide) ?_
  refine lv_goto (tgt := 16) hx hb_w dX1_isIssue_12 (by decide) ?_
  exact hret 1 _ _ dX1_isIssue_16 rfl (by simp [bI, isI, c1_w, c8_w])
set_option maxHeartbeats 4000000 in
set_option maxRecDepth 100000 in
theorem kX1_isForetold (l : Launch) (G_w : va_G) (a_w : Nat → Nat) (cI cZ : ClassId) (g_w : Nat → Int32) (f_w : Nat → Nat → Int32) (cd : Nat → Int32) (tc_w : Int32) (p0_w : Int32): rdr l yX1_isForetold wsX1_isForetold { frames := 1, cells := 0, slots := 0, locals := 20 } G_w (wD a_w cI cZ g_w f_w cd tc_w) (tyIZ cI cZ) [.ref (a_w 0), .int p0_w] (fun r_w => r_w = bI (isF g_w p0_w)) := by
  refine rdr_of (cc := cX1_isForetold) (nL := 2) (ty := .boolean) (by decide) rfl (Nat.le_of_ble_eq_true rfl) ?_
  intro p_w e_w s_w m_w args_w below meth_w c_w H ls Q hx hb_w hml hown hts hP hK_w hret hl
  have hl : lv_has ls 2 [(0, .ref (a_w 0)), (1, .int p0_w)] := hl
  have hinX1 : ∀ w_w ∈ wsX10, w_w ∈ wsX1_isForetold := by decide +kernel
  refine lv_iload_n hx hb_w dX1_isForetold_0 rfl (lv_at hl 1 rfl) ?_
  refine rdr_S (As := [.int p0_w]) (rest := []) ⟨hx, hb_w, hml, hown, hts⟩ (kX1_isIssue l G_w _ _ p0_w ) (va_cwS 1 hts gX1_isForetold_X1_isIssue rfl rfl rfl (by decide +kernel) ⟨Nat.le_of_ble_eq_true rfl, Nat.le_of_ble_eq_true rfl⟩)  hP hK_w rfl hl.1 rfl (Nat.le_of_ble_eq_true rfl) dX1_isForetold_1 (by decide) (fun r1_w h1 => ?_)
  replace h1 : r1_w = bI (isI p0_w) := h1
  subst h1
  refine lv_if_eq (tgt := 19) hx hb_w dX1_isForetold_4 (by decide) (fun c4_w => ?_) (fun c4_w => ?_)
  · replace c4_w := bI0 c4_w
    refine lv_iconst (v := 0) hx hb_w dX1_isForetold_19 (by decide) ?_
    exact hret 0 _ _ dX1_isForetold_20 rfl (by simp [bI, isF, c4_w])
  replace c4_w := bIn c4_w
  refine lv_iload_n hx hb_w dX1_isForetold_7 rfl (lv_at hl 1 rfl) ?_
  refine lv_aload_n hx hb_w dX1_isForetold_8 rfl (lv_at hl 0 rfl) ?_
  refine dget (index := 40) (v := .int (g_w 7)) hx hb_w hts hinX1 hown hK_w hP 4 (by decide) (List.mem_of_getElem? (i := 1) rfl) rfl dX1_isForetold_9 ?_
  refine lv_icmp_ge (tgt := 19) hx hb_w dX1_isForetold_12 (by decide) (fun c12_w => ?_) (fun c12_w => ?_)
  · refine lv_iconst (v := 0) hx hb_w dX1_isForetold_19 (by decide) ?_
    exact hret 0 _ _ dX1_isForetold_20 rfl (by simp [bI, isF, c4_w, c12_w])
  refine lv_iconst (v := 1) hx hb_w dX1_isForetold_15 (by decide) ?_
  refine lv_goto (tgt := 20) hx hb_w dX1_isForetold_16 (by decide) ?_
  exact hret 1 _ _ dX1_isForetold_20 rfl (by simp [bI, isF, c4_w, c12_w])
set_option maxHeartbeats 4000000 in
set_option maxRecDepth 100000 in
theorem kX0_isInSkippedMonth (l : Launch) (G_w : va_G) (a_w : Nat → Nat) (cI cZ : ClassId) (g_w : Nat → Int32) (f_w : Nat → Nat → Int32) (cd : Nat → Int32) (tc_w : Int32) (p0_w : Int32): rdr l yX0_isInSkippedMonth wsX0_isInSkippedMonth { frames := 0, cells := 0, slots := 0, locals := 0 } G_w (wD a_w cI cZ g_w f_w cd tc_w) (tyIZ cI cZ) [.ref (a_w 1), .int p0_w] (fun r_w => r_w = bI (bar g_w p0_w)) := by
  refine rdr_of (cc := cX0_isInSkippedMonth) (nL := 3) (ty := .boolean) (by decide) rfl (Nat.le_of_ble_eq_true rfl) ?_
  intro p_w e_w s_w m_w args_w below meth_w c_w H ls Q hx hb_w hml hown hts hP hK_w hret hl
  have hl : lv_has ls 3 [(0, .ref (a_w 1)), (1, .int p0_w)] := hl
  have hinX0 : ∀ w_w ∈ wsX00, w_w ∈ wsX0_isInSkippedMonth := by decide +kernel
  refine lv_iload_n hx hb_w dX0_isInSkippedMonth_0 rfl (lv_at hl 1 rfl) ?_
  refine lv_bipush (v := 30) hx hb_w dX0_isInSkippedMonth_1 (by decide) ?_
  refine lv_idiv hx hb_w dX0_isInSkippedMonth_3 (by decide) ?_
  refine lv_bipush (v := 12) hx hb_w dX0_isInSkippedMonth_4 (by decide) ?_
  refine lv_irem hx hb_w dX0_isInSkippedMonth_6 (by decide) ?_
  refine lv_istore_n (lv' := [(2, .int ((p0_w / 30) - (p0_w / 30) / 12 * 12)), (0, .ref (a_w 1)), (1, .int p0_w)]) hx hb_w dX0_isInSkippedMonth_7 rfl hl (by decide) rfl (fun ls hl => ?_)
  refine lv_aload_n hx hb_w dX0_isInSkippedMonth_8 rfl (lv_at hl 1 rfl) ?_
  refine pget (index := 22) (v := .int (g_w 4)) hx hb_w hts hinX0 hown hK_w hP 3 (by decide) (List.mem_of_getElem? (i := 1) rfl) rfl dX0_isInSkippedMonth_9 ?_
  refine lv_iload_n hx hb_w dX0_isInSkippedMonth_12 rfl (lv_at hl 0 rfl) ?_
  refine lv_ishr hx hb_w dX0_isInSkippedMonth_13 ?_
  refine lv_iconst (v := 1) hx hb_w dX0_isInSkippedMonth_14 (by decide) ?_
  refine lv_iand hx hb_w dX0_isInSkippedMonth_15 ?_
  refine lv_if_eq (tgt := 23) hx hb_w dX0_isInSkippedMonth_16 (by decide) (fun c16 => ?_) (fun c16 => ?_)
  · refine lv_iconst (v := 0) hx hb_w dX0_isInSkippedMonth_23 (by decide) ?_
    exact hret 0 _ _ dX0_isInSkippedMonth_24 rfl (by simp only [bI, bar, barV]; simp [c16])
  refine lv_iconst (v := 1) hx hb_w dX0_isInSkippedMonth_19 (by decide) ?_
  refine lv_goto (tgt := 24) hx hb_w dX0_isInSkippedMonth_20 (by decide) ?_
  exact hret 1 _ _ dX0_isInSkippedMonth_24 rfl (by simp only [bI, bar, barV]; simp [c16])
set_option maxHeartbeats 4000000 in
set_option maxRecDepth 100000 in
theorem kX0_volumeOf (l : Launch) (G_w : va_G) (a_w : Nat → Nat) (cI cZ : ClassId) (g_w : Nat → Int32) (f_w : Nat → Nat → Int32) (cd : Nat → Int32) (tc_w : Int32) (p0_w : Int32): rdr l yX0_volumeOf wsX0_volumeOf { frames := 0, cells := 0, slots := 0, locals := 0 } G_w (wD a_w cI cZ g_w f_w cd tc_w) (tyIZ cI cZ) [.ref (a_w 1), .int p0_w] (fun r_w => r_w = volD g_w p0_w) := by
  refine rdr_of (cc := cX0_volumeOf) (nL := 2) (ty := .int) (by decide) rfl (Nat.le_of_ble_eq_true rfl) ?_
  intro p_w e_w s_w m_w args_w below meth_w c_w H ls Q hx hb_w hml hown hts hP hK_w hret hl
  have hl : lv_has ls 2 [(0, .ref (a_w 1)), (1, .int p0_w)] := hl
  have hinX0 : ∀ w_w ∈ wsX00, w_w ∈ wsX0_volumeOf := by decide +kernel
  refine lv_aload_n hx hb_w dX0_volumeOf_0 rfl (lv_at hl 0 rfl) ?_
  refine pget (index := 15) (v := .int (g_w 2)) hx hb_w hts hinX0 hown hK_w hP 1 (by decide) (List.mem_of_getElem? (i := 1) rfl) rfl dX0_volumeOf_1 ?_
  refine lv_iconst (v := 1) hx hb_w dX0_volumeOf_4 (by decide) ?_
  refine lv_icmp_ge (tgt := 12) hx hb_w dX0_volumeOf_5 (by decide) (fun c5_w => ?_) (fun c5_w => ?_)
  · refine lv_iload_n hx hb_w dX0_volumeOf_12 rfl (lv_at hl 1 rfl) ?_
    refine lv_aload_n hx hb_w dX0_volumeOf_13 rfl (lv_at hl 0 rfl) ?_
    refine pget (index := 15) (v := .int (g_w 2)) hx hb_w hts hinX0 hown hK_w hP 1 (by decide) (List.mem_of_getElem? (i := 1) rfl) rfl dX0_volumeOf_14 ?_
    refine lv_idiv hx hb_w dX0_volumeOf_17 (fun q_w => by rw [q_w] at c5_w; exact absurd c5_w (by decide)) ?_
    refine lv_iconst (v := 1) hx hb_w dX0_volumeOf_18 (by decide) ?_
    refine lv_iadd hx hb_w dX0_volumeOf_19 ?_
    exact hret ((p0_w / (g_w 2)) + 1) _ _ dX0_volumeOf_20 rfl (by simp [volD, c5_w])
  refine lv_iconst (v := (-1)) hx hb_w dX0_volumeOf_8 (by decide) ?_
  refine lv_goto (tgt := 20) hx hb_w dX0_volumeOf_9 (by decide) ?_
  exact hret (-1) _ _ dX0_volumeOf_20 rfl (by simp [volD, c5_w])
set_option maxHeartbeats 4000000 in
set_option maxRecDepth 100000 in
theorem kX0_numberOf (l : Launch) (G_w : va_G) (a_w : Nat → Nat) (cI cZ : ClassId) (g_w : Nat → Int32) (f_w : Nat → Nat → Int32) (cd : Nat → Int32) (tc_w : Int32) (p0_w : Int32): rdr l yX0_numberOf wsX0_numberOf { frames := 0, cells := 0, slots := 0, locals := 0 } G_w (wD a_w cI cZ g_w f_w cd tc_w) (tyIZ cI cZ) [.ref (a_w 1), .int p0_w] (fun r_w => r_w = numD g_w p0_w) := by
  refine rdr_of (cc := cX0_numberOf) (nL := 2) (ty := .int) (by decide) rfl (Nat.le_of_ble_eq_true rfl) ?_
  intro p_w e_w s_w m_w args_w below meth_w c_w H ls Q hx hb_w hml hown hts hP hK_w hret hl
  have hl : lv_has ls 2 [(0, .ref (a_w 1)), (1, .int p0_w)] := hl
  have hinX0 : ∀ w_w ∈ wsX00, w_w ∈ wsX0_numberOf := by decide +kernel
  refine lv_aload_n hx hb_w dX0_numberOf_0 rfl (lv_at hl 0 rfl) ?_
  refine pget (index := 18) (v := .int (g_w 3)) hx hb_w hts hinX0 hown hK_w hP 2 (by decide) (List.mem_of_getElem? (i := 1) rfl) rfl dX0_numberOf_1 ?_
  refine lv_if_ne (tgt := 11) hx hb_w dX0_numberOf_4 (by decide) (fun c4_w => ?_) (fun c4_w => ?_)
  · refine lv_aload_n hx hb_w dX0_numberOf_11 rfl (lv_at hl 0 rfl) ?_
    refine pget (index := 15) (v := .int (g_w 2)) hx hb_w hts hinX0 hown hK_w hP 1 (by decide) (List.mem_of_getElem? (i := 2) rfl) rfl dX0_numberOf_12 ?_
    refine lv_iconst (v := 1) hx hb_w dX0_numberOf_15 (by decide) ?_
    refine lv_icmp_ge (tgt := 23) hx hb_w dX0_numberOf_16 (by decide) (fun c16 => ?_) (fun c16 => ?_)
    · refine lv_iload_n hx hb_w dX0_numberOf_23 rfl (lv_at hl 1 rfl) ?_
      refine lv_aload_n hx hb_w dX0_numberOf_24 rfl (lv_at hl 0 rfl) ?_
      refine pget (index := 15) (v := .int (g_w 2)) hx hb_w hts hinX0 hown hK_w hP 1 (by decide) (List.mem_of_getElem? (i := 2) rfl) rfl dX0_numberOf_25 ?_
      refine lv_irem hx hb_w dX0_numberOf_28 (fun q_w => by rw [q_w] at c16; exact absurd c16 (by decide)) ?_
      refine lv_iconst (v := 1) hx hb_w dX0_numberOf_29 (by decide) ?_
      refine lv_iadd hx hb_w dX0_numberOf_30 ?_
      exact hret ((p0_w - p0_w / (g_w 2) * (g_w 2)) + 1) _ _ dX0_numberOf_31 rfl (by simp [numD, c4_w, c16])
    refine lv_iconst (v := (-1)) hx hb_w dX0_numberOf_19 (by decide) ?_
    refine lv_goto (tgt := 31) hx hb_w dX0_numberOf_20 (by decide) ?_
    exact hret (-1) _ _ dX0_numberOf_31 rfl (by simp [numD, c4_w, c16])
  refine lv_iload_n hx hb_w dX0_numberOf_7 rfl (lv_at hl 1 rfl) ?_
  refine lv_iconst (v := 1) hx hb_w dX0_numberOf_8 (by decide) ?_
  refine lv_iadd hx hb_w dX0_numberOf_9 ?_
  exact hret (p0_w + 1) _ _ dX0_numberOf_10 rfl (by simp [numD, c4_w])
set_option maxHeartbeats 4000000 in
set_option maxRecDepth 100000 in
theorem kX1_isLate (l : Launch) (G_w : va_G) (a_w : Nat → Nat) (cI cZ : ClassId) (g_w : Nat → Int32) (f_w : Nat → Nat → Int32) (cd : Nat → Int32) (tc_w : Int32) (k_w : Nat) (hk : k_w < 200): rdr l yX1_isLate wsX1_isLate { frames := 2, cells := 0, slots := 0, locals := 41 } G_w (wD a_w cI cZ g_w f_w cd tc_w) (tyIZ cI cZ) [.ref (a_w 0), .int (nI k_w)] (fun r_w => r_w = bI (lateB g_w f_w k_w)) := by
  refine rdr_of (cc := cX1_isLate) (nL := 2) (ty := .boolean) (by decide) rfl (Nat.le_of_ble_eq_true rfl) ?_
  intro p_w e_w s_w m_w args_w below meth_w c_w H ls Q hx hb_w hml hown hts hP hK_w hret hl
  have hl : lv_has ls 2 [(0, .ref (a_w 0)), (1, .int (nI k_w))] := hl
  have hinX1 : ∀ w_w ∈ wsX10, w_w ∈ wsX1_isLate := by decide +kernel
  have b0 : isF g_w (nI k_w) = (!decide (g_w 7 ≤ nI k_w)) := by simp [isF, isI_nI hk]
  refine lv_aload_n hx hb_w dX1_isLate_0 rfl (lv_at hl 0 rfl) ?_
  refine lv_iload_n hx hb_w dX1_isLate_1 rfl (lv_at hl 1 rfl) ?_
  refine rdr_V (As := [.int (nI k_w)]) (rest := []) ⟨hx, hb_w, hml, hown, hts⟩ (kX1_isForetold l G_w a_w cI cZ g_w f_w cd tc_w (nI k_w) ) (cwV 1 hts gX1_isLate_X1_isForetold rfl rfl rfl (by decide +kernel) ⟨Nat.le_of_ble_eq_true rfl, Nat.le_of_ble_eq_true rfl⟩) (va_recv hK_w hP (ci := 1) (q0 := 0) rfl rfl) hP hK_w rfl hl.1 rfl (Nat.le_of_ble_eq_true rfl) dX1_isLate_2 (by decide) (fun r2 h2 => ?_)
  replace h2 : r2 = bI (isF g_w (nI k_w)) := h2
  subst h2
  refine lv_if_eq (tgt := 39) hx hb_w dX1_isLate_5 (by decide) (fun c5_w => ?_) (fun c5_w => ?_)
  · replace c5_w := bI0 c5_w
    refine lv_iconst (v := 0) hx hb_w dX1_isLate_39 (by decide) ?_
    exact hret 0 _ _ dX1_isLate_40 rfl (by rw [b0] at c5_w; simp [bI, lateB, c5_w])
  replace c5_w := bIn c5_w
  refine lv_aload_n hx hb_w dX1_isLate_8 rfl (lv_at hl 0 rfl) ?_
  refine dget (index := 27) (v := .ref (a_w 3)) hx hb_w hts hinX1 hown hK_w hP 7 (by decide) (List.mem_of_getElem? (i := 1) rfl) rfl dX1_isLate_9 ?_
  refine lv_iload_n hx hb_w dX1_isLate_12 rfl (lv_at hl 1 rfl) ?_
  refine arI (j := k_w) (h := (f_w 1)) hx hb_w hK_w hP 3 rfl rfl hk dX1_isLate_13 ?_
  refine lv_if_ne (tgt := 39) hx hb_w dX1_isLate_14 (by decide) (fun c14_w => ?_) (fun c14_w => ?_)
  · refine lv_iconst (v := 0) hx hb_w dX1_isLate_39 (by decide) ?_
    exact hret 0 _ _ dX1_isLate_40 rfl (by rw [b0] at c5_w; simp [bI, lateB, c5_w, c14_w])
  refine lv_aload_n hx hb_w dX1_isLate_17 rfl (lv_at hl 0 rfl) ?_
  refine dget (index := 74) (v := .int (g_w 0)) hx hb_w hts hinX1 hown hK_w hP 3 (by decide) (List.mem_of_getElem? (i := 2) rfl) rfl dX1_isLate_18 ?_
  refine lv_aload_n hx hb_w dX1_isLate_21 rfl (lv_at hl 0 rfl) ?_
  refine dget (index := 23) (v := .ref (a_w 2)) hx hb_w hts hinX1 hown hK_w hP 6 (by decide) (List.mem_of_getElem? (i := 3) rfl) rfl dX1_isLate_22 ?_
  refine lv_iload_n hx hb_w dX1_isLate_25 rfl (lv_at hl 1 rfl) ?_
  refine arI (j := k_w) (h := (f_w 0)) hx hb_w hK_w hP 2 rfl rfl hk dX1_isLate_26 ?_
  refine lv_isub hx hb_w dX1_isLate_27 ?_
  refine lv_aload_n hx hb_w dX1_isLate_28 rfl (lv_at hl 0 rfl) ?_
  refine dget (index := 16) (v := .int (g_w 5)) hx hb_w hts hinX1 hown hK_w hP 1 (by decide) (List.mem_of_getElem? (i := 4) rfl) rfl dX1_isLate_29 ?_
  refine lv_icmp_le (tgt := 39) hx hb_w dX1_isLate_32 (by decide) (fun c32_w => ?_) (fun c32_w => ?_)
  · refine lv_iconst (v := 0) hx hb_w dX1_isLate_39 (by decide) ?_
    exact hret 0 _ _ dX1_isLate_40 rfl (by rw [b0] at c5_w; simp [bI, lateB, c5_w, c14_w, c32_w])
  refine lv_iconst (v := 1) hx hb_w dX1_isLate_35 (by decide) ?_
  refine lv_goto (tgt := 40) hx hb_w dX1_isLate_36 (by decide) ?_
  exact hret 1 _ _ dX1_isLate_40 rfl (by rw [b0] at c5_w; simp [bI, lateB, c5_w, c14_w, c32_w])
set_option maxHeartbeats 4000000 in
set_option maxRecDepth 100000 in
theorem kX1_isTimeToClaim (l : Launch) (G_w : va_G) (a_w : Nat → Nat) (cI cZ : ClassId) (g_w : Nat → Int32) (f_w : Nat → Nat → Int32) (cd : Nat → Int32) (tc_w : Int32) (k_w : Nat) (hk : k_w < 200): rdr l yX1_isTimeToClaim wsX1_isTimeToClaim { frames := 1, cells := 0, slots := 0, locals := 20 } G_w (wD a_w cI cZ g_w f_w cd tc_w) (tyIZ cI cZ) [.ref (a_w 0), .int (nI k_w)] (fun r_w => r_w = bI (dueB g_w f_w cd k_w)) := by
  refine rdr_of (cc := cX1_isTimeToClaim) (nL := 2) (ty := .boolean) (by decide) rfl (Nat.le_of_ble_eq_true rfl) ?_
  intro p_w e_w s_w m_w args_w below meth_w c_w H ls Q hx hb_w hml hown hts hP hK_w hret hl
  have hl : lv_has ls 2 [(0, .ref (a_w 0)), (1, .int (nI k_w))] := hl
  have hinX1 : ∀ w_w ∈ wsX10, w_w ∈ wsX1_isTimeToClaim := by decide +kernel
  refine lv_iload_n hx hb_w dX1_isTimeToClaim_0 rfl (lv_at hl 1 rfl) ?_
  refine rdr_S (As := [.int (nI k_w)]) (rest := []) ⟨hx, hb_w, hml, hown, hts⟩ (kX1_isIssue l G_w _ _ (nI k_w) ) (va_cwS 1 hts gX1_isTimeToClaim_X1_isIssue rfl rfl rfl (by decide +kernel) ⟨Nat.le_of_ble_eq_true rfl, Nat.le_of_ble_eq_true rfl⟩)  hP hK_w rfl hl.1 rfl (Nat.le_of_ble_eq_true rfl) dX1_isTimeToClaim_1 (by decide) (fun r1_w h1 => ?_)
  replace h1 : r1_w = bI (isI (nI k_w)) := h1
  subst h1
  refine lv_if_eq (tgt := 38) hx hb_w dX1_isTimeToClaim_4 (by decide) (fun c4_w => ?_) (fun c4_w => ?_)
  · replace c4_w := bI0 c4_w
    exact absurd c4_w (by simp [isI_nI hk])
  replace c4_w := bIn c4_w
  refine lv_aload_n hx hb_w dX1_isTimeToClaim_7 rfl (lv_at hl 0 rfl) ?_
  refine dget (index := 30) (v := .ref (a_w 4)) hx hb_w hts hinX1 hown hK_w hP 8 (by decide) (List.mem_of_getElem? (i := 1) rfl) rfl dX1_isTimeToClaim_8 ?_
  refine lv_iload_n hx hb_w dX1_isTimeToClaim_11 rfl (lv_at hl 1 rfl) ?_
  refine arI (j := k_w) (h := (f_w 2)) hx hb_w hK_w hP 4 rfl rfl hk dX1_isTimeToClaim_12 ?_
  refine lv_if_eq (tgt := 34) hx hb_w dX1_isTimeToClaim_13 (by decide) (fun c13_w => ?_) (fun c13_w => ?_)
  · refine lv_iconst (v := 1) hx hb_w dX1_isTimeToClaim_34 (by decide) ?_
    refine lv_goto (tgt := 39) hx hb_w dX1_isTimeToClaim_35 (by decide) ?_
    exact hret 1 _ _ dX1_isTimeToClaim_39 rfl (by simp [bI, dueB, c13_w])
  refine lv_aload_n hx hb_w dX1_isTimeToClaim_16 rfl (lv_at hl 0 rfl) ?_
  refine dget (index := 74) (v := .int (g_w 0)) hx hb_w hts hinX1 hown hK_w hP 3 (by decide) (List.mem_of_getElem? (i := 2) rfl) rfl dX1_isTimeToClaim_17 ?_
  refine lv_aload_n hx hb_w dX1_isTimeToClaim_20 rfl (lv_at hl 0 rfl) ?_
  refine dget (index := 33) (v := .ref (a_w 5)) hx hb_w hts hinX1 hown hK_w hP 9 (by decide) (List.mem_of_getElem? (i := 3) rfl) rfl dX1_isTimeToClaim_21 ?_
  refine lv_iload_n hx hb_w dX1_isTimeToClaim_24 rfl (lv_at hl 1 rfl) ?_
  refine arI (j := k_w) (h := cd) hx hb_w hK_w hP 5 rfl rfl hk dX1_isTimeToClaim_25 ?_
  refine lv_isub hx hb_w dX1_isTimeToClaim_26 ?_
  refine lv_aload_n hx hb_w dX1_isTimeToClaim_27 rfl (lv_at hl 0 rfl) ?_
  refine dget (index := 20) (v := .int (g_w 6)) hx hb_w hts hinX1 hown hK_w hP 2 (by decide) (List.mem_of_getElem? (i := 4) rfl) rfl dX1_isTimeToClaim_28 ?_
  refine lv_icmp_lt (tgt := 38) hx hb_w dX1_isTimeToClaim_31 (by decide) (fun c31_w => ?_) (fun c31_w => ?_)
  · refine lv_iconst (v := 0) hx hb_w dX1_isTimeToClaim_38 (by decide) ?_
    exact hret 0 _ _ dX1_isTimeToClaim_39 rfl (by simp [bI, dueB, c13_w, c31_w])
  refine lv_iconst (v := 1) hx hb_w dX1_isTimeToClaim_34 (by decide) ?_
  refine lv_goto (tgt := 39) hx hb_w dX1_isTimeToClaim_35 (by decide) ?_
  exact hret 1 _ _ dX1_isTimeToClaim_39 rfl (by simp [bI, dueB, c13_w, c31_w])
set_option maxHeartbeats 4000000 in
set_option maxRecDepth 100000 in
theorem kX1_isInHouse (l : Launch) (G_w : va_G) (a_w : Nat → Nat) (cI cZ : ClassId) (g_w : Nat → Int32) (f_w : Nat → Nat → Int32) (cd : Nat → Int32) (tc_w : Int32) (p0_w : Int32): rdr l yX1_isInHouse wsX1_isInHouse { frames := 2, cells := 0, slots := 0, locals := 41 } G_w (wD a_w cI cZ g_w f_w cd tc_w) (tyIZ cI cZ) [.ref (a_w 0), .int p0_w] (fun r_w => r_w = bI (hereI g_w f_w p0_w)) := by
  refine rdr_of (cc := cX1_isInHouse) (nL := 2) (ty := .boolean) (by decide) rfl (Nat.le_of_ble_eq_true rfl) ?_
  intro p_w e_w s_w m_w args_w below meth_w c_w H ls Q hx hb_w hml hown hts hP hK_w hret hl
  have hl : lv_has ls 2 [(0, .ref (a_w 0)), (1, .int p0_w)] := hl
  have hinX1 : ∀ w_w ∈ wsX10, w_w ∈ wsX1_isInHouse := by decide +kernel
  refine lv_aload_n hx hb_w dX1_isInHouse_0 rfl (lv_at hl 0 rfl) ?_
  refine lv_iload_n hx hb_w dX1_isInHouse_1 rfl (lv_at hl 1 rfl) ?_
  refine rdr_V (As := [.int p0_w]) (rest := []) ⟨hx, hb_w, hml, hown, hts⟩ (kX1_isForetold l G_w a_w cI cZ g_w f_w cd tc_w p0_w ) (cwV 1 hts gX1_isInHouse_X1_isForetold rfl rfl rfl (by decide +kernel) ⟨Nat.le_of_ble_eq_true rfl, Nat.le_of_ble_eq_true rfl⟩) (va_recv hK_w hP (ci := 1) (q0 := 0) rfl rfl) hP hK_w rfl hl.1 rfl (Nat.le_of_ble_eq_true rfl) dX1_isInHouse_2 (by decide) (fun r2 h2 => ?_)
  replace h2 : r2 = bI (isF g_w p0_w) := h2
  subst h2
  refine lv_if_eq (tgt := 32) hx hb_w dX1_isInHouse_5 (by decide) (fun c5_w => ?_) (fun c5_w => ?_)
  · replace c5_w := bI0 c5_w
    refine lv_iconst (v := 0) hx hb_w dX1_isInHouse_32 (by decide) ?_
    exact hret 0 _ _ dX1_isInHouse_33 rfl (by simp [bI, hereI, c5_w])
  replace c5_w := bIn c5_w
  obtain ⟨k_w, hk, ek⟩ : ∃ k_w, k_w < 200 ∧ p0_w = nI k_w := isI_of (by simp only [isF, Bool.and_eq_true] at c5_w; exact c5_w.1)
  have ec : p0_w.toNatClampNeg = k_w := by rw [ek]; exact nI_clamp (by omega)
  refine lv_aload_n hx hb_w dX1_isInHouse_8 rfl (lv_at hl 0 rfl) ?_
  refine dget (index := 27) (v := .ref (a_w 3)) hx hb_w hts hinX1 hown hK_w hP 7 (by decide) (List.mem_of_getElem? (i := 1) rfl) rfl dX1_isInHouse_9 ?_
  refine lv_iload_n hx hb_w dX1_isInHouse_12 rfl (lv_at hl 1 rfl) ?_
  refine arI (j := k_w) (h := (f_w 1)) hx hb_w hK_w hP 3 rfl ek hk dX1_isInHouse_13 ?_
  refine lv_iconst (v := 1) hx hb_w dX1_isInHouse_14 (by decide) ?_
  refine lv_icmp_eq (tgt := 28) hx hb_w dX1_isInHouse_15 (by decide) (fun c15_w => ?_) (fun c15_w => ?_)
  · refine lv_iconst (v := 1) hx hb_w dX1_isInHouse_28 (by decide) ?_
    refine lv_goto (tgt := 33) hx hb_w dX1_isInHouse_29 (by decide) ?_
    exact hret 1 _ _ dX1_isInHouse_33 rfl (by simp [bI, hereI, ec, c5_w, c15_w])
  refine lv_aload_n hx hb_w dX1_isInHouse_18 rfl (lv_at hl 0 rfl) ?_
  refine dget (index := 27) (v := .ref (a_w 3)) hx hb_w hts hinX1 hown hK_w hP 7 (by decide) (List.mem_of_getElem? (i := 1) rfl) rfl dX1_isInHouse_19 ?_
  refine lv_iload_n hx hb_w dX1_isInHouse_22 rfl (lv_at hl 1 rfl) ?_
  refine arI (j := k_w) (h := (f_w 1)) hx hb_w hK_w hP 3 rfl ek hk dX1_isInHouse_23 ?_
  refine lv_iconst (v := 2) hx hb_w dX1_isInHouse_24 (by decide) ?_
  refine lv_icmp_ne (tgt := 32) hx hb_w dX1_isInHouse_25 (by decide) (fun c25_w => ?_) (fun c25_w => ?_)
  · refine lv_iconst (v := 0) hx hb_w dX1_isInHouse_32 (by decide) ?_
    exact hret 0 _ _ dX1_isInHouse_33 rfl (by simp [bI, hereI, ec, c5_w, c15_w, c25_w])
  refine lv_iconst (v := 1) hx hb_w dX1_isInHouse_28 (by decide) ?_
  refine lv_goto (tgt := 33) hx hb_w dX1_isInHouse_29 (by decide) ?_
  exact hret 1 _ _ dX1_isInHouse_33 rfl (by simp [bI, hereI, ec, c5_w, c15_w, c25_w])
set_option maxHeartbeats 4000000 in
set_option maxRecDepth 100000 in
theorem kX1_isRangeStart (l : Launch) (G_w : va_G) (a_w : Nat → Nat) (cI cZ : ClassId) (g_w : Nat → Int32) (f_w : Nat → Nat → Int32) (cd : Nat → Int32) (tc_w : Int32) (k_w : Nat) (hk : k_w < 200): rdr l yX1_isRangeStart wsX1_isRangeStart { frames := 3, cells := 0, slots := 0, locals := 62 } G_w (wD a_w cI cZ g_w f_w cd tc_w) (tyIZ cI cZ) [.ref (a_w 0), .int (nI k_w)] (fun r_w => r_w = bI (rsB g_w f_w k_w)) := by
  refine rdr_of (cc := cX1_isRangeStart) (nL := 2) (ty := .boolean) (by decide) rfl (Nat.le_of_ble_eq_true rfl) ?_
  intro p_w e_w s_w m_w args_w below meth_w c_w H ls Q hx hb_w hml hown hts hP hK_w hret hl
  have hl : lv_has ls 2 [(0, .ref (a_w 0)), (1, .int (nI k_w))] := hl
  refine lv_aload_n hx hb_w dX1_isRangeStart_0 rfl (lv_at hl 0 rfl) ?_
  refine lv_iload_n hx hb_w dX1_isRangeStart_1 rfl (lv_at hl 1 rfl) ?_
  refine rdr_V (As := [.int (nI k_w)]) (rest := []) ⟨hx, hb_w, hml, hown, hts⟩ (kX1_isInHouse l G_w a_w cI cZ g_w f_w cd tc_w (nI k_w) ) (cwV 1 hts gX1_isRangeStart_X1_isInHouse rfl rfl rfl (by decide +kernel) ⟨Nat.le_of_ble_eq_true rfl, Nat.le_of_ble_eq_true rfl⟩) (va_recv hK_w hP (ci := 1) (q0 := 0) rfl rfl) hP hK_w rfl hl.1 rfl (Nat.le_of_ble_eq_true rfl) dX1_isRangeStart_2 (by decide) (fun r2 h2 => ?_)
  replace h2 : r2 = bI (hereI g_w f_w (nI k_w)) := h2
  subst h2
  refine lv_if_eq (tgt := 22) hx hb_w dX1_isRangeStart_5 (by decide) (fun c5_w => ?_) (fun c5_w => ?_)
  · replace c5_w := bI0 c5_w
    refine lv_iconst (v := 0) hx hb_w dX1_isRangeStart_22 (by decide) ?_
    exact hret 0 _ _ dX1_isRangeStart_23 rfl (by rw [hereI_nI hk] at c5_w; simp [bI, rsB, c5_w])
  replace c5_w := bIn c5_w
  refine lv_aload_n hx hb_w dX1_isRangeStart_8 rfl (lv_at hl 0 rfl) ?_
  refine lv_iload_n hx hb_w dX1_isRangeStart_9 rfl (lv_at hl 1 rfl) ?_
  refine lv_iconst (v := 1) hx hb_w dX1_isRangeStart_10 (by decide) ?_
  refine lv_isub hx hb_w dX1_isRangeStart_11 ?_
  refine rdr_V (As := [.int ((nI k_w) - 1)]) (rest := []) ⟨hx, hb_w, hml, hown, hts⟩ (kX1_isInHouse l G_w a_w cI cZ g_w f_w cd tc_w ((nI k_w) - 1) ) (cwV 1 hts gX1_isRangeStart_X1_isInHouse rfl rfl rfl (by decide +kernel) ⟨Nat.le_of_ble_eq_true rfl, Nat.le_of_ble_eq_true rfl⟩) (va_recv hK_w hP (ci := 1) (q0 := 0) rfl rfl) hP hK_w rfl hl.1 rfl (Nat.le_of_ble_eq_true rfl) dX1_isRangeStart_12 (by decide) (fun r12 h12 => ?_)
  replace h12 : r12 = bI (hereI g_w f_w ((nI k_w) - 1)) := h12
  subst h12
  refine lv_if_ne (tgt := 22) hx hb_w dX1_isRangeStart_15 (by decide) (fun c15_w => ?_) (fun c15_w => ?_)
  · replace c15_w := bIn c15_w
    refine lv_iconst (v := 0) hx hb_w dX1_isRangeStart_22 (by decide) ?_
    exact hret 0 _ _ dX1_isRangeStart_23 rfl (by rw [hereI_nI hk] at c5_w; simp [bI, rsB, c5_w, c15_w])
  replace c15_w := bI0 c15_w
  refine lv_iconst (v := 1) hx hb_w dX1_isRangeStart_18 (by decide) ?_
  refine lv_goto (tgt := 23) hx hb_w dX1_isRangeStart_19 (by decide) ?_
  exact hret 1 _ _ dX1_isRangeStart_23 rfl (by rw [hereI_nI hk] at c5_w; simp [bI, rsB, c5_w, c15_w])
set_option maxHeartbeats 4000000 in
set_option maxRecDepth 100000 in
theorem kX1_late (l : Launch) (G_w : va_G) (a_w : Nat → Nat) (cI cZ : ClassId) (g_w : Nat → Int32) (f_w : Nat → Nat → Int32) (cd : Nat → Int32) (tc_w : Int32) : rdr l yX1_late wsX1_late { frames := 3, cells := 0, slots := 0, locals := 62 } G_w (wD a_w cI cZ g_w f_w cd tc_w) (tyIZ cI cZ) [.ref (a_w 0)] (fun r_w => r_w = nI (cnt (lateB g_w f_w) 200)) := by
  refine rdr_of (cc := cX1_late) (nL := 3) (ty := .int) (by decide) rfl (Nat.le_of_ble_eq_true rfl) ?_
  intro p_w e_w s_w m_w args_w below meth_w c_w H ls Q hx hb_w hml hown hts hP hK_w hret hl
  have hl : lv_has ls 3 [(0, .ref (a_w 0))] := hl
  refine lv_iconst (v := 0) hx hb_w dX1_late_0 (by decide) ?_
  refine lv_istore_n (lv' := [(1, .int 0), (0, .ref (a_w 0))]) hx hb_w dX1_late_1 rfl hl (by decide) rfl (fun ls hl => ?_)
  refine lv_iconst (v := 0) hx hb_w dX1_late_2 (by decide) ?_
  refine lv_istore_n (lv' := [(2, .int 0), (1, .int 0), (0, .ref (a_w 0))]) hx hb_w dX1_late_3 rfl hl (by decide) rfl (fun ls hl => ?_)
  have loop4 : ∀ (n_w : Nat) (i_w : Nat) (x : Int32), i_w ≤ 200 → 200 - i_w < n_w → x = nI (cnt (lateB g_w f_w) i_w) → ∀ (ls : Array Slot), lv_has ls 3 [(0, .ref (a_w 0)), (1, .int x), (2, .int (nI i_w))] → W p_w l e_w { frames := 3, cells := 0, slots := 0, locals := 62 } s_w m_w args_w below meth_w c_w H [] 0 0 Q (F0 m_w 4 ls []) := by
    intro n_w
    induction n_w with
    | zero => intro i_w x hi_w hn ex_w; exact absurd hn (Nat.not_lt_zero _)
    | succ n_w ih4 =>
      intro i_w x hi_w hn ex_w ls hl
      refine lv_iload_n hx hb_w dX1_late_4 rfl (lv_at hl 2 rfl) ?_
      refine lv_sipush (v := 200) hx hb_w dX1_late_5 (by decide) ?_
      refine lv_icmp_ge (tgt := 28) hx hb_w dX1_late_8 (by decide) (fun c8_w => ?_) (fun c8_w => ?_)
      · have ei : i_w = 200 := by have := (nI_leI (a := 200) (b := i_w) (by decide) (by omega)).mp c8_w; omega
        refine lv_iload_n hx hb_w dX1_late_28 rfl (lv_at hl 1 rfl) ?_
        exact hret x _ _ dX1_late_29 rfl (by rw [ex_w, ei])
      have hi2 : i_w < 200 := by rcases Nat.lt_or_ge i_w 200 with q_w | q_w; exact q_w; exact absurd ((nI_leI (a := 200) (b := i_w) (by decide) (by omega)).mpr q_w) c8_w
      refine lv_aload_n hx hb_w dX1_late_11 rfl (lv_at hl 0 rfl) ?_
      refine lv_iload_n hx hb_w dX1_late_12 rfl (lv_at hl 2 rfl) ?_
      refine rdr_V (As := [.int (nI i_w)]) (rest := []) ⟨hx, hb_w, hml, hown, hts⟩ (kX1_isLate l G_w a_w cI cZ g_w f_w cd tc_w i_w hi2) (cwV 1 hts gX1_late_X1_isLate rfl rfl rfl (by decide +kernel) ⟨Nat.le_of_ble_eq_true rfl, Nat.le_of_ble_eq_true rfl⟩) (va_recv hK_w hP (ci := 1) (q0 := 0) rfl rfl) hP hK_w rfl hl.1 rfl (Nat.le_of_ble_eq_true rfl) dX1_late_13 (by decide) (fun r13 h13 => ?_)
      replace h13 : r13 = bI (lateB g_w f_w i_w) := h13
      subst h13
      refine lv_if_eq (tgt := 22) hx hb_w dX1_late_16 (by decide) (fun c16 => ?_) (fun c16 => ?_)
      · replace c16 := bI0 c16
        refine lv_iinc (v := nI (i_w + 1)) (lv' := [(2, .int (nI (i_w + 1))), (0, .ref (a_w 0)), (1, .int x)]) hx hb_w dX1_late_22 hl (k := 2) rfl (nI_1 _) (by decide) rfl (fun ls hl => ?_)
        refine lv_goto (tgt := 4) hx hb_w dX1_late_25 (by decide) ?_
        exact ih4 (i_w + 1) x (by omega) (by omega) (by rw [cnt_f c16]; exact ex_w) _ (lv_sub hl [1, 2, 0] rfl)
      replace c16 := bIn c16
      refine lv_iinc (v := x + 1) (lv' := [(1, .int (x + 1)), (0, .ref (a_w 0)), (2, .int (nI i_w))]) hx hb_w dX1_late_19 hl (k := 1) rfl rfl (by decide) rfl (fun ls hl => ?_)
      refine lv_iinc (v := nI (i_w + 1)) (lv' := [(2, .int (nI (i_w + 1))), (1, .int (x + 1)), (0, .ref (a_w 0))]) hx hb_w dX1_late_22 hl (k := 2) rfl (nI_1 _) (by decide) rfl (fun ls hl => ?_)
      refine lv_goto (tgt := 4) hx hb_w dX1_late_25 (by decide) ?_
      exact ih4 (i_w + 1) (x + 1) (by omega) (by omega) (by rw [cnt_t c16, ex_w]; exact nI_1 _) _ (lv_sub hl [2, 1, 0] rfl)
  exact loop4 201 0 0 (by omega) (by omega) rfl _ (lv_sub hl [2, 1, 0] rfl)
set_option maxHeartbeats 4000000 in
set_option maxRecDepth 100000 in
theorem kX1_ranges (l : Launch) (G_w : va_G) (a_w : Nat → Nat) (cI cZ : ClassId) (g_w : Nat → Int32) (f_w : Nat → Nat → Int32) (cd : Nat → Int32) (tc_w : Int32) : rdr l yX1_ranges wsX1_ranges { frames := 4, cells := 0, slots := 0, locals := 83 } G_w (wD a_w cI cZ g_w f_w cd tc_w) (tyIZ cI cZ) [.ref (a_w 0)] (fun r_w => r_w = nI (cnt (rsB g_w f_w) 200)) := by
  refine rdr_of (cc := cX1_ranges) (nL := 3) (ty := .int) (by decide) rfl (Nat.le_of_ble_eq_true rfl) ?_
  intro p_w e_w s_w m_w args_w below meth_w c_w H ls Q hx hb_w hml hown hts hP hK_w hret hl
  have hl : lv_has ls 3 [(0, .ref (a_w 0))] := hl
  refine lv_iconst (v := 0) hx hb_w dX1_ranges_0 (by decide) ?_
  refine lv_istore_n (lv' := [(1, .int 0), (0, .ref (a_w 0))]) hx hb_w dX1_ranges_1 rfl hl (by decide) rfl (fun ls hl => ?_)
  refine lv_iconst (v := 0) hx hb_w dX1_ranges_2 (by decide) ?_
  refine lv_istore_n (lv' := [(2, .int 0), (1, .int 0), (0, .ref (a_w 0))]) hx hb_w dX1_ranges_3 rfl hl (by decide) rfl (fun ls hl => ?_)
  have loop4 : ∀ (n_w : Nat) (i_w : Nat) (x : Int32), i_w ≤ 200 → 200 - i_w < n_w → x = nI (cnt (rsB g_w f_w) i_w) → ∀ (ls : Array Slot), lv_has ls 3 [(0, .ref (a_w 0)), (1, .int x), (2, .int (nI i_w))] → W p_w l e_w { frames := 4, cells := 0, slots := 0, locals := 83 } s_w m_w args_w below meth_w c_w H [] 0 0 Q (F0 m_w 4 ls []) := by
    intro n_w
    induction n_w with
    | zero => intro i_w x hi_w hn ex_w; exact absurd hn (Nat.not_lt_zero _)
    | succ n_w ih4 =>
      intro i_w x hi_w hn ex_w ls hl
      refine lv_iload_n hx hb_w dX1_ranges_4 rfl (lv_at hl 2 rfl) ?_
      refine lv_sipush (v := 200) hx hb_w dX1_ranges_5 (by decide) ?_
      refine lv_icmp_ge (tgt := 28) hx hb_w dX1_ranges_8 (by decide) (fun c8_w => ?_) (fun c8_w => ?_)
      · have ei : i_w = 200 := by have := (nI_leI (a := 200) (b := i_w) (by decide) (by omega)).mp c8_w; omega
        refine lv_iload_n hx hb_w dX1_ranges_28 rfl (lv_at hl 1 rfl) ?_
        exact hret x _ _ dX1_ranges_29 rfl (by rw [ex_w, ei])
      have hi2 : i_w < 200 := by rcases Nat.lt_or_ge i_w 200 with q_w | q_w; exact q_w; exact absurd ((nI_leI (a := 200) (b := i_w) (by decide) (by omega)).mpr q_w) c8_w
      refine lv_aload_n hx hb_w dX1_ranges_11 rfl (lv_at hl 0 rfl) ?_
      refine lv_iload_n hx hb_w dX1_ranges_12 rfl (lv_at hl 2 rfl) ?_
      refine rdr_V (As := [.int (nI i_w)]) (rest := []) ⟨hx, hb_w, hml, hown, hts⟩ (kX1_isRangeStart l G_w a_w cI cZ g_w f_w cd tc_w i_w hi2) (cwV 1 hts gX1_ranges_X1_isRangeStart rfl rfl rfl (by decide +kernel) ⟨Nat.le_of_ble_eq_true rfl, Nat.le_of_ble_eq_true rfl⟩) (va_recv hK_w hP (ci := 1) (q0 := 0) rfl rfl) hP hK_w rfl hl.1 rfl (Nat.le_of_ble_eq_true rfl) dX1_ranges_13 (by decide) (fun r13 h13 => ?_)
      replace h13 : r13 = bI (rsB g_w f_w i_w) := h13
      subst h13
      refine lv_if_eq (tgt := 22) hx hb_w dX1_ranges_16 (by decide) (fun c16 => ?_) (fun c16 => ?_)
      · replace c16 := bI0 c16
        refine lv_iinc (v := nI (i_w + 1)) (lv' := [(2, .int (nI (i_w + 1))), (0, .ref (a_w 0)), (1, .int x)]) hx hb_w dX1_ranges_22 hl (k := 2) rfl (nI_1 _) (by decide) rfl (fun ls hl => ?_)
        refine lv_goto (tgt := 4) hx hb_w dX1_ranges_25 (by decide) ?_
        exact ih4 (i_w + 1) x (by omega) (by omega) (by rw [cnt_f c16]; exact ex_w) _ (lv_sub hl [1, 2, 0] rfl)
      replace c16 := bIn c16
      refine lv_iinc (v := x + 1) (lv' := [(1, .int (x + 1)), (0, .ref (a_w 0)), (2, .int (nI i_w))]) hx hb_w dX1_ranges_19 hl (k := 1) rfl rfl (by decide) rfl (fun ls hl => ?_)
      refine lv_iinc (v := nI (i_w + 1)) (lv' := [(2, .int (nI (i_w + 1))), (1, .int (x + 1)), (0, .ref (a_w 0))]) hx hb_w dX1_ranges_22 hl (k := 2) rfl (nI_1 _) (by decide) rfl (fun ls hl => ?_)
      refine lv_goto (tgt := 4) hx hb_w dX1_ranges_25 (by decide) ?_
      exact ih4 (i_w + 1) (x + 1) (by omega) (by omega) (by rw [cnt_t c16, ex_w]; exact nI_1 _) _ (lv_sub hl [2, 1, 0] rfl)
  exact loop4 201 0 0 (by omega) (by omega) rfl _ (lv_sub hl [2, 1, 0] rfl)
