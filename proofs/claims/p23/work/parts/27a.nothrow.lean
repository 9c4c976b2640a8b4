set_option maxHeartbeats 4000000 in
set_option maxRecDepth 100000 in
theorem kX1_dayOf_n (l : Launch) (G_w : va_G) (a_w : Nat → Nat) (cI cZ : ClassId) (g_w : Nat → Int32) (f_w : Nat → Nat → Int32) (cd : Nat → Int32) (tc_w : Int32) (k_w N_w : Nat) (hN_w : g_w 7 = nI N_w) (hk : k_w < N_w) (hN2 : N_w ≤ 200): rdr l yX1_dayOf wsX1_dayOf { frames := 6, cells := 0, slots := 0, locals := 90 } G_w (wD a_w cI cZ g_w f_w cd tc_w) (tyIZ cI cZ) [.ref (a_w 0), .int (nI k_w)] (fun r_w => r_w = f_w 0 k_w) := by
  refine rdr_of (cc := cX1_dayOf) (nL := 2) (ty := .int) (by decide) rfl (Nat.le_of_ble_eq_true rfl) ?_
  intro p_w e_w s_w m_w args_w below meth_w c_w H ls Q hx hb_w hml hown hts hP hK_w hret hl
  have hl : lv_has ls 2 [(0, .ref (a_w 0)), (1, .int (nI k_w))] := hl
  have hinX1 : ∀ w_w ∈ wsX10, w_w ∈ wsX1_dayOf := by decide +kernel
  refine lv_aload_n hx hb_w dX1_dayOf_0 rfl (lv_at hl 0 rfl) ?_
  refine lv_iload_n hx hb_w dX1_dayOf_1 rfl (lv_at hl 1 rfl) ?_
  refine rdr_V (As := [.int (nI k_w)]) (rest := []) ⟨hx, hb_w, hml, hown, hts⟩ (kX1_isForetold l G_w a_w cI cZ g_w f_w cd tc_w (nI k_w) ) (cwV 1 hts gX1_dayOf_X1_isForetold rfl rfl rfl (by decide +kernel) ⟨Nat.le_of_ble_eq_true rfl, Nat.le_of_ble_eq_true rfl⟩) (va_recv hK_w hP (ci := 1) (q0 := 0) rfl rfl) hP hK_w rfl hl.1 rfl (Nat.le_of_ble_eq_true rfl) dX1_dayOf_2 (by decide) (fun r2 h2 => ?_)
  replace h2 : r2 = bI (isF g_w (nI k_w)) := h2
  subst h2
  refine lv_if_ne (tgt := 18) hx hb_w dX1_dayOf_5 (by decide) (fun c5_w => ?_) (fun c5_w => ?_)
  · replace c5_w := bIn c5_w
    refine lv_aload_n hx hb_w dX1_dayOf_18 rfl (lv_at hl 0 rfl) ?_
    refine dget (index := 23) (v := .ref (a_w 2)) hx hb_w hts hinX1 hown hK_w hP 6 (by decide) (List.mem_of_getElem? (i := 3) rfl) rfl dX1_dayOf_19 ?_
    refine lv_iload_n hx hb_w dX1_dayOf_22 rfl (lv_at hl 1 rfl) ?_
    refine arI (j := k_w) (h := (f_w 0)) hx hb_w hK_w hP 2 rfl rfl (by omega) dX1_dayOf_23 ?_
    exact hret ((f_w 0) k_w) _ _ dX1_dayOf_24 rfl rfl
  replace c5_w := bI0 c5_w
  exact absurd c5_w (by rw [isF_lt hN_w hk hN2]; decide)
set_option maxHeartbeats 4000000 in
set_option maxRecDepth 100000 in
theorem kX1_stateOf_n (l : Launch) (G_w : va_G) (a_w : Nat → Nat) (cI cZ : ClassId) (g_w : Nat → Int32) (f_w : Nat → Nat → Int32) (cd : Nat → Int32) (tc_w : Int32) (k_w N_w : Nat) (hN_w : g_w 7 = nI N_w) (hk : k_w < N_w) (hN2 : N_w ≤ 200): rdr l yX1_stateOf wsX1_stateOf { frames := 6, cells := 0, slots := 0, locals := 90 } G_w (wD a_w cI cZ g_w f_w cd tc_w) (tyIZ cI cZ) [.ref (a_w 0), .int (nI k_w)] (fun r_w => r_w = f_w 1 k_w) := by
  refine rdr_of (cc := cX1_stateOf) (nL := 2) (ty := .int) (by decide) rfl (Nat.le_of_ble_eq_true rfl) ?_
  intro p_w e_w s_w m_w args_w below meth_w c_w H ls Q hx hb_w hml hown hts hP hK_w hret hl
  have hl : lv_has ls 2 [(0, .ref (a_w 0)), (1, .int (nI k_w))] := hl
  have hinX1 : ∀ w_w ∈ wsX10, w_w ∈ wsX1_stateOf := by decide +kernel
  refine lv_aload_n hx hb_w dX1_stateOf_0 rfl (lv_at hl 0 rfl) ?_
  refine lv_iload_n hx hb_w dX1_stateOf_1 rfl (lv_at hl 1 rfl) ?_
  refine rdr_V (As := [.int (nI k_w)]) (rest := []) ⟨hx, hb_w, hml, hown, hts⟩ (kX1_isForetold l G_w a_w cI cZ g_w f_w cd tc_w (nI k_w) ) (cwV 1 hts gX1_stateOf_X1_isForetold rfl rfl rfl (by decide +kernel) ⟨Nat.le_of_ble_eq_true rfl, Nat.le_of_ble_eq_true rfl⟩) (va_recv hK_w hP (ci := 1) (q0 := 0) rfl rfl) hP hK_w rfl hl.1 rfl (Nat.le_of_ble_eq_true rfl) dX1_stateOf_2 (by decide) (fun r2 h2 => ?_)
  replace h2 : r2 = bI (isF g_w (nI k_w)) := h2
  subst h2
  refine lv_if_ne (tgt := 18) hx hb_w dX1_stateOf_5 (by decide) (fun c5_w => ?_) (fun c5_w => ?_)
  · replace c5_w := bIn c5_w
    refine lv_aload_n hx hb_w dX1_stateOf_18 rfl (lv_at hl 0 rfl) ?_
    refine dget (index := 27) (v := .ref (a_w 3)) hx hb_w hts hinX1 hown hK_w hP 7 (by decide) (List.mem_of_getElem? (i := 3) rfl) rfl dX1_stateOf_19 ?_
    refine lv_iload_n hx hb_w dX1_stateOf_22 rfl (lv_at hl 1 rfl) ?_
    refine arI (j := k_w) (h := (f_w 1)) hx hb_w hK_w hP 3 rfl rfl (by omega) dX1_stateOf_23 ?_
    exact hret ((f_w 1) k_w) _ _ dX1_stateOf_24 rfl rfl
  replace c5_w := bI0 c5_w
  exact absurd c5_w (by rw [isF_lt hN_w hk hN2]; decide)
set_option maxHeartbeats 4000000 in
set_option maxRecDepth 100000 in
theorem kX1_claimsOf_n (l : Launch) (G_w : va_G) (a_w : Nat → Nat) (cI cZ : ClassId) (g_w : Nat → Int32) (f_w : Nat → Nat → Int32) (cd : Nat → Int32) (tc_w : Int32) (k_w N_w : Nat) (hN_w : g_w 7 = nI N_w) (hk : k_w < N_w) (hN2 : N_w ≤ 200): rdr l yX1_claimsOf wsX1_claimsOf { frames := 6, cells := 0, slots := 0, locals := 90 } G_w (wD a_w cI cZ g_w f_w cd tc_w) (tyIZ cI cZ) [.ref (a_w 0), .int (nI k_w)] (fun r_w => r_w = f_w 2 k_w) := by
  refine rdr_of (cc := cX1_claimsOf) (nL := 2) (ty := .int) (by decide) rfl (Nat.le_of_ble_eq_true rfl) ?_
  intro p_w e_w s_w m_w args_w below meth_w c_w H ls Q hx hb_w hml hown hts hP hK_w hret hl
  have hl : lv_has ls 2 [(0, .ref (a_w 0)), (1, .int (nI k_w))] := hl
  have hinX1 : ∀ w_w ∈ wsX10, w_w ∈ wsX1_claimsOf := by decide +kernel
  refine lv_aload_n hx hb_w dX1_claimsOf_0 rfl (lv_at hl 0 rfl) ?_
  refine lv_iload_n hx hb_w dX1_claimsOf_1 rfl (lv_at hl 1 rfl) ?_
  refine rdr_V (As := [.int (nI k_w)]) (rest := []) ⟨hx, hb_w, hml, hown, hts⟩ (kX1_isForetold l G_w a_w cI cZ g_w f_w cd tc_w (nI k_w) ) (cwV 1 hts gX1_claimsOf_X1_isForetold rfl rfl rfl (by decide +kernel) ⟨Nat.le_of_ble_eq_true rfl, Nat.le_of_ble_eq_true rfl⟩) (va_recv hK_w hP (ci := 1) (q0 := 0) rfl rfl) hP hK_w rfl hl.1 rfl (Nat.le_of_ble_eq_true rfl) dX1_claimsOf_2 (by decide) (fun r2 h2 => ?_)
  replace h2 : r2 = bI (isF g_w (nI k_w)) := h2
  subst h2
  refine lv_if_ne (tgt := 18) hx hb_w dX1_claimsOf_5 (by decide) (fun c5_w => ?_) (fun c5_w => ?_)
  · replace c5_w := bIn c5_w
    refine lv_aload_n hx hb_w dX1_claimsOf_18 rfl (lv_at hl 0 rfl) ?_
    refine dget (index := 30) (v := .ref (a_w 4)) hx hb_w hts hinX1 hown hK_w hP 8 (by decide) (List.mem_of_getElem? (i := 3) rfl) rfl dX1_claimsOf_19 ?_
    refine lv_iload_n hx hb_w dX1_claimsOf_22 rfl (lv_at hl 1 rfl) ?_
    refine arI (j := k_w) (h := (f_w 2)) hx hb_w hK_w hP 4 rfl rfl (by omega) dX1_claimsOf_23 ?_
    exact hret ((f_w 2) k_w) _ _ dX1_claimsOf_24 rfl rfl
  replace c5_w := bI0 c5_w
  exact absurd c5_w (by rw [isF_lt hN_w hk hN2]; decide)
set_option maxHeartbeats 4000000 in
set_option maxRecDepth 100000 in
theorem kX1_labelOf_n (l : Launch) (G_w : va_G) (a_w : Nat → Nat) (cI cZ : ClassId) (g_w : Nat → Int32) (f_w : Nat → Nat → Int32) (cd : Nat → Int32) (tc_w : Int32) (k_w : Nat) (hk : k_w < 200): rdr l yX1_labelOf wsX1_labelOf { frames := 6, cells := 0, slots := 0, locals := 90 } G_w (wD a_w cI cZ g_w f_w cd tc_w) (tyIZ cI cZ) [.ref (a_w 0), .int (nI k_w)] (fun r_w => r_w = 1000 * volD g_w (nI k_w) + numD g_w (nI k_w)) := by
  refine rdr_of (cc := cX1_labelOf) (nL := 2) (ty := .int) (by decide) rfl (Nat.le_of_ble_eq_true rfl) ?_
  intro p_w e_w s_w m_w args_w below meth_w c_w H ls Q hx hb_w hml hown hts hP hK_w hret hl
  have hl : lv_has ls 2 [(0, .ref (a_w 0)), (1, .int (nI k_w))] := hl
  have hinX1 : ∀ w_w ∈ wsX10, w_w ∈ wsX1_labelOf := by decide +kernel
  refine lv_iload_n hx hb_w dX1_labelOf_0 rfl (lv_at hl 1 rfl) ?_
  refine rdr_S (As := [.int (nI k_w)]) (rest := []) ⟨hx, hb_w, hml, hown, hts⟩ (kX1_isIssue l G_w _ _ (nI k_w) ) (va_cwS 1 hts gX1_labelOf_X1_isIssue rfl rfl rfl (by decide +kernel) ⟨Nat.le_of_ble_eq_true rfl, Nat.le_of_ble_eq_true rfl⟩)  hP hK_w rfl hl.1 rfl (Nat.le_of_ble_eq_true rfl) dX1_labelOf_1 (by decide) (fun r1_w h1 => ?_)
  replace h1 : r1_w = bI (isI (nI k_w)) := h1
  subst h1
  refine lv_if_ne (tgt := 17) hx hb_w dX1_labelOf_4 (by decide) (fun c4_w => ?_) (fun c4_w => ?_)
  · replace c4_w := bIn c4_w
    refine lv_sipush (v := 1000) hx hb_w dX1_labelOf_17 (by decide) ?_
    refine lv_aload_n hx hb_w dX1_labelOf_20 rfl (lv_at hl 0 rfl) ?_
    refine dget (index := 10) (v := .ref (a_w 1)) hx hb_w hts hinX1 hown hK_w hP 0 (by decide) (List.mem_of_getElem? (i := 3) rfl) rfl dX1_labelOf_21 ?_
    refine lv_iload_n hx hb_w dX1_labelOf_24 rfl (lv_at hl 1 rfl) ?_
    refine rdr_V (As := [.int (nI k_w)]) (rest := [.int 1000]) ⟨hx, hb_w, hml, hown, hts⟩ (kX0_volumeOf l G_w a_w cI cZ g_w f_w cd tc_w (nI k_w) ) (cwV 1 hts gX1_labelOf_X0_volumeOf rfl rfl rfl (by decide +kernel) ⟨Nat.le_of_ble_eq_true rfl, Nat.le_of_ble_eq_true rfl⟩) (va_recv hK_w hP (ci := 0) (q0 := 1) rfl rfl) hP hK_w rfl hl.1 rfl (Nat.le_of_ble_eq_true rfl) dX1_labelOf_25 (by decide) (fun r25 h25 => ?_)
    replace h25 : r25 = volD g_w (nI k_w) := h25
    subst h25
    refine lv_imul hx hb_w dX1_labelOf_28 ?_
    refine lv_aload_n hx hb_w dX1_labelOf_29 rfl (lv_at hl 0 rfl) ?_
    refine dget (index := 10) (v := .ref (a_w 1)) hx hb_w hts hinX1 hown hK_w hP 0 (by decide) (List.mem_of_getElem? (i := 3) rfl) rfl dX1_labelOf_30 ?_
    refine lv_iload_n hx hb_w dX1_labelOf_33 rfl (lv_at hl 1 rfl) ?_
    refine rdr_V (As := [.int (nI k_w)]) (rest := [.int (1000 * (volD g_w (nI k_w)))]) ⟨hx, hb_w, hml, hown, hts⟩ (kX0_numberOf l G_w a_w cI cZ g_w f_w cd tc_w (nI k_w) ) (cwV 1 hts gX1_labelOf_X0_numberOf rfl rfl rfl (by decide +kernel) ⟨Nat.le_of_ble_eq_true rfl, Nat.le_of_ble_eq_true rfl⟩) (va_recv hK_w hP (ci := 0) (q0 := 1) rfl rfl) hP hK_w rfl hl.1 rfl (Nat.le_of_ble_eq_true rfl) dX1_labelOf_34 (by decide) (fun r34 h34 => ?_)
    replace h34 : r34 = numD g_w (nI k_w) := h34
    subst h34
    refine lv_iadd hx hb_w dX1_labelOf_37 ?_
    exact hret ((1000 * (volD g_w (nI k_w))) + (numD g_w (nI k_w))) _ _ dX1_labelOf_38 rfl rfl
  replace c4_w := bI0 c4_w
  exact absurd c4_w (by rw [isI_nI hk]; decide)
set_option maxHeartbeats 4000000 in
set_option maxRecDepth 100000 in
theorem kX1_rangeAt_n (l : Launch) (G_w : va_G) (a_w : Nat → Nat) (cI cZ : ClassId) (g_w : Nat → Int32) (f_w : Nat → Nat → Int32) (cd : Nat → Int32) (tc_w : Int32) (q_w k_w : Nat) (hk : k_w < 200) (hs : scan (rsB g_w f_w) (nI q_w) 0 200 0 = nI k_w): rdr l yX1_rangeAt wsX1_rangeAt { frames := 6, cells := 0, slots := 0, locals := 106 } G_w (wD a_w cI cZ g_w f_w cd tc_w) (tyIZ cI cZ) [.ref (a_w 0), .int (nI q_w)] (fun r_w => r_w = 1000 * nI k_w + nI (eoR g_w f_w (199 - k_w) k_w)) := by
  refine rdr_of (cc := cX1_rangeAt) (nL := 3) (ty := .int) (by decide) rfl (Nat.le_of_ble_eq_true rfl) ?_
  intro p_w e_w s_w m_w args_w below meth_w c_w H ls Q hx hb_w hml hown hts hP hK_w hret hl
  have hl : lv_has ls 3 [(0, .ref (a_w 0)), (1, .int (nI q_w))] := hl
  refine lv_aload_n hx hb_w dX1_rangeAt_0 rfl (lv_at hl 0 rfl) ?_
  refine lv_iload_n hx hb_w dX1_rangeAt_1 rfl (lv_at hl 1 rfl) ?_
  refine rdr_V (As := [.int (nI q_w)]) (rest := []) ⟨hx, hb_w, hml, hown, hts⟩ (kX1_startOfRange l G_w a_w cI cZ g_w f_w cd tc_w (nI q_w) ) (cwV 1 hts gX1_rangeAt_X1_startOfRange rfl rfl rfl (by decide +kernel) ⟨Nat.le_of_ble_eq_true rfl, Nat.le_of_ble_eq_true rfl⟩) (va_recv hK_w hP (ci := 1) (q0 := 0) rfl rfl) hP hK_w rfl hl.1 rfl (Nat.le_of_ble_eq_true rfl) dX1_rangeAt_2 (by decide) (fun r2 h2 => ?_)
  replace h2 : r2 = scan (rsB g_w f_w) (nI q_w) 0 200 0 := h2
  subst h2
  refine lv_istore_n (lv' := [(2, .int (scan (rsB g_w f_w) (nI q_w) 0 200 0)), (0, .ref (a_w 0)), (1, .int (nI q_w))]) hx hb_w dX1_rangeAt_5 rfl hl (by decide) rfl (fun ls hl => ?_)
  refine lv_iload_n hx hb_w dX1_rangeAt_6 rfl (lv_at hl 0 rfl) ?_
  refine lv_iconst (v := (-1)) hx hb_w dX1_rangeAt_7 (by decide) ?_
  refine lv_icmp_ne (tgt := 21) hx hb_w dX1_rangeAt_8 (by decide) (fun c8_w => ?_) (fun c8_w => ?_)
  · rw [hs] at hl
    refine lv_sipush (v := 1000) hx hb_w dX1_rangeAt_21 (by decide) ?_
    refine lv_iload_n hx hb_w dX1_rangeAt_24 rfl (lv_at hl 0 rfl) ?_
    refine lv_imul hx hb_w dX1_rangeAt_25 ?_
    refine lv_aload_n hx hb_w dX1_rangeAt_26 rfl (lv_at hl 1 rfl) ?_
    refine lv_iload_n hx hb_w dX1_rangeAt_27 rfl (lv_at hl 0 rfl) ?_
    refine rdr_V (As := [.int (nI k_w)]) (rest := [.int (1000 * (nI k_w))]) ⟨hx, hb_w, hml, hown, hts⟩ (kX1_endOfRange l G_w a_w cI cZ g_w f_w cd tc_w k_w hk) (cwV 1 hts gX1_rangeAt_X1_endOfRange rfl rfl rfl (by decide +kernel) ⟨Nat.le_of_ble_eq_true rfl, Nat.le_of_ble_eq_true rfl⟩) (va_recv hK_w hP (ci := 1) (q0 := 0) rfl rfl) hP hK_w rfl hl.1 rfl (Nat.le_of_ble_eq_true rfl) dX1_rangeAt_28 (by decide) (fun r28 h28 => ?_)
    replace h28 : r28 = nI (eoR g_w f_w (199 - k_w) k_w) := h28
    subst h28
    refine lv_iadd hx hb_w dX1_rangeAt_31 ?_
    exact hret ((1000 * (nI k_w)) + (nI (eoR g_w f_w (199 - k_w) k_w))) _ _ dX1_rangeAt_32 rfl rfl
  exact absurd c8_w (by rw [hs]; exact nI_nm1 hk)
set_option maxHeartbeats 4000000 in
set_option maxRecDepth 100000 in
theorem kX1_only_n (l : Launch) (G_w : va_G) (a_w : Nat → Nat) (cI cZ : ClassId) (g_w : Nat → Int32) (f_w : Nat → Nat → Int32) (cd : Nat → Int32) (tc_w : Int32) (p0_w : Int32) (q_w : Nat) (hq0 : q_w < 2 ^ 31) (hp0 : p0_w = 0 ∨ p0_w = 1) (h01 : ∀ k_w, f_w 4 k_w = 0 ∨ f_w 4 k_w = 1): rdr l yX1_only wsX1_only { frames := 6, cells := 0, slots := 0, locals := 90 } G_w (wD a_w cI cZ g_w f_w cd tc_w) (tyIZ cI cZ) [.ref (a_w 0), .int p0_w, .int (nI q_w)] (fun r_w => r_w = scan (onB g_w f_w p0_w) (nI q_w) 0 200 0) := by
  refine rdr_of (cc := cX1_only) (nL := 6) (ty := .int) (by decide) rfl (Nat.le_of_ble_eq_true rfl) ?_
  intro p_w e_w s_w m_w args_w below meth_w c_w H ls Q hx hb_w hml hown hts hP hK_w hret hl
  have hl : lv_has ls 6 [(0, .ref (a_w 0)), (1, .int p0_w), (2, .int (nI q_w))] := hl
  have hinX1 : ∀ w_w ∈ wsX10, w_w ∈ wsX1_only := by decide +kernel
  refine lv_iload_n hx hb_w dX1_only_0 rfl (lv_at hl 2 rfl) ?_
  refine lv_if_ge (tgt := 14) hx hb_w dX1_only_1 (by decide) (fun c1_w => ?_) (fun c1_w => ?_)
  · refine lv_iconst (v := 0) hx hb_w dX1_only_14 (by decide) ?_
    refine lv_istore_n (lv' := [(3, .int 0), (0, .ref (a_w 0)), (1, .int p0_w), (2, .int (nI q_w))]) hx hb_w dX1_only_15 rfl hl (by decide) rfl (fun ls hl => ?_)
    refine lv_iconst (v := 0) hx hb_w dX1_only_16 (by decide) ?_
    refine lv_istore (lv' := [(4, .int 0), (3, .int 0), (0, .ref (a_w 0)), (1, .int p0_w), (2, .int (nI q_w))]) hx hb_w dX1_only_17 hl (by decide) rfl (fun ls hl => ?_)
    have loop19 : ∀ (n_w : Nat) (i_w sN_w : Nat) (x : Int32), i_w ≤ 200 → 200 - i_w < n_w → x = nI sN_w → scan (onB g_w f_w p0_w) (nI q_w) i_w (200 - i_w) sN_w = scan (onB g_w f_w p0_w) (nI q_w) 0 200 0 → ∀ (ls : Array Slot), lv_has ls 6 [(0, .ref (a_w 0)), (1, .int p0_w), (2, .int (nI q_w)), (3, .int x), (4, .int (nI i_w))] → W p_w l e_w { frames := 6, cells := 0, slots := 0, locals := 90 } s_w m_w args_w below meth_w c_w H [] 0 0 Q (F0 m_w 19 ls []) := by
      intro n_w
      induction n_w with
      | zero => intro i_w sN_w x hi_w hn ex_w hq; intros; exact absurd hn (Nat.not_lt_zero _)
      | succ n_w ih19 =>
        intro i_w sN_w x hi_w hn ex_w hq ls hl
        refine lv_iload hx hb_w dX1_only_19 (lv_at hl 4 rfl) ?_
        refine lv_sipush (v := 200) hx hb_w dX1_only_21 (by decide) ?_
        refine lv_icmp_ge (tgt := 70) hx hb_w dX1_only_24 (by decide) (fun c24_w => ?_) (fun c24_w => ?_)
        · have ei := ge_200 c24_w (by omega)
          refine lv_iconst (v := (-1)) hx hb_w dX1_only_70 (by decide) ?_
          exact hret (-1) _ _ dX1_only_71 rfl (by rw [← hq, ei]; rfl)
        have hi2 := nge_200 c24_w (by omega)
        refine lv_aload_n hx hb_w dX1_only_27 rfl (lv_at hl 0 rfl) ?_
        refine lv_iload hx hb_w dX1_only_28 (lv_at hl 4 rfl) ?_
        refine rdr_V (As := [.int (nI i_w)]) (rest := []) ⟨hx, hb_w, hml, hown, hts⟩ (kX1_isInHouse l G_w a_w cI cZ g_w f_w cd tc_w (nI i_w) ) (cwV 1 hts gX1_only_X1_isInHouse rfl rfl rfl (by decide +kernel) ⟨Nat.le_of_ble_eq_true rfl, Nat.le_of_ble_eq_true rfl⟩) (va_recv hK_w hP (ci := 1) (q0 := 0) rfl rfl) hP hK_w rfl hl.1 rfl (Nat.le_of_ble_eq_true rfl) dX1_only_30 (by decide) (fun r30 h30 => ?_)
        replace h30 : r30 = bI (hereI g_w f_w (nI i_w)) := h30
        subst h30
        refine lv_istore (lv' := [(5, .int (bI (hereI g_w f_w (nI i_w)))), (0, .ref (a_w 0)), (1, .int p0_w), (2, .int (nI q_w)), (3, .int x), (4, .int (nI i_w))]) hx hb_w dX1_only_33 hl (by decide) rfl (fun ls hl => ?_)
        refine lv_iload hx hb_w dX1_only_35 (lv_at hl 0 rfl) ?_
        refine lv_aload_n hx hb_w dX1_only_37 rfl (lv_at hl 1 rfl) ?_
        refine dget (index := 36) (v := .ref (a_w 6)) hx hb_w hts hinX1 hown hK_w hP 13 (by decide) (List.mem_of_getElem? (i := 3) rfl) rfl dX1_only_38 ?_
        refine lv_iload hx hb_w dX1_only_41 (lv_at hl 5 rfl) ?_
        refine arZ (j := i_w) (h := (f_w 4)) hx hb_w hK_w hP 6 rfl rfl hi2 dX1_only_43 ?_
        refine lv_icmp_eq (tgt := 64) hx hb_w dX1_only_44 (by decide) (fun c44_w => ?_) (fun c44_w => ?_)
        · have ho : onB g_w f_w p0_w i_w = false := on_same (h01 i_w) (by rw [← hereI_nI hi2]; exact c44_w)
          refine lv_iinc (v := nI (i_w + 1)) (lv' := [(4, .int (nI (i_w + 1))), (5, .int (bI (hereI g_w f_w (nI i_w)))), (0, .ref (a_w 0)), (1, .int p0_w), (2, .int (nI q_w)), (3, .int x)]) hx hb_w dX1_only_64 hl (k := 5) rfl (nI_1 _) (by decide) rfl (fun ls hl => ?_)
          refine lv_goto (tgt := 19) hx hb_w dX1_only_67 (by decide) ?_
          exact ih19 (i_w + 1) sN_w x (by omega) (by omega) ex_w (by rw [← hq, scan_step hi2, if_neg (by rw [ho]; decide)]) _ (lv_sub hl [2, 3, 4, 5, 0] rfl)
        refine lv_iload hx hb_w dX1_only_47 (lv_at hl 0 rfl) ?_
        refine lv_iload_n hx hb_w dX1_only_49 rfl (lv_at hl 2 rfl) ?_
        refine lv_icmp_ne (tgt := 64) hx hb_w dX1_only_50 (by decide) (fun c50 => ?_) (fun c50 => ?_)
        · have ho : onB g_w f_w p0_w i_w = false := on_ne hp0 (by rw [← hereI_nI hi2]; exact c50)
          refine lv_iinc (v := nI (i_w + 1)) (lv' := [(4, .int (nI (i_w + 1))), (5, .int (bI (hereI g_w f_w (nI i_w)))), (0, .ref (a_w 0)), (1, .int p0_w), (2, .int (nI q_w)), (3, .int x)]) hx hb_w dX1_only_64 hl (k := 5) rfl (nI_1 _) (by decide) rfl (fun ls hl => ?_)
          refine lv_goto (tgt := 19) hx hb_w dX1_only_67 (by decide) ?_
          exact ih19 (i_w + 1) sN_w x (by omega) (by omega) ex_w (by rw [← hq, scan_step hi2, if_neg (by rw [ho]; decide)]) _ (lv_sub hl [2, 3, 4, 5, 0] rfl)
        have ho : onB g_w f_w p0_w i_w = true := on_eq (h01 i_w) (by rw [← hereI_nI hi2]; exact c44_w) (by rw [← hereI_nI hi2]; exact c50)
        refine lv_iload_n hx hb_w dX1_only_53 rfl (lv_at hl 4 rfl) ?_
        refine lv_iload_n hx hb_w dX1_only_54 rfl (lv_at hl 3 rfl) ?_
        refine lv_icmp_ne (tgt := 61) hx hb_w dX1_only_55 (by decide) (fun c55 => ?_) (fun c55 => ?_)
        · refine lv_iinc (v := x + 1) (lv' := [(3, .int (x + 1)), (5, .int (bI (hereI g_w f_w (nI i_w)))), (0, .ref (a_w 0)), (1, .int p0_w), (2, .int (nI q_w)), (4, .int (nI i_w))]) hx hb_w dX1_only_61 hl (k := 4) rfl rfl (by decide) rfl (fun ls hl => ?_)
          refine lv_iinc (v := nI (i_w + 1)) (lv' := [(4, .int (nI (i_w + 1))), (3, .int (x + 1)), (5, .int (bI (hereI g_w f_w (nI i_w)))), (0, .ref (a_w 0)), (1, .int p0_w), (2, .int (nI q_w))]) hx hb_w dX1_only_64 hl (k := 5) rfl (nI_1 _) (by decide) rfl (fun ls hl => ?_)
          refine lv_goto (tgt := 19) hx hb_w dX1_only_67 (by decide) ?_
          exact ih19 (i_w + 1) (sN_w + 1) (x + 1) (by omega) (by omega) (by rw [ex_w]; exact nI_1 _) (by rw [← hq, scan_step hi2, if_pos ho, if_neg (by rw [← ex_w]; exact c55)]) _ (lv_sub hl [3, 4, 5, 1, 0] rfl)
        refine lv_iload hx hb_w dX1_only_58 (lv_at hl 5 rfl) ?_
        exact hret (nI i_w) _ _ dX1_only_60 rfl (by rw [← hq, scan_step hi2, if_pos ho, if_pos (by rw [← ex_w]; exact c55)])
    exact loop19 201 0 0 0 (by omega) (by omega) rfl rfl _ (lv_sub hl [2, 3, 4, 1, 0] rfl)
  exact absurd (Int32.not_lt.mp (nI_pos hq0)) c1_w
set_option maxHeartbeats 4000000 in
set_option maxRecDepth 100000 in
theorem kX1_setPattern_n (l : Launch) (G_w : va_G) (a_w : Nat → Nat) (cI cZ : ClassId) (g_w : Nat → Int32) (f_w : Nat → Nat → Int32) (cd : Nat → Int32) (tc_w : Int32) (hap : apart a_w 7) (sz_w : Nat) (p0_w p1_w p2_w p3_w : Int32) (ct : Nat) (hc_w : ct ≤ 512) (hI : Inv ct g_w f_w) (hp2 : p2_w = 0 ∨ p2_w = 1) (hok : okSP p0_w p1_w p3_w = true): wrv l yX1_setPattern wsX1_setPattern { frames := 6, cells := 0, slots := 0, locals := 108 } G_w (wD a_w cI cZ g_w f_w cd tc_w) (tyIZ cI cZ) (aS a_w 7 sz_w) sz_w [.ref (a_w 0), .int p0_w, .int p1_w, .int p2_w, .int p3_w] (fun u_w => u_w = ((lkS (gSP g_w p0_w p1_w p2_w p3_w) f_w).1, (lkS (gSP g_w p0_w p1_w p2_w p3_w) f_w).2, cd, tc_w)) (wfD a_w cI cZ) := by
  obtain ⟨o1, o2, o3_w⟩ := okSP_3 hok
  refine wrv_of (cc := cX1_setPattern) (nL := 5) (by decide) rfl (Nat.le_of_ble_eq_true rfl) ?_
  intro p_w e_w s_w m_w args_w below meth_w c_w H locs_w ls Q hx hb_w hml hown hts hP hK_w hS_w hret hl
  have hl : lv_has ls 5 [(0, .ref (a_w 0)), (1, .int p0_w), (2, .int p1_w), (3, .int p2_w), (4, .int p3_w)] := hl
  have hinX1 : ∀ w_w ∈ wsX10, w_w ∈ wsX1_setPattern := by decide +kernel
  refine lv_iload_n hx hb_w dX1_setPattern_0 rfl (lv_at hl 1 rfl) ?_
  refine lv_iconst (v := 1) hx hb_w dX1_setPattern_1 (by decide) ?_
  refine lv_bipush (v := 90) hx hb_w dX1_setPattern_2 (by decide) ?_
  refine rdr_S (As := [.int p0_w, .int 1, .int 90]) (rest := []) ⟨hx, hb_w, hml, hown, hts⟩ (kX1_isWithin l G_w _ _ p0_w 1 90 ) (va_cwS 3 hts gX1_setPattern_X1_isWithin rfl rfl rfl (by decide +kernel) ⟨Nat.le_of_ble_eq_true rfl, Nat.le_of_ble_eq_true rfl⟩)  hP hK_w rfl hl.1 rfl (Nat.le_of_ble_eq_true rfl) dX1_setPattern_4 (by decide) (fun r4 h4 => ?_)
  replace h4 : r4 = bI (isW p0_w 1 90) := h4
  subst h4
  refine lv_if_ne (tgt := 20) hx hb_w dX1_setPattern_7 (by decide) (fun c7_w => ?_) (fun c7_w => ?_)
  · replace c7_w := bIn c7_w
    refine lv_iload_n hx hb_w dX1_setPattern_20 rfl (lv_at hl 2 rfl) ?_
    refine lv_iconst (v := 1) hx hb_w dX1_setPattern_21 (by decide) ?_
    refine lv_bipush (v := 20) hx hb_w dX1_setPattern_22 (by decide) ?_
    refine rdr_S (As := [.int p1_w, .int 1, .int 20]) (rest := []) ⟨hx, hb_w, hml, hown, hts⟩ (kX1_isWithin l G_w _ _ p1_w 1 20 ) (va_cwS 3 hts gX1_setPattern_X1_isWithin rfl rfl rfl (by decide +kernel) ⟨Nat.le_of_ble_eq_true rfl, Nat.le_of_ble_eq_true rfl⟩)  hP hK_w rfl hl.1 rfl (Nat.le_of_ble_eq_true rfl) dX1_setPattern_24 (by decide) (fun r24 h24 => ?_)
    replace h24 : r24 = bI (isW p1_w 1 20) := h24
    subst h24
    refine lv_if_ne (tgt := 40) hx hb_w dX1_setPattern_27 (by decide) (fun c27_w => ?_) (fun c27_w => ?_)
    · replace c27_w := bIn c27_w
      refine lv_iload hx hb_w dX1_setPattern_40 (lv_at hl 4 rfl) ?_
      refine lv_iconst (v := 0) hx hb_w dX1_setPattern_42 (by decide) ?_
      refine lv_sipush (v := 4094) hx hb_w dX1_setPattern_43 (by decide) ?_
      refine rdr_S (As := [.int p3_w, .int 0, .int 4094]) (rest := []) ⟨hx, hb_w, hml, hown, hts⟩ (kX1_isWithin l G_w _ _ p3_w 0 4094 ) (va_cwS 3 hts gX1_setPattern_X1_isWithin rfl rfl rfl (by decide +kernel) ⟨Nat.le_of_ble_eq_true rfl, Nat.le_of_ble_eq_true rfl⟩)  hP hK_w rfl hl.1 rfl (Nat.le_of_ble_eq_true rfl) dX1_setPattern_46 (by decide) (fun r46 h46 => ?_)
      replace h46 : r46 = bI (isW p3_w 0 4094) := h46
      subst h46
      refine lv_if_ne (tgt := 62) hx hb_w dX1_setPattern_49 (by decide) (fun c49 => ?_) (fun c49 => ?_)
      · replace c49 := bIn c49
        refine lv_aload_n hx hb_w dX1_setPattern_62 rfl (lv_at hl 0 rfl) ?_
        refine dget (index := 10) (v := .ref (a_w 1)) hx hb_w hts hinX1 hown hK_w hP 0 (by decide) (List.mem_of_getElem? (i := 3) rfl) rfl dX1_setPattern_63 ?_
        refine lv_iload_n hx hb_w dX1_setPattern_66 rfl (lv_at hl 1 rfl) ?_
        refine lv_iload_n hx hb_w dX1_setPattern_67 rfl (lv_at hl 2 rfl) ?_
        refine lv_iload_n hx hb_w dX1_setPattern_68 rfl (lv_at hl 3 rfl) ?_
        refine lv_iload hx hb_w dX1_setPattern_69 (lv_at hl 4 rfl) ?_
        refine wrv_V (As := [.int p0_w, .int p1_w, .int p2_w, .int p3_w]) (rest := []) ⟨hx, hb_w, hml, hown, hts⟩ (kX0_change l G_w a_w cI cZ g_w f_w cd tc_w hap _ p0_w p1_w p2_w p3_w hp2) (cwV 4 hts gX1_setPattern_X0_change rfl rfl rfl (by decide +kernel) ⟨Nat.le_of_ble_eq_true rfl, Nat.le_of_ble_eq_true rfl⟩) (va_recv hK_w hP (ci := 0) (q0 := 1) rfl rfl) hP hK_w hS_w rfl hl.1 rfl (Nat.le_of_ble_eq_true rfl) dX1_setPattern_71 (by decide) (fun u71 H locs_w h71 hP hS_w => ?_)
        subst h71
        have hP : va_P G_w vwCl (wD a_w cI cZ (gSP g_w p0_w p1_w p2_w p3_w) f_w cd tc_w) H := hP
        refine lv_aload_n hx hb_w dX1_setPattern_74 rfl (lv_at hl 0 rfl) ?_
        refine wrv_V (As := []) (rest := []) ⟨hx, hb_w, hml, hown, hts⟩ (kX1_foretellDueIssues l G_w a_w cI cZ (gSP g_w p0_w p1_w p2_w p3_w) f_w cd tc_w hap _  ct hc_w (inv_SP hI hok hp2)) (cwV 0 hts gX1_setPattern_X1_foretellDueIssues rfl rfl rfl (by decide +kernel) ⟨Nat.le_of_ble_eq_true rfl, Nat.le_of_ble_eq_true rfl⟩) (va_recv hK_w hP (ci := 1) (q0 := 0) rfl rfl) hP hK_w hS_w rfl hl.1 rfl (Nat.le_of_ble_eq_true rfl) dX1_setPattern_75 (by decide) (fun u75 H locs_w h75 hP hS_w => ?_)
        subst h75
        have hP : va_P G_w vwCl (wD a_w cI cZ (lkS (gSP g_w p0_w p1_w p2_w p3_w) f_w).1 (lkS (gSP g_w p0_w p1_w p2_w p3_w) f_w).2 cd tc_w) H := hP
        exact hret ((lkS (gSP g_w p0_w p1_w p2_w p3_w) f_w).1, (lkS (gSP g_w p0_w p1_w p2_w p3_w) f_w).2, cd, tc_w) _ _ _ _ dX1_setPattern_78 hP hS_w rfl
      replace c49 := bI0 c49
      exact absurd c49 (by rw [o3_w]; decide)
    replace c27_w := bI0 c27_w
    exact absurd c27_w (by rw [o2]; decide)
  replace c7_w := bI0 c7_w
  exact absurd c7_w (by rw [o1]; decide)
set_option maxHeartbeats 4000000 in
set_option maxRecDepth 100000 in
theorem kX1_setClaims_n (l : Launch) (G_w : va_G) (a_w : Nat → Nat) (cI cZ : ClassId) (g_w : Nat → Int32) (f_w : Nat → Nat → Int32) (cd : Nat → Int32) (tc_w : Int32) (hap : apart a_w 7) (sz_w : Nat) (p0_w p1_w : Int32) (hok : okSC p0_w p1_w = true): wrv l yX1_setClaims wsX1_setClaims { frames := 6, cells := 0, slots := 0, locals := 90 } G_w (wD a_w cI cZ g_w f_w cd tc_w) (tyIZ cI cZ) (aS a_w 7 sz_w) sz_w [.ref (a_w 0), .int p0_w, .int p1_w] (fun u_w => u_w = (upd (upd g_w 5 p0_w) 6 p1_w, f_w, cd, tc_w)) (wfD a_w cI cZ) := by
  obtain ⟨o1, o2⟩ := okSC_2 hok
  refine wrv_of (cc := cX1_setClaims) (nL := 3) (by decide) rfl (Nat.le_of_ble_eq_true rfl) ?_
  intro p_w e_w s_w m_w args_w below meth_w c_w H locs_w ls Q hx hb_w hml hown hts hP hK_w hS_w hret hl
  have hl : lv_has ls 3 [(0, .ref (a_w 0)), (1, .int p0_w), (2, .int p1_w)] := hl
  have hinX1 : ∀ w_w ∈ wsX10, w_w ∈ wsX1_setClaims := by decide +kernel
  refine lv_iload_n hx hb_w dX1_setClaims_0 rfl (lv_at hl 1 rfl) ?_
  refine lv_iconst (v := 0) hx hb_w dX1_setClaims_1 (by decide) ?_
  refine lv_bipush (v := 100) hx hb_w dX1_setClaims_2 (by decide) ?_
  refine rdr_S (As := [.int p0_w, .int 0, .int 100]) (rest := []) ⟨hx, hb_w, hml, hown, hts⟩ (kX1_isWithin l G_w _ _ p0_w 0 100 ) (va_cwS 3 hts gX1_setClaims_X1_isWithin rfl rfl rfl (by decide +kernel) ⟨Nat.le_of_ble_eq_true rfl, Nat.le_of_ble_eq_true rfl⟩)  hP hK_w rfl hl.1 rfl (Nat.le_of_ble_eq_true rfl) dX1_setClaims_4 (by decide) (fun r4 h4 => ?_)
  replace h4 : r4 = bI (isW p0_w 0 100) := h4
  subst h4
  refine lv_if_ne (tgt := 20) hx hb_w dX1_setClaims_7 (by decide) (fun c7_w => ?_) (fun c7_w => ?_)
  · replace c7_w := bIn c7_w
    refine lv_iload_n hx hb_w dX1_setClaims_20 rfl (lv_at hl 2 rfl) ?_
    refine lv_iconst (v := 1) hx hb_w dX1_setClaims_21 (by decide) ?_
    refine lv_bipush (v := 100) hx hb_w dX1_setClaims_22 (by decide) ?_
    refine rdr_S (As := [.int p1_w, .int 1, .int 100]) (rest := []) ⟨hx, hb_w, hml, hown, hts⟩ (kX1_isWithin l G_w _ _ p1_w 1 100 ) (va_cwS 3 hts gX1_setClaims_X1_isWithin rfl rfl rfl (by decide +kernel) ⟨Nat.le_of_ble_eq_true rfl, Nat.le_of_ble_eq_true rfl⟩)  hP hK_w rfl hl.1 rfl (Nat.le_of_ble_eq_true rfl) dX1_setClaims_24 (by decide) (fun r24 h24 => ?_)
    replace h24 : r24 = bI (isW p1_w 1 100) := h24
    subst h24
    refine lv_if_ne (tgt := 40) hx hb_w dX1_setClaims_27 (by decide) (fun c27_w => ?_) (fun c27_w => ?_)
    · replace c27_w := bIn c27_w
      refine lv_aload_n hx hb_w dX1_setClaims_40 rfl (lv_at hl 0 rfl) ?_
      refine lv_iload_n hx hb_w dX1_setClaims_41 rfl (lv_at hl 1 rfl) ?_
      refine dput (index := 16) (v := .int p0_w) (upd g_w 5 p0_w) tc_w hx hb_w hts hinX1 hown hK_w hP hap hS_w 1 (by decide) (List.mem_of_getElem? (i := 3) rfl) rfl rfl rfl rfl rfl dX1_setClaims_42 (fun H locs_w hP hS_w => ?_)
      refine lv_aload_n hx hb_w dX1_setClaims_45 rfl (lv_at hl 0 rfl) ?_
      refine lv_iload_n hx hb_w dX1_setClaims_46 rfl (lv_at hl 2 rfl) ?_
      refine dput (index := 20) (v := .int p1_w) (upd (upd g_w 5 p0_w) 6 p1_w) tc_w hx hb_w hts hinX1 hown hK_w hP hap hS_w 2 (by decide) (List.mem_of_getElem? (i := 4) rfl) rfl rfl rfl rfl rfl dX1_setClaims_47 (fun H locs_w hP hS_w => ?_)
      exact hret ((upd (upd g_w 5 p0_w) 6 p1_w), f_w, cd, tc_w) _ _ _ _ dX1_setClaims_50 hP hS_w rfl
    replace c27_w := bI0 c27_w
    exact absurd c27_w (by rw [o2]; decide)
  replace c7_w := bI0 c7_w
  exact absurd c7_w (by rw [o1]; decide)
set_option maxHeartbeats 4000000 in
set_option maxRecDepth 100000 in
theorem kX1_advance_n (l : Launch) (G_w : va_G) (a_w : Nat → Nat) (cI cZ : ClassId) (g_w : Nat → Int32) (f_w : Nat → Nat → Int32) (cd : Nat → Int32) (tc_w : Int32) (hap : apart a_w 7) (sz_w : Nat) (p0_w : Int32) (ct : Nat) (hc_w : ct ≤ 512) (hI : Inv ct g_w f_w) (h1 : isW p0_w 1 400 = true) (h2 : ¬ 7200 < g_w 0 + p0_w): wri l yX1_advance wsX1_advance { frames := 6, cells := 0, slots := 0, locals := 108 } G_w (wD a_w cI cZ g_w f_w cd tc_w) (tyIZ cI cZ) (aS a_w 7 sz_w) sz_w [.ref (a_w 0), .int p0_w] (fun r_w u_w => r_w = (lkS (upd g_w 0 (g_w 0 + p0_w)) f_w).1 0 ∧ u_w = ((lkS (upd g_w 0 (g_w 0 + p0_w)) f_w).1, (lkS (upd g_w 0 (g_w 0 + p0_w)) f_w).2, cd, tc_w)) (wfD a_w cI cZ) := by
  refine wri_of (cc := cX1_advance) (nL := 2) (ty := .int) (by decide) rfl (Nat.le_of_ble_eq_true rfl) ?_
  intro p_w e_w s_w m_w args_w below meth_w c_w H locs_w ls Q hx hb_w hml hown hts hP hK_w hS_w hret hl
  have hl : lv_has ls 2 [(0, .ref (a_w 0)), (1, .int p0_w)] := hl
  have hinX1 : ∀ w_w ∈ wsX10, w_w ∈ wsX1_advance := by decide +kernel
  refine lv_iload_n hx hb_w dX1_advance_0 rfl (lv_at hl 1 rfl) ?_
  refine lv_iconst (v := 1) hx hb_w dX1_advance_1 (by decide) ?_
  refine lv_sipush (v := 400) hx hb_w dX1_advance_2 (by decide) ?_
  refine rdr_S (As := [.int p0_w, .int 1, .int 400]) (rest := []) ⟨hx, hb_w, hml, hown, hts⟩ (kX1_isWithin l G_w _ _ p0_w 1 400 ) (va_cwS 3 hts gX1_advance_X1_isWithin rfl rfl rfl (by decide +kernel) ⟨Nat.le_of_ble_eq_true rfl, Nat.le_of_ble_eq_true rfl⟩)  hP hK_w rfl hl.1 rfl (Nat.le_of_ble_eq_true rfl) dX1_advance_5 (by decide) (fun r5_w h5 => ?_)
  replace h5 : r5_w = bI (isW p0_w 1 400) := h5
  subst h5
  refine lv_if_ne (tgt := 21) hx hb_w dX1_advance_8 (by decide) (fun c8_w => ?_) (fun c8_w => ?_)
  · replace c8_w := bIn c8_w
    refine lv_aload_n hx hb_w dX1_advance_21 rfl (lv_at hl 0 rfl) ?_
    refine dget (index := 74) (v := .int (g_w 0)) hx hb_w hts hinX1 hown hK_w hP 3 (by decide) (List.mem_of_getElem? (i := 5) rfl) rfl dX1_advance_22 ?_
    refine lv_iload_n hx hb_w dX1_advance_25 rfl (lv_at hl 1 rfl) ?_
    refine lv_iadd hx hb_w dX1_advance_26 ?_
    refine lv_sipush (v := 7200) hx hb_w dX1_advance_27 (by decide) ?_
    refine lv_icmp_le (tgt := 43) hx hb_w dX1_advance_30 (by decide) (fun c30_w => ?_) (fun c30_w => ?_)
    · refine lv_aload_n hx hb_w dX1_advance_43 rfl (lv_at hl 0 rfl) ?_
      refine lv_dup hx hb_w dX1_advance_44 rfl ?_
      refine dget (index := 74) (v := .int (g_w 0)) hx hb_w hts hinX1 hown hK_w hP 3 (by decide) (List.mem_of_getElem? (i := 5) rfl) rfl dX1_advance_45 ?_
      refine lv_iload_n hx hb_w dX1_advance_48 rfl (lv_at hl 1 rfl) ?_
      refine lv_iadd hx hb_w dX1_advance_49 ?_
      refine dput (index := 74) (v := .int ((g_w 0) + p0_w)) (upd g_w 0 ((g_w 0) + p0_w)) tc_w hx hb_w hts hinX1 hown hK_w hP hap hS_w 3 (by decide) (List.mem_of_getElem? (i := 5) rfl) rfl rfl rfl rfl rfl dX1_advance_50 (fun H locs_w hP hS_w => ?_)
      refine lv_aload_n hx hb_w dX1_advance_53 rfl (lv_at hl 0 rfl) ?_
      refine wrv_V (As := []) (rest := []) ⟨hx, hb_w, hml, hown, hts⟩ (kX1_foretellDueIssues l G_w a_w cI cZ (upd g_w 0 ((g_w 0) + p0_w)) f_w cd tc_w hap _  ct hc_w (inv_A hI h1 h2)) (cwV 0 hts gX1_advance_X1_foretellDueIssues rfl rfl rfl (by decide +kernel) ⟨Nat.le_of_ble_eq_true rfl, Nat.le_of_ble_eq_true rfl⟩) (va_recv hK_w hP (ci := 1) (q0 := 0) rfl rfl) hP hK_w hS_w rfl hl.1 rfl (Nat.le_of_ble_eq_true rfl) dX1_advance_54 (by decide) (fun u54 H locs_w h54 hP hS_w => ?_)
      subst h54
      have hP : va_P G_w vwCl (wD a_w cI cZ (lkS (upd g_w 0 (g_w 0 + p0_w)) f_w).1 (lkS (upd g_w 0 (g_w 0 + p0_w)) f_w).2 cd tc_w) H := hP
      refine lv_aload_n hx hb_w dX1_advance_57 rfl (lv_at hl 0 rfl) ?_
      refine dget (index := 74) (v := .int ((lkS (upd g_w 0 (g_w 0 + p0_w)) f_w).1 0)) hx hb_w hts hinX1 hown hK_w hP 3 (by decide) (List.mem_of_getElem? (i := 5) rfl) rfl dX1_advance_58 ?_
      exact hret ((lkS (upd g_w 0 (g_w 0 + p0_w)) f_w).1 0) ((lkS (upd g_w 0 (g_w 0 + p0_w)) f_w).1, (lkS (upd g_w 0 (g_w 0 + p0_w)) f_w).2, cd, tc_w) _ _ _ _ dX1_advance_61 rfl hP hS_w ⟨rfl, rfl⟩
    exact absurd (Int32.not_le.mp c30_w) h2
  replace c8_w := bI0 c8_w
  exact absurd c8_w (by rw [h1]; decide)
set_option maxHeartbeats 4000000 in
set_option maxRecDepth 100000 in
theorem kX1_give_n (l : Launch) (G_w : va_G) (a_w : Nat → Nat) (cI cZ : ClassId) (g_w : Nat → Int32) (f_w : Nat → Nat → Int32) (cd : Nat → Int32) (tc_w : Int32) (hap : apart a_w 7) (sz_w : Nat) (i_w j_w : Nat) (hij : i_w ≤ j_w) (hj : j_w < 200) (h01 : ∀ k_w, f_w 4 k_w = 0 ∨ f_w 4 k_w = 1) (htc : tc_w = nI (cnt (thB (f_w 4)) 200)): wri l yX1_give wsX1_give { frames := 6, cells := 0, slots := 0, locals := 90 } G_w (wD a_w cI cZ g_w f_w cd tc_w) (tyIZ cI cZ) (aS a_w 7 sz_w) sz_w [.ref (a_w 0), .int (nI i_w), .int (nI j_w)] (fun r_w u_w => r_w = nI (cnt (thB (gvU (f_w 4) i_w j_w)) 200) ∧ u_w = (g_w, up2 f_w 4 (gvU (f_w 4) i_w j_w), cd, nI (cnt (thB (gvU (f_w 4) i_w j_w)) 200))) (wfD a_w cI cZ) := by
  refine wri_of (cc := cX1_give) (nL := 4) (ty := .int) (by decide) rfl (Nat.le_of_ble_eq_true rfl) ?_
  intro p_w e_w s_w m_w args_w below meth_w c_w H locs_w ls Q hx hb_w hml hown hts hP hK_w hS_w hret hl
  have hl : lv_has ls 4 [(0, .ref (a_w 0)), (1, .int (nI i_w)), (2, .int (nI j_w))] := hl
  have hinX1 : ∀ w_w ∈ wsX10, w_w ∈ wsX1_give := by decide +kernel
  refine lv_iload_n hx hb_w dX1_give_0 rfl (lv_at hl 1 rfl) ?_
  refine rdr_S (As := [.int (nI i_w)]) (rest := []) ⟨hx, hb_w, hml, hown, hts⟩ (kX1_isIssue l G_w _ _ (nI i_w) ) (va_cwS 1 hts gX1_give_X1_isIssue rfl rfl rfl (by decide +kernel) ⟨Nat.le_of_ble_eq_true rfl, Nat.le_of_ble_eq_true rfl⟩)  hP hK_w rfl hl.1 rfl (Nat.le_of_ble_eq_true rfl) dX1_give_1 (by decide) (fun r1_w h1 => ?_)
  replace h1 : r1_w = bI (isI (nI i_w)) := h1
  subst h1
  refine lv_if_ne (tgt := 17) hx hb_w dX1_give_4 (by decide) (fun c4_w => ?_) (fun c4_w => ?_)
  · replace c4_w := bIn c4_w
    refine lv_iload_n hx hb_w dX1_give_17 rfl (lv_at hl 2 rfl) ?_
    refine lv_iload_n hx hb_w dX1_give_18 rfl (lv_at hl 1 rfl) ?_
    refine lv_sipush (v := 199) hx hb_w dX1_give_19 (by decide) ?_
    refine rdr_S (As := [.int (nI j_w), .int (nI i_w), .int 199]) (rest := []) ⟨hx, hb_w, hml, hown, hts⟩ (kX1_isWithin l G_w _ _ (nI j_w) (nI i_w) 199 ) (va_cwS 3 hts gX1_give_X1_isWithin rfl rfl rfl (by decide +kernel) ⟨Nat.le_of_ble_eq_true rfl, Nat.le_of_ble_eq_true rfl⟩)  hP hK_w rfl hl.1 rfl (Nat.le_of_ble_eq_true rfl) dX1_give_22 (by decide) (fun r22 h22 => ?_)
    replace h22 : r22 = bI (isW (nI j_w) (nI i_w) 199) := h22
    subst h22
    refine lv_if_ne (tgt := 38) hx hb_w dX1_give_25 (by decide) (fun c25_w => ?_) (fun c25_w => ?_)
    · replace c25_w := bIn c25_w
      refine lv_iload_n hx hb_w dX1_give_38 rfl (lv_at hl 1 rfl) ?_
      refine lv_istore_n (lv' := [(3, .int (nI i_w)), (0, .ref (a_w 0)), (1, .int (nI i_w)), (2, .int (nI j_w))]) hx hb_w dX1_give_39 rfl hl (by decide) rfl (fun ls hl => ?_)
      have loop40 : ∀ (n_w : Nat) (kk : Nat) (h1 : Nat → Int32) (t1_w : Int32), i_w ≤ kk → kk ≤ j_w + 1 → j_w + 1 - kk < n_w → h1 = gpU (f_w 4) i_w j_w kk → t1_w = nI (cnt (thB h1) 200) → ∀ (H : Heap) (locs_w : List Loc), va_P G_w vwCl (wD a_w cI cZ g_w (up2 f_w 4 h1) cd t1_w) H → va_S (aS a_w 7 s_w.heap.size) s_w.heap H locs_w → ∀ (ls : Array Slot), lv_has ls 4 [(0, .ref (a_w 0)), (1, .int (nI i_w)), (2, .int (nI j_w)), (3, .int (nI kk))] → W p_w l e_w { frames := 6, cells := 0, slots := 0, locals := 90 } s_w m_w args_w below meth_w c_w H locs_w 0 0 Q (F0 m_w 40 ls []) := by
        intro n_w
        induction n_w with
        | zero => intro kk h1 t1_w hm0 hm_w hn eh et; intros; exact absurd hn (Nat.not_lt_zero _)
        | succ n_w ih40 =>
          intro kk h1 t1_w hm0 hm_w hn eh et H locs_w hP hS_w ls hl
          refine lv_iload_n hx hb_w dX1_give_40 rfl (lv_at hl 3 rfl) ?_
          refine lv_iload_n hx hb_w dX1_give_41 rfl (lv_at hl 2 rfl) ?_
          refine lv_icmp_gt (tgt := 77) hx hb_w dX1_give_42 (by decide) (fun c42 => ?_) (fun c42 => ?_)
          · have em : kk = j_w + 1 := by have := lt_nI (a := j_w) (b := kk) (by omega) (by omega) c42; omega
            refine lv_aload_n hx hb_w dX1_give_77 rfl (lv_at hl 0 rfl) ?_
            refine dget (index := 148) (v := .int t1_w) hx hb_w hts hinX1 hown hK_w hP 14 (by decide) (List.mem_of_getElem? (i := 4) rfl) rfl dX1_give_78 ?_
            have hgv : h1 = gvU (f_w 4) i_w j_w := by rw [eh, em]; exact gpU_end2
            rw [et, hgv] at hP
            exact hret t1_w (g_w, up2 f_w 4 (gvU (f_w 4) i_w j_w), cd, nI (cnt (thB (gvU (f_w 4) i_w j_w)) 200)) _ _ _ _ dX1_give_81 rfl hP hS_w ⟨by rw [et, hgv], rfl⟩
          have hmj : kk ≤ j_w := nlt_nI (by omega) (by omega) c42
          have hm2 : kk < 200 := by omega
          have zm : h1 kk = f_w 4 kk := by rw [eh]; unfold gpU; rw [if_neg (by omega)]
          refine lv_aload_n hx hb_w dX1_give_45 rfl (lv_at hl 0 rfl) ?_
          refine dget (index := 36) (v := .ref (a_w 6)) hx hb_w hts hinX1 hown hK_w hP 13 (by decide) (List.mem_of_getElem? (i := 3) rfl) rfl dX1_give_46 ?_
          refine lv_iload_n hx hb_w dX1_give_49 rfl (lv_at hl 3 rfl) ?_
          refine arZ (j := kk) (h := h1) hx hb_w hK_w hP 6 rfl rfl hm2 dX1_give_50 ?_
          refine lv_if_ne (tgt := 71) hx hb_w dX1_give_51 (by decide) (fun c51_w => ?_) (fun c51_w => ?_)
          · refine lv_iinc (v := nI (kk + 1)) (lv' := [(3, .int (nI (kk + 1))), (0, .ref (a_w 0)), (1, .int (nI i_w)), (2, .int (nI j_w))]) hx hb_w dX1_give_71 hl (k := 3) rfl (nI_1 _) (by decide) rfl (fun ls hl => ?_)
            refine lv_goto (tgt := 40) hx hb_w dX1_give_74 (by decide) ?_
            exact ih40 (kk + 1) h1 t1_w (by omega) (by omega) (by omega) (by rw [eh]; exact w_same fun k_w => by by_cases q_w : k_w = kk; (rw [q_w]; unfold gpU; rw [if_pos ⟨by omega, by omega, by omega⟩, if_neg (by omega)]; exact ((h01 kk).resolve_left (by rw [← zm]; exact c51_w)).symm); (unfold gpU; simp only [lt_ne q_w])) et _ _ hP hS_w _ (lv_sub hl [1, 2, 3, 0] rfl)
          refine lv_aload_n hx hb_w dX1_give_54 rfl (lv_at hl 0 rfl) ?_
          refine dget (index := 36) (v := .ref (a_w 6)) hx hb_w hts hinX1 hown hK_w hP 13 (by decide) (List.mem_of_getElem? (i := 3) rfl) rfl dX1_give_55 ?_
          refine lv_iload_n hx hb_w dX1_give_58 rfl (lv_at hl 3 rfl) ?_
          refine lv_iconst (v := 1) hx hb_w dX1_give_59 (by decide) ?_
          refine asZ (j := kk) (h := h1) (x := 1) (wD a_w cI cZ g_w (up2 f_w 4 (upd h1 kk 1)) cd t1_w) hx hb_w hK_w hP (wD_D hap _) hS_w 6 rfl rfl hm2 rfl rfl dX1_give_60 (fun H locs_w hP hS_w => ?_)
          refine lv_aload_n hx hb_w dX1_give_61 rfl (lv_at hl 0 rfl) ?_
          refine lv_dup hx hb_w dX1_give_62 rfl ?_
          refine dget (index := 148) (v := .int t1_w) hx hb_w hts hinX1 hown hK_w hP 14 (by decide) (List.mem_of_getElem? (i := 4) rfl) rfl dX1_give_63 ?_
          refine lv_iconst (v := 1) hx hb_w dX1_give_66 (by decide) ?_
          refine lv_iadd hx hb_w dX1_give_67 ?_
          refine dput (index := 148) (v := .int (t1_w + 1)) g_w (t1_w + 1) hx hb_w hts hinX1 hown hK_w hP hap hS_w 14 (by decide) (List.mem_of_getElem? (i := 4) rfl) rfl rfl rfl rfl rfl dX1_give_68 (fun H locs_w hP hS_w => ?_)
          refine lv_iinc (v := nI (kk + 1)) (lv' := [(3, .int (nI (kk + 1))), (0, .ref (a_w 0)), (1, .int (nI i_w)), (2, .int (nI j_w))]) hx hb_w dX1_give_71 hl (k := 3) rfl (nI_1 _) (by decide) rfl (fun ls hl => ?_)
          refine lv_goto (tgt := 40) hx hb_w dX1_give_74 (by decide) ?_
          exact ih40 (kk + 1) (upd h1 kk 1) (t1_w + 1) (by omega) (by omega) (by omega) (by rw [eh]; exact w_step (by unfold gpU; rw [if_pos ⟨by omega, by omega, by omega⟩]) (fun k_w q_w => by unfold gpU; simp only [lt_ne q_w])) (by rw [et, nI_1, cnt_put hm2 c51_w]) _ _ hP hS_w _ (lv_sub hl [1, 2, 3, 0] rfl)
      exact loop40 (j_w + 2) i_w (f_w 4) tc_w (by omega) (by omega) (by omega) (w_same fun k_w => by unfold gpU; rw [if_neg (by omega)]) htc _ _ hP hS_w _ (lv_sub hl [1, 2, 3, 0] rfl)
    replace c25_w := bI0 c25_w
    exact absurd c25_w (by rw [isW_199 hij hj]; decide)
  replace c4_w := bI0 c4_w
  exact absurd c4_w (by rw [isI_nI (show i_w < 200 by omega)]; decide)
