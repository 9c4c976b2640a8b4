set_option maxHeartbeats 4000000 in
set_option maxRecDepth 100000 in
theorem kX2_checkIn (l : Launch) (G_w : va_G) (a_w : Nat → Nat) (cI cZ : ClassId) (g_w : Nat → Int32) (f_w : Nat → Nat → Int32) (tc_w : Int32) (hap : apart a_w 6) (sz_w : Nat) (p0_w p1_w : Int32) (ct : Nat) (hc_w : ct < 512) (hI : Inv ct g_w f_w): wri l yX2_checkIn wsX2_checkIn { frames := 4, cells := 0, slots := 0, locals := 83 } G_w (wM a_w cI cZ g_w f_w tc_w) (tyIZ cI cZ) (aS a_w 6 sz_w) sz_w [.ref (a_w 0), .int p0_w, .int p1_w] (fun r_w u_w => r_w = (if thC g_w f_w p0_w p1_w = 0 then (ciS g_w f_w p0_w.toNatClampNeg p1_w.toNatClampNeg).1 7 else 0) ∧ u_w = if thC g_w f_w p0_w p1_w = 0 then ((ciS g_w f_w p0_w.toNatClampNeg p1_w.toNatClampNeg).1, (ciS g_w f_w p0_w.toNatClampNeg p1_w.toNatClampNeg).2, 0) else (g_w, f_w, thC g_w f_w p0_w p1_w)) (wfM a_w cI cZ) := by
  refine wri_of (cc := cX2_checkIn) (nL := 5) (ty := .int) (by decide) rfl (Nat.le_of_ble_eq_true rfl) ?_
  intro p_w e_w s_w m_w args_w below meth_w c_w H locs_w ls Q hx hb_w hml hown hts hP hK_w hS_w hret hl
  have hl : lv_has ls 5 [(0, .ref (a_w 0)), (1, .int p0_w), (2, .int p1_w)] := hl
  have hinX2 : ∀ w_w ∈ wsX20, w_w ∈ wsX2_checkIn := by decide +kernel
  refine lv_iload_n hx hb_w dX2_checkIn_0 rfl (lv_at hl 2 rfl) ?_
  refine lv_iconst (v := 0) hx hb_w dX2_checkIn_1 (by decide) ?_
  refine lv_iconst (v := 5) hx hb_w dX2_checkIn_2 (by decide) ?_
  refine rdr_S (As := [.int p1_w, .int 0, .int 5]) (rest := []) ⟨hx, hb_w, hml, hown, hts⟩ (kX2_isIn l G_w _ _ p1_w 0 5 ) (va_cwS 3 hts gX2_checkIn_X2_isIn rfl rfl rfl (by decide +kernel) ⟨Nat.le_of_ble_eq_true rfl, Nat.le_of_ble_eq_true rfl⟩)  hP hK_w rfl hl.1 rfl (Nat.le_of_ble_eq_true rfl) dX2_checkIn_3 (by decide) (fun r3 h3 => ?_)
  replace h3 : r3 = bI (isW p1_w 0 5) := h3
  subst h3
  refine lv_if_eq (tgt := 22) hx hb_w dX2_checkIn_6 (by decide) (fun c6_w => ?_) (fun c6_w => ?_)
  · replace c6_w := bI0 c6_w
    refine lv_iconst (v := 0) hx hb_w dX2_checkIn_22 (by decide) ?_
    refine lv_istore_n (lv' := [(3, .int 0), (0, .ref (a_w 0)), (1, .int p0_w), (2, .int p1_w)]) hx hb_w dX2_checkIn_23 rfl hl (by decide) rfl (fun ls hl => ?_)
    refine lv_aload_n hx hb_w dX2_checkIn_24 rfl (lv_at hl 1 rfl) ?_
    refine lv_iload_n hx hb_w dX2_checkIn_25 rfl (lv_at hl 2 rfl) ?_
    refine rdr_S (As := [.int p0_w]) (rest := [.ref (a_w 0)]) ⟨hx, hb_w, hml, hown, hts⟩ (kX2_isIssue l G_w _ _ p0_w ) (va_cwS 1 hts gX2_checkIn_X2_isIssue rfl rfl rfl (by decide +kernel) ⟨Nat.le_of_ble_eq_true rfl, Nat.le_of_ble_eq_true rfl⟩)  hP hK_w rfl hl.1 rfl (Nat.le_of_ble_eq_true rfl) dX2_checkIn_26 (by decide) (fun r26 h26 => ?_)
    replace h26 : r26 = bI (isI p0_w) := h26
    subst h26
    refine lv_if_ne (tgt := 36) hx hb_w dX2_checkIn_29 (by decide) (fun c29_w => ?_) (fun c29_w => ?_)
    · replace c29_w := bIn c29_w
      refine lv_iload_n hx hb_w dX2_checkIn_36 rfl (lv_at hl 0 rfl) ?_
      refine lv_if_ne (tgt := 44) hx hb_w dX2_checkIn_37 (by decide) (fun c37 => ?_) (fun c37 => ?_)
      · exact absurd rfl c37
      have hg : ciG p0_w p1_w = false := by unfold ciG; rw [c6_w]; rfl
      have ht : thC g_w f_w p0_w p1_w = 2 := by unfold thC; rw [if_neg (by rw [c29_w]; decide), if_pos hg]
      refine lv_iconst (v := 2) hx hb_w dX2_checkIn_40 (by decide) ?_
      refine lv_goto (tgt := 58) hx hb_w dX2_checkIn_41 (by decide) ?_
      refine wri_V (As := [.int 2]) (rest := []) ⟨hx, hb_w, hml, hown, hts⟩ (kX2_can l G_w a_w cI cZ g_w f_w tc_w hap _ 2 ) (cwV 1 hts gX2_checkIn_X2_can rfl rfl rfl (by decide +kernel) ⟨Nat.le_of_ble_eq_true rfl, Nat.le_of_ble_eq_true rfl⟩) (va_recv hK_w hP (ci := 2) (q0 := 0) rfl rfl) hP hK_w hS_w rfl hl.1 rfl (Nat.le_of_ble_eq_true rfl) dX2_checkIn_58 (by decide) (fun r58 u58 H locs_w h58 hP hS_w => ?_)
      obtain ⟨h58_1, h58_2⟩ := h58
      replace h58_1 : r58 = bI false := h58_1.trans (by decide)
      subst h58_1
      subst h58_2
      have hP : va_P G_w vwCl (wM a_w cI cZ g_w f_w 2) H := hP
      refine lv_if_ne (tgt := 66) hx hb_w dX2_checkIn_61 (by decide) (fun c61 => ?_) (fun c61 => ?_)
      · replace c61 := bIn c61
        exact absurd c61 (by decide)
      replace c61 := bI0 c61
      refine lv_iconst (v := 0) hx hb_w dX2_checkIn_64 (by decide) ?_
      exact hret 0 (g_w, f_w, 2) _ _ _ _ dX2_checkIn_65 rfl hP hS_w ⟨by rw [if_neg (by rw [ht]; decide)], by rw [if_neg (by rw [ht]; decide), ht]⟩
    replace c29_w := bI0 c29_w
    have ht : thC g_w f_w p0_w p1_w = 1 := by unfold thC; rw [if_pos c29_w]
    refine lv_iconst (v := 1) hx hb_w dX2_checkIn_32 (by decide) ?_
    refine lv_goto (tgt := 58) hx hb_w dX2_checkIn_33 (by decide) ?_
    refine wri_V (As := [.int 1]) (rest := []) ⟨hx, hb_w, hml, hown, hts⟩ (kX2_can l G_w a_w cI cZ g_w f_w tc_w hap _ 1 ) (cwV 1 hts gX2_checkIn_X2_can rfl rfl rfl (by decide +kernel) ⟨Nat.le_of_ble_eq_true rfl, Nat.le_of_ble_eq_true rfl⟩) (va_recv hK_w hP (ci := 2) (q0 := 0) rfl rfl) hP hK_w hS_w rfl hl.1 rfl (Nat.le_of_ble_eq_true rfl) dX2_checkIn_58 (by decide) (fun r58 u58 H locs_w h58 hP hS_w => ?_)
    obtain ⟨h58_1, h58_2⟩ := h58
    replace h58_1 : r58 = bI false := h58_1.trans (by decide)
    subst h58_1
    subst h58_2
    have hP : va_P G_w vwCl (wM a_w cI cZ g_w f_w 1) H := hP
    refine lv_if_ne (tgt := 66) hx hb_w dX2_checkIn_61 (by decide) (fun c61 => ?_) (fun c61 => ?_)
    · replace c61 := bIn c61
      exact absurd c61 (by decide)
    replace c61 := bI0 c61
    refine lv_iconst (v := 0) hx hb_w dX2_checkIn_64 (by decide) ?_
    exact hret 0 (g_w, f_w, 1) _ _ _ _ dX2_checkIn_65 rfl hP hS_w ⟨by rw [if_neg (by rw [ht]; decide)], by rw [if_neg (by rw [ht]; decide), ht]⟩
  replace c6_w := bIn c6_w
  refine lv_iload_n hx hb_w dX2_checkIn_9 rfl (lv_at hl 1 rfl) ?_
  refine lv_iload_n hx hb_w dX2_checkIn_10 rfl (lv_at hl 2 rfl) ?_
  refine lv_iadd hx hb_w dX2_checkIn_11 ?_
  refine lv_sipush (v := 200) hx hb_w dX2_checkIn_12 (by decide) ?_
  refine lv_icmp_ge (tgt := 22) hx hb_w dX2_checkIn_15 (by decide) (fun c15_w => ?_) (fun c15_w => ?_)
  · refine lv_iconst (v := 0) hx hb_w dX2_checkIn_22 (by decide) ?_
    refine lv_istore_n (lv' := [(3, .int 0), (0, .ref (a_w 0)), (1, .int p0_w), (2, .int p1_w)]) hx hb_w dX2_checkIn_23 rfl hl (by decide) rfl (fun ls hl => ?_)
    refine lv_aload_n hx hb_w dX2_checkIn_24 rfl (lv_at hl 1 rfl) ?_
    refine lv_iload_n hx hb_w dX2_checkIn_25 rfl (lv_at hl 2 rfl) ?_
    refine rdr_S (As := [.int p0_w]) (rest := [.ref (a_w 0)]) ⟨hx, hb_w, hml, hown, hts⟩ (kX2_isIssue l G_w _ _ p0_w ) (va_cwS 1 hts gX2_checkIn_X2_isIssue rfl rfl rfl (by decide +kernel) ⟨Nat.le_of_ble_eq_true rfl, Nat.le_of_ble_eq_true rfl⟩)  hP hK_w rfl hl.1 rfl (Nat.le_of_ble_eq_true rfl) dX2_checkIn_26 (by decide) (fun r26 h26 => ?_)
    replace h26 : r26 = bI (isI p0_w) := h26
    subst h26
    refine lv_if_ne (tgt := 36) hx hb_w dX2_checkIn_29 (by decide) (fun c29_w => ?_) (fun c29_w => ?_)
    · replace c29_w := bIn c29_w
      refine lv_iload_n hx hb_w dX2_checkIn_36 rfl (lv_at hl 0 rfl) ?_
      refine lv_if_ne (tgt := 44) hx hb_w dX2_checkIn_37 (by decide) (fun c37 => ?_) (fun c37 => ?_)
      · exact absurd rfl c37
      have hg : ciG p0_w p1_w = false := by unfold ciG; rw [c6_w, decide_eq_true c15_w]; rfl
      have ht : thC g_w f_w p0_w p1_w = 2 := by unfold thC; rw [if_neg (by rw [c29_w]; decide), if_pos hg]
      refine lv_iconst (v := 2) hx hb_w dX2_checkIn_40 (by decide) ?_
      refine lv_goto (tgt := 58) hx hb_w dX2_checkIn_41 (by decide) ?_
      refine wri_V (As := [.int 2]) (rest := []) ⟨hx, hb_w, hml, hown, hts⟩ (kX2_can l G_w a_w cI cZ g_w f_w tc_w hap _ 2 ) (cwV 1 hts gX2_checkIn_X2_can rfl rfl rfl (by decide +kernel) ⟨Nat.le_of_ble_eq_true rfl, Nat.le_of_ble_eq_true rfl⟩) (va_recv hK_w hP (ci := 2) (q0 := 0) rfl rfl) hP hK_w hS_w rfl hl.1 rfl (Nat.le_of_ble_eq_true rfl) dX2_checkIn_58 (by decide) (fun r58 u58 H locs_w h58 hP hS_w => ?_)
      obtain ⟨h58_1, h58_2⟩ := h58
      replace h58_1 : r58 = bI false := h58_1.trans (by decide)
      subst h58_1
      subst h58_2
      have hP : va_P G_w vwCl (wM a_w cI cZ g_w f_w 2) H := hP
      refine lv_if_ne (tgt := 66) hx hb_w dX2_checkIn_61 (by decide) (fun c61 => ?_) (fun c61 => ?_)
      · replace c61 := bIn c61
        exact absurd c61 (by decide)
      replace c61 := bI0 c61
      refine lv_iconst (v := 0) hx hb_w dX2_checkIn_64 (by decide) ?_
      exact hret 0 (g_w, f_w, 2) _ _ _ _ dX2_checkIn_65 rfl hP hS_w ⟨by rw [if_neg (by rw [ht]; decide)], by rw [if_neg (by rw [ht]; decide), ht]⟩
    replace c29_w := bI0 c29_w
    have ht : thC g_w f_w p0_w p1_w = 1 := by unfold thC; rw [if_pos c29_w]
    refine lv_iconst (v := 1) hx hb_w dX2_checkIn_32 (by decide) ?_
    refine lv_goto (tgt := 58) hx hb_w dX2_checkIn_33 (by decide) ?_
    refine wri_V (As := [.int 1]) (rest := []) ⟨hx, hb_w, hml, hown, hts⟩ (kX2_can l G_w a_w cI cZ g_w f_w tc_w hap _ 1 ) (cwV 1 hts gX2_checkIn_X2_can rfl rfl rfl (by decide +kernel) ⟨Nat.le_of_ble_eq_true rfl, Nat.le_of_ble_eq_true rfl⟩) (va_recv hK_w hP (ci := 2) (q0 := 0) rfl rfl) hP hK_w hS_w rfl hl.1 rfl (Nat.le_of_ble_eq_true rfl) dX2_checkIn_58 (by decide) (fun r58 u58 H locs_w h58 hP hS_w => ?_)
    obtain ⟨h58_1, h58_2⟩ := h58
    replace h58_1 : r58 = bI false := h58_1.trans (by decide)
    subst h58_1
    subst h58_2
    have hP : va_P G_w vwCl (wM a_w cI cZ g_w f_w 1) H := hP
    refine lv_if_ne (tgt := 66) hx hb_w dX2_checkIn_61 (by decide) (fun c61 => ?_) (fun c61 => ?_)
    · replace c61 := bIn c61
      exact absurd c61 (by decide)
    replace c61 := bI0 c61
    refine lv_iconst (v := 0) hx hb_w dX2_checkIn_64 (by decide) ?_
    exact hret 0 (g_w, f_w, 1) _ _ _ _ dX2_checkIn_65 rfl hP hS_w ⟨by rw [if_neg (by rw [ht]; decide)], by rw [if_neg (by rw [ht]; decide), ht]⟩
  refine lv_iconst (v := 1) hx hb_w dX2_checkIn_18 (by decide) ?_
  refine lv_goto (tgt := 23) hx hb_w dX2_checkIn_19 (by decide) ?_
  refine lv_istore_n (lv' := [(3, .int 1), (0, .ref (a_w 0)), (1, .int p0_w), (2, .int p1_w)]) hx hb_w dX2_checkIn_23 rfl hl (by decide) rfl (fun ls hl => ?_)
  refine lv_aload_n hx hb_w dX2_checkIn_24 rfl (lv_at hl 1 rfl) ?_
  refine lv_iload_n hx hb_w dX2_checkIn_25 rfl (lv_at hl 2 rfl) ?_
  refine rdr_S (As := [.int p0_w]) (rest := [.ref (a_w 0)]) ⟨hx, hb_w, hml, hown, hts⟩ (kX2_isIssue l G_w _ _ p0_w ) (va_cwS 1 hts gX2_checkIn_X2_isIssue rfl rfl rfl (by decide +kernel) ⟨Nat.le_of_ble_eq_true rfl, Nat.le_of_ble_eq_true rfl⟩)  hP hK_w rfl hl.1 rfl (Nat.le_of_ble_eq_true rfl) dX2_checkIn_26 (by decide) (fun r26 h26 => ?_)
  replace h26 : r26 = bI (isI p0_w) := h26
  subst h26
  refine lv_if_ne (tgt := 36) hx hb_w dX2_checkIn_29 (by decide) (fun c29_w => ?_) (fun c29_w => ?_)
  · replace c29_w := bIn c29_w
    refine lv_iload_n hx hb_w dX2_checkIn_36 rfl (lv_at hl 0 rfl) ?_
    refine lv_if_ne (tgt := 44) hx hb_w dX2_checkIn_37 (by decide) (fun c37 => ?_) (fun c37 => ?_)
    · have hg : ciG p0_w p1_w = true := by unfold ciG; rw [c6_w, decide_eq_false c15_w]; rfl
      obtain ⟨i_w, hi_w, ei, eci⟩ := isI_k c29_w
      obtain ⟨j_w, hj5, ej, ecj, hij⟩ := ciG_k ei hi_w hg
      subst ei
      subst ej
      refine lv_aload_n hx hb_w dX2_checkIn_44 rfl (lv_at hl 1 rfl) ?_
      refine lv_iload_n hx hb_w dX2_checkIn_45 rfl (lv_at hl 2 rfl) ?_
      refine lv_iload_n hx hb_w dX2_checkIn_46 rfl (lv_at hl 3 rfl) ?_
      refine rdr_V (As := [.int (nI i_w), .int (nI j_w)]) (rest := [.ref (a_w 0)]) ⟨hx, hb_w, hml, hown, hts⟩ (kX2_isOpen l G_w a_w cI cZ g_w f_w tc_w i_w j_w (by omega)) (cwV 2 hts gX2_checkIn_X2_isOpen rfl rfl rfl (by decide +kernel) ⟨Nat.le_of_ble_eq_true rfl, Nat.le_of_ble_eq_true rfl⟩) (va_recv hK_w hP (ci := 2) (q0 := 0) rfl rfl) hP hK_w rfl hl.1 rfl (Nat.le_of_ble_eq_true rfl) dX2_checkIn_47 (by decide) (fun r47 h47 => ?_)
      replace h47 : r47 = bI (allR (opB g_w f_w) i_w (i_w + j_w + 1 - i_w)) := h47
      subst h47
      refine lv_if_eq (tgt := 57) hx hb_w dX2_checkIn_50 (by decide) (fun c50 => ?_) (fun c50 => ?_)
      · replace c50 := bI0 c50
        have ht : thC g_w f_w (nI i_w) (nI j_w) = 3 := by unfold thC; rw [if_neg (by rw [c29_w]; decide), if_neg (by rw [hg]; decide), eci, ecj, if_neg (by rw [c50]; decide)]
        refine lv_iconst (v := 3) hx hb_w dX2_checkIn_57 (by decide) ?_
        refine wri_V (As := [.int 3]) (rest := []) ⟨hx, hb_w, hml, hown, hts⟩ (kX2_can l G_w a_w cI cZ g_w f_w tc_w hap _ 3 ) (cwV 1 hts gX2_checkIn_X2_can rfl rfl rfl (by decide +kernel) ⟨Nat.le_of_ble_eq_true rfl, Nat.le_of_ble_eq_true rfl⟩) (va_recv hK_w hP (ci := 2) (q0 := 0) rfl rfl) hP hK_w hS_w rfl hl.1 rfl (Nat.le_of_ble_eq_true rfl) dX2_checkIn_58 (by decide) (fun r58 u58 H locs_w h58 hP hS_w => ?_)
        obtain ⟨h58_1, h58_2⟩ := h58
        replace h58_1 : r58 = bI false := h58_1.trans (by decide)
        subst h58_1
        subst h58_2
        have hP : va_P G_w vwCl (wM a_w cI cZ g_w f_w 3) H := hP
        refine lv_if_ne (tgt := 66) hx hb_w dX2_checkIn_61 (by decide) (fun c61 => ?_) (fun c61 => ?_)
        · replace c61 := bIn c61
          exact absurd c61 (by decide)
        replace c61 := bI0 c61
        refine lv_iconst (v := 0) hx hb_w dX2_checkIn_64 (by decide) ?_
        exact hret 0 (g_w, f_w, 3) _ _ _ _ dX2_checkIn_65 rfl hP hS_w ⟨by rw [if_neg (by rw [ht]; decide)], by rw [if_neg (by rw [ht]; decide), ht]⟩
      replace c50 := bIn c50
      have ht : thC g_w f_w (nI i_w) (nI j_w) = 0 := by unfold thC; rw [if_neg (by rw [c29_w]; decide), if_neg (by rw [hg]; decide), eci, ecj, if_pos c50]
      obtain ⟨N_w, e7_w, h1, h2, h3, h4⟩ := inv_N hI
      refine lv_iconst (v := 0) hx hb_w dX2_checkIn_53 (by decide) ?_
      refine lv_goto (tgt := 58) hx hb_w dX2_checkIn_54 (by decide) ?_
      refine wri_V (As := [.int 0]) (rest := []) ⟨hx, hb_w, hml, hown, hts⟩ (kX2_can l G_w a_w cI cZ g_w f_w tc_w hap _ 0 ) (cwV 1 hts gX2_checkIn_X2_can rfl rfl rfl (by decide +kernel) ⟨Nat.le_of_ble_eq_true rfl, Nat.le_of_ble_eq_true rfl⟩) (va_recv hK_w hP (ci := 2) (q0 := 0) rfl rfl) hP hK_w hS_w rfl hl.1 rfl (Nat.le_of_ble_eq_true rfl) dX2_checkIn_58 (by decide) (fun r58 u58 H locs_w h58 hP hS_w => ?_)
      obtain ⟨h58_1, h58_2⟩ := h58
      replace h58_1 : r58 = bI true := h58_1.trans (by decide)
      subst h58_1
      subst h58_2
      have hP : va_P G_w vwCl (wM a_w cI cZ g_w f_w 0) H := hP
      refine lv_if_ne (tgt := 66) hx hb_w dX2_checkIn_61 (by decide) (fun c61 => ?_) (fun c61 => ?_)
      · replace c61 := bIn c61
        have loop66 : ∀ (n_w : Nat) (g1 : Nat → Int32) (f1_w : Nat → Nat → Int32) (M_w : Nat), g1 7 = nI M_w → M_w ≤ 200 → Inv ct g1 f1_w → itF (i_w + j_w + 1 - M_w) (g1, f1_w) = ciM g_w f_w i_w j_w → 201 - M_w < n_w → ∀ (H : Heap) (locs_w : List Loc), va_P G_w vwCl (wM a_w cI cZ g1 f1_w 0) H → va_S (aS a_w 6 s_w.heap.size) s_w.heap H locs_w → ∀ (ls : Array Slot), lv_has ls 5 [(0, .ref (a_w 0)), (1, .int (nI i_w)), (2, .int (nI j_w))] → W p_w l e_w { frames := 4, cells := 0, slots := 0, locals := 83 } s_w m_w args_w below meth_w c_w H locs_w 0 0 Q (F0 m_w 66 ls []) := by
          intro n_w
          induction n_w with
          | zero => intro g1 f1_w M_w hM_w hM2 hI1 hq hn; intros; exact absurd hn (Nat.not_lt_zero _)
          | succ n_w ih66 =>
            intro g1 f1_w M_w hM_w hM2 hI1 hq hn H locs_w hP hS_w ls hl
            refine lv_aload_n hx hb_w dX2_checkIn_66 rfl (lv_at hl 0 rfl) ?_
            refine mget (index := 46) (v := .int (g1 7)) hx hb_w hts hinX2 hown hK_w hP 7 (by decide) (List.mem_of_getElem? (i := 1) rfl) rfl dX2_checkIn_67 ?_
            refine lv_iload_n hx hb_w dX2_checkIn_70 rfl (lv_at hl 1 rfl) ?_
            refine lv_iload_n hx hb_w dX2_checkIn_71 rfl (lv_at hl 2 rfl) ?_
            refine lv_iadd hx hb_w dX2_checkIn_72 ?_
            refine top_eq (z := nI (i_w + j_w)) (nI_add _ _) ?_
            refine lv_icmp_gt (tgt := 83) hx hb_w dX2_checkIn_73 (by decide) (fun c73 => ?_) (fun c73 => ?_)
            · have hex_w : i_w + j_w < M_w := by rw [hM_w] at c73; exact lt_nI (by omega) (by omega) c73
              have hE : ciM g_w f_w i_w j_w = (g1, f1_w) := by rw [← hq, show i_w + j_w + 1 - M_w = 0 by omega]; rfl
              refine lv_aload_n hx hb_w dX2_checkIn_83 rfl (lv_at hl 0 rfl) ?_
              refine lv_iload_n hx hb_w dX2_checkIn_84 rfl (lv_at hl 1 rfl) ?_
              refine wrv_V (As := [.int (nI i_w)]) (rest := []) ⟨hx, hb_w, hml, hown, hts⟩ (kX2_counts l G_w a_w cI cZ g1 f1_w 0 hap _ i_w ct hi_w hI1) (cwV 1 hts gX2_checkIn_X2_counts rfl rfl rfl (by decide +kernel) ⟨Nat.le_of_ble_eq_true rfl, Nat.le_of_ble_eq_true rfl⟩) (va_recv hK_w hP (ci := 2) (q0 := 0) rfl rfl) hP hK_w hS_w rfl hl.1 rfl (Nat.le_of_ble_eq_true rfl) dX2_checkIn_85 (by decide) (fun u85 H locs_w h85 hP hS_w => ?_)
              subst h85
              have hP : va_P G_w vwCl (wM a_w cI cZ (cntG g1 (g1 0 - f1_w 0 i_w) (rowD g1 f1_w i_w) i_w) f1_w 0) H := hP
              refine lv_aload_n hx hb_w dX2_checkIn_88 rfl (lv_at hl 0 rfl) ?_
              refine mget (index := 30) (v := .ref (a_w 2)) hx hb_w hts hinX2 hown hK_w hP 9 (by decide) (List.mem_of_getElem? (i := 2) rfl) rfl dX2_checkIn_89 ?_
              refine lv_iload_n hx hb_w dX2_checkIn_92 rfl (lv_at hl 1 rfl) ?_
              refine lv_iconst (v := 1) hx hb_w dX2_checkIn_93 (by decide) ?_
              refine asI (j := i_w) (h := (f1_w 1)) (x := 1) (wM a_w cI cZ (cntG g1 (g1 0 - f1_w 0 i_w) (rowD g1 f1_w i_w) i_w) (up2 f1_w 1 (upd (f1_w 1) i_w 1)) 0) hx hb_w hK_w hP (wM_D hap _) hS_w 2 rfl rfl hi_w rfl dX2_checkIn_94 (fun H locs_w hP hS_w => ?_)
              refine lv_iload_n hx hb_w dX2_checkIn_95 rfl (lv_at hl 1 rfl) ?_
              refine lv_iconst (v := 1) hx hb_w dX2_checkIn_96 (by decide) ?_
              refine lv_iadd hx hb_w dX2_checkIn_97 ?_
              refine top_eq (z := nI (i_w + 1)) (nI_1 _) ?_
              refine lv_istore (lv' := [(4, .int (nI (i_w + 1))), (0, .ref (a_w 0)), (1, .int (nI i_w)), (2, .int (nI j_w))]) hx hb_w dX2_checkIn_98 hl (by decide) rfl (fun ls hl => ?_)
              have loop100 : ∀ (n_w : Nat) (k_w : Nat) (h1 : Nat → Int32), i_w < k_w → k_w ≤ i_w + j_w + 1 → i_w + j_w + 1 - k_w < n_w → h1 = tkU (f1_w 1) i_w k_w → ∀ (H : Heap) (locs_w : List Loc), va_P G_w vwCl (wM a_w cI cZ (cntG g1 (g1 0 - f1_w 0 i_w) (rowD g1 f1_w i_w) i_w) (up2 f1_w 1 h1) 0) H → va_S (aS a_w 6 s_w.heap.size) s_w.heap H locs_w → ∀ (ls : Array Slot), lv_has ls 5 [(0, .ref (a_w 0)), (1, .int (nI i_w)), (2, .int (nI j_w)), (4, .int (nI k_w))] → W p_w l e_w { frames := 4, cells := 0, slots := 0, locals := 83 } s_w m_w args_w below meth_w c_w H locs_w 0 0 Q (F0 m_w 100 ls []) := by
                intro n_w
                induction n_w with
                | zero => intro k_w h1 hk0 hk hn he; intros; exact absurd hn (Nat.not_lt_zero _)
                | succ n_w ih100 =>
                  intro k_w h1 hk0 hk hn he H locs_w hP hS_w ls hl
                  refine lv_iload hx hb_w dX2_checkIn_100 (lv_at hl 3 rfl) ?_
                  refine lv_iload_n hx hb_w dX2_checkIn_102 rfl (lv_at hl 1 rfl) ?_
                  refine lv_iload_n hx hb_w dX2_checkIn_103 rfl (lv_at hl 2 rfl) ?_
                  refine lv_iadd hx hb_w dX2_checkIn_104 ?_
                  refine top_eq (z := nI (i_w + j_w)) (nI_add _ _) ?_
                  refine lv_icmp_gt (tgt := 122) hx hb_w dX2_checkIn_105 (by decide) (fun c105 => ?_) (fun c105 => ?_)
                  · have ek : k_w = i_w + j_w + 1 := by have := lt_nI (a := i_w + j_w) (b := k_w) (by omega) (by omega) c105; omega
                    refine lv_aload_n hx hb_w dX2_checkIn_122 rfl (lv_at hl 0 rfl) ?_
                    refine wrv_V (As := []) (rest := []) ⟨hx, hb_w, hml, hown, hts⟩ (kX2_looks l G_w a_w cI cZ (cntG g1 (g1 0 - f1_w 0 i_w) (rowD g1 f1_w i_w) i_w) (up2 f1_w 1 h1) 0 hap _  (ct + 1) hc_w (inv_row (inv_cnt hc_w hI1 hi_w) rfl rfl)) (cwV 0 hts gX2_checkIn_X2_looks rfl rfl rfl (by decide +kernel) ⟨Nat.le_of_ble_eq_true rfl, Nat.le_of_ble_eq_true rfl⟩) (va_recv hK_w hP (ci := 2) (q0 := 0) rfl rfl) hP hK_w hS_w rfl hl.1 rfl (Nat.le_of_ble_eq_true rfl) dX2_checkIn_123 (by decide) (fun u123 H locs_w h123 hP hS_w => ?_)
                    subst h123
                    have hP : va_P G_w vwCl (wM a_w cI cZ (lkS (cntG g1 (g1 0 - f1_w 0 i_w) (rowD g1 f1_w i_w) i_w) (up2 f1_w 1 h1)).1 (lkS (cntG g1 (g1 0 - f1_w 0 i_w) (rowD g1 f1_w i_w) i_w) (up2 f1_w 1 h1)).2 0) H := hP
                    refine lv_aload_n hx hb_w dX2_checkIn_126 rfl (lv_at hl 0 rfl) ?_
                    refine mget (index := 46) (v := .int ((lkS (cntG g1 (g1 0 - f1_w 0 i_w) (rowD g1 f1_w i_w) i_w) (up2 f1_w 1 h1)).1 7)) hx hb_w hts hinX2 hown hK_w hP 7 (by decide) (List.mem_of_getElem? (i := 1) rfl) rfl dX2_checkIn_127 ?_
                    exact hret ((lkS (cntG g1 (g1 0 - f1_w 0 i_w) (rowD g1 f1_w i_w) i_w) (up2 f1_w 1 h1)).1 7) ((lkS (cntG g1 (g1 0 - f1_w 0 i_w) (rowD g1 f1_w i_w) i_w) (up2 f1_w 1 h1)).1, (lkS (cntG g1 (g1 0 - f1_w 0 i_w) (rowD g1 f1_w i_w) i_w) (up2 f1_w 1 h1)).2, 0) _ _ _ _ dX2_checkIn_130 rfl hP hS_w (by have e_w : ciS g_w f_w i_w j_w = (lkS (cntG g1 (g1 0 - f1_w 0 i_w) (rowD g1 f1_w i_w) i_w) (up2 f1_w 1 h1)) := (by unfold ciS; rw [hE, he, ek]); rw [if_pos ht, if_pos ht, eci, ecj, e_w]; exact ⟨rfl, rfl⟩)
                  have hk2 : k_w ≤ i_w + j_w := nlt_nI (by omega) (by omega) c105
                  refine lv_aload_n hx hb_w dX2_checkIn_108 rfl (lv_at hl 0 rfl) ?_
                  refine mget (index := 30) (v := .ref (a_w 2)) hx hb_w hts hinX2 hown hK_w hP 9 (by decide) (List.mem_of_getElem? (i := 2) rfl) rfl dX2_checkIn_109 ?_
                  refine lv_iload hx hb_w dX2_checkIn_112 (lv_at hl 3 rfl) ?_
                  refine lv_iconst (v := 2) hx hb_w dX2_checkIn_114 (by decide) ?_
                  refine asI (j := k_w) (h := h1) (x := 2) (wM a_w cI cZ (cntG g1 (g1 0 - f1_w 0 i_w) (rowD g1 f1_w i_w) i_w) (up2 f1_w 1 (upd h1 k_w 2)) 0) hx hb_w hK_w hP (wM_D hap _) hS_w 2 rfl rfl (by omega) rfl dX2_checkIn_115 (fun H locs_w hP hS_w => ?_)
                  refine lv_iinc (v := nI (k_w + 1)) (lv' := [(4, .int (nI (k_w + 1))), (0, .ref (a_w 0)), (1, .int (nI i_w)), (2, .int (nI j_w))]) hx hb_w dX2_checkIn_116 hl (k := 3) rfl (nI_1 _) (by decide) rfl (fun ls hl => ?_)
                  refine lv_goto (tgt := 100) hx hb_w dX2_checkIn_119 (by decide) ?_
                  exact ih100 (k_w + 1) (upd h1 k_w 2) (by omega) (by omega) (by omega) (by rw [he]; exact tkU_s _ (by omega) _ (by rw [if_neg (by omega)])) _ _ hP hS_w _ (lv_sub hl [1, 2, 3, 0] rfl)
              exact loop100 (j_w + 1) (i_w + 1) (upd (f1_w 1) i_w 1) (by omega) (by omega) (by omega) (by rw [← tkU_s (f1_w 1) (Nat.le_refl i_w) 1 (by rw [if_pos rfl]), ← tkU_0]) _ _ hP hS_w _ (lv_sub hl [1, 2, 3, 0] rfl)
            have hgo : M_w ≤ i_w + j_w := by rw [hM_w] at c73; exact nlt_nI (by omega) (by omega) c73
            refine lv_aload_n hx hb_w dX2_checkIn_76 rfl (lv_at hl 0 rfl) ?_
            refine wrv_V (As := []) (rest := []) ⟨hx, hb_w, hml, hown, hts⟩ (kX2_foretells l G_w a_w cI cZ g1 f1_w 0 hap _  M_w ct (Nat.le_of_lt hc_w) hI1 hM_w (by omega)) (cwV 0 hts gX2_checkIn_X2_foretells rfl rfl rfl (by decide +kernel) ⟨Nat.le_of_ble_eq_true rfl, Nat.le_of_ble_eq_true rfl⟩) (va_recv hK_w hP (ci := 2) (q0 := 0) rfl rfl) hP hK_w hS_w rfl hl.1 rfl (Nat.le_of_ble_eq_true rfl) dX2_checkIn_77 (by decide) (fun u77 H locs_w h77 hP hS_w => ?_)
            subst h77
            have hP : va_P G_w vwCl (wM a_w cI cZ (foreG g1) (foreF g1 f1_w) 0) H := hP
            obtain ⟨hI2, e72_w⟩ := inv_fore (Nat.le_of_lt hc_w) hI1 hM_w (show M_w < 200 by omega)
            refine lv_goto (tgt := 66) hx hb_w dX2_checkIn_80 (by decide) ?_
            exact ih66 (foreG g1) (foreF g1 f1_w) (M_w + 1) e72_w (by omega) hI2 (by rw [← hq, show i_w + j_w + 1 - M_w = (i_w + j_w + 1 - (M_w + 1)) + 1 by omega]; rfl) (by omega) _ _ hP hS_w _ (lv_sub hl [0, 1, 2] rfl)
        exact loop66 202 g_w f_w N_w e7_w h2 hI (by unfold ciM; rw [h3]) (by omega) _ _ hP hS_w _ (lv_sub hl [1, 2, 3] rfl)
      replace c61 := bI0 c61
      exact absurd c61 (by decide)
    exact absurd c37 (by decide)
  replace c29_w := bI0 c29_w
  have ht : thC g_w f_w p0_w p1_w = 1 := by unfold thC; rw [if_pos c29_w]
  refine lv_iconst (v := 1) hx hb_w dX2_checkIn_32 (by decide) ?_
  refine lv_goto (tgt := 58) hx hb_w dX2_checkIn_33 (by decide) ?_
  refine wri_V (As := [.int 1]) (rest := []) ⟨hx, hb_w, hml, hown, hts⟩ (kX2_can l G_w a_w cI cZ g_w f_w tc_w hap _ 1 ) (cwV 1 hts gX2_checkIn_X2_can rfl rfl rfl (by decide +kernel) ⟨Nat.le_of_ble_eq_true rfl, Nat.le_of_ble_eq_true rfl⟩) (va_recv hK_w hP (ci := 2) (q0 := 0) rfl rfl) hP hK_w hS_w rfl hl.1 rfl (Nat.le_of_ble_eq_true rfl) dX2_checkIn_58 (by decide) (fun r58 u58 H locs_w h58 hP hS_w => ?_)
  obtain ⟨h58_1, h58_2⟩ := h58
  replace h58_1 : r58 = bI false := h58_1.trans (by decide)
  subst h58_1
  subst h58_2
  have hP : va_P G_w vwCl (wM a_w cI cZ g_w f_w 1) H := hP
  refine lv_if_ne (tgt := 66) hx hb_w dX2_checkIn_61 (by decide) (fun c61 => ?_) (fun c61 => ?_)
  · replace c61 := bIn c61
    exact absurd c61 (by decide)
  replace c61 := bI0 c61
  refine lv_iconst (v := 0) hx hb_w dX2_checkIn_64 (by decide) ?_
  exact hret 0 (g_w, f_w, 1) _ _ _ _ dX2_checkIn_65 rfl hP hS_w ⟨by rw [if_neg (by rw [ht]; decide)], by rw [if_neg (by rw [ht]; decide), ht]⟩
set_option maxHeartbeats 4000000 in
set_option maxRecDepth 100000 in
theorem kX2_round (l : Launch) (G_w : va_G) (a_w : Nat → Nat) (cI cZ : ClassId) (g_w : Nat → Int32) (f_w : Nat → Nat → Int32) (tc_w : Int32) (hap : apart a_w 6) (sz_w : Nat) (hNN : NN g_w): wri l yX2_round wsX2_round { frames := 1, cells := 0, slots := 0, locals := 21 } G_w (wM a_w cI cZ g_w f_w tc_w) (tyIZ cI cZ) (aS a_w 6 sz_w) sz_w [.ref (a_w 0)] (fun r_w u_w => r_w = nI (rdN g_w f_w 200) ∧ u_w = (g_w, rdF g_w f_w 200, 0)) (wfM a_w cI cZ) := by
  obtain ⟨N_w, hN_w, hN1, hN2⟩ := hNN
  refine wri_of (cc := cX2_round) (nL := 3) (ty := .int) (by decide) rfl (Nat.le_of_ble_eq_true rfl) ?_
  intro p_w e_w s_w m_w args_w below meth_w c_w H locs_w ls Q hx hb_w hml hown hts hP hK_w hS_w hret hl
  have hl : lv_has ls 3 [(0, .ref (a_w 0))] := hl
  have hinX2 : ∀ w_w ∈ wsX20, w_w ∈ wsX2_round := by decide +kernel
  refine lv_aload_n hx hb_w dX2_round_0 rfl (lv_at hl 0 rfl) ?_
  refine lv_iconst (v := 0) hx hb_w dX2_round_1 (by decide) ?_
  refine mput (index := 49) (v := .int 0) g_w 0 hx hb_w hts hinX2 hown hK_w hP hap hS_w 17 (by decide) (List.mem_of_getElem? (i := 1) rfl) rfl rfl rfl rfl dX2_round_2 (fun H locs_w hP hS_w => ?_)
  refine lv_iconst (v := 0) hx hb_w dX2_round_5 (by decide) ?_
  refine lv_istore_n (lv' := [(1, .int 0), (0, .ref (a_w 0))]) hx hb_w dX2_round_6 rfl hl (by decide) rfl (fun ls hl => ?_)
  refine lv_iconst (v := 0) hx hb_w dX2_round_7 (by decide) ?_
  refine lv_istore_n (lv' := [(2, .int 0), (1, .int 0), (0, .ref (a_w 0))]) hx hb_w dX2_round_8 rfl hl (by decide) rfl (fun ls hl => ?_)
  have loop9 : ∀ (n_w : Nat) (i_w : Nat) (x : Int32) (h1 h2 h3 : Nat → Int32), i_w ≤ N_w → N_w - i_w < n_w → x = nI (rdN g_w f_w i_w) → h1 = rd1 g_w f_w i_w → h2 = rd2 g_w f_w i_w → h3 = rd3 g_w f_w i_w → ∀ (H : Heap) (locs_w : List Loc), va_P G_w vwCl (wM a_w cI cZ g_w (up2 (up2 (up2 f_w 1 h1) 2 h2) 3 h3) 0) H → va_S (aS a_w 6 s_w.heap.size) s_w.heap H locs_w → ∀ (ls : Array Slot), lv_has ls 3 [(0, .ref (a_w 0)), (1, .int x), (2, .int (nI i_w))] → W p_w l e_w { frames := 1, cells := 0, slots := 0, locals := 21 } s_w m_w args_w below meth_w c_w H locs_w 0 0 Q (F0 m_w 9 ls []) := by
    intro n_w
    induction n_w with
    | zero => intro i_w x h1 h2 h3 hi_w hn ex_w e1_w e2_w e3_w; intros; exact absurd hn (Nat.not_lt_zero _)
    | succ n_w ih9 =>
      intro i_w x h1 h2 h3 hi_w hn ex_w e1_w e2_w e3_w H locs_w hP hS_w ls hl
      have z1 : i_w ≤ N_w → h1 i_w = f_w 1 i_w := fun _ => by rw [e1_w]; unfold rd1; rw [if_neg (by omega)]
      have z2 : h2 i_w = f_w 2 i_w := by rw [e2_w]; unfold rd2; rw [if_neg (by omega)]
      have z3 : h3 i_w = f_w 3 i_w := by rw [e3_w]; unfold rd3; rw [if_neg (by omega)]
      have zl : lateM g_w (up2 (up2 (up2 f_w 1 h1) 2 h2) 3 h3) i_w = lateM g_w f_w i_w := by (show (decide (h1 i_w = 0) && _) = _); rw [z1 hi_w]; rfl
      refine lv_iload_n hx hb_w dX2_round_9 rfl (lv_at hl 2 rfl) ?_
      refine lv_aload_n hx hb_w dX2_round_10 rfl (lv_at hl 0 rfl) ?_
      refine mget (index := 46) (v := .int (g_w 7)) hx hb_w hts hinX2 hown hK_w hP 7 (by decide) (List.mem_of_getElem? (i := 2) rfl) rfl dX2_round_11 ?_
      refine lv_icmp_ge (tgt := 131) hx hb_w dX2_round_14 (by decide) (fun c14_w => ?_) (fun c14_w => ?_)
      · have ei : i_w = N_w := by rw [hN_w] at c14_w; have := le_nI (a := N_w) (b := i_w) (by omega) (by omega) c14_w; omega
        have hF : (up2 (up2 (up2 f_w 1 h1) 2 h2) 3 h3) = rdF g_w f_w 200 := by rw [e1_w, e2_w, e3_w, ei]; exact (rd_cut hN_w hN2).1
        have hP : va_P G_w vwCl (wM a_w cI cZ g_w (rdF g_w f_w 200) 0) H := by rw [← hF]; exact hP
        refine lv_iload_n hx hb_w dX2_round_131 rfl (lv_at hl 1 rfl) ?_
        exact hret x (g_w, rdF g_w f_w 200, 0) _ _ _ _ dX2_round_132 rfl hP hS_w ⟨by rw [ex_w, ei, (rd_cut hN_w hN2).2], rfl⟩
      have hi2 : i_w < N_w := by rw [hN_w] at c14_w; exact nle_nI (by omega) (by omega) c14_w
      have hnf : ¬ g_w 7 ≤ nI i_w := c14_w
      refine lv_aload_n hx hb_w dX2_round_17 rfl (lv_at hl 0 rfl) ?_
      refine lv_iload_n hx hb_w dX2_round_18 rfl (lv_at hl 2 rfl) ?_
      refine rdr_V (As := [.int (nI i_w)]) (rest := []) ⟨hx, hb_w, hml, hown, hts⟩ (kX2_isLate l G_w a_w cI cZ g_w (up2 (up2 (up2 f_w 1 h1) 2 h2) 3 h3) 0 i_w (by omega)) (cwV 1 hts gX2_round_X2_isLate rfl rfl rfl (by decide +kernel) ⟨Nat.le_of_ble_eq_true rfl, Nat.le_of_ble_eq_true rfl⟩) (va_recv hK_w hP (ci := 2) (q0 := 0) rfl rfl) hP hK_w rfl hl.1 rfl (Nat.le_of_ble_eq_true rfl) dX2_round_19 (by decide) (fun r19 h19 => ?_)
      replace h19 : r19 = bI (lateM g_w (up2 (up2 (up2 f_w 1 h1) 2 h2) 3 h3) i_w) := h19
      subst h19
      refine lv_if_eq (tgt := 125) hx hb_w dX2_round_22 (by decide) (fun c22 => ?_) (fun c22 => ?_)
      · replace c22 := bI0 c22
        rw [zl] at c22
        refine lv_iinc (v := nI (i_w + 1)) (lv' := [(2, .int (nI (i_w + 1))), (0, .ref (a_w 0)), (1, .int x)]) hx hb_w dX2_round_125 hl (k := 2) rfl (nI_1 _) (by decide) rfl (fun ls hl => ?_)
        refine lv_goto (tgt := 9) hx hb_w dX2_round_128 (by decide) ?_
        exact ih9 (i_w + 1) (x) h1 h2 h3 (by omega) (by omega) (by rw [ex_w]; exact congrArg nI (cnt_f (by rw [(show rdB g_w f_w i_w = false from by unfold rdB; rw [lateB_in hnf, c22]; rfl)]; rfl)).symm) (by rw [e1_w]; exact w_same fun k_w => by by_cases q_w : k_w = i_w; (rw [q_w]; unfold rd1; rw [if_neg (fun z_w => by have zz := (show rdB g_w f_w i_w = false from by unfold rdB; rw [lateB_in hnf, c22]; rfl); rw [zz] at z_w; exact absurd z_w.2.1 (by decide)), if_neg (by omega)]); (unfold rd1; simp only [lt_ne q_w])) (by rw [e2_w]; exact w_same fun k_w => by by_cases q_w : k_w = i_w; (rw [q_w]; unfold rd2; rw [if_neg (fun z_w => by have zz := (show rdB g_w f_w i_w = false from by unfold rdB; rw [lateB_in hnf, c22]; rfl); rw [zz] at z_w; exact absurd z_w.2.1 (by decide)), if_neg (by omega)]); (unfold rd2; simp only [lt_ne q_w])) (by rw [e3_w]; exact w_same fun k_w => by by_cases q_w : k_w = i_w; (rw [q_w]; unfold rd3; rw [if_neg (fun z_w => by have zz := (show rdB g_w f_w i_w = false from by unfold rdB; rw [lateB_in hnf, c22]; rfl); rw [zz] at z_w; exact absurd z_w.2 (by decide)), if_neg (by omega)]); (unfold rd3; simp only [lt_ne q_w])) _ _ hP hS_w _ (lv_sub hl [1, 2, 0] rfl)
      replace c22 := bIn c22
      rw [zl] at c22
      refine lv_aload_n hx hb_w dX2_round_25 rfl (lv_at hl 0 rfl) ?_
      refine mget (index := 33) (v := .ref (a_w 3)) hx hb_w hts hinX2 hown hK_w hP 10 (by decide) (List.mem_of_getElem? (i := 3) rfl) rfl dX2_round_26 ?_
      refine lv_iload_n hx hb_w dX2_round_29 rfl (lv_at hl 2 rfl) ?_
      refine arI (j := i_w) (h := h2) hx hb_w hK_w hP 3 rfl rfl (by omega) dX2_round_30 ?_
      refine lv_if_eq (tgt := 52) hx hb_w dX2_round_31 (by decide) (fun c31_w => ?_) (fun c31_w => ?_)
      · rw [z2] at c31_w
        refine lv_aload_n hx hb_w dX2_round_52 rfl (lv_at hl 0 rfl) ?_
        refine mget (index := 30) (v := .ref (a_w 2)) hx hb_w hts hinX2 hown hK_w hP 9 (by decide) (List.mem_of_getElem? (i := 7) rfl) rfl dX2_round_53 ?_
        refine lv_iload_n hx hb_w dX2_round_56 rfl (lv_at hl 2 rfl) ?_
        refine lv_aload_n hx hb_w dX2_round_57 rfl (lv_at hl 0 rfl) ?_
        refine mget (index := 33) (v := .ref (a_w 3)) hx hb_w hts hinX2 hown hK_w hP 10 (by decide) (List.mem_of_getElem? (i := 3) rfl) rfl dX2_round_58 ?_
        refine lv_iload_n hx hb_w dX2_round_61 rfl (lv_at hl 2 rfl) ?_
        refine arI (j := i_w) (h := h2) hx hb_w hK_w hP 3 rfl rfl (by omega) dX2_round_62 ?_
        refine lv_iconst (v := 3) hx hb_w dX2_round_63 (by decide) ?_
        refine lv_icmp_ge (tgt := 71) hx hb_w dX2_round_64 (by decide) (fun c64 => ?_) (fun c64 => ?_)
        · rw [z2] at c64
          refine lv_iconst (v := 3) hx hb_w dX2_round_71 (by decide) ?_
          refine asI (j := i_w) (h := h1) (x := 3) (wM a_w cI cZ g_w (up2 (up2 (up2 f_w 2 h2) 3 h3) 1 (upd h1 i_w 3)) 0) hx hb_w hK_w hP (wM_D hap _) hS_w 2 rfl rfl (by omega) rfl dX2_round_72 (fun H locs_w hP hS_w => ?_)
          refine lv_iload_n hx hb_w dX2_round_73 rfl (lv_at hl 1 rfl) ?_
          refine lv_aload_n hx hb_w dX2_round_74 rfl (lv_at hl 0 rfl) ?_
          refine mget (index := 33) (v := .ref (a_w 3)) hx hb_w hts hinX2 hown hK_w hP 10 (by decide) (List.mem_of_getElem? (i := 3) rfl) rfl dX2_round_75 ?_
          refine lv_iload_n hx hb_w dX2_round_78 rfl (lv_at hl 2 rfl) ?_
          refine arI (j := i_w) (h := h2) hx hb_w hK_w hP 3 rfl rfl (by omega) dX2_round_79 ?_
          refine lv_iconst (v := 3) hx hb_w dX2_round_80 (by decide) ?_
          refine lv_icmp_ge (tgt := 88) hx hb_w dX2_round_81 (by decide) (fun c81 => ?_) (fun c81 => ?_)
          · refine lv_iconst (v := 0) hx hb_w dX2_round_88 (by decide) ?_
            refine lv_iadd hx hb_w dX2_round_89 ?_
            refine lv_istore_n (lv' := [(1, .int (x + 0)), (0, .ref (a_w 0)), (2, .int (nI i_w))]) hx hb_w dX2_round_90 rfl hl (by decide) rfl (fun ls hl => ?_)
            refine lv_aload_n hx hb_w dX2_round_91 rfl (lv_at hl 1 rfl) ?_
            refine mget (index := 36) (v := .ref (a_w 4)) hx hb_w hts hinX2 hown hK_w hP 11 (by decide) (List.mem_of_getElem? (i := 5) rfl) rfl dX2_round_92 ?_
            refine lv_iload_n hx hb_w dX2_round_95 rfl (lv_at hl 2 rfl) ?_
            refine lv_aload_n hx hb_w dX2_round_96 rfl (lv_at hl 1 rfl) ?_
            refine mget (index := 70) (v := .int (g_w 0)) hx hb_w hts hinX2 hown hK_w hP 0 (by decide) (List.mem_of_getElem? (i := 4) rfl) rfl dX2_round_97 ?_
            refine asI (j := i_w) (h := h3) (x := g_w 0) (wM a_w cI cZ g_w (up2 (up2 (up2 f_w 2 h2) 1 (upd h1 i_w 3)) 3 (upd h3 i_w (g_w 0))) 0) hx hb_w hK_w hP (wM_D hap _) hS_w 4 rfl rfl (by omega) rfl dX2_round_100 (fun H locs_w hP hS_w => ?_)
            refine lv_aload_n hx hb_w dX2_round_101 rfl (lv_at hl 1 rfl) ?_
            refine mget (index := 33) (v := .ref (a_w 3)) hx hb_w hts hinX2 hown hK_w hP 10 (by decide) (List.mem_of_getElem? (i := 3) rfl) rfl dX2_round_102 ?_
            refine lv_iload_n hx hb_w dX2_round_105 rfl (lv_at hl 2 rfl) ?_
            refine lv_dup2_11 hx hb_w dX2_round_106 rfl rfl ?_
            refine arI (j := i_w) (h := h2) hx hb_w hK_w hP 3 rfl rfl (by omega) dX2_round_107 ?_
            refine lv_aload_n hx hb_w dX2_round_108 rfl (lv_at hl 1 rfl) ?_
            refine mget (index := 33) (v := .ref (a_w 3)) hx hb_w hts hinX2 hown hK_w hP 10 (by decide) (List.mem_of_getElem? (i := 3) rfl) rfl dX2_round_109 ?_
            refine lv_iload_n hx hb_w dX2_round_112 rfl (lv_at hl 2 rfl) ?_
            refine arI (j := i_w) (h := h2) hx hb_w hK_w hP 3 rfl rfl (by omega) dX2_round_113 ?_
            refine lv_iconst (v := 3) hx hb_w dX2_round_114 (by decide) ?_
            refine lv_icmp_ge (tgt := 122) hx hb_w dX2_round_115 (by decide) (fun c115 => ?_) (fun c115 => ?_)
            · refine lv_iconst (v := 0) hx hb_w dX2_round_122 (by decide) ?_
              refine lv_iadd hx hb_w dX2_round_123 ?_
              refine asI (j := i_w) (h := h2) (x := (h2 i_w) + 0) (wM a_w cI cZ g_w (up2 (up2 (up2 f_w 1 (upd h1 i_w 3)) 3 (upd h3 i_w (g_w 0))) 2 (upd h2 i_w ((h2 i_w) + 0))) 0) hx hb_w hK_w hP (wM_D hap _) hS_w 3 rfl rfl (by omega) rfl dX2_round_124 (fun H locs_w hP hS_w => ?_)
              refine lv_iinc (v := nI (i_w + 1)) (lv' := [(2, .int (nI (i_w + 1))), (1, .int (x + 0)), (0, .ref (a_w 0))]) hx hb_w dX2_round_125 hl (k := 2) rfl (nI_1 _) (by decide) rfl (fun ls hl => ?_)
              refine lv_goto (tgt := 9) hx hb_w dX2_round_128 (by decide) ?_
              exact ih9 (i_w + 1) (x + 0) (upd h1 i_w 3) (upd h2 i_w ((h2 i_w) + 0)) (upd h3 i_w (g_w 0)) (by omega) (by omega) (by rw [ex_w, Int32.add_zero]; exact congrArg nI (cnt_f (by rw [(show rdB g_w f_w i_w = true from by unfold rdB; rw [lateB_in hnf, c22, show dueB g_w f_w (f_w 3) i_w = true from (by unfold dueB; rw [decide_eq_true c31_w]; rfl)]; rfl), (show clB f_w i_w = false from by unfold clB; rw [decide_eq_true c64]; rfl)]; rfl)).symm) (by rw [e1_w]; exact w_step (by unfold rd1; rw [if_pos ⟨by omega, (show rdB g_w f_w i_w = true from by unfold rdB; rw [lateB_in hnf, c22, show dueB g_w f_w (f_w 3) i_w = true from (by unfold dueB; rw [decide_eq_true c31_w]; rfl)]; rfl), (show clB f_w i_w = false from by unfold clB; rw [decide_eq_true c64]; rfl)⟩]) (fun k_w q_w => by unfold rd1; simp only [lt_ne q_w])) (by rw [z2, e2_w, Int32.add_zero]; exact w_step (by unfold rd2; rw [if_neg (fun z_w => by have zz := (show clB f_w i_w = false from by unfold clB; rw [decide_eq_true c64]; rfl); rw [zz] at z_w; exact absurd z_w.2.2 (by decide))]) (fun k_w q_w => by unfold rd2; simp only [lt_ne q_w])) (by rw [e3_w]; exact w_step (by unfold rd3; rw [if_pos ⟨by omega, (show rdB g_w f_w i_w = true from by unfold rdB; rw [lateB_in hnf, c22, show dueB g_w f_w (f_w 3) i_w = true from (by unfold dueB; rw [decide_eq_true c31_w]; rfl)]; rfl)⟩]) (fun k_w q_w => by unfold rd3; simp only [lt_ne q_w])) _ _ hP hS_w _ (lv_sub hl [2, 1, 0] rfl)
            exact absurd c115 (by rw [z2]; exact fun q_w => q_w c64)
          exact absurd c81 (by rw [z2]; exact fun q_w => q_w c64)
        rw [z2] at c64
        refine lv_iconst (v := 0) hx hb_w dX2_round_67 (by decide) ?_
        refine lv_goto (tgt := 72) hx hb_w dX2_round_68 (by decide) ?_
        refine asI (j := i_w) (h := h1) (x := 0) (wM a_w cI cZ g_w (up2 (up2 (up2 f_w 2 h2) 3 h3) 1 (upd h1 i_w 0)) 0) hx hb_w hK_w hP (wM_D hap _) hS_w 2 rfl rfl (by omega) rfl dX2_round_72 (fun H locs_w hP hS_w => ?_)
        refine lv_iload_n hx hb_w dX2_round_73 rfl (lv_at hl 1 rfl) ?_
        refine lv_aload_n hx hb_w dX2_round_74 rfl (lv_at hl 0 rfl) ?_
        refine mget (index := 33) (v := .ref (a_w 3)) hx hb_w hts hinX2 hown hK_w hP 10 (by decide) (List.mem_of_getElem? (i := 3) rfl) rfl dX2_round_75 ?_
        refine lv_iload_n hx hb_w dX2_round_78 rfl (lv_at hl 2 rfl) ?_
        refine arI (j := i_w) (h := h2) hx hb_w hK_w hP 3 rfl rfl (by omega) dX2_round_79 ?_
        refine lv_iconst (v := 3) hx hb_w dX2_round_80 (by decide) ?_
        refine lv_icmp_ge (tgt := 88) hx hb_w dX2_round_81 (by decide) (fun c81 => ?_) (fun c81 => ?_)
        · exact absurd c81 (by rw [z2]; exact c64)
        refine lv_iconst (v := 1) hx hb_w dX2_round_84 (by decide) ?_
        refine lv_goto (tgt := 89) hx hb_w dX2_round_85 (by decide) ?_
        refine lv_iadd hx hb_w dX2_round_89 ?_
        refine lv_istore_n (lv' := [(1, .int (x + 1)), (0, .ref (a_w 0)), (2, .int (nI i_w))]) hx hb_w dX2_round_90 rfl hl (by decide) rfl (fun ls hl => ?_)
        refine lv_aload_n hx hb_w dX2_round_91 rfl (lv_at hl 1 rfl) ?_
        refine mget (index := 36) (v := .ref (a_w 4)) hx hb_w hts hinX2 hown hK_w hP 11 (by decide) (List.mem_of_getElem? (i := 5) rfl) rfl dX2_round_92 ?_
        refine lv_iload_n hx hb_w dX2_round_95 rfl (lv_at hl 2 rfl) ?_
        refine lv_aload_n hx hb_w dX2_round_96 rfl (lv_at hl 1 rfl) ?_
        refine mget (index := 70) (v := .int (g_w 0)) hx hb_w hts hinX2 hown hK_w hP 0 (by decide) (List.mem_of_getElem? (i := 4) rfl) rfl dX2_round_97 ?_
        refine asI (j := i_w) (h := h3) (x := g_w 0) (wM a_w cI cZ g_w (up2 (up2 (up2 f_w 2 h2) 1 (upd h1 i_w 0)) 3 (upd h3 i_w (g_w 0))) 0) hx hb_w hK_w hP (wM_D hap _) hS_w 4 rfl rfl (by omega) rfl dX2_round_100 (fun H locs_w hP hS_w => ?_)
        refine lv_aload_n hx hb_w dX2_round_101 rfl (lv_at hl 1 rfl) ?_
        refine mget (index := 33) (v := .ref (a_w 3)) hx hb_w hts hinX2 hown hK_w hP 10 (by decide) (List.mem_of_getElem? (i := 3) rfl) rfl dX2_round_102 ?_
        refine lv_iload_n hx hb_w dX2_round_105 rfl (lv_at hl 2 rfl) ?_
        refine lv_dup2_11 hx hb_w dX2_round_106 rfl rfl ?_
        refine arI (j := i_w) (h := h2) hx hb_w hK_w hP 3 rfl rfl (by omega) dX2_round_107 ?_
        refine lv_aload_n hx hb_w dX2_round_108 rfl (lv_at hl 1 rfl) ?_
        refine mget (index := 33) (v := .ref (a_w 3)) hx hb_w hts hinX2 hown hK_w hP 10 (by decide) (List.mem_of_getElem? (i := 3) rfl) rfl dX2_round_109 ?_
        refine lv_iload_n hx hb_w dX2_round_112 rfl (lv_at hl 2 rfl) ?_
        refine arI (j := i_w) (h := h2) hx hb_w hK_w hP 3 rfl rfl (by omega) dX2_round_113 ?_
        refine lv_iconst (v := 3) hx hb_w dX2_round_114 (by decide) ?_
        refine lv_icmp_ge (tgt := 122) hx hb_w dX2_round_115 (by decide) (fun c115 => ?_) (fun c115 => ?_)
        · exact absurd c115 (by rw [z2]; exact c64)
        refine lv_iconst (v := 1) hx hb_w dX2_round_118 (by decide) ?_
        refine lv_goto (tgt := 123) hx hb_w dX2_round_119 (by decide) ?_
        refine lv_iadd hx hb_w dX2_round_123 ?_
        refine asI (j := i_w) (h := h2) (x := (h2 i_w) + 1) (wM a_w cI cZ g_w (up2 (up2 (up2 f_w 1 (upd h1 i_w 0)) 3 (upd h3 i_w (g_w 0))) 2 (upd h2 i_w ((h2 i_w) + 1))) 0) hx hb_w hK_w hP (wM_D hap _) hS_w 3 rfl rfl (by omega) rfl dX2_round_124 (fun H locs_w hP hS_w => ?_)
        refine lv_iinc (v := nI (i_w + 1)) (lv' := [(2, .int (nI (i_w + 1))), (1, .int (x + 1)), (0, .ref (a_w 0))]) hx hb_w dX2_round_125 hl (k := 2) rfl (nI_1 _) (by decide) rfl (fun ls hl => ?_)
        refine lv_goto (tgt := 9) hx hb_w dX2_round_128 (by decide) ?_
        exact ih9 (i_w + 1) (x + 1) (upd h1 i_w 0) (upd h2 i_w ((h2 i_w) + 1)) (upd h3 i_w (g_w 0)) (by omega) (by omega) (by rw [ex_w]; exact (nI_1 _).trans (congrArg nI (cnt_t (by rw [(show rdB g_w f_w i_w = true from by unfold rdB; rw [lateB_in hnf, c22, show dueB g_w f_w (f_w 3) i_w = true from (by unfold dueB; rw [decide_eq_true c31_w]; rfl)]; rfl), (show clB f_w i_w = true from by unfold clB; rw [decide_eq_false c64]; rfl)]; rfl)).symm)) (by rw [e1_w]; exact w_step (by unfold rd1; rw [if_neg (fun z_w => by have zz := (show clB f_w i_w = true from by unfold clB; rw [decide_eq_false c64]; rfl); rw [zz] at z_w; exact absurd z_w.2.2 (by decide))]; exact (show f_w 1 i_w = 0 from by have zz := c22; unfold lateM at zz; simp only [Bool.and_eq_true, decide_eq_true_eq] at zz; exact zz.1)) (fun k_w q_w => by unfold rd1; simp only [lt_ne q_w])) (by rw [z2, e2_w]; exact w_step (by unfold rd2; rw [if_pos ⟨by omega, (show rdB g_w f_w i_w = true from by unfold rdB; rw [lateB_in hnf, c22, show dueB g_w f_w (f_w 3) i_w = true from (by unfold dueB; rw [decide_eq_true c31_w]; rfl)]; rfl), (show clB f_w i_w = true from by unfold clB; rw [decide_eq_false c64]; rfl)⟩]) (fun k_w q_w => by unfold rd2; simp only [lt_ne q_w])) (by rw [e3_w]; exact w_step (by unfold rd3; rw [if_pos ⟨by omega, (show rdB g_w f_w i_w = true from by unfold rdB; rw [lateB_in hnf, c22, show dueB g_w f_w (f_w 3) i_w = true from (by unfold dueB; rw [decide_eq_true c31_w]; rfl)]; rfl)⟩]) (fun k_w q_w => by unfold rd3; simp only [lt_ne q_w])) _ _ hP hS_w _ (lv_sub hl [2, 1, 0] rfl)
      rw [z2] at c31_w
      refine lv_aload_n hx hb_w dX2_round_34 rfl (lv_at hl 0 rfl) ?_
      refine mget (index := 70) (v := .int (g_w 0)) hx hb_w hts hinX2 hown hK_w hP 0 (by decide) (List.mem_of_getElem? (i := 4) rfl) rfl dX2_round_35 ?_
      refine lv_aload_n hx hb_w dX2_round_38 rfl (lv_at hl 0 rfl) ?_
      refine mget (index := 36) (v := .ref (a_w 4)) hx hb_w hts hinX2 hown hK_w hP 11 (by decide) (List.mem_of_getElem? (i := 5) rfl) rfl dX2_round_39 ?_
      refine lv_iload_n hx hb_w dX2_round_42 rfl (lv_at hl 2 rfl) ?_
      refine arI (j := i_w) (h := h3) hx hb_w hK_w hP 4 rfl rfl (by omega) dX2_round_43 ?_
      refine lv_isub hx hb_w dX2_round_44 ?_
      refine lv_aload_n hx hb_w dX2_round_45 rfl (lv_at hl 0 rfl) ?_
      refine mget (index := 23) (v := .int (g_w 6)) hx hb_w hts hinX2 hown hK_w hP 6 (by decide) (List.mem_of_getElem? (i := 6) rfl) rfl dX2_round_46 ?_
      refine lv_icmp_lt (tgt := 125) hx hb_w dX2_round_49 (by decide) (fun c49 => ?_) (fun c49 => ?_)
      · rw [z3] at c49
        refine lv_iinc (v := nI (i_w + 1)) (lv' := [(2, .int (nI (i_w + 1))), (0, .ref (a_w 0)), (1, .int x)]) hx hb_w dX2_round_125 hl (k := 2) rfl (nI_1 _) (by decide) rfl (fun ls hl => ?_)
        refine lv_goto (tgt := 9) hx hb_w dX2_round_128 (by decide) ?_
        exact ih9 (i_w + 1) (x) h1 h2 h3 (by omega) (by omega) (by rw [ex_w]; exact congrArg nI (cnt_f (by rw [(show rdB g_w f_w i_w = false from by unfold rdB; rw [lateB_in hnf, c22, show dueB g_w f_w (f_w 3) i_w = false from (by unfold dueB; rw [decide_eq_false c31_w, decide_eq_true c49]; rfl)]; rfl)]; rfl)).symm) (by rw [e1_w]; exact w_same fun k_w => by by_cases q_w : k_w = i_w; (rw [q_w]; unfold rd1; rw [if_neg (fun z_w => by have zz := (show rdB g_w f_w i_w = false from by unfold rdB; rw [lateB_in hnf, c22, show dueB g_w f_w (f_w 3) i_w = false from (by unfold dueB; rw [decide_eq_false c31_w, decide_eq_true c49]; rfl)]; rfl); rw [zz] at z_w; exact absurd z_w.2.1 (by decide)), if_neg (by omega)]); (unfold rd1; simp only [lt_ne q_w])) (by rw [e2_w]; exact w_same fun k_w => by by_cases q_w : k_w = i_w; (rw [q_w]; unfold rd2; rw [if_neg (fun z_w => by have zz := (show rdB g_w f_w i_w = false from by unfold rdB; rw [lateB_in hnf, c22, show dueB g_w f_w (f_w 3) i_w = false from (by unfold dueB; rw [decide_eq_false c31_w, decide_eq_true c49]; rfl)]; rfl); rw [zz] at z_w; exact absurd z_w.2.1 (by decide)), if_neg (by omega)]); (unfold rd2; simp only [lt_ne q_w])) (by rw [e3_w]; exact w_same fun k_w => by by_cases q_w : k_w = i_w; (rw [q_w]; unfold rd3; rw [if_neg (fun z_w => by have zz := (show rdB g_w f_w i_w = false from by unfold rdB; rw [lateB_in hnf, c22, show dueB g_w f_w (f_w 3) i_w = false from (by unfold dueB; rw [decide_eq_false c31_w, decide_eq_true c49]; rfl)]; rfl); rw [zz] at z_w; exact absurd z_w.2 (by decide)), if_neg (by omega)]); (unfold rd3; simp only [lt_ne q_w])) _ _ hP hS_w _ (lv_sub hl [1, 2, 0] rfl)
      rw [z3] at c49
      refine lv_aload_n hx hb_w dX2_round_52 rfl (lv_at hl 0 rfl) ?_
      refine mget (index := 30) (v := .ref (a_w 2)) hx hb_w hts hinX2 hown hK_w hP 9 (by decide) (List.mem_of_getElem? (i := 7) rfl) rfl dX2_round_53 ?_
      refine lv_iload_n hx hb_w dX2_round_56 rfl (lv_at hl 2 rfl) ?_
      refine lv_aload_n hx hb_w dX2_round_57 rfl (lv_at hl 0 rfl) ?_
      refine mget (index := 33) (v := .ref (a_w 3)) hx hb_w hts hinX2 hown hK_w hP 10 (by decide) (List.mem_of_getElem? (i := 3) rfl) rfl dX2_round_58 ?_
      refine lv_iload_n hx hb_w dX2_round_61 rfl (lv_at hl 2 rfl) ?_
      refine arI (j := i_w) (h := h2) hx hb_w hK_w hP 3 rfl rfl (by omega) dX2_round_62 ?_
      refine lv_iconst (v := 3) hx hb_w dX2_round_63 (by decide) ?_
      refine lv_icmp_ge (tgt := 71) hx hb_w dX2_round_64 (by decide) (fun c64 => ?_) (fun c64 => ?_)
      · rw [z2] at c64
        refine lv_iconst (v := 3) hx hb_w dX2_round_71 (by decide) ?_
        refine asI (j := i_w) (h := h1) (x := 3) (wM a_w cI cZ g_w (up2 (up2 (up2 f_w 2 h2) 3 h3) 1 (upd h1 i_w 3)) 0) hx hb_w hK_w hP (wM_D hap _) hS_w 2 rfl rfl (by omega) rfl dX2_round_72 (fun H locs_w hP hS_w => ?_)
        refine lv_iload_n hx hb_w dX2_round_73 rfl (lv_at hl 1 rfl) ?_
        refine lv_aload_n hx hb_w dX2_round_74 rfl (lv_at hl 0 rfl) ?_
        refine mget (index := 33) (v := .ref (a_w 3)) hx hb_w hts hinX2 hown hK_w hP 10 (by decide) (List.mem_of_getElem? (i := 3) rfl) rfl dX2_round_75 ?_
        refine lv_iload_n hx hb_w dX2_round_78 rfl (lv_at hl 2 rfl) ?_
        refine arI (j := i_w) (h := h2) hx hb_w hK_w hP 3 rfl rfl (by omega) dX2_round_79 ?_
        refine lv_iconst (v := 3) hx hb_w dX2_round_80 (by decide) ?_
        refine lv_icmp_ge (tgt := 88) hx hb_w dX2_round_81 (by decide) (fun c81 => ?_) (fun c81 => ?_)
        · refine lv_iconst (v := 0) hx hb_w dX2_round_88 (by decide) ?_
          refine lv_iadd hx hb_w dX2_round_89 ?_
          refine lv_istore_n (lv' := [(1, .int (x + 0)), (0, .ref (a_w 0)), (2, .int (nI i_w))]) hx hb_w dX2_round_90 rfl hl (by decide) rfl (fun ls hl => ?_)
          refine lv_aload_n hx hb_w dX2_round_91 rfl (lv_at hl 1 rfl) ?_
          refine mget (index := 36) (v := .ref (a_w 4)) hx hb_w hts hinX2 hown hK_w hP 11 (by decide) (List.mem_of_getElem? (i := 5) rfl) rfl dX2_round_92 ?_
          refine lv_iload_n hx hb_w dX2_round_95 rfl (lv_at hl 2 rfl) ?_
          refine lv_aload_n hx hb_w dX2_round_96 rfl (lv_at hl 1 rfl) ?_
          refine mget (index := 70) (v := .int (g_w 0)) hx hb_w hts hinX2 hown hK_w hP 0 (by decide) (List.mem_of_getElem? (i := 4) rfl) rfl dX2_round_97 ?_
          refine asI (j := i_w) (h := h3) (x := g_w 0) (wM a_w cI cZ g_w (up2 (up2 (up2 f_w 2 h2) 1 (upd h1 i_w 3)) 3 (upd h3 i_w (g_w 0))) 0) hx hb_w hK_w hP (wM_D hap _) hS_w 4 rfl rfl (by omega) rfl dX2_round_100 (fun H locs_w hP hS_w => ?_)
          refine lv_aload_n hx hb_w dX2_round_101 rfl (lv_at hl 1 rfl) ?_
          refine mget (index := 33) (v := .ref (a_w 3)) hx hb_w hts hinX2 hown hK_w hP 10 (by decide) (List.mem_of_getElem? (i := 3) rfl) rfl dX2_round_102 ?_
          refine lv_iload_n hx hb_w dX2_round_105 rfl (lv_at hl 2 rfl) ?_
          refine lv_dup2_11 hx hb_w dX2_round_106 rfl rfl ?_
          refine arI (j := i_w) (h := h2) hx hb_w hK_w hP 3 rfl rfl (by omega) dX2_round_107 ?_
          refine lv_aload_n hx hb_w dX2_round_108 rfl (lv_at hl 1 rfl) ?_
          refine mget (index := 33) (v := .ref (a_w 3)) hx hb_w hts hinX2 hown hK_w hP 10 (by decide) (List.mem_of_getElem? (i := 3) rfl) rfl dX2_round_109 ?_
          refine lv_iload_n hx hb_w dX2_round_112 rfl (lv_at hl 2 rfl) ?_
          refine arI (j := i_w) (h := h2) hx hb_w hK_w hP 3 rfl rfl (by omega) dX2_round_113 ?_
          refine lv_iconst (v := 3) hx hb_w dX2_round_114 (by decide) ?_
          refine lv_icmp_ge (tgt := 122) hx hb_w dX2_round_115 (by decide) (fun c115 => ?_) (fun c115 => ?_)
          · refine lv_iconst (v := 0) hx hb_w dX2_round_122 (by decide) ?_
            refine lv_iadd hx hb_w dX2_round_123 ?_
            refine asI (j := i_w) (h := h2) (x := (h2 i_w) + 0) (wM a_w cI cZ g_w (up2 (up2 (up2 f_w 1 (upd h1 i_w 3)) 3 (upd h3 i_w (g_w 0))) 2 (upd h2 i_w ((h2 i_w) + 0))) 0) hx hb_w hK_w hP (wM_D hap _) hS_w 3 rfl rfl (by omega) rfl dX2_round_124 (fun H locs_w hP hS_w => ?_)
            refine lv_iinc (v := nI (i_w + 1)) (lv' := [(2, .int (nI (i_w + 1))), (1, .int (x + 0)), (0, .ref (a_w 0))]) hx hb_w dX2_round_125 hl (k := 2) rfl (nI_1 _) (by decide) rfl (fun ls hl => ?_)
            refine lv_goto (tgt := 9) hx hb_w dX2_round_128 (by decide) ?_
            exact ih9 (i_w + 1) (x + 0) (upd h1 i_w 3) (upd h2 i_w ((h2 i_w) + 0)) (upd h3 i_w (g_w 0)) (by omega) (by omega) (by rw [ex_w, Int32.add_zero]; exact congrArg nI (cnt_f (by rw [(show rdB g_w f_w i_w = true from by unfold rdB; rw [lateB_in hnf, c22, show dueB g_w f_w (f_w 3) i_w = true from (by unfold dueB; rw [decide_eq_false c31_w, decide_eq_false c49]; rfl)]; rfl), (show clB f_w i_w = false from by unfold clB; rw [decide_eq_true c64]; rfl)]; rfl)).symm) (by rw [e1_w]; exact w_step (by unfold rd1; rw [if_pos ⟨by omega, (show rdB g_w f_w i_w = true from by unfold rdB; rw [lateB_in hnf, c22, show dueB g_w f_w (f_w 3) i_w = true from (by unfold dueB; rw [decide_eq_false c31_w, decide_eq_false c49]; rfl)]; rfl), (show clB f_w i_w = false from by unfold clB; rw [decide_eq_true c64]; rfl)⟩]) (fun k_w q_w => by unfold rd1; simp only [lt_ne q_w])) (by rw [z2, e2_w, Int32.add_zero]; exact w_step (by unfold rd2; rw [if_neg (fun z_w => by have zz := (show clB f_w i_w = false from by unfold clB; rw [decide_eq_true c64]; rfl); rw [zz] at z_w; exact absurd z_w.2.2 (by decide))]) (fun k_w q_w => by unfold rd2; simp only [lt_ne q_w])) (by rw [e3_w]; exact w_step (by unfold rd3; rw [if_pos ⟨by omega, (show rdB g_w f_w i_w = true from by unfold rdB; rw [lateB_in hnf, c22, show dueB g_w f_w (f_w 3) i_w = true from (by unfold dueB; rw [decide_eq_false c31_w, decide_eq_false c49]; rfl)]; rfl)⟩]) (fun k_w q_w => by unfold rd3; simp only [lt_ne q_w])) _ _ hP hS_w _ (lv_sub hl [2, 1, 0] rfl)
          exact absurd c115 (by rw [z2]; exact fun q_w => q_w c64)
        exact absurd c81 (by rw [z2]; exact fun q_w => q_w c64)
      rw [z2] at c64
      refine lv_iconst (v := 0) hx hb_w dX2_round_67 (by decide) ?_
      refine lv_goto (tgt := 72) hx hb_w dX2_round_68 (by decide) ?_
      refine asI (j := i_w) (h := h1) (x := 0) (wM a_w cI cZ g_w (up2 (up2 (up2 f_w 2 h2) 3 h3) 1 (upd h1 i_w 0)) 0) hx hb_w hK_w hP (wM_D hap _) hS_w 2 rfl rfl (by omega) rfl dX2_round_72 (fun H locs_w hP hS_w => ?_)
      refine lv_iload_n hx hb_w dX2_round_73 rfl (lv_at hl 1 rfl) ?_
      refine lv_aload_n hx hb_w dX2_round_74 rfl (lv_at hl 0 rfl) ?_
      refine mget (index := 33) (v := .ref (a_w 3)) hx hb_w hts hinX2 hown hK_w hP 10 (by decide) (List.mem_of_getElem? (i := 3) rfl) rfl dX2_round_75 ?_
      refine lv_iload_n hx hb_w dX2_round_78 rfl (lv_at hl 2 rfl) ?_
      refine arI (j := i_w) (h := h2) hx hb_w hK_w hP 3 rfl rfl (by omega) dX2_round_79 ?_
      refine lv_iconst (v := 3) hx hb_w dX2_round_80 (by decide) ?_
      refine lv_icmp_ge (tgt := 88) hx hb_w dX2_round_81 (by decide) (fun c81 => ?_) (fun c81 => ?_)
      · exact absurd c81 (by rw [z2]; exact c64)
      refine lv_iconst (v := 1) hx hb_w dX2_round_84 (by decide) ?_
      refine lv_goto (tgt := 89) hx hb_w dX2_round_85 (by decide) ?_
      refine lv_iadd hx hb_w dX2_round_89 ?_
      refine lv_istore_n (lv' := [(1, .int (x + 1)), (0, .ref (a_w 0)), (2, .int (nI i_w))]) hx hb_w dX2_round_90 rfl hl (by decide) rfl (fun ls hl => ?_)
      refine lv_aload_n hx hb_w dX2_round_91 rfl (lv_at hl 1 rfl) ?_
      refine mget (index := 36) (v := .ref (a_w 4)) hx hb_w hts hinX2 hown hK_w hP 11 (by decide) (List.mem_of_getElem? (i := 5) rfl) rfl dX2_round_92 ?_
      refine lv_iload_n hx hb_w dX2_round_95 rfl (lv_at hl 2 rfl) ?_
      refine lv_aload_n hx hb_w dX2_round_96 rfl (lv_at hl 1 rfl) ?_
      refine mget (index := 70) (v := .int (g_w 0)) hx hb_w hts hinX2 hown hK_w hP 0 (by decide) (List.mem_of_getElem? (i := 4) rfl) rfl dX2_round_97 ?_
      refine asI (j := i_w) (h := h3) (x := g_w 0) (wM a_w cI cZ g_w (up2 (up2 (up2 f_w 2 h2) 1 (upd h1 i_w 0)) 3 (upd h3 i_w (g_w 0))) 0) hx hb_w hK_w hP (wM_D hap _) hS_w 4 rfl rfl (by omega) rfl dX2_round_100 (fun H locs_w hP hS_w => ?_)
      refine lv_aload_n hx hb_w dX2_round_101 rfl (lv_at hl 1 rfl) ?_
      refine mget (index := 33) (v := .ref (a_w 3)) hx hb_w hts hinX2 hown hK_w hP 10 (by decide) (List.mem_of_getElem? (i := 3) rfl) rfl dX2_round_102 ?_
      refine lv_iload_n hx hb_w dX2_round_105 rfl (lv_at hl 2 rfl) ?_
      refine lv_dup2_11 hx hb_w dX2_round_106 rfl rfl ?_
      refine arI (j := i_w) (h := h2) hx hb_w hK_w hP 3 rfl rfl (by omega) dX2_round_107 ?_
      refine lv_aload_n hx hb_w dX2_round_108 rfl (lv_at hl 1 rfl) ?_
      refine mget (index := 33) (v := .ref (a_w 3)) hx hb_w hts hinX2 hown hK_w hP 10 (by decide) (List.mem_of_getElem? (i := 3) rfl) rfl dX2_round_109 ?_
      refine lv_iload_n hx hb_w dX2_round_112 rfl (lv_at hl 2 rfl) ?_
      refine arI (j := i_w) (h := h2) hx hb_w hK_w hP 3 rfl rfl (by omega) dX2_round_113 ?_
      refine lv_iconst (v := 3) hx hb_w dX2_round_114 (by decide) ?_
      refine lv_icmp_ge (tgt := 122) hx hb_w dX2_round_115 (by decide) (fun c115 => ?_) (fun c115 => ?_)
      · exact absurd c115 (by rw [z2]; exact c64)
      refine lv_iconst (v := 1) hx hb_w dX2_round_118 (by decide) ?_
      refine lv_goto (tgt := 123) hx hb_w dX2_round_119 (by decide) ?_
      refine lv_iadd hx hb_w dX2_round_123 ?_
      refine asI (j := i_w) (h := h2) (x := (h2 i_w) + 1) (wM a_w cI cZ g_w (up2 (up2 (up2 f_w 1 (upd h1 i_w 0)) 3 (upd h3 i_w (g_w 0))) 2 (upd h2 i_w ((h2 i_w) + 1))) 0) hx hb_w hK_w hP (wM_D hap _) hS_w 3 rfl rfl (by omega) rfl dX2_round_124 (fun H locs_w hP hS_w => ?_)
      refine lv_iinc (v := nI (i_w + 1)) (lv' := [(2, .int (nI (i_w + 1))), (1, .int (x + 1)), (0, .ref (a_w 0))]) hx hb_w dX2_round_125 hl (k := 2) rfl (nI_1 _) (by decide) rfl (fun ls hl => ?_)
      refine lv_goto (tgt := 9) hx hb_w dX2_round_128 (by decide) ?_
      exact ih9 (i_w + 1) (x + 1) (upd h1 i_w 0) (upd h2 i_w ((h2 i_w) + 1)) (upd h3 i_w (g_w 0)) (by omega) (by omega) (by rw [ex_w]; exact (nI_1 _).trans (congrArg nI (cnt_t (by rw [(show rdB g_w f_w i_w = true from by unfold rdB; rw [lateB_in hnf, c22, show dueB g_w f_w (f_w 3) i_w = true from (by unfold dueB; rw [decide_eq_false c31_w, decide_eq_false c49]; rfl)]; rfl), (show clB f_w i_w = true from by unfold clB; rw [decide_eq_false c64]; rfl)]; rfl)).symm)) (by rw [e1_w]; exact w_step (by unfold rd1; rw [if_neg (fun z_w => by have zz := (show clB f_w i_w = true from by unfold clB; rw [decide_eq_false c64]; rfl); rw [zz] at z_w; exact absurd z_w.2.2 (by decide))]; exact (show f_w 1 i_w = 0 from by have zz := c22; unfold lateM at zz; simp only [Bool.and_eq_true, decide_eq_true_eq] at zz; exact zz.1)) (fun k_w q_w => by unfold rd1; simp only [lt_ne q_w])) (by rw [z2, e2_w]; exact w_step (by unfold rd2; rw [if_pos ⟨by omega, (show rdB g_w f_w i_w = true from by unfold rdB; rw [lateB_in hnf, c22, show dueB g_w f_w (f_w 3) i_w = true from (by unfold dueB; rw [decide_eq_false c31_w, decide_eq_false c49]; rfl)]; rfl), (show clB f_w i_w = true from by unfold clB; rw [decide_eq_false c64]; rfl)⟩]) (fun k_w q_w => by unfold rd2; simp only [lt_ne q_w])) (by rw [e3_w]; exact w_step (by unfold rd3; rw [if_pos ⟨by omega, (show rdB g_w f_w i_w = true from by unfold rdB; rw [lateB_in hnf, c22, show dueB g_w f_w (f_w 3) i_w = true from (by unfold dueB; rw [decide_eq_false c31_w, decide_eq_false c49]; rfl)]; rfl)⟩]) (fun k_w q_w => by unfold rd3; simp only [lt_ne q_w])) _ _ hP hS_w _ (lv_sub hl [2, 1, 0] rfl)
  exact loop9 (N_w + 1) 0 0 (f_w 1) (f_w 2) (f_w 3) (by omega) (by omega) rfl (w_same fun k_w => by unfold rd1; rw [if_neg (by omega)]) (w_same fun k_w => by unfold rd2; rw [if_neg (by omega)]) (w_same fun k_w => by unfold rd3; rw [if_neg (by omega)]) _ _ hP hS_w _ (lv_sub hl [2, 1, 0] rfl)
set_option maxHeartbeats 4000000 in
set_option maxRecDepth 100000 in
theorem kX2_rangeAt (l : Launch) (G_w : va_G) (a_w : Nat → Nat) (cI cZ : ClassId) (g_w : Nat → Int32) (f_w : Nat → Nat → Int32) (tc_w : Int32) (hap : apart a_w 6) (sz_w : Nat) (p0_w : Int32) (hNN : NN g_w): wri l yX2_rangeAt wsX2_rangeAt { frames := 4, cells := 0, slots := 0, locals := 86 } G_w (wM a_w cI cZ g_w f_w tc_w) (tyIZ cI cZ) (aS a_w 6 sz_w) sz_w [.ref (a_w 0), .int p0_w] (fun r_w u_w => r_w = rgA g_w f_w p0_w ∧ u_w = (g_w, f_w, rgT g_w f_w p0_w)) (wfM a_w cI cZ) := by
  refine wri_of (cc := cX2_rangeAt) (nL := 5) (ty := .int) (by decide) rfl (Nat.le_of_ble_eq_true rfl) ?_
  intro p_w e_w s_w m_w args_w below meth_w c_w H locs_w ls Q hx hb_w hml hown hts hP hK_w hS_w hret hl
  have hl : lv_has ls 5 [(0, .ref (a_w 0)), (1, .int p0_w)] := hl
  refine lv_aload_n hx hb_w dX2_rangeAt_0 rfl (lv_at hl 0 rfl) ?_
  refine lv_iload_n hx hb_w dX2_rangeAt_1 rfl (lv_at hl 1 rfl) ?_
  refine lv_iconst (v := 0) hx hb_w dX2_rangeAt_2 (by decide) ?_
  refine lv_aload_n hx hb_w dX2_rangeAt_3 rfl (lv_at hl 0 rfl) ?_
  refine rdr_V (As := []) (rest := [.int 0, .int p0_w, .ref (a_w 0)]) ⟨hx, hb_w, hml, hown, hts⟩ (kX2_allRanges l G_w a_w cI cZ g_w f_w tc_w  hNN) (cwV 0 hts gX2_rangeAt_X2_allRanges rfl rfl rfl (by decide +kernel) ⟨Nat.le_of_ble_eq_true rfl, Nat.le_of_ble_eq_true rfl⟩) (va_recv hK_w hP (ci := 2) (q0 := 0) rfl rfl) hP hK_w rfl hl.1 rfl (Nat.le_of_ble_eq_true rfl) dX2_rangeAt_4 (by decide) (fun r4 h4 => ?_)
  replace h4 : r4 = nI (cnt (rsB g_w f_w) 200) := h4
  subst h4
  refine lv_iconst (v := 1) hx hb_w dX2_rangeAt_7 (by decide) ?_
  refine lv_isub hx hb_w dX2_rangeAt_8 ?_
  refine rdr_S (As := [.int p0_w, .int 0, .int ((nI (cnt (rsB g_w f_w) 200)) - 1)]) (rest := [.ref (a_w 0)]) ⟨hx, hb_w, hml, hown, hts⟩ (kX2_isIn l G_w _ _ p0_w 0 ((nI (cnt (rsB g_w f_w) 200)) - 1) ) (va_cwS 3 hts gX2_rangeAt_X2_isIn rfl rfl rfl (by decide +kernel) ⟨Nat.le_of_ble_eq_true rfl, Nat.le_of_ble_eq_true rfl⟩)  hP hK_w rfl hl.1 rfl (Nat.le_of_ble_eq_true rfl) dX2_rangeAt_9 (by decide) (fun r9 h9 => ?_)
  replace h9 : r9 = bI (isW p0_w 0 ((nI (cnt (rsB g_w f_w) 200)) - 1)) := h9
  subst h9
  refine lv_if_eq (tgt := 19) hx hb_w dX2_rangeAt_12 (by decide) (fun c12_w => ?_) (fun c12_w => ?_)
  · replace c12_w := bI0 c12_w
    have hz := rg_test.2 c12_w
    refine lv_iconst (v := 1) hx hb_w dX2_rangeAt_19 (by decide) ?_
    refine wri_V (As := [.int 1]) (rest := []) ⟨hx, hb_w, hml, hown, hts⟩ (kX2_can l G_w a_w cI cZ g_w f_w tc_w hap _ 1 ) (cwV 1 hts gX2_rangeAt_X2_can rfl rfl rfl (by decide +kernel) ⟨Nat.le_of_ble_eq_true rfl, Nat.le_of_ble_eq_true rfl⟩) (va_recv hK_w hP (ci := 2) (q0 := 0) rfl rfl) hP hK_w hS_w rfl hl.1 rfl (Nat.le_of_ble_eq_true rfl) dX2_rangeAt_20 (by decide) (fun r20 u20 H locs_w h20 hP hS_w => ?_)
    obtain ⟨h20_1, h20_2⟩ := h20
    replace h20_1 : r20 = bI false := h20_1.trans (by decide)
    subst h20_1
    subst h20_2
    have hP : va_P G_w vwCl (wM a_w cI cZ g_w f_w 1) H := hP
    refine lv_if_ne (tgt := 28) hx hb_w dX2_rangeAt_23 (by decide) (fun c23_w => ?_) (fun c23_w => ?_)
    · replace c23_w := bIn c23_w
      exact absurd c23_w (by decide)
    replace c23_w := bI0 c23_w
    refine lv_iconst (v := 0) hx hb_w dX2_rangeAt_26 (by decide) ?_
    exact hret 0 (g_w, f_w, 1) _ _ _ _ dX2_rangeAt_27 rfl hP hS_w ⟨by unfold rgA; rw [if_pos hz], by unfold rgT; rw [if_pos hz]⟩
  replace c12_w := bIn c12_w
  obtain ⟨k_w, hk, hrk, ep, eK⟩ := rg_test.1 c12_w
  have hcl := cnt_le (rsB g_w f_w) k_w
  refine lv_iconst (v := 0) hx hb_w dX2_rangeAt_15 (by decide) ?_
  refine lv_goto (tgt := 20) hx hb_w dX2_rangeAt_16 (by decide) ?_
  refine wri_V (As := [.int 0]) (rest := []) ⟨hx, hb_w, hml, hown, hts⟩ (kX2_can l G_w a_w cI cZ g_w f_w tc_w hap _ 0 ) (cwV 1 hts gX2_rangeAt_X2_can rfl rfl rfl (by decide +kernel) ⟨Nat.le_of_ble_eq_true rfl, Nat.le_of_ble_eq_true rfl⟩) (va_recv hK_w hP (ci := 2) (q0 := 0) rfl rfl) hP hK_w hS_w rfl hl.1 rfl (Nat.le_of_ble_eq_true rfl) dX2_rangeAt_20 (by decide) (fun r20 u20 H locs_w h20 hP hS_w => ?_)
  obtain ⟨h20_1, h20_2⟩ := h20
  replace h20_1 : r20 = bI true := h20_1.trans (by decide)
  subst h20_1
  subst h20_2
  have hP : va_P G_w vwCl (wM a_w cI cZ g_w f_w 0) H := hP
  refine lv_if_ne (tgt := 28) hx hb_w dX2_rangeAt_23 (by decide) (fun c23_w => ?_) (fun c23_w => ?_)
  · replace c23_w := bIn c23_w
    refine lv_iload_n hx hb_w dX2_rangeAt_28 rfl (lv_at hl 1 rfl) ?_
    refine lv_istore_n (lv' := [(2, .int p0_w), (0, .ref (a_w 0)), (1, .int p0_w)]) hx hb_w dX2_rangeAt_29 rfl hl (by decide) rfl (fun ls hl => ?_)
    refine lv_iconst (v := 0) hx hb_w dX2_rangeAt_30 (by decide) ?_
    refine lv_istore_n (lv' := [(3, .int 0), (2, .int p0_w), (0, .ref (a_w 0)), (1, .int p0_w)]) hx hb_w dX2_rangeAt_31 rfl hl (by decide) rfl (fun ls hl => ?_)
    have loop32 : ∀ (n_w : Nat) (i_w : Nat) (x : Int32), i_w ≤ k_w → k_w - i_w < n_w → x = nI (cnt (rsB g_w f_w) k_w - cnt (rsB g_w f_w) i_w) → ∀ (H : Heap) (locs_w : List Loc), va_P G_w vwCl (wM a_w cI cZ g_w f_w 0) H → va_S (aS a_w 6 s_w.heap.size) s_w.heap H locs_w → ∀ (ls : Array Slot), lv_has ls 5 [(0, .ref (a_w 0)), (2, .int x), (3, .int (nI i_w))] → W p_w l e_w { frames := 4, cells := 0, slots := 0, locals := 86 } s_w m_w args_w below meth_w c_w H locs_w 0 0 Q (F0 m_w 32 ls []) := by
      intro n_w
      induction n_w with
      | zero => intro i_w x hi_w hn ex_w; intros; exact absurd hn (Nat.not_lt_zero _)
      | succ n_w ih32 =>
        intro i_w x hi_w hn ex_w H locs_w hP hS_w ls hl
        refine lv_iload_n hx hb_w dX2_rangeAt_32 rfl (lv_at hl 1 rfl) ?_
        refine lv_if_gt (tgt := 54) hx hb_w dX2_rangeAt_33 (by decide) (fun c33_w => ?_) (fun c33_w => ?_)
        · have hne : i_w ≠ k_w := (fun q_w => by rw [ex_w, q_w, Nat.sub_self] at c33_w; exact absurd c33_w (by decide))
          have hlt : i_w < k_w := by omega
          refine lv_iload_n hx hb_w dX2_rangeAt_54 rfl (lv_at hl 1 rfl) ?_
          refine lv_aload_n hx hb_w dX2_rangeAt_55 rfl (lv_at hl 0 rfl) ?_
          refine lv_iload_n hx hb_w dX2_rangeAt_56 rfl (lv_at hl 2 rfl) ?_
          refine rdr_V (As := [.int (nI i_w)]) (rest := [.int x]) ⟨hx, hb_w, hml, hown, hts⟩ (kX2_isHere l G_w a_w cI cZ g_w f_w 0 (nI i_w) hNN) (cwV 1 hts gX2_rangeAt_X2_isHere rfl rfl rfl (by decide +kernel) ⟨Nat.le_of_ble_eq_true rfl, Nat.le_of_ble_eq_true rfl⟩) (va_recv hK_w hP (ci := 2) (q0 := 0) rfl rfl) hP hK_w rfl hl.1 rfl (Nat.le_of_ble_eq_true rfl) dX2_rangeAt_57 (by decide) (fun r57 h57 => ?_)
          replace h57 : r57 = bI (hereI g_w f_w (nI i_w)) := h57
          subst h57
          refine lv_if_eq (tgt := 77) hx hb_w dX2_rangeAt_60 (by decide) (fun c60 => ?_) (fun c60 => ?_)
          · replace c60 := bI0 c60
            refine lv_iconst (v := 0) hx hb_w dX2_rangeAt_77 (by decide) ?_
            refine lv_isub hx hb_w dX2_rangeAt_78 ?_
            refine lv_istore_n (lv' := [(2, .int (x - 0)), (0, .ref (a_w 0)), (3, .int (nI i_w))]) hx hb_w dX2_rangeAt_79 rfl hl (by decide) rfl (fun ls hl => ?_)
            refine lv_iinc (v := nI (i_w + 1)) (lv' := [(3, .int (nI (i_w + 1))), (2, .int (x - 0)), (0, .ref (a_w 0))]) hx hb_w dX2_rangeAt_80 hl (k := 2) rfl (nI_1 _) (by decide) rfl (fun ls hl => ?_)
            refine lv_goto (tgt := 32) hx hb_w dX2_rangeAt_83 (by decide) ?_
            exact ih32 (i_w + 1) (x - 0) (by omega) (by omega) (by rw [ex_w, sub0, cnt_f (by unfold rsB; rw [← hereI_nI (show i_w < 200 by omega), c60]; rfl)]) _ _ hP hS_w _ (lv_sub hl [2, 1, 0] rfl)
          replace c60 := bIn c60
          refine lv_aload_n hx hb_w dX2_rangeAt_63 rfl (lv_at hl 0 rfl) ?_
          refine lv_iload_n hx hb_w dX2_rangeAt_64 rfl (lv_at hl 2 rfl) ?_
          refine lv_iconst (v := 1) hx hb_w dX2_rangeAt_65 (by decide) ?_
          refine lv_isub hx hb_w dX2_rangeAt_66 ?_
          refine rdr_V (As := [.int ((nI i_w) - 1)]) (rest := [.int x]) ⟨hx, hb_w, hml, hown, hts⟩ (kX2_isHere l G_w a_w cI cZ g_w f_w 0 ((nI i_w) - 1) hNN) (cwV 1 hts gX2_rangeAt_X2_isHere rfl rfl rfl (by decide +kernel) ⟨Nat.le_of_ble_eq_true rfl, Nat.le_of_ble_eq_true rfl⟩) (va_recv hK_w hP (ci := 2) (q0 := 0) rfl rfl) hP hK_w rfl hl.1 rfl (Nat.le_of_ble_eq_true rfl) dX2_rangeAt_67 (by decide) (fun r67 h67 => ?_)
          replace h67 : r67 = bI (hereI g_w f_w ((nI i_w) - 1)) := h67
          subst h67
          refine lv_if_ne (tgt := 77) hx hb_w dX2_rangeAt_70 (by decide) (fun c70 => ?_) (fun c70 => ?_)
          · replace c70 := bIn c70
            refine lv_iconst (v := 0) hx hb_w dX2_rangeAt_77 (by decide) ?_
            refine lv_isub hx hb_w dX2_rangeAt_78 ?_
            refine lv_istore_n (lv' := [(2, .int (x - 0)), (0, .ref (a_w 0)), (3, .int (nI i_w))]) hx hb_w dX2_rangeAt_79 rfl hl (by decide) rfl (fun ls hl => ?_)
            refine lv_iinc (v := nI (i_w + 1)) (lv' := [(3, .int (nI (i_w + 1))), (2, .int (x - 0)), (0, .ref (a_w 0))]) hx hb_w dX2_rangeAt_80 hl (k := 2) rfl (nI_1 _) (by decide) rfl (fun ls hl => ?_)
            refine lv_goto (tgt := 32) hx hb_w dX2_rangeAt_83 (by decide) ?_
            exact ih32 (i_w + 1) (x - 0) (by omega) (by omega) (by rw [ex_w, sub0, cnt_f (by unfold rsB; rw [← hereI_nI (show i_w < 200 by omega), c60, c70]; rfl)]) _ _ hP hS_w _ (lv_sub hl [2, 1, 0] rfl)
          replace c70 := bI0 c70
          refine lv_iconst (v := 1) hx hb_w dX2_rangeAt_73 (by decide) ?_
          refine lv_goto (tgt := 78) hx hb_w dX2_rangeAt_74 (by decide) ?_
          refine lv_isub hx hb_w dX2_rangeAt_78 ?_
          refine lv_istore_n (lv' := [(2, .int (x - 1)), (0, .ref (a_w 0)), (3, .int (nI i_w))]) hx hb_w dX2_rangeAt_79 rfl hl (by decide) rfl (fun ls hl => ?_)
          refine lv_iinc (v := nI (i_w + 1)) (lv' := [(3, .int (nI (i_w + 1))), (2, .int (x - 1)), (0, .ref (a_w 0))]) hx hb_w dX2_rangeAt_80 hl (k := 2) rfl (nI_1 _) (by decide) rfl (fun ls hl => ?_)
          refine lv_goto (tgt := 32) hx hb_w dX2_rangeAt_83 (by decide) ?_
          exact ih32 (i_w + 1) (x - 1) (by omega) (by omega) (by have h9 := rs_step (q := rsB g_w f_w) hlt; have h8 : cnt (rsB g_w f_w) (i_w + 1) = cnt (rsB g_w f_w) i_w + 1 := cnt_t (by unfold rsB; rw [← hereI_nI (show i_w < 200 by omega), c60, c70]; rfl); rw [ex_w, x_sub (by omega), h8]; exact congrArg nI (by omega)) _ _ hP hS_w _ (lv_sub hl [2, 1, 0] rfl)
        refine lv_aload_n hx hb_w dX2_rangeAt_36 rfl (lv_at hl 0 rfl) ?_
        refine lv_iload_n hx hb_w dX2_rangeAt_37 rfl (lv_at hl 2 rfl) ?_
        refine rdr_V (As := [.int (nI i_w)]) (rest := []) ⟨hx, hb_w, hml, hown, hts⟩ (kX2_isHere l G_w a_w cI cZ g_w f_w 0 (nI i_w) hNN) (cwV 1 hts gX2_rangeAt_X2_isHere rfl rfl rfl (by decide +kernel) ⟨Nat.le_of_ble_eq_true rfl, Nat.le_of_ble_eq_true rfl⟩) (va_recv hK_w hP (ci := 2) (q0 := 0) rfl rfl) hP hK_w rfl hl.1 rfl (Nat.le_of_ble_eq_true rfl) dX2_rangeAt_38 (by decide) (fun r38 h38 => ?_)
        replace h38 : r38 = bI (hereI g_w f_w (nI i_w)) := h38
        subst h38
        refine lv_if_eq (tgt := 54) hx hb_w dX2_rangeAt_41 (by decide) (fun c41 => ?_) (fun c41 => ?_)
        · replace c41 := bI0 c41
          have hne : i_w ≠ k_w := (fun q_w => by rw [q_w, hereI_nI hk] at c41; rw [(rs_here hrk).1] at c41; exact absurd c41 (by decide))
          have hlt : i_w < k_w := by omega
          refine lv_iload_n hx hb_w dX2_rangeAt_54 rfl (lv_at hl 1 rfl) ?_
          refine lv_aload_n hx hb_w dX2_rangeAt_55 rfl (lv_at hl 0 rfl) ?_
          refine lv_iload_n hx hb_w dX2_rangeAt_56 rfl (lv_at hl 2 rfl) ?_
          refine rdr_V (As := [.int (nI i_w)]) (rest := [.int x]) ⟨hx, hb_w, hml, hown, hts⟩ (kX2_isHere l G_w a_w cI cZ g_w f_w 0 (nI i_w) hNN) (cwV 1 hts gX2_rangeAt_X2_isHere rfl rfl rfl (by decide +kernel) ⟨Nat.le_of_ble_eq_true rfl, Nat.le_of_ble_eq_true rfl⟩) (va_recv hK_w hP (ci := 2) (q0 := 0) rfl rfl) hP hK_w rfl hl.1 rfl (Nat.le_of_ble_eq_true rfl) dX2_rangeAt_57 (by decide) (fun r57 h57 => ?_)
          replace h57 : r57 = bI (hereI g_w f_w (nI i_w)) := h57
          subst h57
          refine lv_if_eq (tgt := 77) hx hb_w dX2_rangeAt_60 (by decide) (fun c60 => ?_) (fun c60 => ?_)
          · replace c60 := bI0 c60
            refine lv_iconst (v := 0) hx hb_w dX2_rangeAt_77 (by decide) ?_
            refine lv_isub hx hb_w dX2_rangeAt_78 ?_
            refine lv_istore_n (lv' := [(2, .int (x - 0)), (0, .ref (a_w 0)), (3, .int (nI i_w))]) hx hb_w dX2_rangeAt_79 rfl hl (by decide) rfl (fun ls hl => ?_)
            refine lv_iinc (v := nI (i_w + 1)) (lv' := [(3, .int (nI (i_w + 1))), (2, .int (x - 0)), (0, .ref (a_w 0))]) hx hb_w dX2_rangeAt_80 hl (k := 2) rfl (nI_1 _) (by decide) rfl (fun ls hl => ?_)
            refine lv_goto (tgt := 32) hx hb_w dX2_rangeAt_83 (by decide) ?_
            exact ih32 (i_w + 1) (x - 0) (by omega) (by omega) (by rw [ex_w, sub0, cnt_f (by unfold rsB; rw [← hereI_nI (show i_w < 200 by omega), c60]; rfl)]) _ _ hP hS_w _ (lv_sub hl [2, 1, 0] rfl)
          replace c60 := bIn c60
          refine lv_aload_n hx hb_w dX2_rangeAt_63 rfl (lv_at hl 0 rfl) ?_
          refine lv_iload_n hx hb_w dX2_rangeAt_64 rfl (lv_at hl 2 rfl) ?_
          refine lv_iconst (v := 1) hx hb_w dX2_rangeAt_65 (by decide) ?_
          refine lv_isub hx hb_w dX2_rangeAt_66 ?_
          refine rdr_V (As := [.int ((nI i_w) - 1)]) (rest := [.int x]) ⟨hx, hb_w, hml, hown, hts⟩ (kX2_isHere l G_w a_w cI cZ g_w f_w 0 ((nI i_w) - 1) hNN) (cwV 1 hts gX2_rangeAt_X2_isHere rfl rfl rfl (by decide +kernel) ⟨Nat.le_of_ble_eq_true rfl, Nat.le_of_ble_eq_true rfl⟩) (va_recv hK_w hP (ci := 2) (q0 := 0) rfl rfl) hP hK_w rfl hl.1 rfl (Nat.le_of_ble_eq_true rfl) dX2_rangeAt_67 (by decide) (fun r67 h67 => ?_)
          replace h67 : r67 = bI (hereI g_w f_w ((nI i_w) - 1)) := h67
          subst h67
          refine lv_if_ne (tgt := 77) hx hb_w dX2_rangeAt_70 (by decide) (fun c70 => ?_) (fun c70 => ?_)
          · replace c70 := bIn c70
            refine lv_iconst (v := 0) hx hb_w dX2_rangeAt_77 (by decide) ?_
            refine lv_isub hx hb_w dX2_rangeAt_78 ?_
            refine lv_istore_n (lv' := [(2, .int (x - 0)), (0, .ref (a_w 0)), (3, .int (nI i_w))]) hx hb_w dX2_rangeAt_79 rfl hl (by decide) rfl (fun ls hl => ?_)
            refine lv_iinc (v := nI (i_w + 1)) (lv' := [(3, .int (nI (i_w + 1))), (2, .int (x - 0)), (0, .ref (a_w 0))]) hx hb_w dX2_rangeAt_80 hl (k := 2) rfl (nI_1 _) (by decide) rfl (fun ls hl => ?_)
            refine lv_goto (tgt := 32) hx hb_w dX2_rangeAt_83 (by decide) ?_
            exact ih32 (i_w + 1) (x - 0) (by omega) (by omega) (by rw [ex_w, sub0, cnt_f (by unfold rsB; rw [← hereI_nI (show i_w < 200 by omega), c60, c70]; rfl)]) _ _ hP hS_w _ (lv_sub hl [2, 1, 0] rfl)
          replace c70 := bI0 c70
          refine lv_iconst (v := 1) hx hb_w dX2_rangeAt_73 (by decide) ?_
          refine lv_goto (tgt := 78) hx hb_w dX2_rangeAt_74 (by decide) ?_
          refine lv_isub hx hb_w dX2_rangeAt_78 ?_
          refine lv_istore_n (lv' := [(2, .int (x - 1)), (0, .ref (a_w 0)), (3, .int (nI i_w))]) hx hb_w dX2_rangeAt_79 rfl hl (by decide) rfl (fun ls hl => ?_)
          refine lv_iinc (v := nI (i_w + 1)) (lv' := [(3, .int (nI (i_w + 1))), (2, .int (x - 1)), (0, .ref (a_w 0))]) hx hb_w dX2_rangeAt_80 hl (k := 2) rfl (nI_1 _) (by decide) rfl (fun ls hl => ?_)
          refine lv_goto (tgt := 32) hx hb_w dX2_rangeAt_83 (by decide) ?_
          exact ih32 (i_w + 1) (x - 1) (by omega) (by omega) (by have h9 := rs_step (q := rsB g_w f_w) hlt; have h8 : cnt (rsB g_w f_w) (i_w + 1) = cnt (rsB g_w f_w) i_w + 1 := cnt_t (by unfold rsB; rw [← hereI_nI (show i_w < 200 by omega), c60, c70]; rfl); rw [ex_w, x_sub (by omega), h8]; exact congrArg nI (by omega)) _ _ hP hS_w _ (lv_sub hl [2, 1, 0] rfl)
        replace c41 := bIn c41
        refine lv_aload_n hx hb_w dX2_rangeAt_44 rfl (lv_at hl 0 rfl) ?_
        refine lv_iload_n hx hb_w dX2_rangeAt_45 rfl (lv_at hl 2 rfl) ?_
        refine lv_iconst (v := 1) hx hb_w dX2_rangeAt_46 (by decide) ?_
        refine lv_isub hx hb_w dX2_rangeAt_47 ?_
        refine rdr_V (As := [.int ((nI i_w) - 1)]) (rest := []) ⟨hx, hb_w, hml, hown, hts⟩ (kX2_isHere l G_w a_w cI cZ g_w f_w 0 ((nI i_w) - 1) hNN) (cwV 1 hts gX2_rangeAt_X2_isHere rfl rfl rfl (by decide +kernel) ⟨Nat.le_of_ble_eq_true rfl, Nat.le_of_ble_eq_true rfl⟩) (va_recv hK_w hP (ci := 2) (q0 := 0) rfl rfl) hP hK_w rfl hl.1 rfl (Nat.le_of_ble_eq_true rfl) dX2_rangeAt_48 (by decide) (fun r48 h48 => ?_)
        replace h48 : r48 = bI (hereI g_w f_w ((nI i_w) - 1)) := h48
        subst h48
        refine lv_if_eq (tgt := 86) hx hb_w dX2_rangeAt_51 (by decide) (fun c51_w => ?_) (fun c51_w => ?_)
        · replace c51_w := bI0 c51_w
          have hri : rsB g_w f_w i_w = true := by unfold rsB; rw [← hereI_nI (show i_w < 200 by omega), c41, c51_w]; rfl
          have eik : i_w = k_w := by rcases Nat.lt_or_ge i_w k_w with q_w | q_w; (have h9 := rs_step (q := rsB g_w f_w) q_w; have h8 : cnt (rsB g_w f_w) (i_w + 1) = cnt (rsB g_w f_w) i_w + 1 := cnt_t hri; exfalso; rw [ex_w] at c33_w; exact c33_w (nI_lt (a := 0) (by omega) (by omega))); omega
          refine lv_iload_n hx hb_w dX2_rangeAt_86 rfl (lv_at hl 2 rfl) ?_
          refine lv_istore (lv' := [(4, .int (nI i_w)), (0, .ref (a_w 0)), (2, .int x), (3, .int (nI i_w))]) hx hb_w dX2_rangeAt_87 hl (by decide) rfl (fun ls hl => ?_)
          have loop89 : ∀ (n_w : Nat) (j_w : Nat), j_w ≤ 199 → 199 - j_w < n_w → eoR g_w f_w (199 - j_w) j_w = eoR g_w f_w (199 - k_w) k_w → ∀ (H : Heap) (locs_w : List Loc), va_P G_w vwCl (wM a_w cI cZ g_w f_w 0) H → va_S (aS a_w 6 s_w.heap.size) s_w.heap H locs_w → ∀ (ls : Array Slot), lv_has ls 5 [(0, .ref (a_w 0)), (3, .int (nI i_w)), (4, .int (nI j_w))] → W p_w l e_w { frames := 4, cells := 0, slots := 0, locals := 86 } s_w m_w args_w below meth_w c_w H locs_w 0 0 Q (F0 m_w 89 ls []) := by
            intro n_w
            induction n_w with
            | zero => intro j_w hj hn hq; intros; exact absurd hn (Nat.not_lt_zero _)
            | succ n_w ih89 =>
              intro j_w hj hn hq H locs_w hP hS_w ls hl
              refine lv_aload_n hx hb_w dX2_rangeAt_89 rfl (lv_at hl 0 rfl) ?_
              refine lv_iload hx hb_w dX2_rangeAt_90 (lv_at hl 2 rfl) ?_
              refine lv_iconst (v := 1) hx hb_w dX2_rangeAt_92 (by decide) ?_
              refine lv_iadd hx hb_w dX2_rangeAt_93 ?_
              refine top_eq (z := nI (j_w + 1)) (nI_1 _) ?_
              refine rdr_V (As := [.int (nI (j_w + 1))]) (rest := []) ⟨hx, hb_w, hml, hown, hts⟩ (kX2_isHere l G_w a_w cI cZ g_w f_w 0 (nI (j_w + 1)) hNN) (cwV 1 hts gX2_rangeAt_X2_isHere rfl rfl rfl (by decide +kernel) ⟨Nat.le_of_ble_eq_true rfl, Nat.le_of_ble_eq_true rfl⟩) (va_recv hK_w hP (ci := 2) (q0 := 0) rfl rfl) hP hK_w rfl hl.1 rfl (Nat.le_of_ble_eq_true rfl) dX2_rangeAt_94 (by decide) (fun r94 h94 => ?_)
              replace h94 : r94 = bI (hereI g_w f_w (nI (j_w + 1))) := h94
              subst h94
              refine lv_if_eq (tgt := 106) hx hb_w dX2_rangeAt_97 (by decide) (fun c97 => ?_) (fun c97 => ?_)
              · replace c97 := bI0 c97
                refine lv_sipush (v := 1000) hx hb_w dX2_rangeAt_106 (by decide) ?_
                refine lv_iload_n hx hb_w dX2_rangeAt_109 rfl (lv_at hl 1 rfl) ?_
                refine lv_imul hx hb_w dX2_rangeAt_110 ?_
                refine lv_iload hx hb_w dX2_rangeAt_111 (lv_at hl 2 rfl) ?_
                refine lv_iadd hx hb_w dX2_rangeAt_113 ?_
                exact hret ((1000 * (nI i_w)) + (nI j_w)) (g_w, f_w, 0) _ _ _ _ dX2_rangeAt_114 rfl hP hS_w ⟨by unfold rgA; rw [eK, if_neg (nI_nm1 hk), nI_clamp (show k_w < 2 ^ 31 by omega), ← hq, eik]; exact congrArg (fun z_w => 1000 * nI k_w + nI z_w) (rg_end c97 hj).symm, by unfold rgT; rw [eK, if_neg (nI_nm1 hk)]⟩
              replace c97 := bIn c97
              have hj2 : j_w + 1 < 200 := here_200 c97 hj
              refine lv_iinc (v := nI (j_w + 1)) (lv' := [(4, .int (nI (j_w + 1))), (0, .ref (a_w 0)), (3, .int (nI i_w))]) hx hb_w dX2_rangeAt_100 hl (k := 2) rfl (nI_1 _) (by decide) rfl (fun ls hl => ?_)
              refine lv_goto (tgt := 89) hx hb_w dX2_rangeAt_103 (by decide) ?_
              exact ih89 (j_w + 1) (by omega) (by omega) (by rw [← hq, eoR_step (i := j_w) (by omega), if_pos (by rw [← hereI_nI hj2, c97])]) _ _ hP hS_w _ (lv_sub hl [1, 2, 0] rfl)
          exact loop89 200 i_w (by omega) (by omega) (by rw [eik]) _ _ hP hS_w _ (lv_sub hl [1, 3, 0] rfl)
        replace c51_w := bIn c51_w
        have hne : i_w ≠ k_w := (fun q_w => by rw [q_w, (rs_here hrk).2] at c51_w; exact absurd c51_w (by decide))
        have hlt : i_w < k_w := by omega
        refine lv_iload_n hx hb_w dX2_rangeAt_54 rfl (lv_at hl 1 rfl) ?_
        refine lv_aload_n hx hb_w dX2_rangeAt_55 rfl (lv_at hl 0 rfl) ?_
        refine lv_iload_n hx hb_w dX2_rangeAt_56 rfl (lv_at hl 2 rfl) ?_
        refine rdr_V (As := [.int (nI i_w)]) (rest := [.int x]) ⟨hx, hb_w, hml, hown, hts⟩ (kX2_isHere l G_w a_w cI cZ g_w f_w 0 (nI i_w) hNN) (cwV 1 hts gX2_rangeAt_X2_isHere rfl rfl rfl (by decide +kernel) ⟨Nat.le_of_ble_eq_true rfl, Nat.le_of_ble_eq_true rfl⟩) (va_recv hK_w hP (ci := 2) (q0 := 0) rfl rfl) hP hK_w rfl hl.1 rfl (Nat.le_of_ble_eq_true rfl) dX2_rangeAt_57 (by decide) (fun r57 h57 => ?_)
        replace h57 : r57 = bI (hereI g_w f_w (nI i_w)) := h57
        subst h57
        refine lv_if_eq (tgt := 77) hx hb_w dX2_rangeAt_60 (by decide) (fun c60 => ?_) (fun c60 => ?_)
        · replace c60 := bI0 c60
          refine lv_iconst (v := 0) hx hb_w dX2_rangeAt_77 (by decide) ?_
          refine lv_isub hx hb_w dX2_rangeAt_78 ?_
          refine lv_istore_n (lv' := [(2, .int (x - 0)), (0, .ref (a_w 0)), (3, .int (nI i_w))]) hx hb_w dX2_rangeAt_79 rfl hl (by decide) rfl (fun ls hl => ?_)
          refine lv_iinc (v := nI (i_w + 1)) (lv' := [(3, .int (nI (i_w + 1))), (2, .int (x - 0)), (0, .ref (a_w 0))]) hx hb_w dX2_rangeAt_80 hl (k := 2) rfl (nI_1 _) (by decide) rfl (fun ls hl => ?_)
          refine lv_goto (tgt := 32) hx hb_w dX2_rangeAt_83 (by decide) ?_
          exact ih32 (i_w + 1) (x - 0) (by omega) (by omega) (by rw [ex_w, sub0, cnt_f (by unfold rsB; rw [← hereI_nI (show i_w < 200 by omega), c60]; rfl)]) _ _ hP hS_w _ (lv_sub hl [2, 1, 0] rfl)
        replace c60 := bIn c60
        refine lv_aload_n hx hb_w dX2_rangeAt_63 rfl (lv_at hl 0 rfl) ?_
        refine lv_iload_n hx hb_w dX2_rangeAt_64 rfl (lv_at hl 2 rfl) ?_
        refine lv_iconst (v := 1) hx hb_w dX2_rangeAt_65 (by decide) ?_
        refine lv_isub hx hb_w dX2_rangeAt_66 ?_
        refine rdr_V (As := [.int ((nI i_w) - 1)]) (rest := [.int x]) ⟨hx, hb_w, hml, hown, hts⟩ (kX2_isHere l G_w a_w cI cZ g_w f_w 0 ((nI i_w) - 1) hNN) (cwV 1 hts gX2_rangeAt_X2_isHere rfl rfl rfl (by decide +kernel) ⟨Nat.le_of_ble_eq_true rfl, Nat.le_of_ble_eq_true rfl⟩) (va_recv hK_w hP (ci := 2) (q0 := 0) rfl rfl) hP hK_w rfl hl.1 rfl (Nat.le_of_ble_eq_true rfl) dX2_rangeAt_67 (by decide) (fun r67 h67 => ?_)
        replace h67 : r67 = bI (hereI g_w f_w ((nI i_w) - 1)) := h67
        subst h67
        refine lv_if_ne (tgt := 77) hx hb_w dX2_rangeAt_70 (by decide) (fun c70 => ?_) (fun c70 => ?_)
        · replace c70 := bIn c70
          refine lv_iconst (v := 0) hx hb_w dX2_rangeAt_77 (by decide) ?_
          refine lv_isub hx hb_w dX2_rangeAt_78 ?_
          refine lv_istore_n (lv' := [(2, .int (x - 0)), (0, .ref (a_w 0)), (3, .int (nI i_w))]) hx hb_w dX2_rangeAt_79 rfl hl (by decide) rfl (fun ls hl => ?_)
          refine lv_iinc (v := nI (i_w + 1)) (lv' := [(3, .int (nI (i_w + 1))), (2, .int (x - 0)), (0, .ref (a_w 0))]) hx hb_w dX2_rangeAt_80 hl (k := 2) rfl (nI_1 _) (by decide) rfl (fun ls hl => ?_)
          refine lv_goto (tgt := 32) hx hb_w dX2_rangeAt_83 (by decide) ?_
          exact ih32 (i_w + 1) (x - 0) (by omega) (by omega) (by rw [ex_w, sub0, cnt_f (by unfold rsB; rw [← hereI_nI (show i_w < 200 by omega), c60, c70]; rfl)]) _ _ hP hS_w _ (lv_sub hl [2, 1, 0] rfl)
        replace c70 := bI0 c70
        refine lv_iconst (v := 1) hx hb_w dX2_rangeAt_73 (by decide) ?_
        refine lv_goto (tgt := 78) hx hb_w dX2_rangeAt_74 (by decide) ?_
        refine lv_isub hx hb_w dX2_rangeAt_78 ?_
        refine lv_istore_n (lv' := [(2, .int (x - 1)), (0, .ref (a_w 0)), (3, .int (nI i_w))]) hx hb_w dX2_rangeAt_79 rfl hl (by decide) rfl (fun ls hl => ?_)
        refine lv_iinc (v := nI (i_w + 1)) (lv' := [(3, .int (nI (i_w + 1))), (2, .int (x - 1)), (0, .ref (a_w 0))]) hx hb_w dX2_rangeAt_80 hl (k := 2) rfl (nI_1 _) (by decide) rfl (fun ls hl => ?_)
        refine lv_goto (tgt := 32) hx hb_w dX2_rangeAt_83 (by decide) ?_
        exact ih32 (i_w + 1) (x - 1) (by omega) (by omega) (by have h9 := rs_step (q := rsB g_w f_w) hlt; have h8 : cnt (rsB g_w f_w) (i_w + 1) = cnt (rsB g_w f_w) i_w + 1 := cnt_t (by unfold rsB; rw [← hereI_nI (show i_w < 200 by omega), c60, c70]; rfl); rw [ex_w, x_sub (by omega), h8]; exact congrArg nI (by omega)) _ _ hP hS_w _ (lv_sub hl [2, 1, 0] rfl)
    exact loop32 (k_w + 1) 0 p0_w (by omega) (by omega) (by rw [ep]; rfl) _ _ hP hS_w _ (lv_sub hl [2, 1, 0] rfl)
  replace c23_w := bI0 c23_w
  exact absurd c23_w (by decide)
set_option maxHeartbeats 4000000 in
set_option maxRecDepth 100000 in
theorem kX2_give (l : Launch) (G_w : va_G) (a_w : Nat → Nat) (cI cZ : ClassId) (g_w : Nat → Int32) (f_w : Nat → Nat → Int32) (tc_w : Int32) (hap : apart a_w 6) (sz_w : Nat) (p0_w p1_w : Int32) (h01 : ∀ k_w, f_w 4 k_w = 0 ∨ f_w 4 k_w = 1): wri l yX2_give wsX2_give { frames := 2, cells := 0, slots := 0, locals := 42 } G_w (wM a_w cI cZ g_w f_w tc_w) (tyIZ cI cZ) (aS a_w 6 sz_w) sz_w [.ref (a_w 0), .int p0_w, .int p1_w] (fun r_w u_w => r_w = (if okG p0_w p1_w = true then nI (cnt (thB (gvU (f_w 4) p0_w.toNatClampNeg p1_w.toNatClampNeg)) 200) else 0) ∧ u_w = if okG p0_w p1_w = true then (g_w, up2 f_w 4 (gvU (f_w 4) p0_w.toNatClampNeg p1_w.toNatClampNeg), 0) else (g_w, f_w, 1)) (wfM a_w cI cZ) := by
  refine wri_of (cc := cX2_give) (nL := 5) (ty := .int) (by decide) rfl (Nat.le_of_ble_eq_true rfl) ?_
  intro p_w e_w s_w m_w args_w below meth_w c_w H locs_w ls Q hx hb_w hml hown hts hP hK_w hS_w hret hl
  have hl : lv_has ls 5 [(0, .ref (a_w 0)), (1, .int p0_w), (2, .int p1_w)] := hl
  have hinX2 : ∀ w_w ∈ wsX20, w_w ∈ wsX2_give := by decide +kernel
  refine lv_aload_n hx hb_w dX2_give_0 rfl (lv_at hl 0 rfl) ?_
  refine lv_iload_n hx hb_w dX2_give_1 rfl (lv_at hl 1 rfl) ?_
  refine rdr_S (As := [.int p0_w]) (rest := [.ref (a_w 0)]) ⟨hx, hb_w, hml, hown, hts⟩ (kX2_isIssue l G_w _ _ p0_w ) (va_cwS 1 hts gX2_give_X2_isIssue rfl rfl rfl (by decide +kernel) ⟨Nat.le_of_ble_eq_true rfl, Nat.le_of_ble_eq_true rfl⟩)  hP hK_w rfl hl.1 rfl (Nat.le_of_ble_eq_true rfl) dX2_give_2 (by decide) (fun r2 h2 => ?_)
  replace h2 : r2 = bI (isI p0_w) := h2
  subst h2
  refine lv_if_eq (tgt := 23) hx hb_w dX2_give_5 (by decide) (fun c5_w => ?_) (fun c5_w => ?_)
  · replace c5_w := bI0 c5_w
    have hok : ¬ okG p0_w p1_w = true := by simp [okG, c5_w]
    refine lv_iconst (v := 1) hx hb_w dX2_give_23 (by decide) ?_
    refine wri_V (As := [.int 1]) (rest := []) ⟨hx, hb_w, hml, hown, hts⟩ (kX2_can l G_w a_w cI cZ g_w f_w tc_w hap _ 1 ) (cwV 1 hts gX2_give_X2_can rfl rfl rfl (by decide +kernel) ⟨Nat.le_of_ble_eq_true rfl, Nat.le_of_ble_eq_true rfl⟩) (va_recv hK_w hP (ci := 2) (q0 := 0) rfl rfl) hP hK_w hS_w rfl hl.1 rfl (Nat.le_of_ble_eq_true rfl) dX2_give_24 (by decide) (fun r24 u24 H locs_w h24 hP hS_w => ?_)
    obtain ⟨h24_1, h24_2⟩ := h24
    replace h24_1 : r24 = bI false := h24_1.trans (by decide)
    subst h24_1
    subst h24_2
    have hP : va_P G_w vwCl (wM a_w cI cZ g_w f_w 1) H := hP
    refine lv_if_ne (tgt := 32) hx hb_w dX2_give_27 (by decide) (fun c27_w => ?_) (fun c27_w => ?_)
    · replace c27_w := bIn c27_w
      exact absurd c27_w (by decide)
    replace c27_w := bI0 c27_w
    refine lv_iconst (v := 0) hx hb_w dX2_give_30 (by decide) ?_
    exact hret 0 (g_w, f_w, 1) _ _ _ _ dX2_give_31 rfl hP hS_w ⟨by rw [if_neg hok], by rw [if_neg hok]⟩
  replace c5_w := bIn c5_w
  refine lv_iload_n hx hb_w dX2_give_8 rfl (lv_at hl 2 rfl) ?_
  refine lv_iload_n hx hb_w dX2_give_9 rfl (lv_at hl 1 rfl) ?_
  refine lv_sipush (v := 199) hx hb_w dX2_give_10 (by decide) ?_
  refine rdr_S (As := [.int p1_w, .int p0_w, .int 199]) (rest := [.ref (a_w 0)]) ⟨hx, hb_w, hml, hown, hts⟩ (kX2_isIn l G_w _ _ p1_w p0_w 199 ) (va_cwS 3 hts gX2_give_X2_isIn rfl rfl rfl (by decide +kernel) ⟨Nat.le_of_ble_eq_true rfl, Nat.le_of_ble_eq_true rfl⟩)  hP hK_w rfl hl.1 rfl (Nat.le_of_ble_eq_true rfl) dX2_give_13 (by decide) (fun r13 h13 => ?_)
  replace h13 : r13 = bI (isW p1_w p0_w 199) := h13
  subst h13
  refine lv_if_eq (tgt := 23) hx hb_w dX2_give_16 (by decide) (fun c16 => ?_) (fun c16 => ?_)
  · replace c16 := bI0 c16
    have hok : ¬ okG p0_w p1_w = true := by simp [okG, c5_w, c16]
    refine lv_iconst (v := 1) hx hb_w dX2_give_23 (by decide) ?_
    refine wri_V (As := [.int 1]) (rest := []) ⟨hx, hb_w, hml, hown, hts⟩ (kX2_can l G_w a_w cI cZ g_w f_w tc_w hap _ 1 ) (cwV 1 hts gX2_give_X2_can rfl rfl rfl (by decide +kernel) ⟨Nat.le_of_ble_eq_true rfl, Nat.le_of_ble_eq_true rfl⟩) (va_recv hK_w hP (ci := 2) (q0 := 0) rfl rfl) hP hK_w hS_w rfl hl.1 rfl (Nat.le_of_ble_eq_true rfl) dX2_give_24 (by decide) (fun r24 u24 H locs_w h24 hP hS_w => ?_)
    obtain ⟨h24_1, h24_2⟩ := h24
    replace h24_1 : r24 = bI false := h24_1.trans (by decide)
    subst h24_1
    subst h24_2
    have hP : va_P G_w vwCl (wM a_w cI cZ g_w f_w 1) H := hP
    refine lv_if_ne (tgt := 32) hx hb_w dX2_give_27 (by decide) (fun c27_w => ?_) (fun c27_w => ?_)
    · replace c27_w := bIn c27_w
      exact absurd c27_w (by decide)
    replace c27_w := bI0 c27_w
    refine lv_iconst (v := 0) hx hb_w dX2_give_30 (by decide) ?_
    exact hret 0 (g_w, f_w, 1) _ _ _ _ dX2_give_31 rfl hP hS_w ⟨by rw [if_neg hok], by rw [if_neg hok]⟩
  replace c16 := bIn c16
  have hok : okG p0_w p1_w = true := by unfold okG; rw [c5_w, c16]; rfl
  obtain ⟨i_w, j_w, ei, ej, hij, hj, eci, ecj⟩ := okG_k hok
  subst ei
  subst ej
  refine lv_iconst (v := 0) hx hb_w dX2_give_19 (by decide) ?_
  refine lv_goto (tgt := 24) hx hb_w dX2_give_20 (by decide) ?_
  refine wri_V (As := [.int 0]) (rest := []) ⟨hx, hb_w, hml, hown, hts⟩ (kX2_can l G_w a_w cI cZ g_w f_w tc_w hap _ 0 ) (cwV 1 hts gX2_give_X2_can rfl rfl rfl (by decide +kernel) ⟨Nat.le_of_ble_eq_true rfl, Nat.le_of_ble_eq_true rfl⟩) (va_recv hK_w hP (ci := 2) (q0 := 0) rfl rfl) hP hK_w hS_w rfl hl.1 rfl (Nat.le_of_ble_eq_true rfl) dX2_give_24 (by decide) (fun r24 u24 H locs_w h24 hP hS_w => ?_)
  obtain ⟨h24_1, h24_2⟩ := h24
  replace h24_1 : r24 = bI true := h24_1.trans (by decide)
  subst h24_1
  subst h24_2
  have hP : va_P G_w vwCl (wM a_w cI cZ g_w f_w 0) H := hP
  refine lv_if_ne (tgt := 32) hx hb_w dX2_give_27 (by decide) (fun c27_w => ?_) (fun c27_w => ?_)
  · replace c27_w := bIn c27_w
    refine lv_iconst (v := 0) hx hb_w dX2_give_32 (by decide) ?_
    refine lv_istore_n (lv' := [(3, .int 0), (0, .ref (a_w 0)), (1, .int (nI i_w)), (2, .int (nI j_w))]) hx hb_w dX2_give_33 rfl hl (by decide) rfl (fun ls hl => ?_)
    refine lv_iconst (v := 0) hx hb_w dX2_give_34 (by decide) ?_
    refine lv_istore (lv' := [(4, .int 0), (3, .int 0), (0, .ref (a_w 0)), (1, .int (nI i_w)), (2, .int (nI j_w))]) hx hb_w dX2_give_35 hl (by decide) rfl (fun ls hl => ?_)
    have loop37 : ∀ (n_w : Nat) (kk : Nat) (x : Int32) (h1 : Nat → Int32), kk ≤ 200 → 200 - kk < n_w → x = nI (cnt (thB (gvU (f_w 4) i_w j_w)) kk) → h1 = gpU (f_w 4) i_w j_w kk → ∀ (H : Heap) (locs_w : List Loc), va_P G_w vwCl (wM a_w cI cZ g_w (up2 f_w 4 h1) 0) H → va_S (aS a_w 6 s_w.heap.size) s_w.heap H locs_w → ∀ (ls : Array Slot), lv_has ls 5 [(0, .ref (a_w 0)), (1, .int (nI i_w)), (2, .int (nI j_w)), (3, .int x), (4, .int (nI kk))] → W p_w l e_w { frames := 2, cells := 0, slots := 0, locals := 42 } s_w m_w args_w below meth_w c_w H locs_w 0 0 Q (F0 m_w 37 ls []) := by
      intro n_w
      induction n_w with
      | zero => intro kk x h1 hm_w hn ex_w eh; intros; exact absurd hn (Nat.not_lt_zero _)
      | succ n_w ih37 =>
        intro kk x h1 hm_w hn ex_w eh H locs_w hP hS_w ls hl
        have zm : h1 kk = f_w 4 kk := by rw [eh]; unfold gpU; rw [if_neg (by omega)]
        refine lv_iload hx hb_w dX2_give_37 (lv_at hl 4 rfl) ?_
        refine lv_sipush (v := 200) hx hb_w dX2_give_39 (by decide) ?_
        refine lv_icmp_ge (tgt := 101) hx hb_w dX2_give_42 (by decide) (fun c42 => ?_) (fun c42 => ?_)
        · have em := ge_200 c42 (by omega)
          have hP : va_P G_w vwCl (wM a_w cI cZ g_w (up2 f_w 4 (gvU (f_w 4) i_w j_w)) 0) H := by rw [← gpU_end hj, ← em, ← eh]; exact hP
          refine lv_iload_n hx hb_w dX2_give_101 rfl (lv_at hl 3 rfl) ?_
          exact hret x (g_w, up2 f_w 4 (gvU (f_w 4) i_w j_w), 0) _ _ _ _ dX2_give_102 rfl hP hS_w (by rw [if_pos hok, if_pos hok, eci, ecj, ex_w, em]; exact ⟨rfl, rfl⟩)
        have hm2 := nge_200 c42 (by omega)
        refine lv_aload_n hx hb_w dX2_give_45 rfl (lv_at hl 0 rfl) ?_
        refine mget (index := 39) (v := .ref (a_w 5)) hx hb_w hts hinX2 hown hK_w hP 12 (by decide) (List.mem_of_getElem? (i := 1) rfl) rfl dX2_give_46 ?_
        refine lv_iload hx hb_w dX2_give_49 (lv_at hl 4 rfl) ?_
        refine lv_aload_n hx hb_w dX2_give_51 rfl (lv_at hl 0 rfl) ?_
        refine mget (index := 39) (v := .ref (a_w 5)) hx hb_w hts hinX2 hown hK_w hP 12 (by decide) (List.mem_of_getElem? (i := 1) rfl) rfl dX2_give_52 ?_
        refine lv_iload hx hb_w dX2_give_55 (lv_at hl 4 rfl) ?_
        refine arZ (j := kk) (h := h1) hx hb_w hK_w hP 5 rfl rfl hm2 dX2_give_57 ?_
        refine lv_if_ne (tgt := 71) hx hb_w dX2_give_58 (by decide) (fun c58 => ?_) (fun c58 => ?_)
        · refine lv_iconst (v := 1) hx hb_w dX2_give_71 (by decide) ?_
          refine lv_goto (tgt := 76) hx hb_w dX2_give_72 (by decide) ?_
          refine asZ (j := kk) (h := h1) (x := 1) (wM a_w cI cZ g_w (up2 f_w 4 (upd h1 kk 1)) 0) hx hb_w hK_w hP (wM_D hap _) hS_w 5 rfl rfl hm2 rfl rfl dX2_give_76 (fun H locs_w hP hS_w => ?_)
          refine lv_iload_n hx hb_w dX2_give_77 rfl (lv_at hl 3 rfl) ?_
          refine lv_aload_n hx hb_w dX2_give_78 rfl (lv_at hl 0 rfl) ?_
          refine mget (index := 39) (v := .ref (a_w 5)) hx hb_w hts hinX2 hown hK_w hP 12 (by decide) (List.mem_of_getElem? (i := 1) rfl) rfl dX2_give_79 ?_
          refine lv_iload hx hb_w dX2_give_82 (lv_at hl 4 rfl) ?_
          refine arZ (j := kk) (h := (upd h1 kk 1)) hx hb_w hK_w hP 5 rfl rfl hm2 dX2_give_84 ?_
          refine top_eq (z := 1) pk_us ?_
          refine lv_if_eq (tgt := 92) hx hb_w dX2_give_85 (by decide) (fun c85 => ?_) (fun c85 => ?_)
          · exact absurd c85 (by decide)
          refine lv_iconst (v := 1) hx hb_w dX2_give_88 (by decide) ?_
          refine lv_goto (tgt := 93) hx hb_w dX2_give_89 (by decide) ?_
          refine lv_iadd hx hb_w dX2_give_93 ?_
          refine lv_istore_n (lv' := [(3, .int (x + 1)), (0, .ref (a_w 0)), (1, .int (nI i_w)), (2, .int (nI j_w)), (4, .int (nI kk))]) hx hb_w dX2_give_94 rfl hl (by decide) rfl (fun ls hl => ?_)
          refine lv_iinc (v := nI (kk + 1)) (lv' := [(4, .int (nI (kk + 1))), (3, .int (x + 1)), (0, .ref (a_w 0)), (1, .int (nI i_w)), (2, .int (nI j_w))]) hx hb_w dX2_give_95 hl (k := 4) rfl (nI_1 _) (by decide) rfl (fun ls hl => ?_)
          refine lv_goto (tgt := 37) hx hb_w dX2_give_98 (by decide) ?_
          exact ih37 (kk + 1) (x + 1) (upd h1 kk 1) (by omega) (by omega) (by rw [cnt_t (by unfold thB gvU; by_cases z_w : i_w ≤ kk ∧ kk ≤ j_w; rw [if_pos z_w]; rfl; rw [if_neg z_w, decide_eq_false (by rw [← zm]; exact c58)]; rfl), ex_w]; exact nI_1 _) (by rw [eh]; exact w_step (by unfold gpU; by_cases z_w : kk < kk + 1 ∧ i_w ≤ kk ∧ kk ≤ j_w; rw [if_pos z_w]; rw [if_neg z_w]; exact ((h01 kk).resolve_left (by rw [← zm]; exact c58))) (fun k_w q_w => by unfold gpU; simp only [lt_ne q_w])) _ _ hP hS_w _ (lv_sub hl [2, 3, 4, 1, 0] rfl)
        refine lv_iload hx hb_w dX2_give_61 (lv_at hl 4 rfl) ?_
        refine lv_iload_n hx hb_w dX2_give_63 rfl (lv_at hl 1 rfl) ?_
        refine lv_iload_n hx hb_w dX2_give_64 rfl (lv_at hl 2 rfl) ?_
        refine rdr_S (As := [.int (nI kk), .int (nI i_w), .int (nI j_w)]) (rest := [.int (nI kk), .ref (a_w 5)]) ⟨hx, hb_w, hml, hown, hts⟩ (kX2_isIn l G_w _ _ (nI kk) (nI i_w) (nI j_w) ) (va_cwS 3 hts gX2_give_X2_isIn rfl rfl rfl (by decide +kernel) ⟨Nat.le_of_ble_eq_true rfl, Nat.le_of_ble_eq_true rfl⟩)  hP hK_w rfl hl.1 rfl (Nat.le_of_ble_eq_true rfl) dX2_give_65 (by decide) (fun r65 h65 => ?_)
        replace h65 : r65 = bI (isW (nI kk) (nI i_w) (nI j_w)) := h65
        subst h65
        refine lv_if_eq (tgt := 75) hx hb_w dX2_give_68 (by decide) (fun c68 => ?_) (fun c68 => ?_)
        · replace c68 := bI0 c68
          have hin : ¬ (i_w ≤ kk ∧ kk ≤ j_w) := by rw [gv_at (h := f_w 4) hm2 (by omega) hj] at c68; exact of_decide_eq_false c68
          refine lv_iconst (v := 0) hx hb_w dX2_give_75 (by decide) ?_
          refine asZ (j := kk) (h := h1) (x := 0) (wM a_w cI cZ g_w (up2 f_w 4 (upd h1 kk 0)) 0) hx hb_w hK_w hP (wM_D hap _) hS_w 5 rfl rfl hm2 rfl rfl dX2_give_76 (fun H locs_w hP hS_w => ?_)
          refine lv_iload_n hx hb_w dX2_give_77 rfl (lv_at hl 3 rfl) ?_
          refine lv_aload_n hx hb_w dX2_give_78 rfl (lv_at hl 0 rfl) ?_
          refine mget (index := 39) (v := .ref (a_w 5)) hx hb_w hts hinX2 hown hK_w hP 12 (by decide) (List.mem_of_getElem? (i := 1) rfl) rfl dX2_give_79 ?_
          refine lv_iload hx hb_w dX2_give_82 (lv_at hl 4 rfl) ?_
          refine arZ (j := kk) (h := (upd h1 kk 0)) hx hb_w hK_w hP 5 rfl rfl hm2 dX2_give_84 ?_
          refine top_eq (z := 0) pk_us ?_
          refine lv_if_eq (tgt := 92) hx hb_w dX2_give_85 (by decide) (fun c85 => ?_) (fun c85 => ?_)
          · refine lv_iconst (v := 0) hx hb_w dX2_give_92 (by decide) ?_
            refine lv_iadd hx hb_w dX2_give_93 ?_
            refine lv_istore_n (lv' := [(3, .int (x + 0)), (0, .ref (a_w 0)), (1, .int (nI i_w)), (2, .int (nI j_w)), (4, .int (nI kk))]) hx hb_w dX2_give_94 rfl hl (by decide) rfl (fun ls hl => ?_)
            refine lv_iinc (v := nI (kk + 1)) (lv' := [(4, .int (nI (kk + 1))), (3, .int (x + 0)), (0, .ref (a_w 0)), (1, .int (nI i_w)), (2, .int (nI j_w))]) hx hb_w dX2_give_95 hl (k := 4) rfl (nI_1 _) (by decide) rfl (fun ls hl => ?_)
            refine lv_goto (tgt := 37) hx hb_w dX2_give_98 (by decide) ?_
            exact ih37 (kk + 1) (x + 0) (upd h1 kk 0) (by omega) (by omega) (by rw [cnt_f (by unfold thB gvU; rw [if_neg hin, decide_eq_true (by rw [← zm]; exact c58)]; rfl), Int32.add_zero]; exact ex_w) (by rw [eh]; exact w_step (by unfold gpU; rw [if_neg (fun z_w => hin z_w.2), ← zm]; exact c58) (fun k_w q_w => by unfold gpU; simp only [lt_ne q_w])) _ _ hP hS_w _ (lv_sub hl [2, 3, 4, 1, 0] rfl)
          exact absurd rfl c85
        replace c68 := bIn c68
        have hin : i_w ≤ kk ∧ kk ≤ j_w := by rw [gv_at (h := f_w 4) hm2 (by omega) hj] at c68; exact of_decide_eq_true c68
        refine lv_iconst (v := 1) hx hb_w dX2_give_71 (by decide) ?_
        refine lv_goto (tgt := 76) hx hb_w dX2_give_72 (by decide) ?_
        refine asZ (j := kk) (h := h1) (x := 1) (wM a_w cI cZ g_w (up2 f_w 4 (upd h1 kk 1)) 0) hx hb_w hK_w hP (wM_D hap _) hS_w 5 rfl rfl hm2 rfl rfl dX2_give_76 (fun H locs_w hP hS_w => ?_)
        refine lv_iload_n hx hb_w dX2_give_77 rfl (lv_at hl 3 rfl) ?_
        refine lv_aload_n hx hb_w dX2_give_78 rfl (lv_at hl 0 rfl) ?_
        refine mget (index := 39) (v := .ref (a_w 5)) hx hb_w hts hinX2 hown hK_w hP 12 (by decide) (List.mem_of_getElem? (i := 1) rfl) rfl dX2_give_79 ?_
        refine lv_iload hx hb_w dX2_give_82 (lv_at hl 4 rfl) ?_
        refine arZ (j := kk) (h := (upd h1 kk 1)) hx hb_w hK_w hP 5 rfl rfl hm2 dX2_give_84 ?_
        refine top_eq (z := 1) pk_us ?_
        refine lv_if_eq (tgt := 92) hx hb_w dX2_give_85 (by decide) (fun c85 => ?_) (fun c85 => ?_)
        · exact absurd c85 (by decide)
        refine lv_iconst (v := 1) hx hb_w dX2_give_88 (by decide) ?_
        refine lv_goto (tgt := 93) hx hb_w dX2_give_89 (by decide) ?_
        refine lv_iadd hx hb_w dX2_give_93 ?_
        refine lv_istore_n (lv' := [(3, .int (x + 1)), (0, .ref (a_w 0)), (1, .int (nI i_w)), (2, .int (nI j_w)), (4, .int (nI kk))]) hx hb_w dX2_give_94 rfl hl (by decide) rfl (fun ls hl => ?_)
        refine lv_iinc (v := nI (kk + 1)) (lv' := [(4, .int (nI (kk + 1))), (3, .int (x + 1)), (0, .ref (a_w 0)), (1, .int (nI i_w)), (2, .int (nI j_w))]) hx hb_w dX2_give_95 hl (k := 4) rfl (nI_1 _) (by decide) rfl (fun ls hl => ?_)
        refine lv_goto (tgt := 37) hx hb_w dX2_give_98 (by decide) ?_
        exact ih37 (kk + 1) (x + 1) (upd h1 kk 1) (by omega) (by omega) (by rw [cnt_t (by unfold thB gvU; rw [if_pos hin]; rfl), ex_w]; exact nI_1 _) (by rw [eh]; exact w_step (by unfold gpU; rw [if_pos ⟨Nat.lt_succ_self kk, hin⟩]) (fun k_w q_w => by unfold gpU; simp only [lt_ne q_w])) _ _ hP hS_w _ (lv_sub hl [2, 3, 4, 1, 0] rfl)
    exact loop37 201 0 0 (f_w 4) (by omega) (by omega) rfl (w_same fun k_w => by unfold gpU; rw [if_neg (by omega)]) _ _ hP hS_w _ (lv_sub hl [2, 3, 4, 1, 0] rfl)
  replace c27_w := bI0 c27_w
  exact absurd c27_w (by decide)
set_option maxHeartbeats 4000000 in
set_option maxRecDepth 100000 in
theorem kX2_only (l : Launch) (G_w : va_G) (a_w : Nat → Nat) (cI cZ : ClassId) (g_w : Nat → Int32) (f_w : Nat → Nat → Int32) (tc_w : Int32) (hap : apart a_w 6) (sz_w : Nat) (p0_w p1_w : Int32) (hNN : NN g_w): wri l yX2_only wsX2_only { frames := 3, cells := 0, slots := 0, locals := 64 } G_w (wM a_w cI cZ g_w f_w tc_w) (tyIZ cI cZ) (aS a_w 6 sz_w) sz_w [.ref (a_w 0), .int p0_w, .int p1_w] (fun r_w u_w => r_w = (if 0 ≤ p1_w then scan (onB g_w f_w p0_w) p1_w 0 200 0 else 0) ∧ u_w = (g_w, f_w, if 0 ≤ p1_w then 0 else 1)) (wfM a_w cI cZ) := by
  refine wri_of (cc := cX2_only) (nL := 6) (ty := .int) (by decide) rfl (Nat.le_of_ble_eq_true rfl) ?_
  intro p_w e_w s_w m_w args_w below meth_w c_w H locs_w ls Q hx hb_w hml hown hts hP hK_w hS_w hret hl
  have hl : lv_has ls 6 [(0, .ref (a_w 0)), (1, .int p0_w), (2, .int p1_w)] := hl
  have hinX2 : ∀ w_w ∈ wsX20, w_w ∈ wsX2_only := by decide +kernel
  refine lv_aload_n hx hb_w dX2_only_0 rfl (lv_at hl 0 rfl) ?_
  refine lv_iload_n hx hb_w dX2_only_1 rfl (lv_at hl 2 rfl) ?_
  refine lv_if_ge (tgt := 9) hx hb_w dX2_only_2 (by decide) (fun c2_w => ?_) (fun c2_w => ?_)
  · refine lv_iconst (v := 0) hx hb_w dX2_only_9 (by decide) ?_
    refine wri_V (As := [.int 0]) (rest := []) ⟨hx, hb_w, hml, hown, hts⟩ (kX2_can l G_w a_w cI cZ g_w f_w tc_w hap _ 0 ) (cwV 1 hts gX2_only_X2_can rfl rfl rfl (by decide +kernel) ⟨Nat.le_of_ble_eq_true rfl, Nat.le_of_ble_eq_true rfl⟩) (va_recv hK_w hP (ci := 2) (q0 := 0) rfl rfl) hP hK_w hS_w rfl hl.1 rfl (Nat.le_of_ble_eq_true rfl) dX2_only_10 (by decide) (fun r10 u10 H locs_w h10 hP hS_w => ?_)
    obtain ⟨h10_1, h10_2⟩ := h10
    replace h10_1 : r10 = bI true := h10_1.trans (by decide)
    subst h10_1
    subst h10_2
    have hP : va_P G_w vwCl (wM a_w cI cZ g_w f_w 0) H := hP
    refine lv_if_ne (tgt := 18) hx hb_w dX2_only_13 (by decide) (fun c13_w => ?_) (fun c13_w => ?_)
    · replace c13_w := bIn c13_w
      refine lv_iload_n hx hb_w dX2_only_18 rfl (lv_at hl 2 rfl) ?_
      refine lv_istore_n (lv' := [(3, .int p1_w), (0, .ref (a_w 0)), (1, .int p0_w), (2, .int p1_w)]) hx hb_w dX2_only_19 rfl hl (by decide) rfl (fun ls hl => ?_)
      refine lv_iconst (v := 0) hx hb_w dX2_only_20 (by decide) ?_
      refine lv_istore (lv' := [(4, .int 0), (3, .int p1_w), (0, .ref (a_w 0)), (1, .int p0_w), (2, .int p1_w)]) hx hb_w dX2_only_21 hl (by decide) rfl (fun ls hl => ?_)
      have loop23 : ∀ (n_w : Nat) (i_w sN_w : Nat) (x : Int32), i_w ≤ 200 → 200 - i_w < n_w → x = p1_w - nI sN_w → scan (onB g_w f_w p0_w) p1_w i_w (200 - i_w) sN_w = scan (onB g_w f_w p0_w) p1_w 0 200 0 → ∀ (H : Heap) (locs_w : List Loc), va_P G_w vwCl (wM a_w cI cZ g_w f_w 0) H → va_S (aS a_w 6 s_w.heap.size) s_w.heap H locs_w → ∀ (ls : Array Slot), lv_has ls 6 [(0, .ref (a_w 0)), (1, .int p0_w), (2, .int p1_w), (3, .int x), (4, .int (nI i_w))] → W p_w l e_w { frames := 3, cells := 0, slots := 0, locals := 64 } s_w m_w args_w below meth_w c_w H locs_w 0 0 Q (F0 m_w 23 ls []) := by
        intro n_w
        induction n_w with
        | zero => intro i_w sN_w x hi_w hn ex_w hq; intros; exact absurd hn (Nat.not_lt_zero _)
        | succ n_w ih23 =>
          intro i_w sN_w x hi_w hn ex_w hq H locs_w hP hS_w ls hl
          refine lv_iload hx hb_w dX2_only_23 (lv_at hl 4 rfl) ?_
          refine lv_sipush (v := 200) hx hb_w dX2_only_25 (by decide) ?_
          refine lv_icmp_ge (tgt := 119) hx hb_w dX2_only_28 (by decide) (fun c28_w => ?_) (fun c28_w => ?_)
          · have ei := ge_200 c28_w (by omega)
            refine lv_iconst (v := (-1)) hx hb_w dX2_only_119 (by decide) ?_
            exact hret (-1) (g_w, f_w, 0) _ _ _ _ dX2_only_120 rfl hP hS_w ⟨by rw [if_pos c2_w, ← hq, ei]; rfl, by rw [if_pos c2_w]⟩
          have hi2 := nge_200 c28_w (by omega)
          refine lv_iload_n hx hb_w dX2_only_31 rfl (lv_at hl 1 rfl) ?_
          refine lv_if_eq (tgt := 62) hx hb_w dX2_only_32 (by decide) (fun c32_w => ?_) (fun c32_w => ?_)
          · refine lv_aload_n hx hb_w dX2_only_62 rfl (lv_at hl 0 rfl) ?_
            refine mget (index := 39) (v := .ref (a_w 5)) hx hb_w hts hinX2 hown hK_w hP 12 (by decide) (List.mem_of_getElem? (i := 1) rfl) rfl dX2_only_63 ?_
            refine lv_iload hx hb_w dX2_only_66 (lv_at hl 4 rfl) ?_
            refine arZ (j := i_w) (h := (f_w 4)) hx hb_w hK_w hP 5 rfl rfl hi2 dX2_only_68 ?_
            refine lv_if_eq (tgt := 85) hx hb_w dX2_only_69 (by decide) (fun c69 => ?_) (fun c69 => ?_)
            · refine lv_iconst (v := 0) hx hb_w dX2_only_85 (by decide) ?_
              refine lv_istore (lv' := [(5, .int 0), (0, .ref (a_w 0)), (1, .int p0_w), (2, .int p1_w), (3, .int x), (4, .int (nI i_w))]) hx hb_w dX2_only_86 hl (by decide) rfl (fun ls hl => ?_)
              refine lv_iload hx hb_w dX2_only_88 (lv_at hl 0 rfl) ?_
              refine lv_if_eq (tgt := 100) hx hb_w dX2_only_90 (by decide) (fun c90 => ?_) (fun c90 => ?_)
              · refine lv_iload_n hx hb_w dX2_only_100 rfl (lv_at hl 4 rfl) ?_
                refine lv_iload hx hb_w dX2_only_101 (lv_at hl 0 rfl) ?_
                refine lv_if_eq (tgt := 110) hx hb_w dX2_only_103 (by decide) (fun c103 => ?_) (fun c103 => ?_)
                · refine lv_iconst (v := 0) hx hb_w dX2_only_110 (by decide) ?_
                  refine lv_isub hx hb_w dX2_only_111 ?_
                  refine lv_istore_n (lv' := [(3, .int (x - 0)), (5, .int 0), (0, .ref (a_w 0)), (1, .int p0_w), (2, .int p1_w), (4, .int (nI i_w))]) hx hb_w dX2_only_112 rfl hl (by decide) rfl (fun ls hl => ?_)
                  refine lv_iinc (v := nI (i_w + 1)) (lv' := [(4, .int (nI (i_w + 1))), (3, .int (x - 0)), (5, .int 0), (0, .ref (a_w 0)), (1, .int p0_w), (2, .int p1_w)]) hx hb_w dX2_only_113 hl (k := 5) rfl (nI_1 _) (by decide) rfl (fun ls hl => ?_)
                  refine lv_goto (tgt := 23) hx hb_w dX2_only_116 (by decide) ?_
                  exact ih23 (i_w + 1) sN_w (x - 0) (by omega) (by omega) (by rw [sub0]; exact ex_w) (by rw [← hq, scan_step hi2, if_neg (by rw [show onB g_w f_w p0_w i_w = false from (by unfold onB thB; rw [if_pos c32_w, decide_eq_true c69]; rfl)]; decide)]) _ _ hP hS_w _ (lv_sub hl [3, 4, 5, 1, 0] rfl)
                exact absurd rfl c103
              exact absurd rfl c90
            refine lv_aload_n hx hb_w dX2_only_72 rfl (lv_at hl 0 rfl) ?_
            refine lv_iload hx hb_w dX2_only_73 (lv_at hl 4 rfl) ?_
            refine rdr_V (As := [.int (nI i_w)]) (rest := []) ⟨hx, hb_w, hml, hown, hts⟩ (kX2_isHere l G_w a_w cI cZ g_w f_w 0 (nI i_w) hNN) (cwV 1 hts gX2_only_X2_isHere rfl rfl rfl (by decide +kernel) ⟨Nat.le_of_ble_eq_true rfl, Nat.le_of_ble_eq_true rfl⟩) (va_recv hK_w hP (ci := 2) (q0 := 0) rfl rfl) hP hK_w rfl hl.1 rfl (Nat.le_of_ble_eq_true rfl) dX2_only_75 (by decide) (fun r75 h75 => ?_)
            replace h75 : r75 = bI (hereI g_w f_w (nI i_w)) := h75
            subst h75
            refine lv_if_ne (tgt := 85) hx hb_w dX2_only_78 (by decide) (fun c78 => ?_) (fun c78 => ?_)
            · replace c78 := bIn c78
              refine lv_iconst (v := 0) hx hb_w dX2_only_85 (by decide) ?_
              refine lv_istore (lv' := [(5, .int 0), (0, .ref (a_w 0)), (1, .int p0_w), (2, .int p1_w), (3, .int x), (4, .int (nI i_w))]) hx hb_w dX2_only_86 hl (by decide) rfl (fun ls hl => ?_)
              refine lv_iload hx hb_w dX2_only_88 (lv_at hl 0 rfl) ?_
              refine lv_if_eq (tgt := 100) hx hb_w dX2_only_90 (by decide) (fun c90 => ?_) (fun c90 => ?_)
              · refine lv_iload_n hx hb_w dX2_only_100 rfl (lv_at hl 4 rfl) ?_
                refine lv_iload hx hb_w dX2_only_101 (lv_at hl 0 rfl) ?_
                refine lv_if_eq (tgt := 110) hx hb_w dX2_only_103 (by decide) (fun c103 => ?_) (fun c103 => ?_)
                · refine lv_iconst (v := 0) hx hb_w dX2_only_110 (by decide) ?_
                  refine lv_isub hx hb_w dX2_only_111 ?_
                  refine lv_istore_n (lv' := [(3, .int (x - 0)), (5, .int 0), (0, .ref (a_w 0)), (1, .int p0_w), (2, .int p1_w), (4, .int (nI i_w))]) hx hb_w dX2_only_112 rfl hl (by decide) rfl (fun ls hl => ?_)
                  refine lv_iinc (v := nI (i_w + 1)) (lv' := [(4, .int (nI (i_w + 1))), (3, .int (x - 0)), (5, .int 0), (0, .ref (a_w 0)), (1, .int p0_w), (2, .int p1_w)]) hx hb_w dX2_only_113 hl (k := 5) rfl (nI_1 _) (by decide) rfl (fun ls hl => ?_)
                  refine lv_goto (tgt := 23) hx hb_w dX2_only_116 (by decide) ?_
                  exact ih23 (i_w + 1) sN_w (x - 0) (by omega) (by omega) (by rw [sub0]; exact ex_w) (by rw [← hq, scan_step hi2, if_neg (by rw [show onB g_w f_w p0_w i_w = false from (by unfold onB thB; rw [if_pos c32_w, decide_eq_false c69, ← hereI_nI hi2, c78]; rfl)]; decide)]) _ _ hP hS_w _ (lv_sub hl [3, 4, 5, 1, 0] rfl)
                exact absurd rfl c103
              exact absurd rfl c90
            replace c78 := bI0 c78
            refine lv_iconst (v := 1) hx hb_w dX2_only_81 (by decide) ?_
            refine lv_goto (tgt := 86) hx hb_w dX2_only_82 (by decide) ?_
            refine lv_istore (lv' := [(5, .int 1), (0, .ref (a_w 0)), (1, .int p0_w), (2, .int p1_w), (3, .int x), (4, .int (nI i_w))]) hx hb_w dX2_only_86 hl (by decide) rfl (fun ls hl => ?_)
            refine lv_iload hx hb_w dX2_only_88 (lv_at hl 0 rfl) ?_
            refine lv_if_eq (tgt := 100) hx hb_w dX2_only_90 (by decide) (fun c90 => ?_) (fun c90 => ?_)
            · exact absurd c90 (by decide)
            refine lv_iload_n hx hb_w dX2_only_93 rfl (lv_at hl 4 rfl) ?_
            refine lv_if_ne (tgt := 100) hx hb_w dX2_only_94 (by decide) (fun c94 => ?_) (fun c94 => ?_)
            · refine lv_iload_n hx hb_w dX2_only_100 rfl (lv_at hl 4 rfl) ?_
              refine lv_iload hx hb_w dX2_only_101 (lv_at hl 0 rfl) ?_
              refine lv_if_eq (tgt := 110) hx hb_w dX2_only_103 (by decide) (fun c103 => ?_) (fun c103 => ?_)
              · exact absurd c103 (by decide)
              refine lv_iconst (v := 1) hx hb_w dX2_only_106 (by decide) ?_
              refine lv_goto (tgt := 111) hx hb_w dX2_only_107 (by decide) ?_
              refine lv_isub hx hb_w dX2_only_111 ?_
              refine lv_istore_n (lv' := [(3, .int (x - 1)), (5, .int 1), (0, .ref (a_w 0)), (1, .int p0_w), (2, .int p1_w), (4, .int (nI i_w))]) hx hb_w dX2_only_112 rfl hl (by decide) rfl (fun ls hl => ?_)
              refine lv_iinc (v := nI (i_w + 1)) (lv' := [(4, .int (nI (i_w + 1))), (3, .int (x - 1)), (5, .int 1), (0, .ref (a_w 0)), (1, .int p0_w), (2, .int p1_w)]) hx hb_w dX2_only_113 hl (k := 5) rfl (nI_1 _) (by decide) rfl (fun ls hl => ?_)
              refine lv_goto (tgt := 23) hx hb_w dX2_only_116 (by decide) ?_
              exact ih23 (i_w + 1) (sN_w + 1) (x - 1) (by omega) (by omega) (by rw [ex_w]; exact left_s) (by rw [← hq, scan_step hi2, if_pos (by unfold onB thB; rw [if_pos c32_w, decide_eq_false c69, ← hereI_nI hi2, c78]; rfl), if_neg (fun q_w => c94 (by rw [ex_w]; exact left_0.mpr q_w))]) _ _ hP hS_w _ (lv_sub hl [3, 4, 5, 1, 0] rfl)
            refine lv_iload hx hb_w dX2_only_97 (lv_at hl 5 rfl) ?_
            exact hret (nI i_w) (g_w, f_w, 0) _ _ _ _ dX2_only_99 rfl hP hS_w ⟨by rw [if_pos c2_w, ← hq, scan_step hi2, if_pos (by unfold onB thB; rw [if_pos c32_w, decide_eq_false c69, ← hereI_nI hi2, c78]; rfl), if_pos (left_0.mp (by rw [← ex_w]; exact c94))], by rw [if_pos c2_w]⟩
          refine lv_aload_n hx hb_w dX2_only_35 rfl (lv_at hl 0 rfl) ?_
          refine lv_iload hx hb_w dX2_only_36 (lv_at hl 4 rfl) ?_
          refine rdr_V (As := [.int (nI i_w)]) (rest := []) ⟨hx, hb_w, hml, hown, hts⟩ (kX2_isHere l G_w a_w cI cZ g_w f_w 0 (nI i_w) hNN) (cwV 1 hts gX2_only_X2_isHere rfl rfl rfl (by decide +kernel) ⟨Nat.le_of_ble_eq_true rfl, Nat.le_of_ble_eq_true rfl⟩) (va_recv hK_w hP (ci := 2) (q0 := 0) rfl rfl) hP hK_w rfl hl.1 rfl (Nat.le_of_ble_eq_true rfl) dX2_only_38 (by decide) (fun r38 h38 => ?_)
          replace h38 : r38 = bI (hereI g_w f_w (nI i_w)) := h38
          subst h38
          refine lv_if_eq (tgt := 58) hx hb_w dX2_only_41 (by decide) (fun c41 => ?_) (fun c41 => ?_)
          · replace c41 := bI0 c41
            refine lv_iconst (v := 0) hx hb_w dX2_only_58 (by decide) ?_
            refine lv_goto (tgt := 86) hx hb_w dX2_only_59 (by decide) ?_
            refine lv_istore (lv' := [(5, .int 0), (0, .ref (a_w 0)), (1, .int p0_w), (2, .int p1_w), (3, .int x), (4, .int (nI i_w))]) hx hb_w dX2_only_86 hl (by decide) rfl (fun ls hl => ?_)
            refine lv_iload hx hb_w dX2_only_88 (lv_at hl 0 rfl) ?_
            refine lv_if_eq (tgt := 100) hx hb_w dX2_only_90 (by decide) (fun c90 => ?_) (fun c90 => ?_)
            · refine lv_iload_n hx hb_w dX2_only_100 rfl (lv_at hl 4 rfl) ?_
              refine lv_iload hx hb_w dX2_only_101 (lv_at hl 0 rfl) ?_
              refine lv_if_eq (tgt := 110) hx hb_w dX2_only_103 (by decide) (fun c103 => ?_) (fun c103 => ?_)
              · refine lv_iconst (v := 0) hx hb_w dX2_only_110 (by decide) ?_
                refine lv_isub hx hb_w dX2_only_111 ?_
                refine lv_istore_n (lv' := [(3, .int (x - 0)), (5, .int 0), (0, .ref (a_w 0)), (1, .int p0_w), (2, .int p1_w), (4, .int (nI i_w))]) hx hb_w dX2_only_112 rfl hl (by decide) rfl (fun ls hl => ?_)
                refine lv_iinc (v := nI (i_w + 1)) (lv' := [(4, .int (nI (i_w + 1))), (3, .int (x - 0)), (5, .int 0), (0, .ref (a_w 0)), (1, .int p0_w), (2, .int p1_w)]) hx hb_w dX2_only_113 hl (k := 5) rfl (nI_1 _) (by decide) rfl (fun ls hl => ?_)
                refine lv_goto (tgt := 23) hx hb_w dX2_only_116 (by decide) ?_
                exact ih23 (i_w + 1) sN_w (x - 0) (by omega) (by omega) (by rw [sub0]; exact ex_w) (by rw [← hq, scan_step hi2, if_neg (by rw [show onB g_w f_w p0_w i_w = false from (by unfold onB thB; rw [if_neg c32_w, ← hereI_nI hi2, c41]; rfl)]; decide)]) _ _ hP hS_w _ (lv_sub hl [3, 4, 5, 1, 0] rfl)
              exact absurd rfl c103
            exact absurd rfl c90
          replace c41 := bIn c41
          refine lv_aload_n hx hb_w dX2_only_44 rfl (lv_at hl 0 rfl) ?_
          refine mget (index := 39) (v := .ref (a_w 5)) hx hb_w hts hinX2 hown hK_w hP 12 (by decide) (List.mem_of_getElem? (i := 1) rfl) rfl dX2_only_45 ?_
          refine lv_iload hx hb_w dX2_only_48 (lv_at hl 4 rfl) ?_
          refine arZ (j := i_w) (h := (f_w 4)) hx hb_w hK_w hP 5 rfl rfl hi2 dX2_only_50 ?_
          refine lv_if_ne (tgt := 58) hx hb_w dX2_only_51 (by decide) (fun c51_w => ?_) (fun c51_w => ?_)
          · refine lv_iconst (v := 0) hx hb_w dX2_only_58 (by decide) ?_
            refine lv_goto (tgt := 86) hx hb_w dX2_only_59 (by decide) ?_
            refine lv_istore (lv' := [(5, .int 0), (0, .ref (a_w 0)), (1, .int p0_w), (2, .int p1_w), (3, .int x), (4, .int (nI i_w))]) hx hb_w dX2_only_86 hl (by decide) rfl (fun ls hl => ?_)
            refine lv_iload hx hb_w dX2_only_88 (lv_at hl 0 rfl) ?_
            refine lv_if_eq (tgt := 100) hx hb_w dX2_only_90 (by decide) (fun c90 => ?_) (fun c90 => ?_)
            · refine lv_iload_n hx hb_w dX2_only_100 rfl (lv_at hl 4 rfl) ?_
              refine lv_iload hx hb_w dX2_only_101 (lv_at hl 0 rfl) ?_
              refine lv_if_eq (tgt := 110) hx hb_w dX2_only_103 (by decide) (fun c103 => ?_) (fun c103 => ?_)
              · refine lv_iconst (v := 0) hx hb_w dX2_only_110 (by decide) ?_
                refine lv_isub hx hb_w dX2_only_111 ?_
                refine lv_istore_n (lv' := [(3, .int (x - 0)), (5, .int 0), (0, .ref (a_w 0)), (1, .int p0_w), (2, .int p1_w), (4, .int (nI i_w))]) hx hb_w dX2_only_112 rfl hl (by decide) rfl (fun ls hl => ?_)
                refine lv_iinc (v := nI (i_w + 1)) (lv' := [(4, .int (nI (i_w + 1))), (3, .int (x - 0)), (5, .int 0), (0, .ref (a_w 0)), (1, .int p0_w), (2, .int p1_w)]) hx hb_w dX2_only_113 hl (k := 5) rfl (nI_1 _) (by decide) rfl (fun ls hl => ?_)
                refine lv_goto (tgt := 23) hx hb_w dX2_only_116 (by decide) ?_
                exact ih23 (i_w + 1) sN_w (x - 0) (by omega) (by omega) (by rw [sub0]; exact ex_w) (by rw [← hq, scan_step hi2, if_neg (by rw [show onB g_w f_w p0_w i_w = false from (by unfold onB thB; rw [if_neg c32_w, ← hereI_nI hi2, c41, decide_eq_false c51_w]; rfl)]; decide)]) _ _ hP hS_w _ (lv_sub hl [3, 4, 5, 1, 0] rfl)
              exact absurd rfl c103
            exact absurd rfl c90
          refine lv_iconst (v := 1) hx hb_w dX2_only_54 (by decide) ?_
          refine lv_goto (tgt := 86) hx hb_w dX2_only_55 (by decide) ?_
          refine lv_istore (lv' := [(5, .int 1), (0, .ref (a_w 0)), (1, .int p0_w), (2, .int p1_w), (3, .int x), (4, .int (nI i_w))]) hx hb_w dX2_only_86 hl (by decide) rfl (fun ls hl => ?_)
          refine lv_iload hx hb_w dX2_only_88 (lv_at hl 0 rfl) ?_
          refine lv_if_eq (tgt := 100) hx hb_w dX2_only_90 (by decide) (fun c90 => ?_) (fun c90 => ?_)
          · exact absurd c90 (by decide)
          refine lv_iload_n hx hb_w dX2_only_93 rfl (lv_at hl 4 rfl) ?_
          refine lv_if_ne (tgt := 100) hx hb_w dX2_only_94 (by decide) (fun c94 => ?_) (fun c94 => ?_)
          · refine lv_iload_n hx hb_w dX2_only_100 rfl (lv_at hl 4 rfl) ?_
            refine lv_iload hx hb_w dX2_only_101 (lv_at hl 0 rfl) ?_
            refine lv_if_eq (tgt := 110) hx hb_w dX2_only_103 (by decide) (fun c103 => ?_) (fun c103 => ?_)
            · exact absurd c103 (by decide)
            refine lv_iconst (v := 1) hx hb_w dX2_only_106 (by decide) ?_
            refine lv_goto (tgt := 111) hx hb_w dX2_only_107 (by decide) ?_
            refine lv_isub hx hb_w dX2_only_111 ?_
            refine lv_istore_n (lv' := [(3, .int (x - 1)), (5, .int 1), (0, .ref (a_w 0)), (1, .int p0_w), (2, .int p1_w), (4, .int (nI i_w))]) hx hb_w dX2_only_112 rfl hl (by decide) rfl (fun ls hl => ?_)
            refine lv_iinc (v := nI (i_w + 1)) (lv' := [(4, .int (nI (i_w + 1))), (3, .int (x - 1)), (5, .int 1), (0, .ref (a_w 0)), (1, .int p0_w), (2, .int p1_w)]) hx hb_w dX2_only_113 hl (k := 5) rfl (nI_1 _) (by decide) rfl (fun ls hl => ?_)
            refine lv_goto (tgt := 23) hx hb_w dX2_only_116 (by decide) ?_
            exact ih23 (i_w + 1) (sN_w + 1) (x - 1) (by omega) (by omega) (by rw [ex_w]; exact left_s) (by rw [← hq, scan_step hi2, if_pos (by unfold onB thB; rw [if_neg c32_w, ← hereI_nI hi2, c41, decide_eq_true c51_w]; rfl), if_neg (fun q_w => c94 (by rw [ex_w]; exact left_0.mpr q_w))]) _ _ hP hS_w _ (lv_sub hl [3, 4, 5, 1, 0] rfl)
          refine lv_iload hx hb_w dX2_only_97 (lv_at hl 5 rfl) ?_
          exact hret (nI i_w) (g_w, f_w, 0) _ _ _ _ dX2_only_99 rfl hP hS_w ⟨by rw [if_pos c2_w, ← hq, scan_step hi2, if_pos (by unfold onB thB; rw [if_neg c32_w, ← hereI_nI hi2, c41, decide_eq_true c51_w]; rfl), if_pos (left_0.mp (by rw [← ex_w]; exact c94))], by rw [if_pos c2_w]⟩
      exact loop23 201 0 0 p1_w (by omega) (by omega) (sub0 p1_w).symm rfl _ _ hP hS_w _ (lv_sub hl [2, 3, 4, 1, 0] rfl)
    replace c13_w := bI0 c13_w
    exact absurd c13_w (by decide)
  refine lv_iconst (v := 1) hx hb_w dX2_only_5 (by decide) ?_
  refine lv_goto (tgt := 10) hx hb_w dX2_only_6 (by decide) ?_
  refine wri_V (As := [.int 1]) (rest := []) ⟨hx, hb_w, hml, hown, hts⟩ (kX2_can l G_w a_w cI cZ g_w f_w tc_w hap _ 1 ) (cwV 1 hts gX2_only_X2_can rfl rfl rfl (by decide +kernel) ⟨Nat.le_of_ble_eq_true rfl, Nat.le_of_ble_eq_true rfl⟩) (va_recv hK_w hP (ci := 2) (q0 := 0) rfl rfl) hP hK_w hS_w rfl hl.1 rfl (Nat.le_of_ble_eq_true rfl) dX2_only_10 (by decide) (fun r10 u10 H locs_w h10 hP hS_w => ?_)
  obtain ⟨h10_1, h10_2⟩ := h10
  replace h10_1 : r10 = bI false := h10_1.trans (by decide)
  subst h10_1
  subst h10_2
  have hP : va_P G_w vwCl (wM a_w cI cZ g_w f_w 1) H := hP
  refine lv_if_ne (tgt := 18) hx hb_w dX2_only_13 (by decide) (fun c13_w => ?_) (fun c13_w => ?_)
  · replace c13_w := bIn c13_w
    exact absurd c13_w (by decide)
  replace c13_w := bI0 c13_w
  refine lv_iconst (v := 0) hx hb_w dX2_only_16 (by decide) ?_
  exact hret 0 (g_w, f_w, 1) _ _ _ _ dX2_only_17 rfl hP hS_w ⟨by rw [if_neg c2_w], by rw [if_neg c2_w]⟩
