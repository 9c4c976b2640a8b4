set_option maxHeartbeats 4000000 in
set_option maxRecDepth 100000 in
theorem kX2_late (l : Launch) (G_w : va_G) (a_w : Nat → Nat) (cI cZ : ClassId) (g_w : Nat → Int32) (f_w : Nat → Nat → Int32) (tc_w : Int32) (hap : apart a_w 6) (sz_w : Nat) (hNN : NN g_w): wri l yX2_late wsX2_late { frames := 1, cells := 0, slots := 0, locals := 21 } G_w (wM a_w cI cZ g_w f_w tc_w) (tyIZ cI cZ) (aS a_w 6 sz_w) sz_w [.ref (a_w 0)] (fun r_w u_w => r_w = nI (cnt (lateB g_w f_w) 200) ∧ u_w = (g_w, f_w, 0)) (wfM a_w cI cZ) := by
  obtain ⟨N_w, hN_w, hN1, hN2⟩ := hNN
  refine wri_of (cc := cX2_late) (nL := 3) (ty := .int) (by decide) rfl (Nat.le_of_ble_eq_true rfl) ?_
  intro p_w e_w s_w m_w args_w below meth_w c_w H locs_w ls Q hx hb_w hml hown hts hP hK_w hS_w hret hl
  have hl : lv_has ls 3 [(0, .ref (a_w 0))] := hl
  have hinX2 : ∀ w_w ∈ wsX20, w_w ∈ wsX2_late := by decide +kernel
  refine lv_aload_n hx hb_w dX2_late_0 rfl (lv_at hl 0 rfl) ?_
  refine lv_iconst (v := 0) hx hb_w dX2_late_1 (by decide) ?_
  refine mput (index := 49) (v := .int 0) g_w 0 hx hb_w hts hinX2 hown hK_w hP hap hS_w 17 (by decide) (List.mem_of_getElem? (i := 1) rfl) rfl rfl rfl rfl dX2_late_2 (fun H locs_w hP hS_w => ?_)
  refine lv_iconst (v := 0) hx hb_w dX2_late_5 (by decide) ?_
  refine lv_istore_n (lv' := [(1, .int 0), (0, .ref (a_w 0))]) hx hb_w dX2_late_6 rfl hl (by decide) rfl (fun ls hl => ?_)
  refine lv_iconst (v := 0) hx hb_w dX2_late_7 (by decide) ?_
  refine lv_istore_n (lv' := [(2, .int 0), (1, .int 0), (0, .ref (a_w 0))]) hx hb_w dX2_late_8 rfl hl (by decide) rfl (fun ls hl => ?_)
  have loop9 : ∀ (n_w : Nat) (i_w : Nat) (x : Int32), i_w ≤ N_w → N_w - i_w < n_w → x = nI (cnt (lateB g_w f_w) i_w) → ∀ (H : Heap) (locs_w : List Loc), va_P G_w vwCl (wM a_w cI cZ g_w f_w 0) H → va_S (aS a_w 6 s_w.heap.size) s_w.heap H locs_w → ∀ (ls : Array Slot), lv_has ls 3 [(0, .ref (a_w 0)), (1, .int x), (2, .int (nI i_w))] → W p_w l e_w { frames := 1, cells := 0, slots := 0, locals := 21 } s_w m_w args_w below meth_w c_w H locs_w 0 0 Q (F0 m_w 9 ls []) := by
    intro n_w
    induction n_w with
    | zero => intro i_w x hi_w hn ex_w; intros; exact absurd hn (Nat.not_lt_zero _)
    | succ n_w ih9 =>
      intro i_w x hi_w hn ex_w H locs_w hP hS_w ls hl
      refine lv_iload_n hx hb_w dX2_late_9 rfl (lv_at hl 2 rfl) ?_
      refine lv_aload_n hx hb_w dX2_late_10 rfl (lv_at hl 0 rfl) ?_
      refine mget (index := 46) (v := .int (g_w 7)) hx hb_w hts hinX2 hown hK_w hP 7 (by decide) (List.mem_of_getElem? (i := 2) rfl) rfl dX2_late_11 ?_
      refine lv_icmp_ge (tgt := 39) hx hb_w dX2_late_14 (by decide) (fun c14_w => ?_) (fun c14_w => ?_)
      · have ei : i_w = N_w := by rw [hN_w] at c14_w; have := le_nI (a := N_w) (b := i_w) (by omega) (by omega) c14_w; omega
        refine lv_iload_n hx hb_w dX2_late_39 rfl (lv_at hl 1 rfl) ?_
        exact hret x (g_w, f_w, 0) _ _ _ _ dX2_late_40 rfl hP hS_w ⟨by rw [ex_w, ei]; exact congrArg nI (cnt_200 hN2 (fun k_w h1 h2 => lateB_out (by rw [hN_w]; exact nI_le h1 (by omega)))).symm, rfl⟩
      have hi2 : i_w < N_w := by rw [hN_w] at c14_w; exact nle_nI (by omega) (by omega) c14_w
      have hnf : ¬ g_w 7 ≤ nI i_w := c14_w
      refine lv_iload_n hx hb_w dX2_late_17 rfl (lv_at hl 1 rfl) ?_
      refine lv_aload_n hx hb_w dX2_late_18 rfl (lv_at hl 0 rfl) ?_
      refine lv_iload_n hx hb_w dX2_late_19 rfl (lv_at hl 2 rfl) ?_
      refine rdr_V (As := [.int (nI i_w)]) (rest := [.int x]) ⟨hx, hb_w, hml, hown, hts⟩ (kX2_isLate l G_w a_w cI cZ g_w f_w 0 i_w (by omega)) (cwV 1 hts gX2_late_X2_isLate rfl rfl rfl (by decide +kernel) ⟨Nat.le_of_ble_eq_true rfl, Nat.le_of_ble_eq_true rfl⟩) (va_recv hK_w hP (ci := 2) (q0 := 0) rfl rfl) hP hK_w rfl hl.1 rfl (Nat.le_of_ble_eq_true rfl) dX2_late_20 (by decide) (fun r20 h20 => ?_)
      replace h20 : r20 = bI (lateM g_w f_w i_w) := h20
      subst h20
      refine lv_if_eq (tgt := 30) hx hb_w dX2_late_23 (by decide) (fun c23_w => ?_) (fun c23_w => ?_)
      · replace c23_w := bI0 c23_w
        refine lv_iconst (v := 0) hx hb_w dX2_late_30 (by decide) ?_
        refine lv_iadd hx hb_w dX2_late_31 ?_
        refine lv_istore_n (lv' := [(1, .int (x + 0)), (0, .ref (a_w 0)), (2, .int (nI i_w))]) hx hb_w dX2_late_32 rfl hl (by decide) rfl (fun ls hl => ?_)
        refine lv_iinc (v := nI (i_w + 1)) (lv' := [(2, .int (nI (i_w + 1))), (1, .int (x + 0)), (0, .ref (a_w 0))]) hx hb_w dX2_late_33 hl (k := 2) rfl (nI_1 _) (by decide) rfl (fun ls hl => ?_)
        refine lv_goto (tgt := 9) hx hb_w dX2_late_36 (by decide) ?_
        exact ih9 (i_w + 1) (x + 0) (by omega) (by omega) (by rw [cnt_f ((lateB_in hnf).trans c23_w), Int32.add_zero]; exact ex_w) _ _ hP hS_w _ (lv_sub hl [2, 1, 0] rfl)
      replace c23_w := bIn c23_w
      refine lv_iconst (v := 1) hx hb_w dX2_late_26 (by decide) ?_
      refine lv_goto (tgt := 31) hx hb_w dX2_late_27 (by decide) ?_
      refine lv_iadd hx hb_w dX2_late_31 ?_
      refine lv_istore_n (lv' := [(1, .int (x + 1)), (0, .ref (a_w 0)), (2, .int (nI i_w))]) hx hb_w dX2_late_32 rfl hl (by decide) rfl (fun ls hl => ?_)
      refine lv_iinc (v := nI (i_w + 1)) (lv' := [(2, .int (nI (i_w + 1))), (1, .int (x + 1)), (0, .ref (a_w 0))]) hx hb_w dX2_late_33 hl (k := 2) rfl (nI_1 _) (by decide) rfl (fun ls hl => ?_)
      refine lv_goto (tgt := 9) hx hb_w dX2_late_36 (by decide) ?_
      exact ih9 (i_w + 1) (x + 1) (by omega) (by omega) (by rw [cnt_t ((lateB_in hnf).trans c23_w), ex_w]; exact nI_1 _) _ _ hP hS_w _ (lv_sub hl [2, 1, 0] rfl)
  exact loop9 (N_w + 1) 0 0 (by omega) (by omega) rfl _ _ hP hS_w _ (lv_sub hl [2, 1, 0] rfl)
set_option maxHeartbeats 4000000 in
set_option maxRecDepth 100000 in
theorem kX2_allRanges (l : Launch) (G_w : va_G) (a_w : Nat → Nat) (cI cZ : ClassId) (g_w : Nat → Int32) (f_w : Nat → Nat → Int32) (tc_w : Int32) (hNN : NN g_w): rdr l yX2_allRanges wsX2_allRanges { frames := 3, cells := 0, slots := 0, locals := 64 } G_w (wM a_w cI cZ g_w f_w tc_w) (tyIZ cI cZ) [.ref (a_w 0)] (fun r_w => r_w = nI (cnt (rsB g_w f_w) 200)) := by
  obtain ⟨N_w, hN_w, hN1, hN2⟩ := id hNN
  refine rdr_of (cc := cX2_allRanges) (nL := 3) (ty := .int) (by decide) rfl (Nat.le_of_ble_eq_true rfl) ?_
  intro p_w e_w s_w m_w args_w below meth_w c_w H ls Q hx hb_w hml hown hts hP hK_w hret hl
  have hl : lv_has ls 3 [(0, .ref (a_w 0))] := hl
  have hinX2 : ∀ w_w ∈ wsX20, w_w ∈ wsX2_allRanges := by decide +kernel
  refine lv_iconst (v := 0) hx hb_w dX2_allRanges_0 (by decide) ?_
  refine lv_istore_n (lv' := [(1, .int 0), (0, .ref (a_w 0))]) hx hb_w dX2_allRanges_1 rfl hl (by decide) rfl (fun ls hl => ?_)
  refine lv_iconst (v := 0) hx hb_w dX2_allRanges_2 (by decide) ?_
  refine lv_istore_n (lv' := [(2, .int 0), (1, .int 0), (0, .ref (a_w 0))]) hx hb_w dX2_allRanges_3 rfl hl (by decide) rfl (fun ls hl => ?_)
  have loop4 : ∀ (n_w : Nat) (i_w : Nat) (x : Int32), i_w ≤ N_w → N_w - i_w < n_w → x = nI (cnt (rsB g_w f_w) i_w) → ∀ (ls : Array Slot), lv_has ls 3 [(0, .ref (a_w 0)), (1, .int x), (2, .int (nI i_w))] → W p_w l e_w { frames := 3, cells := 0, slots := 0, locals := 64 } s_w m_w args_w below meth_w c_w H [] 0 0 Q (F0 m_w 4 ls []) := by
    intro n_w
    induction n_w with
    | zero => intro i_w x hi_w hn ex_w; intros; exact absurd hn (Nat.not_lt_zero _)
    | succ n_w ih4 =>
      intro i_w x hi_w hn ex_w ls hl
      refine lv_iload_n hx hb_w dX2_allRanges_4 rfl (lv_at hl 2 rfl) ?_
      refine lv_aload_n hx hb_w dX2_allRanges_5 rfl (lv_at hl 0 rfl) ?_
      refine mget (index := 46) (v := .int (g_w 7)) hx hb_w hts hinX2 hown hK_w hP 7 (by decide) (List.mem_of_getElem? (i := 1) rfl) rfl dX2_allRanges_6 ?_
      refine lv_icmp_ge (tgt := 44) hx hb_w dX2_allRanges_9 (by decide) (fun c9_w => ?_) (fun c9_w => ?_)
      · have ei : i_w = N_w := by rw [hN_w] at c9_w; have := le_nI (a := N_w) (b := i_w) (by omega) (by omega) c9_w; omega
        refine lv_iload_n hx hb_w dX2_allRanges_44 rfl (lv_at hl 1 rfl) ?_
        exact hret x _ _ dX2_allRanges_45 rfl (by rw [ex_w, ei]; exact congrArg nI (cnt_200 hN2 (fun k_w h1 h2 => rsB_out (by rw [hN_w]; exact nI_le h1 (by omega)))).symm)
      have hi2 : i_w < N_w := by rw [hN_w] at c9_w; exact nle_nI (by omega) (by omega) c9_w
      have hnf : ¬ g_w 7 ≤ nI i_w := c9_w
      refine lv_iload_n hx hb_w dX2_allRanges_12 rfl (lv_at hl 1 rfl) ?_
      refine lv_aload_n hx hb_w dX2_allRanges_13 rfl (lv_at hl 0 rfl) ?_
      refine lv_iload_n hx hb_w dX2_allRanges_14 rfl (lv_at hl 2 rfl) ?_
      refine rdr_V (As := [.int (nI i_w)]) (rest := [.int x]) ⟨hx, hb_w, hml, hown, hts⟩ (kX2_isHere l G_w a_w cI cZ g_w f_w tc_w (nI i_w) hNN) (cwV 1 hts gX2_allRanges_X2_isHere rfl rfl rfl (by decide +kernel) ⟨Nat.le_of_ble_eq_true rfl, Nat.le_of_ble_eq_true rfl⟩) (va_recv hK_w hP (ci := 2) (q0 := 0) rfl rfl) hP hK_w rfl hl.1 rfl (Nat.le_of_ble_eq_true rfl) dX2_allRanges_15 (by decide) (fun r15 h15 => ?_)
      replace h15 : r15 = bI (hereI g_w f_w (nI i_w)) := h15
      subst h15
      refine lv_if_eq (tgt := 35) hx hb_w dX2_allRanges_18 (by decide) (fun c18_w => ?_) (fun c18_w => ?_)
      · replace c18_w := bI0 c18_w
        refine lv_iconst (v := 0) hx hb_w dX2_allRanges_35 (by decide) ?_
        refine lv_iadd hx hb_w dX2_allRanges_36 ?_
        refine lv_istore_n (lv' := [(1, .int (x + 0)), (0, .ref (a_w 0)), (2, .int (nI i_w))]) hx hb_w dX2_allRanges_37 rfl hl (by decide) rfl (fun ls hl => ?_)
        refine lv_iinc (v := nI (i_w + 1)) (lv' := [(2, .int (nI (i_w + 1))), (1, .int (x + 0)), (0, .ref (a_w 0))]) hx hb_w dX2_allRanges_38 hl (k := 2) rfl (nI_1 _) (by decide) rfl (fun ls hl => ?_)
        refine lv_goto (tgt := 4) hx hb_w dX2_allRanges_41 (by decide) ?_
        exact ih4 (i_w + 1) (x + 0) (by omega) (by omega) (by rw [cnt_f (by unfold rsB; rw [← hereI_nI (show i_w < 200 by omega), c18_w]; rfl), Int32.add_zero]; exact ex_w) _ (lv_sub hl [2, 1, 0] rfl)
      replace c18_w := bIn c18_w
      refine lv_aload_n hx hb_w dX2_allRanges_21 rfl (lv_at hl 0 rfl) ?_
      refine lv_iload_n hx hb_w dX2_allRanges_22 rfl (lv_at hl 2 rfl) ?_
      refine lv_iconst (v := 1) hx hb_w dX2_allRanges_23 (by decide) ?_
      refine lv_isub hx hb_w dX2_allRanges_24 ?_
      refine rdr_V (As := [.int ((nI i_w) - 1)]) (rest := [.int x]) ⟨hx, hb_w, hml, hown, hts⟩ (kX2_isHere l G_w a_w cI cZ g_w f_w tc_w ((nI i_w) - 1) hNN) (cwV 1 hts gX2_allRanges_X2_isHere rfl rfl rfl (by decide +kernel) ⟨Nat.le_of_ble_eq_true rfl, Nat.le_of_ble_eq_true rfl⟩) (va_recv hK_w hP (ci := 2) (q0 := 0) rfl rfl) hP hK_w rfl hl.1 rfl (Nat.le_of_ble_eq_true rfl) dX2_allRanges_25 (by decide) (fun r25 h25 => ?_)
      replace h25 : r25 = bI (hereI g_w f_w ((nI i_w) - 1)) := h25
      subst h25
      refine lv_if_ne (tgt := 35) hx hb_w dX2_allRanges_28 (by decide) (fun c28_w => ?_) (fun c28_w => ?_)
      · replace c28_w := bIn c28_w
        refine lv_iconst (v := 0) hx hb_w dX2_allRanges_35 (by decide) ?_
        refine lv_iadd hx hb_w dX2_allRanges_36 ?_
        refine lv_istore_n (lv' := [(1, .int (x + 0)), (0, .ref (a_w 0)), (2, .int (nI i_w))]) hx hb_w dX2_allRanges_37 rfl hl (by decide) rfl (fun ls hl => ?_)
        refine lv_iinc (v := nI (i_w + 1)) (lv' := [(2, .int (nI (i_w + 1))), (1, .int (x + 0)), (0, .ref (a_w 0))]) hx hb_w dX2_allRanges_38 hl (k := 2) rfl (nI_1 _) (by decide) rfl (fun ls hl => ?_)
        refine lv_goto (tgt := 4) hx hb_w dX2_allRanges_41 (by decide) ?_
        exact ih4 (i_w + 1) (x + 0) (by omega) (by omega) (by rw [cnt_f (by unfold rsB; rw [← hereI_nI (show i_w < 200 by omega), c18_w, c28_w]; rfl), Int32.add_zero]; exact ex_w) _ (lv_sub hl [2, 1, 0] rfl)
      replace c28_w := bI0 c28_w
      refine lv_iconst (v := 1) hx hb_w dX2_allRanges_31 (by decide) ?_
      refine lv_goto (tgt := 36) hx hb_w dX2_allRanges_32 (by decide) ?_
      refine lv_iadd hx hb_w dX2_allRanges_36 ?_
      refine lv_istore_n (lv' := [(1, .int (x + 1)), (0, .ref (a_w 0)), (2, .int (nI i_w))]) hx hb_w dX2_allRanges_37 rfl hl (by decide) rfl (fun ls hl => ?_)
      refine lv_iinc (v := nI (i_w + 1)) (lv' := [(2, .int (nI (i_w + 1))), (1, .int (x + 1)), (0, .ref (a_w 0))]) hx hb_w dX2_allRanges_38 hl (k := 2) rfl (nI_1 _) (by decide) rfl (fun ls hl => ?_)
      refine lv_goto (tgt := 4) hx hb_w dX2_allRanges_41 (by decide) ?_
      exact ih4 (i_w + 1) (x + 1) (by omega) (by omega) (by rw [cnt_t (by unfold rsB; rw [← hereI_nI (show i_w < 200 by omega), c18_w, c28_w]; rfl), ex_w]; exact nI_1 _) _ (lv_sub hl [2, 1, 0] rfl)
  exact loop4 (N_w + 1) 0 0 (by omega) (by omega) rfl _ (lv_sub hl [2, 1, 0] rfl)
set_option maxHeartbeats 4000000 in
set_option maxRecDepth 100000 in
theorem kX2_ranges (l : Launch) (G_w : va_G) (a_w : Nat → Nat) (cI cZ : ClassId) (g_w : Nat → Int32) (f_w : Nat → Nat → Int32) (tc_w : Int32) (hap : apart a_w 6) (sz_w : Nat) (hNN : NN g_w): wri l yX2_ranges wsX2_ranges { frames := 4, cells := 0, slots := 0, locals := 86 } G_w (wM a_w cI cZ g_w f_w tc_w) (tyIZ cI cZ) (aS a_w 6 sz_w) sz_w [.ref (a_w 0)] (fun r_w u_w => r_w = nI (cnt (rsB g_w f_w) 200) ∧ u_w = (g_w, f_w, 0)) (wfM a_w cI cZ) := by
  refine wri_of (cc := cX2_ranges) (nL := 1) (ty := .int) (by decide) rfl (Nat.le_of_ble_eq_true rfl) ?_
  intro p_w e_w s_w m_w args_w below meth_w c_w H locs_w ls Q hx hb_w hml hown hts hP hK_w hS_w hret hl
  have hl : lv_has ls 1 [(0, .ref (a_w 0))] := hl
  have hinX2 : ∀ w_w ∈ wsX20, w_w ∈ wsX2_ranges := by decide +kernel
  refine lv_aload_n hx hb_w dX2_ranges_0 rfl (lv_at hl 0 rfl) ?_
  refine lv_iconst (v := 0) hx hb_w dX2_ranges_1 (by decide) ?_
  refine mput (index := 49) (v := .int 0) g_w 0 hx hb_w hts hinX2 hown hK_w hP hap hS_w 17 (by decide) (List.mem_of_getElem? (i := 1) rfl) rfl rfl rfl rfl dX2_ranges_2 (fun H locs_w hP hS_w => ?_)
  refine lv_aload_n hx hb_w dX2_ranges_5 rfl (lv_at hl 0 rfl) ?_
  refine rdr_V (As := []) (rest := []) ⟨hx, hb_w, hml, hown, hts⟩ (kX2_allRanges l G_w a_w cI cZ g_w f_w 0  hNN) (cwV 0 hts gX2_ranges_X2_allRanges rfl rfl rfl (by decide +kernel) ⟨Nat.le_of_ble_eq_true rfl, Nat.le_of_ble_eq_true rfl⟩) (va_recv hK_w hP (ci := 2) (q0 := 0) rfl rfl) hP hK_w rfl hl.1 rfl (Nat.le_of_ble_eq_true rfl) dX2_ranges_6 (by decide) (fun r6 h6 => ?_)
  replace h6 : r6 = nI (cnt (rsB g_w f_w) 200) := h6
  subst h6
  exact hret (nI (cnt (rsB g_w f_w) 200)) (g_w, f_w, 0) _ _ _ _ dX2_ranges_9 rfl hP hS_w ⟨rfl, rfl⟩
set_option maxHeartbeats 4000000 in
set_option maxRecDepth 100000 in
theorem kX2_isHeld (l : Launch) (G_w : va_G) (a_w : Nat → Nat) (cI cZ : ClassId) (g_w : Nat → Int32) (f_w : Nat → Nat → Int32) (tc_w : Int32) (hap : apart a_w 6) (sz_w : Nat) (p0_w : Int32) (hNN : NN g_w): wri l yX2_isHeld wsX2_isHeld { frames := 3, cells := 0, slots := 0, locals := 64 } G_w (wM a_w cI cZ g_w f_w tc_w) (tyIZ cI cZ) (aS a_w 6 sz_w) sz_w [.ref (a_w 0), .int p0_w] (fun r_w u_w => r_w = bI (hereI g_w f_w p0_w) ∧ u_w = (g_w, f_w, 0)) (wfM a_w cI cZ) := by
  refine wri_of (cc := cX2_isHeld) (nL := 2) (ty := .boolean) (by decide) rfl (Nat.le_of_ble_eq_true rfl) ?_
  intro p_w e_w s_w m_w args_w below meth_w c_w H locs_w ls Q hx hb_w hml hown hts hP hK_w hS_w hret hl
  have hl : lv_has ls 2 [(0, .ref (a_w 0)), (1, .int p0_w)] := hl
  have hinX2 : ∀ w_w ∈ wsX20, w_w ∈ wsX2_isHeld := by decide +kernel
  refine lv_aload_n hx hb_w dX2_isHeld_0 rfl (lv_at hl 0 rfl) ?_
  refine lv_iconst (v := 0) hx hb_w dX2_isHeld_1 (by decide) ?_
  refine mput (index := 49) (v := .int 0) g_w 0 hx hb_w hts hinX2 hown hK_w hP hap hS_w 17 (by decide) (List.mem_of_getElem? (i := 1) rfl) rfl rfl rfl rfl dX2_isHeld_2 (fun H locs_w hP hS_w => ?_)
  refine lv_aload_n hx hb_w dX2_isHeld_5 rfl (lv_at hl 0 rfl) ?_
  refine lv_iload_n hx hb_w dX2_isHeld_6 rfl (lv_at hl 1 rfl) ?_
  refine rdr_V (As := [.int p0_w]) (rest := []) ⟨hx, hb_w, hml, hown, hts⟩ (kX2_isHere l G_w a_w cI cZ g_w f_w 0 p0_w hNN) (cwV 1 hts gX2_isHeld_X2_isHere rfl rfl rfl (by decide +kernel) ⟨Nat.le_of_ble_eq_true rfl, Nat.le_of_ble_eq_true rfl⟩) (va_recv hK_w hP (ci := 2) (q0 := 0) rfl rfl) hP hK_w rfl hl.1 rfl (Nat.le_of_ble_eq_true rfl) dX2_isHeld_7 (by decide) (fun r7 h7 => ?_)
  replace h7 : r7 = bI (hereI g_w f_w p0_w) := h7
  subst h7
  exact hret (bI (hereI g_w f_w p0_w)) (g_w, f_w, 0) _ _ _ _ dX2_isHeld_10 (bIr _) hP hS_w ⟨rfl, rfl⟩
set_option maxHeartbeats 4000000 in
set_option maxRecDepth 100000 in
theorem kX2_find (l : Launch) (G_w : va_G) (a_w : Nat → Nat) (cI cZ : ClassId) (g_w : Nat → Int32) (f_w : Nat → Nat → Int32) (tc_w : Int32) (hap : apart a_w 6) (sz_w : Nat) (p0_w p1_w : Int32) (hp : inPat g_w): wri l yX2_find wsX2_find { frames := 1, cells := 0, slots := 0, locals := 21 } G_w (wM a_w cI cZ g_w f_w tc_w) (tyIZ cI cZ) (aS a_w 6 sz_w) sz_w [.ref (a_w 0), .int p0_w, .int p1_w] (fun r_w u_w => r_w = lastR (fdB g_w p0_w p1_w) 200 ∧ u_w = (g_w, f_w, 0)) (wfM a_w cI cZ) := by
  refine wri_of (cc := cX2_find) (nL := 5) (ty := .int) (by decide) rfl (Nat.le_of_ble_eq_true rfl) ?_
  intro p_w e_w s_w m_w args_w below meth_w c_w H locs_w ls Q hx hb_w hml hown hts hP hK_w hS_w hret hl
  have hl : lv_has ls 5 [(0, .ref (a_w 0)), (1, .int p0_w), (2, .int p1_w)] := hl
  have hinX2 : ∀ w_w ∈ wsX20, w_w ∈ wsX2_find := by decide +kernel
  refine lv_aload_n hx hb_w dX2_find_0 rfl (lv_at hl 0 rfl) ?_
  refine lv_iconst (v := 0) hx hb_w dX2_find_1 (by decide) ?_
  refine mput (index := 49) (v := .int 0) g_w 0 hx hb_w hts hinX2 hown hK_w hP hap hS_w 17 (by decide) (List.mem_of_getElem? (i := 1) rfl) rfl rfl rfl rfl dX2_find_2 (fun H locs_w hP hS_w => ?_)
  refine lv_iconst (v := (-1)) hx hb_w dX2_find_5 (by decide) ?_
  refine lv_istore_n (lv' := [(3, .int (-1)), (0, .ref (a_w 0)), (1, .int p0_w), (2, .int p1_w)]) hx hb_w dX2_find_6 rfl hl (by decide) rfl (fun ls hl => ?_)
  refine lv_iconst (v := 0) hx hb_w dX2_find_7 (by decide) ?_
  refine lv_istore (lv' := [(4, .int 0), (3, .int (-1)), (0, .ref (a_w 0)), (1, .int p0_w), (2, .int p1_w)]) hx hb_w dX2_find_8 hl (by decide) rfl (fun ls hl => ?_)
  have loop10 : ∀ (n_w : Nat) (i_w : Nat) (x : Int32), i_w ≤ 200 → 200 - i_w < n_w → x = lastR (fdB g_w p0_w p1_w) i_w → ∀ (H : Heap) (locs_w : List Loc), va_P G_w vwCl (wM a_w cI cZ g_w f_w 0) H → va_S (aS a_w 6 s_w.heap.size) s_w.heap H locs_w → ∀ (ls : Array Slot), lv_has ls 5 [(0, .ref (a_w 0)), (1, .int p0_w), (2, .int p1_w), (3, .int x), (4, .int (nI i_w))] → W p_w l e_w { frames := 1, cells := 0, slots := 0, locals := 21 } s_w m_w args_w below meth_w c_w H locs_w 0 0 Q (F0 m_w 10 ls []) := by
    intro n_w
    induction n_w with
    | zero => intro i_w x hi_w hn ex_w; intros; exact absurd hn (Nat.not_lt_zero _)
    | succ n_w ih10 =>
      intro i_w x hi_w hn ex_w H locs_w hP hS_w ls hl
      refine lv_iload hx hb_w dX2_find_10 (lv_at hl 4 rfl) ?_
      refine lv_sipush (v := 200) hx hb_w dX2_find_12 (by decide) ?_
      refine lv_icmp_ge (tgt := 51) hx hb_w dX2_find_15 (by decide) (fun c15_w => ?_) (fun c15_w => ?_)
      · have ei := ge_200 c15_w (by omega)
        refine lv_iload_n hx hb_w dX2_find_51 rfl (lv_at hl 3 rfl) ?_
        exact hret x (g_w, f_w, 0) _ _ _ _ dX2_find_52 rfl hP hS_w ⟨by rw [ex_w, ei], rfl⟩
      have hi2 := nge_200 c15_w (by omega)
      refine lv_aload_n hx hb_w dX2_find_18 rfl (lv_at hl 0 rfl) ?_
      refine lv_iload hx hb_w dX2_find_19 (lv_at hl 4 rfl) ?_
      refine rdr_V (As := [.int (nI i_w)]) (rest := []) ⟨hx, hb_w, hml, hown, hts⟩ (kX2_volume l G_w a_w cI cZ g_w f_w 0 (nI i_w) hp) (cwV 1 hts gX2_find_X2_volume rfl rfl rfl (by decide +kernel) ⟨Nat.le_of_ble_eq_true rfl, Nat.le_of_ble_eq_true rfl⟩) (va_recv hK_w hP (ci := 2) (q0 := 0) rfl rfl) hP hK_w rfl hl.1 rfl (Nat.le_of_ble_eq_true rfl) dX2_find_21 (by decide) (fun r21 h21 => ?_)
      replace h21 : r21 = volD g_w (nI i_w) := h21
      subst h21
      refine lv_iload_n hx hb_w dX2_find_24 rfl (lv_at hl 1 rfl) ?_
      refine lv_icmp_ne (tgt := 43) hx hb_w dX2_find_25 (by decide) (fun c25_w => ?_) (fun c25_w => ?_)
      · refine lv_iload_n hx hb_w dX2_find_43 rfl (lv_at hl 3 rfl) ?_
        refine lv_istore_n (lv' := [(3, .int x), (0, .ref (a_w 0)), (1, .int p0_w), (2, .int p1_w), (4, .int (nI i_w))]) hx hb_w dX2_find_44 rfl hl (by decide) rfl (fun ls hl => ?_)
        refine lv_iinc (v := nI (i_w + 1)) (lv' := [(4, .int (nI (i_w + 1))), (3, .int x), (0, .ref (a_w 0)), (1, .int p0_w), (2, .int p1_w)]) hx hb_w dX2_find_45 hl (k := 4) rfl (nI_1 _) (by decide) rfl (fun ls hl => ?_)
        refine lv_goto (tgt := 10) hx hb_w dX2_find_48 (by decide) ?_
        exact ih10 (i_w + 1) x (by omega) (by omega) (by rw [lastR_f (by simp [fdB, c25_w])]; exact ex_w) _ _ hP hS_w _ (lv_sub hl [2, 3, 4, 1, 0] rfl)
      refine lv_aload_n hx hb_w dX2_find_28 rfl (lv_at hl 0 rfl) ?_
      refine lv_iload hx hb_w dX2_find_29 (lv_at hl 4 rfl) ?_
      refine rdr_V (As := [.int (nI i_w)]) (rest := []) ⟨hx, hb_w, hml, hown, hts⟩ (kX2_number l G_w a_w cI cZ g_w f_w 0 (nI i_w) hp) (cwV 1 hts gX2_find_X2_number rfl rfl rfl (by decide +kernel) ⟨Nat.le_of_ble_eq_true rfl, Nat.le_of_ble_eq_true rfl⟩) (va_recv hK_w hP (ci := 2) (q0 := 0) rfl rfl) hP hK_w rfl hl.1 rfl (Nat.le_of_ble_eq_true rfl) dX2_find_31 (by decide) (fun r31 h31 => ?_)
      replace h31 : r31 = numD g_w (nI i_w) := h31
      subst h31
      refine lv_iload_n hx hb_w dX2_find_34 rfl (lv_at hl 2 rfl) ?_
      refine lv_icmp_ne (tgt := 43) hx hb_w dX2_find_35 (by decide) (fun c35_w => ?_) (fun c35_w => ?_)
      · refine lv_iload_n hx hb_w dX2_find_43 rfl (lv_at hl 3 rfl) ?_
        refine lv_istore_n (lv' := [(3, .int x), (0, .ref (a_w 0)), (1, .int p0_w), (2, .int p1_w), (4, .int (nI i_w))]) hx hb_w dX2_find_44 rfl hl (by decide) rfl (fun ls hl => ?_)
        refine lv_iinc (v := nI (i_w + 1)) (lv' := [(4, .int (nI (i_w + 1))), (3, .int x), (0, .ref (a_w 0)), (1, .int p0_w), (2, .int p1_w)]) hx hb_w dX2_find_45 hl (k := 4) rfl (nI_1 _) (by decide) rfl (fun ls hl => ?_)
        refine lv_goto (tgt := 10) hx hb_w dX2_find_48 (by decide) ?_
        exact ih10 (i_w + 1) x (by omega) (by omega) (by rw [lastR_f (by simp [fdB, c35_w])]; exact ex_w) _ _ hP hS_w _ (lv_sub hl [2, 3, 4, 1, 0] rfl)
      refine lv_iload hx hb_w dX2_find_38 (lv_at hl 4 rfl) ?_
      refine lv_goto (tgt := 44) hx hb_w dX2_find_40 (by decide) ?_
      refine lv_istore_n (lv' := [(3, .int (nI i_w)), (0, .ref (a_w 0)), (1, .int p0_w), (2, .int p1_w), (4, .int (nI i_w))]) hx hb_w dX2_find_44 rfl hl (by decide) rfl (fun ls hl => ?_)
      refine lv_iinc (v := nI (i_w + 1)) (lv' := [(4, .int (nI (i_w + 1))), (3, .int (nI i_w)), (0, .ref (a_w 0)), (1, .int p0_w), (2, .int p1_w)]) hx hb_w dX2_find_45 hl (k := 4) rfl (nI_1 _) (by decide) rfl (fun ls hl => ?_)
      refine lv_goto (tgt := 10) hx hb_w dX2_find_48 (by decide) ?_
      exact ih10 (i_w + 1) (nI i_w) (by omega) (by omega) (lastR_t (by simp [fdB, c25_w, c35_w])).symm _ _ hP hS_w _ (lv_sub hl [2, 3, 4, 1, 0] rfl)
  exact loop10 201 0 (-1) (by omega) (by omega) rfl _ _ hP hS_w _ (lv_sub hl [2, 3, 4, 1, 0] rfl)
set_option maxHeartbeats 4000000 in
set_option maxRecDepth 100000 in
theorem kX2_day (l : Launch) (G_w : va_G) (a_w : Nat → Nat) (cI cZ : ClassId) (g_w : Nat → Int32) (f_w : Nat → Nat → Int32) (tc_w : Int32) (hap : apart a_w 6) (sz_w : Nat) : wri l yX2_day wsX2_day { frames := 0, cells := 0, slots := 0, locals := 0 } G_w (wM a_w cI cZ g_w f_w tc_w) (tyIZ cI cZ) (aS a_w 6 sz_w) sz_w [.ref (a_w 0)] (fun r_w u_w => r_w = g_w 0 ∧ u_w = (g_w, f_w, 0)) (wfM a_w cI cZ) := by
  refine wri_of (cc := cX2_day) (nL := 1) (ty := .int) (by decide) rfl (Nat.le_of_ble_eq_true rfl) ?_
  intro p_w e_w s_w m_w args_w below meth_w c_w H locs_w ls Q hx hb_w hml hown hts hP hK_w hS_w hret hl
  have hl : lv_has ls 1 [(0, .ref (a_w 0))] := hl
  have hinX2 : ∀ w_w ∈ wsX20, w_w ∈ wsX2_day := by decide +kernel
  refine lv_aload_n hx hb_w dX2_day_0 rfl (lv_at hl 0 rfl) ?_
  refine lv_iconst (v := 0) hx hb_w dX2_day_1 (by decide) ?_
  refine mput (index := 49) (v := .int 0) g_w 0 hx hb_w hts hinX2 hown hK_w hP hap hS_w 17 (by decide) (List.mem_of_getElem? (i := 1) rfl) rfl rfl rfl rfl dX2_day_2 (fun H locs_w hP hS_w => ?_)
  refine lv_aload_n hx hb_w dX2_day_5 rfl (lv_at hl 0 rfl) ?_
  refine mget (index := 70) (v := .int (g_w 0)) hx hb_w hts hinX2 hown hK_w hP 0 (by decide) (List.mem_of_getElem? (i := 2) rfl) rfl dX2_day_6 ?_
  exact hret (g_w 0) (g_w, f_w, 0) _ _ _ _ dX2_day_9 rfl hP hS_w ⟨rfl, rfl⟩
set_option maxHeartbeats 4000000 in
set_option maxRecDepth 100000 in
theorem kX2_foretold (l : Launch) (G_w : va_G) (a_w : Nat → Nat) (cI cZ : ClassId) (g_w : Nat → Int32) (f_w : Nat → Nat → Int32) (tc_w : Int32) (hap : apart a_w 6) (sz_w : Nat) : wri l yX2_foretold wsX2_foretold { frames := 0, cells := 0, slots := 0, locals := 0 } G_w (wM a_w cI cZ g_w f_w tc_w) (tyIZ cI cZ) (aS a_w 6 sz_w) sz_w [.ref (a_w 0)] (fun r_w u_w => r_w = g_w 7 ∧ u_w = (g_w, f_w, 0)) (wfM a_w cI cZ) := by
  refine wri_of (cc := cX2_foretold) (nL := 1) (ty := .int) (by decide) rfl (Nat.le_of_ble_eq_true rfl) ?_
  intro p_w e_w s_w m_w args_w below meth_w c_w H locs_w ls Q hx hb_w hml hown hts hP hK_w hS_w hret hl
  have hl : lv_has ls 1 [(0, .ref (a_w 0))] := hl
  have hinX2 : ∀ w_w ∈ wsX20, w_w ∈ wsX2_foretold := by decide +kernel
  refine lv_aload_n hx hb_w dX2_foretold_0 rfl (lv_at hl 0 rfl) ?_
  refine lv_iconst (v := 0) hx hb_w dX2_foretold_1 (by decide) ?_
  refine mput (index := 49) (v := .int 0) g_w 0 hx hb_w hts hinX2 hown hK_w hP hap hS_w 17 (by decide) (List.mem_of_getElem? (i := 1) rfl) rfl rfl rfl rfl dX2_foretold_2 (fun H locs_w hP hS_w => ?_)
  refine lv_aload_n hx hb_w dX2_foretold_5 rfl (lv_at hl 0 rfl) ?_
  refine mget (index := 46) (v := .int (g_w 7)) hx hb_w hts hinX2 hown hK_w hP 7 (by decide) (List.mem_of_getElem? (i := 2) rfl) rfl dX2_foretold_6 ?_
  exact hret (g_w 7) (g_w, f_w, 0) _ _ _ _ dX2_foretold_9 rfl hP hS_w ⟨rfl, rfl⟩
set_option maxHeartbeats 4000000 in
set_option maxRecDepth 100000 in
theorem kX2_shift (l : Launch) (G_w : va_G) (a_w : Nat → Nat) (cI cZ : ClassId) (g_w : Nat → Int32) (f_w : Nat → Nat → Int32) (tc_w : Int32) (hap : apart a_w 6) (sz_w : Nat) : wri l yX2_shift wsX2_shift { frames := 0, cells := 0, slots := 0, locals := 0 } G_w (wM a_w cI cZ g_w f_w tc_w) (tyIZ cI cZ) (aS a_w 6 sz_w) sz_w [.ref (a_w 0)] (fun r_w u_w => r_w = g_w 8 ∧ u_w = (g_w, f_w, 0)) (wfM a_w cI cZ) := by
  refine wri_of (cc := cX2_shift) (nL := 1) (ty := .int) (by decide) rfl (Nat.le_of_ble_eq_true rfl) ?_
  intro p_w e_w s_w m_w args_w below meth_w c_w H locs_w ls Q hx hb_w hml hown hts hP hK_w hS_w hret hl
  have hl : lv_has ls 1 [(0, .ref (a_w 0))] := hl
  have hinX2 : ∀ w_w ∈ wsX20, w_w ∈ wsX2_shift := by decide +kernel
  refine lv_aload_n hx hb_w dX2_shift_0 rfl (lv_at hl 0 rfl) ?_
  refine lv_iconst (v := 0) hx hb_w dX2_shift_1 (by decide) ?_
  refine mput (index := 49) (v := .int 0) g_w 0 hx hb_w hts hinX2 hown hK_w hP hap hS_w 17 (by decide) (List.mem_of_getElem? (i := 1) rfl) rfl rfl rfl rfl dX2_shift_2 (fun H locs_w hP hS_w => ?_)
  refine lv_aload_n hx hb_w dX2_shift_5 rfl (lv_at hl 0 rfl) ?_
  refine mget (index := 59) (v := .int (g_w 8)) hx hb_w hts hinX2 hown hK_w hP 13 (by decide) (List.mem_of_getElem? (i := 2) rfl) rfl dX2_shift_6 ?_
  exact hret (g_w 8) (g_w, f_w, 0) _ _ _ _ dX2_shift_9 rfl hP hS_w ⟨rfl, rfl⟩
set_option maxHeartbeats 4000000 in
set_option maxRecDepth 100000 in
theorem kX2_thrown (l : Launch) (G_w : va_G) (a_w : Nat → Nat) (cI cZ : ClassId) (g_w : Nat → Int32) (f_w : Nat → Nat → Int32) (tc_w : Int32) : rdr l yX2_thrown wsX2_thrown { frames := 0, cells := 0, slots := 0, locals := 0 } G_w (wM a_w cI cZ g_w f_w tc_w) (tyIZ cI cZ) [.ref (a_w 0)] (fun r_w => r_w = tc_w) := by
  refine rdr_of (cc := cX2_thrown) (nL := 1) (ty := .int) (by decide) rfl (Nat.le_of_ble_eq_true rfl) ?_
  intro p_w e_w s_w m_w args_w below meth_w c_w H ls Q hx hb_w hml hown hts hP hK_w hret hl
  have hl : lv_has ls 1 [(0, .ref (a_w 0))] := hl
  have hinX2 : ∀ w_w ∈ wsX20, w_w ∈ wsX2_thrown := by decide +kernel
  refine lv_aload_n hx hb_w dX2_thrown_0 rfl (lv_at hl 0 rfl) ?_
  refine mget (index := 49) (v := .int tc_w) hx hb_w hts hinX2 hown hK_w hP 17 (by decide) (List.mem_of_getElem? (i := 1) rfl) rfl dX2_thrown_1 ?_
  exact hret tc_w _ _ dX2_thrown_4 rfl rfl
set_option maxHeartbeats 4000000 in
set_option maxRecDepth 100000 in
theorem kX2_isAsked (l : Launch) (G_w : va_G) (a_w : Nat → Nat) (cI cZ : ClassId) (g_w : Nat → Int32) (f_w : Nat → Nat → Int32) (tc_w : Int32) (hap : apart a_w 6) (sz_w : Nat) (p0_w : Int32) (hNN : NN g_w): wri l yX2_isAsked wsX2_isAsked { frames := 2, cells := 0, slots := 0, locals := 43 } G_w (wM a_w cI cZ g_w f_w tc_w) (tyIZ cI cZ) (aS a_w 6 sz_w) sz_w [.ref (a_w 0), .int p0_w] (fun r_w u_w => r_w = bI (isF g_w p0_w) ∧ u_w = (g_w, f_w, askT g_w p0_w)) (wfM a_w cI cZ) := by
  refine wri_of (cc := cX2_isAsked) (nL := 2) (ty := .boolean) (by decide) rfl (Nat.le_of_ble_eq_true rfl) ?_
  intro p_w e_w s_w m_w args_w below meth_w c_w H locs_w ls Q hx hb_w hml hown hts hP hK_w hS_w hret hl
  have hl : lv_has ls 2 [(0, .ref (a_w 0)), (1, .int p0_w)] := hl
  refine lv_aload_n hx hb_w dX2_isAsked_0 rfl (lv_at hl 0 rfl) ?_
  refine lv_aload_n hx hb_w dX2_isAsked_1 rfl (lv_at hl 0 rfl) ?_
  refine lv_iload_n hx hb_w dX2_isAsked_2 rfl (lv_at hl 1 rfl) ?_
  refine rdr_V (As := [.int p0_w]) (rest := [.ref (a_w 0)]) ⟨hx, hb_w, hml, hown, hts⟩ (kX2_isForetold l G_w a_w cI cZ g_w f_w tc_w p0_w hNN) (cwV 1 hts gX2_isAsked_X2_isForetold rfl rfl rfl (by decide +kernel) ⟨Nat.le_of_ble_eq_true rfl, Nat.le_of_ble_eq_true rfl⟩) (va_recv hK_w hP (ci := 2) (q0 := 0) rfl rfl) hP hK_w rfl hl.1 rfl (Nat.le_of_ble_eq_true rfl) dX2_isAsked_3 (by decide) (fun r3 h3 => ?_)
  replace h3 : r3 = bI (isF g_w p0_w) := h3
  subst h3
  refine lv_if_eq (tgt := 13) hx hb_w dX2_isAsked_6 (by decide) (fun c6_w => ?_) (fun c6_w => ?_)
  · replace c6_w := bI0 c6_w
    refine lv_iconst (v := 1) hx hb_w dX2_isAsked_13 (by decide) ?_
    refine wri_V (As := [.int 1]) (rest := []) ⟨hx, hb_w, hml, hown, hts⟩ (kX2_can l G_w a_w cI cZ g_w f_w tc_w hap _ 1 ) (cwV 1 hts gX2_isAsked_X2_can rfl rfl rfl (by decide +kernel) ⟨Nat.le_of_ble_eq_true rfl, Nat.le_of_ble_eq_true rfl⟩) (va_recv hK_w hP (ci := 2) (q0 := 0) rfl rfl) hP hK_w hS_w rfl hl.1 rfl (Nat.le_of_ble_eq_true rfl) dX2_isAsked_14 (by decide) (fun r14 u14 H locs_w h14 hP hS_w => ?_)
    obtain ⟨h14_1, h14_2⟩ := h14
    replace h14_1 : r14 = bI false := h14_1.trans (by decide)
    subst h14_1
    subst h14_2
    have hP : va_P G_w vwCl (wM a_w cI cZ g_w f_w 1) H := hP
    exact hret (bI false) (g_w, f_w, 1) _ _ _ _ dX2_isAsked_17 (bIr _) hP hS_w ⟨by rw [c6_w], by unfold askT; rw [c6_w]; rfl⟩
  replace c6_w := bIn c6_w
  refine lv_iconst (v := 0) hx hb_w dX2_isAsked_9 (by decide) ?_
  refine lv_goto (tgt := 14) hx hb_w dX2_isAsked_10 (by decide) ?_
  refine wri_V (As := [.int 0]) (rest := []) ⟨hx, hb_w, hml, hown, hts⟩ (kX2_can l G_w a_w cI cZ g_w f_w tc_w hap _ 0 ) (cwV 1 hts gX2_isAsked_X2_can rfl rfl rfl (by decide +kernel) ⟨Nat.le_of_ble_eq_true rfl, Nat.le_of_ble_eq_true rfl⟩) (va_recv hK_w hP (ci := 2) (q0 := 0) rfl rfl) hP hK_w hS_w rfl hl.1 rfl (Nat.le_of_ble_eq_true rfl) dX2_isAsked_14 (by decide) (fun r14 u14 H locs_w h14 hP hS_w => ?_)
  obtain ⟨h14_1, h14_2⟩ := h14
  replace h14_1 : r14 = bI true := h14_1.trans (by decide)
  subst h14_1
  subst h14_2
  have hP : va_P G_w vwCl (wM a_w cI cZ g_w f_w 0) H := hP
  exact hret (bI true) (g_w, f_w, 0) _ _ _ _ dX2_isAsked_17 (bIr _) hP hS_w ⟨by rw [c6_w], by unfold askT; rw [c6_w]; rfl⟩
set_option maxHeartbeats 4000000 in
set_option maxRecDepth 100000 in
theorem kX2_dayOf (l : Launch) (G_w : va_G) (a_w : Nat → Nat) (cI cZ : ClassId) (g_w : Nat → Int32) (f_w : Nat → Nat → Int32) (tc_w : Int32) (hap : apart a_w 6) (sz_w : Nat) (p0_w : Int32) (hNN : NN g_w): wri l yX2_dayOf wsX2_dayOf { frames := 3, cells := 0, slots := 0, locals := 64 } G_w (wM a_w cI cZ g_w f_w tc_w) (tyIZ cI cZ) (aS a_w 6 sz_w) sz_w [.ref (a_w 0), .int p0_w] (fun r_w u_w => r_w = askV g_w (f_w 0) p0_w ∧ u_w = (g_w, f_w, askT g_w p0_w)) (wfM a_w cI cZ) := by
  refine wri_of (cc := cX2_dayOf) (nL := 2) (ty := .int) (by decide) rfl (Nat.le_of_ble_eq_true rfl) ?_
  intro p_w e_w s_w m_w args_w below meth_w c_w H locs_w ls Q hx hb_w hml hown hts hP hK_w hS_w hret hl
  have hl : lv_has ls 2 [(0, .ref (a_w 0)), (1, .int p0_w)] := hl
  have hinX2 : ∀ w_w ∈ wsX20, w_w ∈ wsX2_dayOf := by decide +kernel
  refine lv_aload_n hx hb_w dX2_dayOf_0 rfl (lv_at hl 0 rfl) ?_
  refine lv_iload_n hx hb_w dX2_dayOf_1 rfl (lv_at hl 1 rfl) ?_
  refine wri_V (As := [.int p0_w]) (rest := []) ⟨hx, hb_w, hml, hown, hts⟩ (kX2_isAsked l G_w a_w cI cZ g_w f_w tc_w hap _ p0_w hNN) (cwV 1 hts gX2_dayOf_X2_isAsked rfl rfl rfl (by decide +kernel) ⟨Nat.le_of_ble_eq_true rfl, Nat.le_of_ble_eq_true rfl⟩) (va_recv hK_w hP (ci := 2) (q0 := 0) rfl rfl) hP hK_w hS_w rfl hl.1 rfl (Nat.le_of_ble_eq_true rfl) dX2_dayOf_2 (by decide) (fun r2 u2_w H locs_w h2 hP hS_w => ?_)
  obtain ⟨h2_1, h2_2⟩ := h2
  subst h2_1
  subst h2_2
  have hP : va_P G_w vwCl (wM a_w cI cZ g_w f_w (askT g_w p0_w)) H := hP
  refine lv_if_eq (tgt := 17) hx hb_w dX2_dayOf_5 (by decide) (fun c5_w => ?_) (fun c5_w => ?_)
  · replace c5_w := bI0 c5_w
    refine lv_iconst (v := 0) hx hb_w dX2_dayOf_17 (by decide) ?_
    exact hret 0 (g_w, f_w, (askT g_w p0_w)) _ _ _ _ dX2_dayOf_18 rfl hP hS_w ⟨by unfold askV; rw [if_neg (by rw [c5_w]; decide)], rfl⟩
  replace c5_w := bIn c5_w
  obtain ⟨k_w, hk, ek, ec⟩ := isF_k c5_w
  refine lv_aload_n hx hb_w dX2_dayOf_8 rfl (lv_at hl 0 rfl) ?_
  refine mget (index := 26) (v := .ref (a_w 1)) hx hb_w hts hinX2 hown hK_w hP 8 (by decide) (List.mem_of_getElem? (i := 1) rfl) rfl dX2_dayOf_9 ?_
  refine lv_iload_n hx hb_w dX2_dayOf_12 rfl (lv_at hl 1 rfl) ?_
  refine arI (j := k_w) (h := (f_w 0)) hx hb_w hK_w hP 1 rfl ek hk dX2_dayOf_13 ?_
  refine lv_goto (tgt := 18) hx hb_w dX2_dayOf_14 (by decide) ?_
  exact hret ((f_w 0) k_w) (g_w, f_w, (askT g_w p0_w)) _ _ _ _ dX2_dayOf_18 rfl hP hS_w ⟨by unfold askV; rw [if_pos c5_w, ec], rfl⟩
set_option maxHeartbeats 4000000 in
set_option maxRecDepth 100000 in
theorem kX2_stateOf (l : Launch) (G_w : va_G) (a_w : Nat → Nat) (cI cZ : ClassId) (g_w : Nat → Int32) (f_w : Nat → Nat → Int32) (tc_w : Int32) (hap : apart a_w 6) (sz_w : Nat) (p0_w : Int32) (hNN : NN g_w): wri l yX2_stateOf wsX2_stateOf { frames := 3, cells := 0, slots := 0, locals := 64 } G_w (wM a_w cI cZ g_w f_w tc_w) (tyIZ cI cZ) (aS a_w 6 sz_w) sz_w [.ref (a_w 0), .int p0_w] (fun r_w u_w => r_w = askV g_w (f_w 1) p0_w ∧ u_w = (g_w, f_w, askT g_w p0_w)) (wfM a_w cI cZ) := by
  refine wri_of (cc := cX2_stateOf) (nL := 2) (ty := .int) (by decide) rfl (Nat.le_of_ble_eq_true rfl) ?_
  intro p_w e_w s_w m_w args_w below meth_w c_w H locs_w ls Q hx hb_w hml hown hts hP hK_w hS_w hret hl
  have hl : lv_has ls 2 [(0, .ref (a_w 0)), (1, .int p0_w)] := hl
  have hinX2 : ∀ w_w ∈ wsX20, w_w ∈ wsX2_stateOf := by decide +kernel
  refine lv_aload_n hx hb_w dX2_stateOf_0 rfl (lv_at hl 0 rfl) ?_
  refine lv_iload_n hx hb_w dX2_stateOf_1 rfl (lv_at hl 1 rfl) ?_
  refine wri_V (As := [.int p0_w]) (rest := []) ⟨hx, hb_w, hml, hown, hts⟩ (kX2_isAsked l G_w a_w cI cZ g_w f_w tc_w hap _ p0_w hNN) (cwV 1 hts gX2_stateOf_X2_isAsked rfl rfl rfl (by decide +kernel) ⟨Nat.le_of_ble_eq_true rfl, Nat.le_of_ble_eq_true rfl⟩) (va_recv hK_w hP (ci := 2) (q0 := 0) rfl rfl) hP hK_w hS_w rfl hl.1 rfl (Nat.le_of_ble_eq_true rfl) dX2_stateOf_2 (by decide) (fun r2 u2_w H locs_w h2 hP hS_w => ?_)
  obtain ⟨h2_1, h2_2⟩ := h2
  subst h2_1
  subst h2_2
  have hP : va_P G_w vwCl (wM a_w cI cZ g_w f_w (askT g_w p0_w)) H := hP
  refine lv_if_eq (tgt := 17) hx hb_w dX2_stateOf_5 (by decide) (fun c5_w => ?_) (fun c5_w => ?_)
  · replace c5_w := bI0 c5_w
    refine lv_iconst (v := 0) hx hb_w dX2_stateOf_17 (by decide) ?_
    exact hret 0 (g_w, f_w, (askT g_w p0_w)) _ _ _ _ dX2_stateOf_18 rfl hP hS_w ⟨by unfold askV; rw [if_neg (by rw [c5_w]; decide)], rfl⟩
  replace c5_w := bIn c5_w
  obtain ⟨k_w, hk, ek, ec⟩ := isF_k c5_w
  refine lv_aload_n hx hb_w dX2_stateOf_8 rfl (lv_at hl 0 rfl) ?_
  refine mget (index := 30) (v := .ref (a_w 2)) hx hb_w hts hinX2 hown hK_w hP 9 (by decide) (List.mem_of_getElem? (i := 1) rfl) rfl dX2_stateOf_9 ?_
  refine lv_iload_n hx hb_w dX2_stateOf_12 rfl (lv_at hl 1 rfl) ?_
  refine arI (j := k_w) (h := (f_w 1)) hx hb_w hK_w hP 2 rfl ek hk dX2_stateOf_13 ?_
  refine lv_goto (tgt := 18) hx hb_w dX2_stateOf_14 (by decide) ?_
  exact hret ((f_w 1) k_w) (g_w, f_w, (askT g_w p0_w)) _ _ _ _ dX2_stateOf_18 rfl hP hS_w ⟨by unfold askV; rw [if_pos c5_w, ec], rfl⟩
set_option maxHeartbeats 4000000 in
set_option maxRecDepth 100000 in
theorem kX2_claimsOf (l : Launch) (G_w : va_G) (a_w : Nat → Nat) (cI cZ : ClassId) (g_w : Nat → Int32) (f_w : Nat → Nat → Int32) (tc_w : Int32) (hap : apart a_w 6) (sz_w : Nat) (p0_w : Int32) (hNN : NN g_w): wri l yX2_claimsOf wsX2_claimsOf { frames := 3, cells := 0, slots := 0, locals := 64 } G_w (wM a_w cI cZ g_w f_w tc_w) (tyIZ cI cZ) (aS a_w 6 sz_w) sz_w [.ref (a_w 0), .int p0_w] (fun r_w u_w => r_w = askV g_w (f_w 2) p0_w ∧ u_w = (g_w, f_w, askT g_w p0_w)) (wfM a_w cI cZ) := by
  refine wri_of (cc := cX2_claimsOf) (nL := 2) (ty := .int) (by decide) rfl (Nat.le_of_ble_eq_true rfl) ?_
  intro p_w e_w s_w m_w args_w below meth_w c_w H locs_w ls Q hx hb_w hml hown hts hP hK_w hS_w hret hl
  have hl : lv_has ls 2 [(0, .ref (a_w 0)), (1, .int p0_w)] := hl
  have hinX2 : ∀ w_w ∈ wsX20, w_w ∈ wsX2_claimsOf := by decide +kernel
  refine lv_aload_n hx hb_w dX2_claimsOf_0 rfl (lv_at hl 0 rfl) ?_
  refine lv_iload_n hx hb_w dX2_claimsOf_1 rfl (lv_at hl 1 rfl) ?_
  refine wri_V (As := [.int p0_w]) (rest := []) ⟨hx, hb_w, hml, hown, hts⟩ (kX2_isAsked l G_w a_w cI cZ g_w f_w tc_w hap _ p0_w hNN) (cwV 1 hts gX2_claimsOf_X2_isAsked rfl rfl rfl (by decide +kernel) ⟨Nat.le_of_ble_eq_true rfl, Nat.le_of_ble_eq_true rfl⟩) (va_recv hK_w hP (ci := 2) (q0 := 0) rfl rfl) hP hK_w hS_w rfl hl.1 rfl (Nat.le_of_ble_eq_true rfl) dX2_claimsOf_2 (by decide) (fun r2 u2_w H locs_w h2 hP hS_w => ?_)
  obtain ⟨h2_1, h2_2⟩ := h2
  subst h2_1
  subst h2_2
  have hP : va_P G_w vwCl (wM a_w cI cZ g_w f_w (askT g_w p0_w)) H := hP
  refine lv_if_eq (tgt := 17) hx hb_w dX2_claimsOf_5 (by decide) (fun c5_w => ?_) (fun c5_w => ?_)
  · replace c5_w := bI0 c5_w
    refine lv_iconst (v := 0) hx hb_w dX2_claimsOf_17 (by decide) ?_
    exact hret 0 (g_w, f_w, (askT g_w p0_w)) _ _ _ _ dX2_claimsOf_18 rfl hP hS_w ⟨by unfold askV; rw [if_neg (by rw [c5_w]; decide)], rfl⟩
  replace c5_w := bIn c5_w
  obtain ⟨k_w, hk, ek, ec⟩ := isF_k c5_w
  refine lv_aload_n hx hb_w dX2_claimsOf_8 rfl (lv_at hl 0 rfl) ?_
  refine mget (index := 33) (v := .ref (a_w 3)) hx hb_w hts hinX2 hown hK_w hP 10 (by decide) (List.mem_of_getElem? (i := 1) rfl) rfl dX2_claimsOf_9 ?_
  refine lv_iload_n hx hb_w dX2_claimsOf_12 rfl (lv_at hl 1 rfl) ?_
  refine arI (j := k_w) (h := (f_w 2)) hx hb_w hK_w hP 3 rfl ek hk dX2_claimsOf_13 ?_
  refine lv_goto (tgt := 18) hx hb_w dX2_claimsOf_14 (by decide) ?_
  exact hret ((f_w 2) k_w) (g_w, f_w, (askT g_w p0_w)) _ _ _ _ dX2_claimsOf_18 rfl hP hS_w ⟨by unfold askV; rw [if_pos c5_w, ec], rfl⟩
set_option maxHeartbeats 4000000 in
set_option maxRecDepth 100000 in
theorem kX2_labelOf (l : Launch) (G_w : va_G) (a_w : Nat → Nat) (cI cZ : ClassId) (g_w : Nat → Int32) (f_w : Nat → Nat → Int32) (tc_w : Int32) (hap : apart a_w 6) (sz_w : Nat) (p0_w : Int32) (hp : inPat g_w): wri l yX2_labelOf wsX2_labelOf { frames := 2, cells := 0, slots := 0, locals := 42 } G_w (wM a_w cI cZ g_w f_w tc_w) (tyIZ cI cZ) (aS a_w 6 sz_w) sz_w [.ref (a_w 0), .int p0_w] (fun r_w u_w => r_w = (if isI p0_w = true then 1000 * volD g_w p0_w + numD g_w p0_w else 0) ∧ u_w = (g_w, f_w, if isI p0_w = true then 0 else 1)) (wfM a_w cI cZ) := by
  refine wri_of (cc := cX2_labelOf) (nL := 2) (ty := .int) (by decide) rfl (Nat.le_of_ble_eq_true rfl) ?_
  intro p_w e_w s_w m_w args_w below meth_w c_w H locs_w ls Q hx hb_w hml hown hts hP hK_w hS_w hret hl
  have hl : lv_has ls 2 [(0, .ref (a_w 0)), (1, .int p0_w)] := hl
  refine lv_aload_n hx hb_w dX2_labelOf_0 rfl (lv_at hl 0 rfl) ?_
  refine lv_iload_n hx hb_w dX2_labelOf_1 rfl (lv_at hl 1 rfl) ?_
  refine rdr_S (As := [.int p0_w]) (rest := [.ref (a_w 0)]) ⟨hx, hb_w, hml, hown, hts⟩ (kX2_isIssue l G_w _ _ p0_w ) (va_cwS 1 hts gX2_labelOf_X2_isIssue rfl rfl rfl (by decide +kernel) ⟨Nat.le_of_ble_eq_true rfl, Nat.le_of_ble_eq_true rfl⟩)  hP hK_w rfl hl.1 rfl (Nat.le_of_ble_eq_true rfl) dX2_labelOf_2 (by decide) (fun r2 h2 => ?_)
  replace h2 : r2 = bI (isI p0_w) := h2
  subst h2
  refine lv_if_eq (tgt := 12) hx hb_w dX2_labelOf_5 (by decide) (fun c5_w => ?_) (fun c5_w => ?_)
  · replace c5_w := bI0 c5_w
    refine lv_iconst (v := 1) hx hb_w dX2_labelOf_12 (by decide) ?_
    refine wri_V (As := [.int 1]) (rest := []) ⟨hx, hb_w, hml, hown, hts⟩ (kX2_can l G_w a_w cI cZ g_w f_w tc_w hap _ 1 ) (cwV 1 hts gX2_labelOf_X2_can rfl rfl rfl (by decide +kernel) ⟨Nat.le_of_ble_eq_true rfl, Nat.le_of_ble_eq_true rfl⟩) (va_recv hK_w hP (ci := 2) (q0 := 0) rfl rfl) hP hK_w hS_w rfl hl.1 rfl (Nat.le_of_ble_eq_true rfl) dX2_labelOf_13 (by decide) (fun r13 u13 H locs_w h13 hP hS_w => ?_)
    obtain ⟨h13_1, h13_2⟩ := h13
    replace h13_1 : r13 = bI false := h13_1.trans (by decide)
    subst h13_1
    subst h13_2
    have hP : va_P G_w vwCl (wM a_w cI cZ g_w f_w 1) H := hP
    refine lv_if_eq (tgt := 37) hx hb_w dX2_labelOf_16 (by decide) (fun c16 => ?_) (fun c16 => ?_)
    · replace c16 := bI0 c16
      refine lv_iconst (v := 0) hx hb_w dX2_labelOf_37 (by decide) ?_
      exact hret 0 (g_w, f_w, 1) _ _ _ _ dX2_labelOf_38 rfl hP hS_w ⟨by rw [if_neg (by rw [c5_w]; decide)], by rw [if_neg (by rw [c5_w]; decide)]⟩
    replace c16 := bIn c16
    exact absurd c16 (by decide)
  replace c5_w := bIn c5_w
  refine lv_iconst (v := 0) hx hb_w dX2_labelOf_8 (by decide) ?_
  refine lv_goto (tgt := 13) hx hb_w dX2_labelOf_9 (by decide) ?_
  refine wri_V (As := [.int 0]) (rest := []) ⟨hx, hb_w, hml, hown, hts⟩ (kX2_can l G_w a_w cI cZ g_w f_w tc_w hap _ 0 ) (cwV 1 hts gX2_labelOf_X2_can rfl rfl rfl (by decide +kernel) ⟨Nat.le_of_ble_eq_true rfl, Nat.le_of_ble_eq_true rfl⟩) (va_recv hK_w hP (ci := 2) (q0 := 0) rfl rfl) hP hK_w hS_w rfl hl.1 rfl (Nat.le_of_ble_eq_true rfl) dX2_labelOf_13 (by decide) (fun r13 u13 H locs_w h13 hP hS_w => ?_)
  obtain ⟨h13_1, h13_2⟩ := h13
  replace h13_1 : r13 = bI true := h13_1.trans (by decide)
  subst h13_1
  subst h13_2
  have hP : va_P G_w vwCl (wM a_w cI cZ g_w f_w 0) H := hP
  refine lv_if_eq (tgt := 37) hx hb_w dX2_labelOf_16 (by decide) (fun c16 => ?_) (fun c16 => ?_)
  · replace c16 := bI0 c16
    exact absurd c16 (by decide)
  replace c16 := bIn c16
  refine lv_sipush (v := 1000) hx hb_w dX2_labelOf_19 (by decide) ?_
  refine lv_aload_n hx hb_w dX2_labelOf_22 rfl (lv_at hl 0 rfl) ?_
  refine lv_iload_n hx hb_w dX2_labelOf_23 rfl (lv_at hl 1 rfl) ?_
  refine rdr_V (As := [.int p0_w]) (rest := [.int 1000]) ⟨hx, hb_w, hml, hown, hts⟩ (kX2_volume l G_w a_w cI cZ g_w f_w 0 p0_w hp) (cwV 1 hts gX2_labelOf_X2_volume rfl rfl rfl (by decide +kernel) ⟨Nat.le_of_ble_eq_true rfl, Nat.le_of_ble_eq_true rfl⟩) (va_recv hK_w hP (ci := 2) (q0 := 0) rfl rfl) hP hK_w rfl hl.1 rfl (Nat.le_of_ble_eq_true rfl) dX2_labelOf_24 (by decide) (fun r24 h24 => ?_)
  replace h24 : r24 = volD g_w p0_w := h24
  subst h24
  refine lv_imul hx hb_w dX2_labelOf_27 ?_
  refine lv_aload_n hx hb_w dX2_labelOf_28 rfl (lv_at hl 0 rfl) ?_
  refine lv_iload_n hx hb_w dX2_labelOf_29 rfl (lv_at hl 1 rfl) ?_
  refine rdr_V (As := [.int p0_w]) (rest := [.int (1000 * (volD g_w p0_w))]) ⟨hx, hb_w, hml, hown, hts⟩ (kX2_number l G_w a_w cI cZ g_w f_w 0 p0_w hp) (cwV 1 hts gX2_labelOf_X2_number rfl rfl rfl (by decide +kernel) ⟨Nat.le_of_ble_eq_true rfl, Nat.le_of_ble_eq_true rfl⟩) (va_recv hK_w hP (ci := 2) (q0 := 0) rfl rfl) hP hK_w rfl hl.1 rfl (Nat.le_of_ble_eq_true rfl) dX2_labelOf_30 (by decide) (fun r30 h30 => ?_)
  replace h30 : r30 = numD g_w p0_w := h30
  subst h30
  refine lv_iadd hx hb_w dX2_labelOf_33 ?_
  refine lv_goto (tgt := 38) hx hb_w dX2_labelOf_34 (by decide) ?_
  exact hret ((1000 * (volD g_w p0_w)) + (numD g_w p0_w)) (g_w, f_w, 0) _ _ _ _ dX2_labelOf_38 rfl hP hS_w ⟨by rw [if_pos c5_w], by rw [if_pos c5_w]⟩
set_option maxHeartbeats 4000000 in
set_option maxRecDepth 100000 in
theorem kX2_setClaims (l : Launch) (G_w : va_G) (a_w : Nat → Nat) (cI cZ : ClassId) (g_w : Nat → Int32) (f_w : Nat → Nat → Int32) (tc_w : Int32) (hap : apart a_w 6) (sz_w : Nat) (p0_w p1_w : Int32): wrv l yX2_setClaims wsX2_setClaims { frames := 1, cells := 0, slots := 0, locals := 22 } G_w (wM a_w cI cZ g_w f_w tc_w) (tyIZ cI cZ) (aS a_w 6 sz_w) sz_w [.ref (a_w 0), .int p0_w, .int p1_w] (fun u_w => u_w = if okSC p0_w p1_w = true then (upd (upd g_w 5 p0_w) 6 p1_w, f_w, 0) else (g_w, f_w, 1)) (wfM a_w cI cZ) := by
  refine wrv_of (cc := cX2_setClaims) (nL := 3) (by decide) rfl (Nat.le_of_ble_eq_true rfl) ?_
  intro p_w e_w s_w m_w args_w below meth_w c_w H locs_w ls Q hx hb_w hml hown hts hP hK_w hS_w hret hl
  have hl : lv_has ls 3 [(0, .ref (a_w 0)), (1, .int p0_w), (2, .int p1_w)] := hl
  have hinX2 : ∀ w_w ∈ wsX20, w_w ∈ wsX2_setClaims := by decide +kernel
  refine lv_aload_n hx hb_w dX2_setClaims_0 rfl (lv_at hl 0 rfl) ?_
  refine lv_iload_n hx hb_w dX2_setClaims_1 rfl (lv_at hl 1 rfl) ?_
  refine lv_iconst (v := 0) hx hb_w dX2_setClaims_2 (by decide) ?_
  refine lv_bipush (v := 100) hx hb_w dX2_setClaims_3 (by decide) ?_
  refine rdr_S (As := [.int p0_w, .int 0, .int 100]) (rest := [.ref (a_w 0)]) ⟨hx, hb_w, hml, hown, hts⟩ (kX2_isIn l G_w _ _ p0_w 0 100 ) (va_cwS 3 hts gX2_setClaims_X2_isIn rfl rfl rfl (by decide +kernel) ⟨Nat.le_of_ble_eq_true rfl, Nat.le_of_ble_eq_true rfl⟩)  hP hK_w rfl hl.1 rfl (Nat.le_of_ble_eq_true rfl) dX2_setClaims_5 (by decide) (fun r5_w h5 => ?_)
  replace h5 : r5_w = bI (isW p0_w 0 100) := h5
  subst h5
  refine lv_if_eq (tgt := 25) hx hb_w dX2_setClaims_8 (by decide) (fun c8_w => ?_) (fun c8_w => ?_)
  · replace c8_w := bI0 c8_w
    refine lv_iconst (v := 1) hx hb_w dX2_setClaims_25 (by decide) ?_
    refine wri_V (As := [.int 1]) (rest := []) ⟨hx, hb_w, hml, hown, hts⟩ (kX2_can l G_w a_w cI cZ g_w f_w tc_w hap _ 1 ) (cwV 1 hts gX2_setClaims_X2_can rfl rfl rfl (by decide +kernel) ⟨Nat.le_of_ble_eq_true rfl, Nat.le_of_ble_eq_true rfl⟩) (va_recv hK_w hP (ci := 2) (q0 := 0) rfl rfl) hP hK_w hS_w rfl hl.1 rfl (Nat.le_of_ble_eq_true rfl) dX2_setClaims_26 (by decide) (fun r26 u26 H locs_w h26 hP hS_w => ?_)
    obtain ⟨h26_1, h26_2⟩ := h26
    replace h26_1 : r26 = bI false := h26_1.trans (by decide)
    subst h26_1
    subst h26_2
    have hP : va_P G_w vwCl (wM a_w cI cZ g_w f_w 1) H := hP
    refine lv_if_eq (tgt := 42) hx hb_w dX2_setClaims_29 (by decide) (fun c29_w => ?_) (fun c29_w => ?_)
    · replace c29_w := bI0 c29_w
      exact hret (g_w, f_w, 1) _ _ _ _ dX2_setClaims_42 hP hS_w (by rw [if_neg (by simp [okSC, c8_w])])
    replace c29_w := bIn c29_w
    exact absurd c29_w (by decide)
  replace c8_w := bIn c8_w
  refine lv_iload_n hx hb_w dX2_setClaims_11 rfl (lv_at hl 2 rfl) ?_
  refine lv_iconst (v := 1) hx hb_w dX2_setClaims_12 (by decide) ?_
  refine lv_bipush (v := 100) hx hb_w dX2_setClaims_13 (by decide) ?_
  refine rdr_S (As := [.int p1_w, .int 1, .int 100]) (rest := [.ref (a_w 0)]) ⟨hx, hb_w, hml, hown, hts⟩ (kX2_isIn l G_w _ _ p1_w 1 100 ) (va_cwS 3 hts gX2_setClaims_X2_isIn rfl rfl rfl (by decide +kernel) ⟨Nat.le_of_ble_eq_true rfl, Nat.le_of_ble_eq_true rfl⟩)  hP hK_w rfl hl.1 rfl (Nat.le_of_ble_eq_true rfl) dX2_setClaims_15 (by decide) (fun r15 h15 => ?_)
  replace h15 : r15 = bI (isW p1_w 1 100) := h15
  subst h15
  refine lv_if_eq (tgt := 25) hx hb_w dX2_setClaims_18 (by decide) (fun c18_w => ?_) (fun c18_w => ?_)
  · replace c18_w := bI0 c18_w
    refine lv_iconst (v := 1) hx hb_w dX2_setClaims_25 (by decide) ?_
    refine wri_V (As := [.int 1]) (rest := []) ⟨hx, hb_w, hml, hown, hts⟩ (kX2_can l G_w a_w cI cZ g_w f_w tc_w hap _ 1 ) (cwV 1 hts gX2_setClaims_X2_can rfl rfl rfl (by decide +kernel) ⟨Nat.le_of_ble_eq_true rfl, Nat.le_of_ble_eq_true rfl⟩) (va_recv hK_w hP (ci := 2) (q0 := 0) rfl rfl) hP hK_w hS_w rfl hl.1 rfl (Nat.le_of_ble_eq_true rfl) dX2_setClaims_26 (by decide) (fun r26 u26 H locs_w h26 hP hS_w => ?_)
    obtain ⟨h26_1, h26_2⟩ := h26
    replace h26_1 : r26 = bI false := h26_1.trans (by decide)
    subst h26_1
    subst h26_2
    have hP : va_P G_w vwCl (wM a_w cI cZ g_w f_w 1) H := hP
    refine lv_if_eq (tgt := 42) hx hb_w dX2_setClaims_29 (by decide) (fun c29_w => ?_) (fun c29_w => ?_)
    · replace c29_w := bI0 c29_w
      exact hret (g_w, f_w, 1) _ _ _ _ dX2_setClaims_42 hP hS_w (by rw [if_neg (by simp [okSC, c8_w, c18_w])])
    replace c29_w := bIn c29_w
    exact absurd c29_w (by decide)
  replace c18_w := bIn c18_w
  refine lv_iconst (v := 0) hx hb_w dX2_setClaims_21 (by decide) ?_
  refine lv_goto (tgt := 26) hx hb_w dX2_setClaims_22 (by decide) ?_
  refine wri_V (As := [.int 0]) (rest := []) ⟨hx, hb_w, hml, hown, hts⟩ (kX2_can l G_w a_w cI cZ g_w f_w tc_w hap _ 0 ) (cwV 1 hts gX2_setClaims_X2_can rfl rfl rfl (by decide +kernel) ⟨Nat.le_of_ble_eq_true rfl, Nat.le_of_ble_eq_true rfl⟩) (va_recv hK_w hP (ci := 2) (q0 := 0) rfl rfl) hP hK_w hS_w rfl hl.1 rfl (Nat.le_of_ble_eq_true rfl) dX2_setClaims_26 (by decide) (fun r26 u26 H locs_w h26 hP hS_w => ?_)
  obtain ⟨h26_1, h26_2⟩ := h26
  replace h26_1 : r26 = bI true := h26_1.trans (by decide)
  subst h26_1
  subst h26_2
  have hP : va_P G_w vwCl (wM a_w cI cZ g_w f_w 0) H := hP
  refine lv_if_eq (tgt := 42) hx hb_w dX2_setClaims_29 (by decide) (fun c29_w => ?_) (fun c29_w => ?_)
  · replace c29_w := bI0 c29_w
    exact absurd c29_w (by decide)
  replace c29_w := bIn c29_w
  refine lv_aload_n hx hb_w dX2_setClaims_32 rfl (lv_at hl 0 rfl) ?_
  refine lv_iload_n hx hb_w dX2_setClaims_33 rfl (lv_at hl 1 rfl) ?_
  refine mput (index := 20) (v := .int p0_w) (upd g_w 5 p0_w) 0 hx hb_w hts hinX2 hown hK_w hP hap hS_w 5 (by decide) (List.mem_of_getElem? (i := 1) rfl) rfl rfl rfl rfl dX2_setClaims_34 (fun H locs_w hP hS_w => ?_)
  refine lv_aload_n hx hb_w dX2_setClaims_37 rfl (lv_at hl 0 rfl) ?_
  refine lv_iload_n hx hb_w dX2_setClaims_38 rfl (lv_at hl 2 rfl) ?_
  refine mput (index := 23) (v := .int p1_w) (upd (upd g_w 5 p0_w) 6 p1_w) 0 hx hb_w hts hinX2 hown hK_w hP hap hS_w 6 (by decide) (List.mem_of_getElem? (i := 2) rfl) rfl rfl rfl rfl dX2_setClaims_39 (fun H locs_w hP hS_w => ?_)
  exact hret ((upd (upd g_w 5 p0_w) 6 p1_w), f_w, 0) _ _ _ _ dX2_setClaims_42 hP hS_w (by rw [if_pos (by unfold okSC; rw [c8_w, c18_w]; rfl)])
set_option maxHeartbeats 4000000 in
set_option maxRecDepth 100000 in
theorem kX2_setPattern (l : Launch) (G_w : va_G) (a_w : Nat → Nat) (cI cZ : ClassId) (g_w : Nat → Int32) (f_w : Nat → Nat → Int32) (tc_w : Int32) (hap : apart a_w 6) (sz_w : Nat) (p0_w p1_w p2_w p3_w : Int32) (ct : Nat) (hc_w : ct ≤ 512) (hI : Inv ct g_w f_w) (hp2 : p2_w = 0 ∨ p2_w = 1): wrv l yX2_setPattern wsX2_setPattern { frames := 4, cells := 0, slots := 0, locals := 83 } G_w (wM a_w cI cZ g_w f_w tc_w) (tyIZ cI cZ) (aS a_w 6 sz_w) sz_w [.ref (a_w 0), .int p0_w, .int p1_w, .int p2_w, .int p3_w] (fun u_w => u_w = if okSP p0_w p1_w p3_w = true then ((lkS (gSP g_w p0_w p1_w p2_w p3_w) f_w).1, (lkS (gSP g_w p0_w p1_w p2_w p3_w) f_w).2, 0) else (g_w, f_w, 1)) (wfM a_w cI cZ) := by
  refine wrv_of (cc := cX2_setPattern) (nL := 5) (by decide) rfl (Nat.le_of_ble_eq_true rfl) ?_
  intro p_w e_w s_w m_w args_w below meth_w c_w H locs_w ls Q hx hb_w hml hown hts hP hK_w hS_w hret hl
  have hl : lv_has ls 5 [(0, .ref (a_w 0)), (1, .int p0_w), (2, .int p1_w), (3, .int p2_w), (4, .int p3_w)] := hl
  have hinX2 : ∀ w_w ∈ wsX20, w_w ∈ wsX2_setPattern := by decide +kernel
  refine lv_aload_n hx hb_w dX2_setPattern_0 rfl (lv_at hl 0 rfl) ?_
  refine lv_iload_n hx hb_w dX2_setPattern_1 rfl (lv_at hl 1 rfl) ?_
  refine lv_iconst (v := 1) hx hb_w dX2_setPattern_2 (by decide) ?_
  refine lv_bipush (v := 90) hx hb_w dX2_setPattern_3 (by decide) ?_
  refine rdr_S (As := [.int p0_w, .int 1, .int 90]) (rest := [.ref (a_w 0)]) ⟨hx, hb_w, hml, hown, hts⟩ (kX2_isIn l G_w _ _ p0_w 1 90 ) (va_cwS 3 hts gX2_setPattern_X2_isIn rfl rfl rfl (by decide +kernel) ⟨Nat.le_of_ble_eq_true rfl, Nat.le_of_ble_eq_true rfl⟩)  hP hK_w rfl hl.1 rfl (Nat.le_of_ble_eq_true rfl) dX2_setPattern_5 (by decide) (fun r5_w h5 => ?_)
  replace h5 : r5_w = bI (isW p0_w 1 90) := h5
  subst h5
  refine lv_if_eq (tgt := 37) hx hb_w dX2_setPattern_8 (by decide) (fun c8_w => ?_) (fun c8_w => ?_)
  · replace c8_w := bI0 c8_w
    refine lv_iconst (v := 1) hx hb_w dX2_setPattern_37 (by decide) ?_
    refine wri_V (As := [.int 1]) (rest := []) ⟨hx, hb_w, hml, hown, hts⟩ (kX2_can l G_w a_w cI cZ g_w f_w tc_w hap _ 1 ) (cwV 1 hts gX2_setPattern_X2_can rfl rfl rfl (by decide +kernel) ⟨Nat.le_of_ble_eq_true rfl, Nat.le_of_ble_eq_true rfl⟩) (va_recv hK_w hP (ci := 2) (q0 := 0) rfl rfl) hP hK_w hS_w rfl hl.1 rfl (Nat.le_of_ble_eq_true rfl) dX2_setPattern_38 (by decide) (fun r38 u38 H locs_w h38 hP hS_w => ?_)
    obtain ⟨h38_1, h38_2⟩ := h38
    replace h38_1 : r38 = bI false := h38_1.trans (by decide)
    subst h38_1
    subst h38_2
    have hP : va_P G_w vwCl (wM a_w cI cZ g_w f_w 1) H := hP
    refine lv_if_eq (tgt := 69) hx hb_w dX2_setPattern_41 (by decide) (fun c41 => ?_) (fun c41 => ?_)
    · replace c41 := bI0 c41
      exact hret (g_w, f_w, 1) _ _ _ _ dX2_setPattern_69 hP hS_w (by rw [if_neg (by simp [okSP, c8_w])])
    replace c41 := bIn c41
    exact absurd c41 (by decide)
  replace c8_w := bIn c8_w
  refine lv_iload_n hx hb_w dX2_setPattern_11 rfl (lv_at hl 2 rfl) ?_
  refine lv_iconst (v := 1) hx hb_w dX2_setPattern_12 (by decide) ?_
  refine lv_bipush (v := 20) hx hb_w dX2_setPattern_13 (by decide) ?_
  refine rdr_S (As := [.int p1_w, .int 1, .int 20]) (rest := [.ref (a_w 0)]) ⟨hx, hb_w, hml, hown, hts⟩ (kX2_isIn l G_w _ _ p1_w 1 20 ) (va_cwS 3 hts gX2_setPattern_X2_isIn rfl rfl rfl (by decide +kernel) ⟨Nat.le_of_ble_eq_true rfl, Nat.le_of_ble_eq_true rfl⟩)  hP hK_w rfl hl.1 rfl (Nat.le_of_ble_eq_true rfl) dX2_setPattern_15 (by decide) (fun r15 h15 => ?_)
  replace h15 : r15 = bI (isW p1_w 1 20) := h15
  subst h15
  refine lv_if_eq (tgt := 37) hx hb_w dX2_setPattern_18 (by decide) (fun c18_w => ?_) (fun c18_w => ?_)
  · replace c18_w := bI0 c18_w
    refine lv_iconst (v := 1) hx hb_w dX2_setPattern_37 (by decide) ?_
    refine wri_V (As := [.int 1]) (rest := []) ⟨hx, hb_w, hml, hown, hts⟩ (kX2_can l G_w a_w cI cZ g_w f_w tc_w hap _ 1 ) (cwV 1 hts gX2_setPattern_X2_can rfl rfl rfl (by decide +kernel) ⟨Nat.le_of_ble_eq_true rfl, Nat.le_of_ble_eq_true rfl⟩) (va_recv hK_w hP (ci := 2) (q0 := 0) rfl rfl) hP hK_w hS_w rfl hl.1 rfl (Nat.le_of_ble_eq_true rfl) dX2_setPattern_38 (by decide) (fun r38 u38 H locs_w h38 hP hS_w => ?_)
    obtain ⟨h38_1, h38_2⟩ := h38
    replace h38_1 : r38 = bI false := h38_1.trans (by decide)
    subst h38_1
    subst h38_2
    have hP : va_P G_w vwCl (wM a_w cI cZ g_w f_w 1) H := hP
    refine lv_if_eq (tgt := 69) hx hb_w dX2_setPattern_41 (by decide) (fun c41 => ?_) (fun c41 => ?_)
    · replace c41 := bI0 c41
      exact hret (g_w, f_w, 1) _ _ _ _ dX2_setPattern_69 hP hS_w (by rw [if_neg (by simp [okSP, c8_w, c18_w])])
    replace c41 := bIn c41
    exact absurd c41 (by decide)
  replace c18_w := bIn c18_w
  refine lv_iload hx hb_w dX2_setPattern_21 (lv_at hl 4 rfl) ?_
  refine lv_iconst (v := 0) hx hb_w dX2_setPattern_23 (by decide) ?_
  refine lv_sipush (v := 4094) hx hb_w dX2_setPattern_24 (by decide) ?_
  refine rdr_S (As := [.int p3_w, .int 0, .int 4094]) (rest := [.ref (a_w 0)]) ⟨hx, hb_w, hml, hown, hts⟩ (kX2_isIn l G_w _ _ p3_w 0 4094 ) (va_cwS 3 hts gX2_setPattern_X2_isIn rfl rfl rfl (by decide +kernel) ⟨Nat.le_of_ble_eq_true rfl, Nat.le_of_ble_eq_true rfl⟩)  hP hK_w rfl hl.1 rfl (Nat.le_of_ble_eq_true rfl) dX2_setPattern_27 (by decide) (fun r27 h27 => ?_)
  replace h27 : r27 = bI (isW p3_w 0 4094) := h27
  subst h27
  refine lv_if_eq (tgt := 37) hx hb_w dX2_setPattern_30 (by decide) (fun c30_w => ?_) (fun c30_w => ?_)
  · replace c30_w := bI0 c30_w
    refine lv_iconst (v := 1) hx hb_w dX2_setPattern_37 (by decide) ?_
    refine wri_V (As := [.int 1]) (rest := []) ⟨hx, hb_w, hml, hown, hts⟩ (kX2_can l G_w a_w cI cZ g_w f_w tc_w hap _ 1 ) (cwV 1 hts gX2_setPattern_X2_can rfl rfl rfl (by decide +kernel) ⟨Nat.le_of_ble_eq_true rfl, Nat.le_of_ble_eq_true rfl⟩) (va_recv hK_w hP (ci := 2) (q0 := 0) rfl rfl) hP hK_w hS_w rfl hl.1 rfl (Nat.le_of_ble_eq_true rfl) dX2_setPattern_38 (by decide) (fun r38 u38 H locs_w h38 hP hS_w => ?_)
    obtain ⟨h38_1, h38_2⟩ := h38
    replace h38_1 : r38 = bI false := h38_1.trans (by decide)
    subst h38_1
    subst h38_2
    have hP : va_P G_w vwCl (wM a_w cI cZ g_w f_w 1) H := hP
    refine lv_if_eq (tgt := 69) hx hb_w dX2_setPattern_41 (by decide) (fun c41 => ?_) (fun c41 => ?_)
    · replace c41 := bI0 c41
      exact hret (g_w, f_w, 1) _ _ _ _ dX2_setPattern_69 hP hS_w (by rw [if_neg (by simp [okSP, c8_w, c18_w, c30_w])])
    replace c41 := bIn c41
    exact absurd c41 (by decide)
  replace c30_w := bIn c30_w
  refine lv_iconst (v := 0) hx hb_w dX2_setPattern_33 (by decide) ?_
  refine lv_goto (tgt := 38) hx hb_w dX2_setPattern_34 (by decide) ?_
  refine wri_V (As := [.int 0]) (rest := []) ⟨hx, hb_w, hml, hown, hts⟩ (kX2_can l G_w a_w cI cZ g_w f_w tc_w hap _ 0 ) (cwV 1 hts gX2_setPattern_X2_can rfl rfl rfl (by decide +kernel) ⟨Nat.le_of_ble_eq_true rfl, Nat.le_of_ble_eq_true rfl⟩) (va_recv hK_w hP (ci := 2) (q0 := 0) rfl rfl) hP hK_w hS_w rfl hl.1 rfl (Nat.le_of_ble_eq_true rfl) dX2_setPattern_38 (by decide) (fun r38 u38 H locs_w h38 hP hS_w => ?_)
  obtain ⟨h38_1, h38_2⟩ := h38
  replace h38_1 : r38 = bI true := h38_1.trans (by decide)
  subst h38_1
  subst h38_2
  have hP : va_P G_w vwCl (wM a_w cI cZ g_w f_w 0) H := hP
  refine lv_if_eq (tgt := 69) hx hb_w dX2_setPattern_41 (by decide) (fun c41 => ?_) (fun c41 => ?_)
  · replace c41 := bI0 c41
    exact absurd c41 (by decide)
  replace c41 := bIn c41
  have hok : okSP p0_w p1_w p3_w = true := by unfold okSP; rw [c8_w, c18_w, c30_w]; rfl
  refine lv_aload_n hx hb_w dX2_setPattern_44 rfl (lv_at hl 0 rfl) ?_
  refine lv_iload_n hx hb_w dX2_setPattern_45 rfl (lv_at hl 1 rfl) ?_
  refine mput (index := 7) (v := .int p0_w) (upd g_w 1 p0_w) 0 hx hb_w hts hinX2 hown hK_w hP hap hS_w 1 (by decide) (List.mem_of_getElem? (i := 1) rfl) rfl rfl rfl rfl dX2_setPattern_46 (fun H locs_w hP hS_w => ?_)
  refine lv_aload_n hx hb_w dX2_setPattern_49 rfl (lv_at hl 0 rfl) ?_
  refine lv_iload_n hx hb_w dX2_setPattern_50 rfl (lv_at hl 2 rfl) ?_
  refine mput (index := 13) (v := .int p1_w) (upd (upd g_w 1 p0_w) 2 p1_w) 0 hx hb_w hts hinX2 hown hK_w hP hap hS_w 2 (by decide) (List.mem_of_getElem? (i := 2) rfl) rfl rfl rfl rfl dX2_setPattern_51 (fun H locs_w hP hS_w => ?_)
  refine lv_aload_n hx hb_w dX2_setPattern_54 rfl (lv_at hl 0 rfl) ?_
  refine lv_iload_n hx hb_w dX2_setPattern_55 rfl (lv_at hl 3 rfl) ?_
  refine mput (index := 16) (v := .int p2_w) (upd (upd (upd g_w 1 p0_w) 2 p1_w) 3 p2_w) 0 hx hb_w hts hinX2 hown hK_w hP hap hS_w 3 (by decide) (List.mem_of_getElem? (i := 3) rfl) rfl (by rcases hp2 with q_w | q_w <;> rw [q_w] <;> rfl) (by rcases hp2 with q_w | q_w <;> rw [q_w] <;> rfl) rfl dX2_setPattern_56 (fun H locs_w hP hS_w => ?_)
  refine lv_aload_n hx hb_w dX2_setPattern_59 rfl (lv_at hl 0 rfl) ?_
  refine lv_iload hx hb_w dX2_setPattern_60 (lv_at hl 4 rfl) ?_
  refine mput (index := 56) (v := .int p3_w) (upd (upd (upd (upd g_w 1 p0_w) 2 p1_w) 3 p2_w) 4 p3_w) 0 hx hb_w hts hinX2 hown hK_w hP hap hS_w 4 (by decide) (List.mem_of_getElem? (i := 4) rfl) rfl rfl rfl rfl dX2_setPattern_62 (fun H locs_w hP hS_w => ?_)
  refine lv_aload_n hx hb_w dX2_setPattern_65 rfl (lv_at hl 0 rfl) ?_
  refine wrv_V (As := []) (rest := []) ⟨hx, hb_w, hml, hown, hts⟩ (kX2_looks l G_w a_w cI cZ (upd (upd (upd (upd g_w 1 p0_w) 2 p1_w) 3 p2_w) 4 p3_w) f_w 0 hap _  ct hc_w (inv_SP hI hok hp2)) (cwV 0 hts gX2_setPattern_X2_looks rfl rfl rfl (by decide +kernel) ⟨Nat.le_of_ble_eq_true rfl, Nat.le_of_ble_eq_true rfl⟩) (va_recv hK_w hP (ci := 2) (q0 := 0) rfl rfl) hP hK_w hS_w rfl hl.1 rfl (Nat.le_of_ble_eq_true rfl) dX2_setPattern_66 (by decide) (fun u66 H locs_w h66 hP hS_w => ?_)
  subst h66
  have hP : va_P G_w vwCl (wM a_w cI cZ (lkS (gSP g_w p0_w p1_w p2_w p3_w) f_w).1 (lkS (gSP g_w p0_w p1_w p2_w p3_w) f_w).2 0) H := hP
  exact hret ((lkS (gSP g_w p0_w p1_w p2_w p3_w) f_w).1, (lkS (gSP g_w p0_w p1_w p2_w p3_w) f_w).2, 0) _ _ _ _ dX2_setPattern_69 hP hS_w (by rw [if_pos hok])
set_option maxHeartbeats 4000000 in
set_option maxRecDepth 100000 in
theorem kX2_advance (l : Launch) (G_w : va_G) (a_w : Nat → Nat) (cI cZ : ClassId) (g_w : Nat → Int32) (f_w : Nat → Nat → Int32) (tc_w : Int32) (hap : apart a_w 6) (sz_w : Nat) (p0_w : Int32) (ct : Nat) (hc_w : ct ≤ 512) (hI : Inv ct g_w f_w): wri l yX2_advance wsX2_advance { frames := 4, cells := 0, slots := 0, locals := 83 } G_w (wM a_w cI cZ g_w f_w tc_w) (tyIZ cI cZ) (aS a_w 6 sz_w) sz_w [.ref (a_w 0), .int p0_w] (fun r_w u_w => r_w = (if thA g_w p0_w = 0 then (lkS (upd g_w 0 (g_w 0 + p0_w)) f_w).1 0 else 0) ∧ u_w = if thA g_w p0_w = 0 then ((lkS (upd g_w 0 (g_w 0 + p0_w)) f_w).1, (lkS (upd g_w 0 (g_w 0 + p0_w)) f_w).2, 0) else (g_w, f_w, thA g_w p0_w)) (wfM a_w cI cZ) := by
  refine wri_of (cc := cX2_advance) (nL := 2) (ty := .int) (by decide) rfl (Nat.le_of_ble_eq_true rfl) ?_
  intro p_w e_w s_w m_w args_w below meth_w c_w H locs_w ls Q hx hb_w hml hown hts hP hK_w hS_w hret hl
  have hl : lv_has ls 2 [(0, .ref (a_w 0)), (1, .int p0_w)] := hl
  have hinX2 : ∀ w_w ∈ wsX20, w_w ∈ wsX2_advance := by decide +kernel
  refine lv_aload_n hx hb_w dX2_advance_0 rfl (lv_at hl 0 rfl) ?_
  refine lv_iload_n hx hb_w dX2_advance_1 rfl (lv_at hl 1 rfl) ?_
  refine lv_iconst (v := 1) hx hb_w dX2_advance_2 (by decide) ?_
  refine lv_sipush (v := 400) hx hb_w dX2_advance_3 (by decide) ?_
  refine rdr_S (As := [.int p0_w, .int 1, .int 400]) (rest := [.ref (a_w 0)]) ⟨hx, hb_w, hml, hown, hts⟩ (kX2_isIn l G_w _ _ p0_w 1 400 ) (va_cwS 3 hts gX2_advance_X2_isIn rfl rfl rfl (by decide +kernel) ⟨Nat.le_of_ble_eq_true rfl, Nat.le_of_ble_eq_true rfl⟩)  hP hK_w rfl hl.1 rfl (Nat.le_of_ble_eq_true rfl) dX2_advance_6 (by decide) (fun r6 h6 => ?_)
  replace h6 : r6 = bI (isW p0_w 1 400) := h6
  subst h6
  refine lv_if_ne (tgt := 16) hx hb_w dX2_advance_9 (by decide) (fun c9_w => ?_) (fun c9_w => ?_)
  · replace c9_w := bIn c9_w
    refine lv_aload_n hx hb_w dX2_advance_16 rfl (lv_at hl 0 rfl) ?_
    refine mget (index := 70) (v := .int (g_w 0)) hx hb_w hts hinX2 hown hK_w hP 0 (by decide) (List.mem_of_getElem? (i := 1) rfl) rfl dX2_advance_17 ?_
    refine lv_iload_n hx hb_w dX2_advance_20 rfl (lv_at hl 1 rfl) ?_
    refine lv_iadd hx hb_w dX2_advance_21 ?_
    refine lv_sipush (v := 7200) hx hb_w dX2_advance_22 (by decide) ?_
    refine lv_icmp_le (tgt := 32) hx hb_w dX2_advance_25 (by decide) (fun c25_w => ?_) (fun c25_w => ?_)
    · have ht : thA g_w p0_w = 0 := by unfold thA; rw [if_neg (by rw [c9_w]; decide), if_neg (Int32.not_lt.mpr c25_w)]
      refine lv_iconst (v := 0) hx hb_w dX2_advance_32 (by decide) ?_
      refine wri_V (As := [.int 0]) (rest := []) ⟨hx, hb_w, hml, hown, hts⟩ (kX2_can l G_w a_w cI cZ g_w f_w tc_w hap _ 0 ) (cwV 1 hts gX2_advance_X2_can rfl rfl rfl (by decide +kernel) ⟨Nat.le_of_ble_eq_true rfl, Nat.le_of_ble_eq_true rfl⟩) (va_recv hK_w hP (ci := 2) (q0 := 0) rfl rfl) hP hK_w hS_w rfl hl.1 rfl (Nat.le_of_ble_eq_true rfl) dX2_advance_33 (by decide) (fun r33 u33 H locs_w h33 hP hS_w => ?_)
      obtain ⟨h33_1, h33_2⟩ := h33
      replace h33_1 : r33 = bI true := h33_1.trans (by decide)
      subst h33_1
      subst h33_2
      have hP : va_P G_w vwCl (wM a_w cI cZ g_w f_w 0) H := hP
      refine lv_if_ne (tgt := 41) hx hb_w dX2_advance_36 (by decide) (fun c36_w => ?_) (fun c36_w => ?_)
      · replace c36_w := bIn c36_w
        refine lv_aload_n hx hb_w dX2_advance_41 rfl (lv_at hl 0 rfl) ?_
        refine lv_dup hx hb_w dX2_advance_42 rfl ?_
        refine mget (index := 70) (v := .int (g_w 0)) hx hb_w hts hinX2 hown hK_w hP 0 (by decide) (List.mem_of_getElem? (i := 1) rfl) rfl dX2_advance_43 ?_
        refine lv_iload_n hx hb_w dX2_advance_46 rfl (lv_at hl 1 rfl) ?_
        refine lv_iadd hx hb_w dX2_advance_47 ?_
        refine mput (index := 70) (v := .int ((g_w 0) + p0_w)) (upd g_w 0 ((g_w 0) + p0_w)) 0 hx hb_w hts hinX2 hown hK_w hP hap hS_w 0 (by decide) (List.mem_of_getElem? (i := 1) rfl) rfl rfl rfl rfl dX2_advance_48 (fun H locs_w hP hS_w => ?_)
        refine lv_aload_n hx hb_w dX2_advance_51 rfl (lv_at hl 0 rfl) ?_
        refine wrv_V (As := []) (rest := []) ⟨hx, hb_w, hml, hown, hts⟩ (kX2_looks l G_w a_w cI cZ (upd g_w 0 ((g_w 0) + p0_w)) f_w 0 hap _  ct hc_w (inv_A hI c9_w (Int32.not_lt.mpr c25_w))) (cwV 0 hts gX2_advance_X2_looks rfl rfl rfl (by decide +kernel) ⟨Nat.le_of_ble_eq_true rfl, Nat.le_of_ble_eq_true rfl⟩) (va_recv hK_w hP (ci := 2) (q0 := 0) rfl rfl) hP hK_w hS_w rfl hl.1 rfl (Nat.le_of_ble_eq_true rfl) dX2_advance_52 (by decide) (fun u52 H locs_w h52 hP hS_w => ?_)
        subst h52
        have hP : va_P G_w vwCl (wM a_w cI cZ (lkS (upd g_w 0 (g_w 0 + p0_w)) f_w).1 (lkS (upd g_w 0 (g_w 0 + p0_w)) f_w).2 0) H := hP
        refine lv_aload_n hx hb_w dX2_advance_55 rfl (lv_at hl 0 rfl) ?_
        refine mget (index := 70) (v := .int ((lkS (upd g_w 0 (g_w 0 + p0_w)) f_w).1 0)) hx hb_w hts hinX2 hown hK_w hP 0 (by decide) (List.mem_of_getElem? (i := 1) rfl) rfl dX2_advance_56 ?_
        exact hret ((lkS (upd g_w 0 (g_w 0 + p0_w)) f_w).1 0) ((lkS (upd g_w 0 (g_w 0 + p0_w)) f_w).1, (lkS (upd g_w 0 (g_w 0 + p0_w)) f_w).2, 0) _ _ _ _ dX2_advance_59 rfl hP hS_w ⟨by rw [if_pos ht], by rw [if_pos ht]⟩
      replace c36_w := bI0 c36_w
      exact absurd c36_w (by decide)
    have ht : thA g_w p0_w = 2 := by unfold thA; rw [if_neg (by rw [c9_w]; decide), if_pos (Int32.not_le.mp c25_w)]
    refine lv_iconst (v := 2) hx hb_w dX2_advance_28 (by decide) ?_
    refine lv_goto (tgt := 33) hx hb_w dX2_advance_29 (by decide) ?_
    refine wri_V (As := [.int 2]) (rest := []) ⟨hx, hb_w, hml, hown, hts⟩ (kX2_can l G_w a_w cI cZ g_w f_w tc_w hap _ 2 ) (cwV 1 hts gX2_advance_X2_can rfl rfl rfl (by decide +kernel) ⟨Nat.le_of_ble_eq_true rfl, Nat.le_of_ble_eq_true rfl⟩) (va_recv hK_w hP (ci := 2) (q0 := 0) rfl rfl) hP hK_w hS_w rfl hl.1 rfl (Nat.le_of_ble_eq_true rfl) dX2_advance_33 (by decide) (fun r33 u33 H locs_w h33 hP hS_w => ?_)
    obtain ⟨h33_1, h33_2⟩ := h33
    replace h33_1 : r33 = bI false := h33_1.trans (by decide)
    subst h33_1
    subst h33_2
    have hP : va_P G_w vwCl (wM a_w cI cZ g_w f_w 2) H := hP
    refine lv_if_ne (tgt := 41) hx hb_w dX2_advance_36 (by decide) (fun c36_w => ?_) (fun c36_w => ?_)
    · replace c36_w := bIn c36_w
      exact absurd c36_w (by decide)
    replace c36_w := bI0 c36_w
    refine lv_iconst (v := 0) hx hb_w dX2_advance_39 (by decide) ?_
    exact hret 0 (g_w, f_w, 2) _ _ _ _ dX2_advance_40 rfl hP hS_w ⟨by rw [if_neg (by rw [ht]; decide)], by rw [if_neg (by rw [ht]; decide), ht]⟩
  replace c9_w := bI0 c9_w
  have ht : thA g_w p0_w = 1 := by unfold thA; rw [if_pos c9_w]
  refine lv_iconst (v := 1) hx hb_w dX2_advance_12 (by decide) ?_
  refine lv_goto (tgt := 33) hx hb_w dX2_advance_13 (by decide) ?_
  refine wri_V (As := [.int 1]) (rest := []) ⟨hx, hb_w, hml, hown, hts⟩ (kX2_can l G_w a_w cI cZ g_w f_w tc_w hap _ 1 ) (cwV 1 hts gX2_advance_X2_can rfl rfl rfl (by decide +kernel) ⟨Nat.le_of_ble_eq_true rfl, Nat.le_of_ble_eq_true rfl⟩) (va_recv hK_w hP (ci := 2) (q0 := 0) rfl rfl) hP hK_w hS_w rfl hl.1 rfl (Nat.le_of_ble_eq_true rfl) dX2_advance_33 (by decide) (fun r33 u33 H locs_w h33 hP hS_w => ?_)
  obtain ⟨h33_1, h33_2⟩ := h33
  replace h33_1 : r33 = bI false := h33_1.trans (by decide)
  subst h33_1
  subst h33_2
  have hP : va_P G_w vwCl (wM a_w cI cZ g_w f_w 1) H := hP
  refine lv_if_ne (tgt := 41) hx hb_w dX2_advance_36 (by decide) (fun c36_w => ?_) (fun c36_w => ?_)
  · replace c36_w := bIn c36_w
    exact absurd c36_w (by decide)
  replace c36_w := bI0 c36_w
  refine lv_iconst (v := 0) hx hb_w dX2_advance_39 (by decide) ?_
  exact hret 0 (g_w, f_w, 1) _ _ _ _ dX2_advance_40 rfl hP hS_w ⟨by rw [if_neg (by rw [ht]; decide)], by rw [if_neg (by rw [ht]; decide), ht]⟩
set_option maxHeartbeats 4000000 in
set_option maxRecDepth 100000 in
theorem kX2_skip (l : Launch) (G_w : va_G) (a_w : Nat → Nat) (cI cZ : ClassId) (g_w : Nat → Int32) (f_w : Nat → Nat → Int32) (tc_w : Int32) (hap : apart a_w 6) (sz_w : Nat) (p0_w : Int32) (hNN : NN g_w): wrv l yX2_skip wsX2_skip { frames := 2, cells := 0, slots := 0, locals := 43 } G_w (wM a_w cI cZ g_w f_w tc_w) (tyIZ cI cZ) (aS a_w 6 sz_w) sz_w [.ref (a_w 0), .int p0_w] (fun u_w => u_w = if skT g_w f_w p0_w = 0 then (g_w, up2 f_w 1 (upd (f_w 1) p0_w.toNatClampNeg 3), 0) else (g_w, f_w, skT g_w f_w p0_w)) (wfM a_w cI cZ) := by
  refine wrv_of (cc := cX2_skip) (nL := 2) (by decide) rfl (Nat.le_of_ble_eq_true rfl) ?_
  intro p_w e_w s_w m_w args_w below meth_w c_w H locs_w ls Q hx hb_w hml hown hts hP hK_w hS_w hret hl
  have hl : lv_has ls 2 [(0, .ref (a_w 0)), (1, .int p0_w)] := hl
  have hinX2 : ∀ w_w ∈ wsX20, w_w ∈ wsX2_skip := by decide +kernel
  refine lv_aload_n hx hb_w dX2_skip_0 rfl (lv_at hl 0 rfl) ?_
  refine lv_aload_n hx hb_w dX2_skip_1 rfl (lv_at hl 0 rfl) ?_
  refine lv_iload_n hx hb_w dX2_skip_2 rfl (lv_at hl 1 rfl) ?_
  refine rdr_V (As := [.int p0_w]) (rest := [.ref (a_w 0)]) ⟨hx, hb_w, hml, hown, hts⟩ (kX2_isForetold l G_w a_w cI cZ g_w f_w tc_w p0_w hNN) (cwV 1 hts gX2_skip_X2_isForetold rfl rfl rfl (by decide +kernel) ⟨Nat.le_of_ble_eq_true rfl, Nat.le_of_ble_eq_true rfl⟩) (va_recv hK_w hP (ci := 2) (q0 := 0) rfl rfl) hP hK_w rfl hl.1 rfl (Nat.le_of_ble_eq_true rfl) dX2_skip_3 (by decide) (fun r3 h3 => ?_)
  replace h3 : r3 = bI (isF g_w p0_w) := h3
  subst h3
  refine lv_if_ne (tgt := 13) hx hb_w dX2_skip_6 (by decide) (fun c6_w => ?_) (fun c6_w => ?_)
  · replace c6_w := bIn c6_w
    obtain ⟨k_w, hk, ek, ec⟩ := isF_k c6_w
    refine lv_aload_n hx hb_w dX2_skip_13 rfl (lv_at hl 0 rfl) ?_
    refine mget (index := 30) (v := .ref (a_w 2)) hx hb_w hts hinX2 hown hK_w hP 9 (by decide) (List.mem_of_getElem? (i := 1) rfl) rfl dX2_skip_14 ?_
    refine lv_iload_n hx hb_w dX2_skip_17 rfl (lv_at hl 1 rfl) ?_
    refine arI (j := k_w) (h := (f_w 1)) hx hb_w hK_w hP 2 rfl ek hk dX2_skip_18 ?_
    refine lv_if_ne (tgt := 26) hx hb_w dX2_skip_19 (by decide) (fun c19_w => ?_) (fun c19_w => ?_)
    · have ht : skT g_w f_w p0_w = 2 := by unfold skT; rw [if_neg (by rw [c6_w]; decide), ec, if_neg c19_w]
      refine lv_iconst (v := 2) hx hb_w dX2_skip_26 (by decide) ?_
      refine wri_V (As := [.int 2]) (rest := []) ⟨hx, hb_w, hml, hown, hts⟩ (kX2_can l G_w a_w cI cZ g_w f_w tc_w hap _ 2 ) (cwV 1 hts gX2_skip_X2_can rfl rfl rfl (by decide +kernel) ⟨Nat.le_of_ble_eq_true rfl, Nat.le_of_ble_eq_true rfl⟩) (va_recv hK_w hP (ci := 2) (q0 := 0) rfl rfl) hP hK_w hS_w rfl hl.1 rfl (Nat.le_of_ble_eq_true rfl) dX2_skip_27 (by decide) (fun r27 u27 H locs_w h27 hP hS_w => ?_)
      obtain ⟨h27_1, h27_2⟩ := h27
      replace h27_1 : r27 = bI false := h27_1.trans (by decide)
      subst h27_1
      subst h27_2
      have hP : va_P G_w vwCl (wM a_w cI cZ g_w f_w 2) H := hP
      refine lv_if_eq (tgt := 40) hx hb_w dX2_skip_30 (by decide) (fun c30_w => ?_) (fun c30_w => ?_)
      · replace c30_w := bI0 c30_w
        exact hret (g_w, f_w, 2) _ _ _ _ dX2_skip_40 hP hS_w (by rw [if_neg (by rw [ht]; decide), ht])
      replace c30_w := bIn c30_w
      exact absurd c30_w (by decide)
    have ht : skT g_w f_w p0_w = 0 := by unfold skT; rw [if_neg (by rw [c6_w]; decide), ec, if_pos c19_w]
    refine lv_iconst (v := 0) hx hb_w dX2_skip_22 (by decide) ?_
    refine lv_goto (tgt := 27) hx hb_w dX2_skip_23 (by decide) ?_
    refine wri_V (As := [.int 0]) (rest := []) ⟨hx, hb_w, hml, hown, hts⟩ (kX2_can l G_w a_w cI cZ g_w f_w tc_w hap _ 0 ) (cwV 1 hts gX2_skip_X2_can rfl rfl rfl (by decide +kernel) ⟨Nat.le_of_ble_eq_true rfl, Nat.le_of_ble_eq_true rfl⟩) (va_recv hK_w hP (ci := 2) (q0 := 0) rfl rfl) hP hK_w hS_w rfl hl.1 rfl (Nat.le_of_ble_eq_true rfl) dX2_skip_27 (by decide) (fun r27 u27 H locs_w h27 hP hS_w => ?_)
    obtain ⟨h27_1, h27_2⟩ := h27
    replace h27_1 : r27 = bI true := h27_1.trans (by decide)
    subst h27_1
    subst h27_2
    have hP : va_P G_w vwCl (wM a_w cI cZ g_w f_w 0) H := hP
    refine lv_if_eq (tgt := 40) hx hb_w dX2_skip_30 (by decide) (fun c30_w => ?_) (fun c30_w => ?_)
    · replace c30_w := bI0 c30_w
      exact absurd c30_w (by decide)
    replace c30_w := bIn c30_w
    refine lv_aload_n hx hb_w dX2_skip_33 rfl (lv_at hl 0 rfl) ?_
    refine mget (index := 30) (v := .ref (a_w 2)) hx hb_w hts hinX2 hown hK_w hP 9 (by decide) (List.mem_of_getElem? (i := 1) rfl) rfl dX2_skip_34 ?_
    refine lv_iload_n hx hb_w dX2_skip_37 rfl (lv_at hl 1 rfl) ?_
    refine lv_iconst (v := 3) hx hb_w dX2_skip_38 (by decide) ?_
    refine asI (j := k_w) (h := (f_w 1)) (x := 3) (wM a_w cI cZ g_w (up2 f_w 1 (upd (f_w 1) k_w 3)) 0) hx hb_w hK_w hP (wM_D hap _) hS_w 2 rfl ek hk rfl dX2_skip_39 (fun H locs_w hP hS_w => ?_)
    exact hret (g_w, (up2 f_w 1 (upd (f_w 1) k_w 3)), 0) _ _ _ _ dX2_skip_40 hP hS_w (by rw [if_pos ht, ec])
  replace c6_w := bI0 c6_w
  have ht : skT g_w f_w p0_w = 1 := by unfold skT; rw [if_pos c6_w]
  refine lv_iconst (v := 1) hx hb_w dX2_skip_9 (by decide) ?_
  refine lv_goto (tgt := 27) hx hb_w dX2_skip_10 (by decide) ?_
  refine wri_V (As := [.int 1]) (rest := []) ⟨hx, hb_w, hml, hown, hts⟩ (kX2_can l G_w a_w cI cZ g_w f_w tc_w hap _ 1 ) (cwV 1 hts gX2_skip_X2_can rfl rfl rfl (by decide +kernel) ⟨Nat.le_of_ble_eq_true rfl, Nat.le_of_ble_eq_true rfl⟩) (va_recv hK_w hP (ci := 2) (q0 := 0) rfl rfl) hP hK_w hS_w rfl hl.1 rfl (Nat.le_of_ble_eq_true rfl) dX2_skip_27 (by decide) (fun r27 u27 H locs_w h27 hP hS_w => ?_)
  obtain ⟨h27_1, h27_2⟩ := h27
  replace h27_1 : r27 = bI false := h27_1.trans (by decide)
  subst h27_1
  subst h27_2
  have hP : va_P G_w vwCl (wM a_w cI cZ g_w f_w 1) H := hP
  refine lv_if_eq (tgt := 40) hx hb_w dX2_skip_30 (by decide) (fun c30_w => ?_) (fun c30_w => ?_)
  · replace c30_w := bI0 c30_w
    exact hret (g_w, f_w, 1) _ _ _ _ dX2_skip_40 hP hS_w (by rw [if_neg (by rw [ht]; decide), ht])
  replace c30_w := bIn c30_w
  exact absurd c30_w (by decide)
set_option maxHeartbeats 4000000 in
set_option maxRecDepth 100000 in
theorem kX2_counts (l : Launch) (G_w : va_G) (a_w : Nat → Nat) (cI cZ : ClassId) (g_w : Nat → Int32) (f_w : Nat → Nat → Int32) (tc_w : Int32) (hap : apart a_w 6) (sz_w : Nat) (i_w ct : Nat) (hi_w : i_w < 200) (hI : Inv ct g_w f_w): wrv l yX2_counts wsX2_counts { frames := 1, cells := 0, slots := 0, locals := 23 } G_w (wM a_w cI cZ g_w f_w tc_w) (tyIZ cI cZ) (aS a_w 6 sz_w) sz_w [.ref (a_w 0), .int (nI i_w)] (fun u_w => u_w = (cntG g_w (g_w 0 - f_w 0 i_w) (rowD g_w f_w i_w) i_w, f_w, tc_w)) (wfM a_w cI cZ) := by
  obtain ⟨B_w, b1, b2, b3, b4, b5⟩ := inv_B hI
  have hro := row_eq hI hi_w
  have hfo : foM g_w f_w i_w = (!decide (g_w 9 = -1) && (!decide (nI i_w ≤ g_w 9) && allR (foB f_w) B_w (i_w - B_w))) := by unfold foM; rw [b5]
  refine wrv_of (cc := cX2_counts) (nL := 3) (by decide) rfl (Nat.le_of_ble_eq_true rfl) ?_
  intro p_w e_w s_w m_w args_w below meth_w c_w H locs_w ls Q hx hb_w hml hown hts hP hK_w hS_w hret hl
  have hl : lv_has ls 3 [(0, .ref (a_w 0)), (1, .int (nI i_w))] := hl
  have hinX2 : ∀ w_w ∈ wsX20, w_w ∈ wsX2_counts := by decide +kernel
  refine lv_aload_n hx hb_w dX2_counts_0 rfl (lv_at hl 0 rfl) ?_
  refine mget (index := 70) (v := .int (g_w 0)) hx hb_w hts hinX2 hown hK_w hP 0 (by decide) (List.mem_of_getElem? (i := 1) rfl) rfl dX2_counts_1 ?_
  refine lv_aload_n hx hb_w dX2_counts_4 rfl (lv_at hl 0 rfl) ?_
  refine mget (index := 26) (v := .ref (a_w 1)) hx hb_w hts hinX2 hown hK_w hP 8 (by decide) (List.mem_of_getElem? (i := 2) rfl) rfl dX2_counts_5 ?_
  refine lv_iload_n hx hb_w dX2_counts_8 rfl (lv_at hl 1 rfl) ?_
  refine arI (j := i_w) (h := (f_w 0)) hx hb_w hK_w hP 1 rfl rfl (by omega) dX2_counts_9 ?_
  refine lv_isub hx hb_w dX2_counts_10 ?_
  refine lv_istore_n (lv' := [(2, .int ((g_w 0) - ((f_w 0) i_w))), (0, .ref (a_w 0)), (1, .int (nI i_w))]) hx hb_w dX2_counts_11 rfl hl (by decide) rfl (fun ls hl => ?_)
  refine lv_aload_n hx hb_w dX2_counts_12 rfl (lv_at hl 1 rfl) ?_
  refine lv_aload_n hx hb_w dX2_counts_13 rfl (lv_at hl 1 rfl) ?_
  refine mget (index := 82) (v := .int (g_w 11)) hx hb_w hts hinX2 hown hK_w hP 16 (by decide) (List.mem_of_getElem? (i := 3) rfl) rfl dX2_counts_14 ?_
  refine lv_if_le (tgt := 45) hx hb_w dX2_counts_17 (by decide) (fun c17 => ?_) (fun c17 => ?_)
  · refine lv_iconst (v := 1) hx hb_w dX2_counts_45 (by decide) ?_
    refine mput (index := 82) (v := .int 1) (upd g_w 11 1) tc_w hx hb_w hts hinX2 hown hK_w hP hap hS_w 16 (by decide) (List.mem_of_getElem? (i := 3) rfl) rfl rfl rfl rfl dX2_counts_46 (fun H locs_w hP hS_w => ?_)
    refine lv_aload_n hx hb_w dX2_counts_49 rfl (lv_at hl 1 rfl) ?_
    refine lv_iload_n hx hb_w dX2_counts_50 rfl (lv_at hl 2 rfl) ?_
    refine mput (index := 43) (v := .int (nI i_w)) (upd (upd g_w 11 1) 9 (nI i_w)) tc_w hx hb_w hts hinX2 hown hK_w hP hap hS_w 14 (by decide) (List.mem_of_getElem? (i := 5) rfl) rfl rfl rfl rfl dX2_counts_51 (fun H locs_w hP hS_w => ?_)
    refine lv_aload_n hx hb_w dX2_counts_54 rfl (lv_at hl 1 rfl) ?_
    refine lv_iload_n hx hb_w dX2_counts_55 rfl (lv_at hl 0 rfl) ?_
    refine mput (index := 88) (v := .int ((g_w 0) - ((f_w 0) i_w))) (upd (upd (upd g_w 11 1) 9 (nI i_w)) 10 ((g_w 0) - ((f_w 0) i_w))) tc_w hx hb_w hts hinX2 hown hK_w hP hap hS_w 15 (by decide) (List.mem_of_getElem? (i := 4) rfl) rfl rfl rfl rfl dX2_counts_56 (fun H locs_w hP hS_w => ?_)
    refine lv_aload_n hx hb_w dX2_counts_59 rfl (lv_at hl 1 rfl) ?_
    refine mget (index := 82) (v := .int 1) hx hb_w hts hinX2 hown hK_w hP 16 (by decide) (List.mem_of_getElem? (i := 3) rfl) rfl dX2_counts_60 ?_
    refine lv_iconst (v := 3) hx hb_w dX2_counts_63 (by decide) ?_
    refine lv_icmp_lt (tgt := 97) hx hb_w dX2_counts_64 (by decide) (fun c64 => ?_) (fun c64 => ?_)
    · have hrow : rowM g_w f_w i_w = 1 := by unfold rowM; rw [if_neg (fun q_w => q_w.1 c17)]
      have hP : va_P G_w vwCl (wM a_w cI cZ (cntG g_w (g_w 0 - f_w 0 i_w) 1 i_w) f_w tc_w) H := by unfold cntG; rw [if_pos (Or.inl c64)]; exact hP
      exact hret (cntG g_w (g_w 0 - f_w 0 i_w) 1 i_w, f_w, tc_w) _ _ _ _ dX2_counts_97 hP hS_w (by rw [← hro, hrow])
    refine lv_iload_n hx hb_w dX2_counts_67 rfl (lv_at hl 0 rfl) ?_
    refine lv_if_eq (tgt := 97) hx hb_w dX2_counts_68 (by decide) (fun c68 => ?_) (fun c68 => ?_)
    · have hrow : rowM g_w f_w i_w = 1 := by unfold rowM; rw [if_neg (fun q_w => q_w.1 c17)]
      have hP : va_P G_w vwCl (wM a_w cI cZ (cntG g_w (g_w 0 - f_w 0 i_w) 1 i_w) f_w tc_w) H := by unfold cntG; rw [if_pos (Or.inr (by unfold okS; rw [decide_eq_true c68]; rfl))]; exact hP
      exact hret (cntG g_w (g_w 0 - f_w 0 i_w) 1 i_w, f_w, tc_w) _ _ _ _ dX2_counts_97 hP hS_w (by rw [← hro, hrow])
    refine lv_iload_n hx hb_w dX2_counts_71 rfl (lv_at hl 0 rfl) ?_
    refine lv_bipush (v := (-15)) hx hb_w dX2_counts_72 (by decide) ?_
    refine lv_bipush (v := 15) hx hb_w dX2_counts_74 (by decide) ?_
    refine rdr_S (As := [.int ((g_w 0) - ((f_w 0) i_w)), .int (-15), .int 15]) (rest := []) ⟨hx, hb_w, hml, hown, hts⟩ (kX2_isIn l G_w _ _ ((g_w 0) - ((f_w 0) i_w)) (-15) 15 ) (va_cwS 3 hts gX2_counts_X2_isIn rfl rfl rfl (by decide +kernel) ⟨Nat.le_of_ble_eq_true rfl, Nat.le_of_ble_eq_true rfl⟩)  hP hK_w rfl hl.1 rfl (Nat.le_of_ble_eq_true rfl) dX2_counts_76 (by decide) (fun r76 h76 => ?_)
    replace h76 : r76 = bI (isW ((g_w 0) - ((f_w 0) i_w)) (-15) 15) := h76
    subst h76
    refine lv_if_eq (tgt := 97) hx hb_w dX2_counts_79 (by decide) (fun c79 => ?_) (fun c79 => ?_)
    · replace c79 := bI0 c79
      have hrow : rowM g_w f_w i_w = 1 := by unfold rowM; rw [if_neg (fun q_w => q_w.1 c17)]
      have hP : va_P G_w vwCl (wM a_w cI cZ (cntG g_w (g_w 0 - f_w 0 i_w) 1 i_w) f_w tc_w) H := by unfold cntG; rw [if_pos (Or.inr (by unfold okS; rw [c79]; simp))]; exact hP
      exact hret (cntG g_w (g_w 0 - f_w 0 i_w) 1 i_w, f_w, tc_w) _ _ _ _ dX2_counts_97 hP hS_w (by rw [← hro, hrow])
    replace c79 := bIn c79
    refine lv_aload_n hx hb_w dX2_counts_82 rfl (lv_at hl 1 rfl) ?_
    refine lv_dup hx hb_w dX2_counts_83 rfl ?_
    refine mget (index := 59) (v := .int (g_w 8)) hx hb_w hts hinX2 hown hK_w hP 13 (by decide) (List.mem_of_getElem? (i := 6) rfl) rfl dX2_counts_84 ?_
    refine lv_iload_n hx hb_w dX2_counts_87 rfl (lv_at hl 0 rfl) ?_
    refine lv_iadd hx hb_w dX2_counts_88 ?_
    refine mput (index := 59) (v := .int ((g_w 8) + ((g_w 0) - ((f_w 0) i_w)))) (upd (upd (upd (upd g_w 11 1) 9 (nI i_w)) 10 ((g_w 0) - ((f_w 0) i_w))) 8 ((g_w 8) + ((g_w 0) - ((f_w 0) i_w)))) tc_w hx hb_w hts hinX2 hown hK_w hP hap hS_w 13 (by decide) (List.mem_of_getElem? (i := 6) rfl) rfl rfl rfl rfl dX2_counts_89 (fun H locs_w hP hS_w => ?_)
    refine lv_aload_n hx hb_w dX2_counts_92 rfl (lv_at hl 1 rfl) ?_
    refine lv_iconst (v := 0) hx hb_w dX2_counts_93 (by decide) ?_
    refine mput (index := 82) (v := .int 0) (upd (upd (upd (upd g_w 9 (nI i_w)) 10 ((g_w 0) - ((f_w 0) i_w))) 8 ((g_w 8) + ((g_w 0) - ((f_w 0) i_w)))) 11 0) tc_w hx hb_w hts hinX2 hown hK_w hP hap hS_w 16 (by decide) (List.mem_of_getElem? (i := 3) rfl) rfl rfl rfl rfl dX2_counts_94 (fun H locs_w hP hS_w => ?_)
    have hrow : rowM g_w f_w i_w = 1 := by unfold rowM; rw [if_neg (fun q_w => q_w.1 c17)]
    have hP : va_P G_w vwCl (wM a_w cI cZ (cntG g_w (g_w 0 - f_w 0 i_w) 1 i_w) f_w tc_w) H := by unfold cntG; rw [if_neg (fun q_w => q_w.elim c64 (by unfold okS; rw [c79, decide_eq_false c68]; decide))]; exact hP
    exact hret (cntG g_w (g_w 0 - f_w 0 i_w) 1 i_w, f_w, tc_w) _ _ _ _ dX2_counts_97 hP hS_w (by rw [← hro, hrow])
  refine lv_aload_n hx hb_w dX2_counts_20 rfl (lv_at hl 1 rfl) ?_
  refine lv_iload_n hx hb_w dX2_counts_21 rfl (lv_at hl 2 rfl) ?_
  refine rdr_V (As := [.int (nI i_w)]) (rest := [.ref (a_w 0)]) ⟨hx, hb_w, hml, hown, hts⟩ (kX2_follows l G_w a_w cI cZ g_w f_w tc_w i_w B_w hi_w b4 b2 (fun q_w => (lt_pred b2 hi_w).mp (by rw [← b1]; exact Int32.not_le.mp q_w))) (cwV 1 hts gX2_counts_X2_follows rfl rfl rfl (by decide +kernel) ⟨Nat.le_of_ble_eq_true rfl, Nat.le_of_ble_eq_true rfl⟩) (va_recv hK_w hP (ci := 2) (q0 := 0) rfl rfl) hP hK_w rfl hl.1 rfl (Nat.le_of_ble_eq_true rfl) dX2_counts_22 (by decide) (fun r22 h22 => ?_)
  replace h22 : r22 = bI (!decide (g_w 9 = -1) && (!decide (nI i_w ≤ g_w 9) && allR (foB f_w) B_w (i_w - B_w))) := h22
  subst h22
  refine lv_if_eq (tgt := 45) hx hb_w dX2_counts_25 (by decide) (fun c25_w => ?_) (fun c25_w => ?_)
  · replace c25_w := bI0 c25_w
    rw [← hfo] at c25_w
    refine lv_iconst (v := 1) hx hb_w dX2_counts_45 (by decide) ?_
    refine mput (index := 82) (v := .int 1) (upd g_w 11 1) tc_w hx hb_w hts hinX2 hown hK_w hP hap hS_w 16 (by decide) (List.mem_of_getElem? (i := 3) rfl) rfl rfl rfl rfl dX2_counts_46 (fun H locs_w hP hS_w => ?_)
    refine lv_aload_n hx hb_w dX2_counts_49 rfl (lv_at hl 1 rfl) ?_
    refine lv_iload_n hx hb_w dX2_counts_50 rfl (lv_at hl 2 rfl) ?_
    refine mput (index := 43) (v := .int (nI i_w)) (upd (upd g_w 11 1) 9 (nI i_w)) tc_w hx hb_w hts hinX2 hown hK_w hP hap hS_w 14 (by decide) (List.mem_of_getElem? (i := 5) rfl) rfl rfl rfl rfl dX2_counts_51 (fun H locs_w hP hS_w => ?_)
    refine lv_aload_n hx hb_w dX2_counts_54 rfl (lv_at hl 1 rfl) ?_
    refine lv_iload_n hx hb_w dX2_counts_55 rfl (lv_at hl 0 rfl) ?_
    refine mput (index := 88) (v := .int ((g_w 0) - ((f_w 0) i_w))) (upd (upd (upd g_w 11 1) 9 (nI i_w)) 10 ((g_w 0) - ((f_w 0) i_w))) tc_w hx hb_w hts hinX2 hown hK_w hP hap hS_w 15 (by decide) (List.mem_of_getElem? (i := 4) rfl) rfl rfl rfl rfl dX2_counts_56 (fun H locs_w hP hS_w => ?_)
    refine lv_aload_n hx hb_w dX2_counts_59 rfl (lv_at hl 1 rfl) ?_
    refine mget (index := 82) (v := .int 1) hx hb_w hts hinX2 hown hK_w hP 16 (by decide) (List.mem_of_getElem? (i := 3) rfl) rfl dX2_counts_60 ?_
    refine lv_iconst (v := 3) hx hb_w dX2_counts_63 (by decide) ?_
    refine lv_icmp_lt (tgt := 97) hx hb_w dX2_counts_64 (by decide) (fun c64 => ?_) (fun c64 => ?_)
    · have hrow : rowM g_w f_w i_w = 1 := by unfold rowM; rw [if_neg (fun q_w => by rw [c25_w] at q_w; exact absurd q_w.2.1 (by decide))]
      have hP : va_P G_w vwCl (wM a_w cI cZ (cntG g_w (g_w 0 - f_w 0 i_w) 1 i_w) f_w tc_w) H := by unfold cntG; rw [if_pos (Or.inl c64)]; exact hP
      exact hret (cntG g_w (g_w 0 - f_w 0 i_w) 1 i_w, f_w, tc_w) _ _ _ _ dX2_counts_97 hP hS_w (by rw [← hro, hrow])
    refine lv_iload_n hx hb_w dX2_counts_67 rfl (lv_at hl 0 rfl) ?_
    refine lv_if_eq (tgt := 97) hx hb_w dX2_counts_68 (by decide) (fun c68 => ?_) (fun c68 => ?_)
    · have hrow : rowM g_w f_w i_w = 1 := by unfold rowM; rw [if_neg (fun q_w => by rw [c25_w] at q_w; exact absurd q_w.2.1 (by decide))]
      have hP : va_P G_w vwCl (wM a_w cI cZ (cntG g_w (g_w 0 - f_w 0 i_w) 1 i_w) f_w tc_w) H := by unfold cntG; rw [if_pos (Or.inr (by unfold okS; rw [decide_eq_true c68]; rfl))]; exact hP
      exact hret (cntG g_w (g_w 0 - f_w 0 i_w) 1 i_w, f_w, tc_w) _ _ _ _ dX2_counts_97 hP hS_w (by rw [← hro, hrow])
    refine lv_iload_n hx hb_w dX2_counts_71 rfl (lv_at hl 0 rfl) ?_
    refine lv_bipush (v := (-15)) hx hb_w dX2_counts_72 (by decide) ?_
    refine lv_bipush (v := 15) hx hb_w dX2_counts_74 (by decide) ?_
    refine rdr_S (As := [.int ((g_w 0) - ((f_w 0) i_w)), .int (-15), .int 15]) (rest := []) ⟨hx, hb_w, hml, hown, hts⟩ (kX2_isIn l G_w _ _ ((g_w 0) - ((f_w 0) i_w)) (-15) 15 ) (va_cwS 3 hts gX2_counts_X2_isIn rfl rfl rfl (by decide +kernel) ⟨Nat.le_of_ble_eq_true rfl, Nat.le_of_ble_eq_true rfl⟩)  hP hK_w rfl hl.1 rfl (Nat.le_of_ble_eq_true rfl) dX2_counts_76 (by decide) (fun r76 h76 => ?_)
    replace h76 : r76 = bI (isW ((g_w 0) - ((f_w 0) i_w)) (-15) 15) := h76
    subst h76
    refine lv_if_eq (tgt := 97) hx hb_w dX2_counts_79 (by decide) (fun c79 => ?_) (fun c79 => ?_)
    · replace c79 := bI0 c79
      have hrow : rowM g_w f_w i_w = 1 := by unfold rowM; rw [if_neg (fun q_w => by rw [c25_w] at q_w; exact absurd q_w.2.1 (by decide))]
      have hP : va_P G_w vwCl (wM a_w cI cZ (cntG g_w (g_w 0 - f_w 0 i_w) 1 i_w) f_w tc_w) H := by unfold cntG; rw [if_pos (Or.inr (by unfold okS; rw [c79]; simp))]; exact hP
      exact hret (cntG g_w (g_w 0 - f_w 0 i_w) 1 i_w, f_w, tc_w) _ _ _ _ dX2_counts_97 hP hS_w (by rw [← hro, hrow])
    replace c79 := bIn c79
    refine lv_aload_n hx hb_w dX2_counts_82 rfl (lv_at hl 1 rfl) ?_
    refine lv_dup hx hb_w dX2_counts_83 rfl ?_
    refine mget (index := 59) (v := .int (g_w 8)) hx hb_w hts hinX2 hown hK_w hP 13 (by decide) (List.mem_of_getElem? (i := 6) rfl) rfl dX2_counts_84 ?_
    refine lv_iload_n hx hb_w dX2_counts_87 rfl (lv_at hl 0 rfl) ?_
    refine lv_iadd hx hb_w dX2_counts_88 ?_
    refine mput (index := 59) (v := .int ((g_w 8) + ((g_w 0) - ((f_w 0) i_w)))) (upd (upd (upd (upd g_w 11 1) 9 (nI i_w)) 10 ((g_w 0) - ((f_w 0) i_w))) 8 ((g_w 8) + ((g_w 0) - ((f_w 0) i_w)))) tc_w hx hb_w hts hinX2 hown hK_w hP hap hS_w 13 (by decide) (List.mem_of_getElem? (i := 6) rfl) rfl rfl rfl rfl dX2_counts_89 (fun H locs_w hP hS_w => ?_)
    refine lv_aload_n hx hb_w dX2_counts_92 rfl (lv_at hl 1 rfl) ?_
    refine lv_iconst (v := 0) hx hb_w dX2_counts_93 (by decide) ?_
    refine mput (index := 82) (v := .int 0) (upd (upd (upd (upd g_w 9 (nI i_w)) 10 ((g_w 0) - ((f_w 0) i_w))) 8 ((g_w 8) + ((g_w 0) - ((f_w 0) i_w)))) 11 0) tc_w hx hb_w hts hinX2 hown hK_w hP hap hS_w 16 (by decide) (List.mem_of_getElem? (i := 3) rfl) rfl rfl rfl rfl dX2_counts_94 (fun H locs_w hP hS_w => ?_)
    have hrow : rowM g_w f_w i_w = 1 := by unfold rowM; rw [if_neg (fun q_w => by rw [c25_w] at q_w; exact absurd q_w.2.1 (by decide))]
    have hP : va_P G_w vwCl (wM a_w cI cZ (cntG g_w (g_w 0 - f_w 0 i_w) 1 i_w) f_w tc_w) H := by unfold cntG; rw [if_neg (fun q_w => q_w.elim c64 (by unfold okS; rw [c79, decide_eq_false c68]; decide))]; exact hP
    exact hret (cntG g_w (g_w 0 - f_w 0 i_w) 1 i_w, f_w, tc_w) _ _ _ _ dX2_counts_97 hP hS_w (by rw [← hro, hrow])
  replace c25_w := bIn c25_w
  rw [← hfo] at c25_w
  refine lv_iload_n hx hb_w dX2_counts_28 rfl (lv_at hl 0 rfl) ?_
  refine lv_aload_n hx hb_w dX2_counts_29 rfl (lv_at hl 1 rfl) ?_
  refine mget (index := 88) (v := .int (g_w 10)) hx hb_w hts hinX2 hown hK_w hP 15 (by decide) (List.mem_of_getElem? (i := 4) rfl) rfl dX2_counts_30 ?_
  refine lv_icmp_ne (tgt := 45) hx hb_w dX2_counts_33 (by decide) (fun c33_w => ?_) (fun c33_w => ?_)
  · refine lv_iconst (v := 1) hx hb_w dX2_counts_45 (by decide) ?_
    refine mput (index := 82) (v := .int 1) (upd g_w 11 1) tc_w hx hb_w hts hinX2 hown hK_w hP hap hS_w 16 (by decide) (List.mem_of_getElem? (i := 3) rfl) rfl rfl rfl rfl dX2_counts_46 (fun H locs_w hP hS_w => ?_)
    refine lv_aload_n hx hb_w dX2_counts_49 rfl (lv_at hl 1 rfl) ?_
    refine lv_iload_n hx hb_w dX2_counts_50 rfl (lv_at hl 2 rfl) ?_
    refine mput (index := 43) (v := .int (nI i_w)) (upd (upd g_w 11 1) 9 (nI i_w)) tc_w hx hb_w hts hinX2 hown hK_w hP hap hS_w 14 (by decide) (List.mem_of_getElem? (i := 5) rfl) rfl rfl rfl rfl dX2_counts_51 (fun H locs_w hP hS_w => ?_)
    refine lv_aload_n hx hb_w dX2_counts_54 rfl (lv_at hl 1 rfl) ?_
    refine lv_iload_n hx hb_w dX2_counts_55 rfl (lv_at hl 0 rfl) ?_
    refine mput (index := 88) (v := .int ((g_w 0) - ((f_w 0) i_w))) (upd (upd (upd g_w 11 1) 9 (nI i_w)) 10 ((g_w 0) - ((f_w 0) i_w))) tc_w hx hb_w hts hinX2 hown hK_w hP hap hS_w 15 (by decide) (List.mem_of_getElem? (i := 4) rfl) rfl rfl rfl rfl dX2_counts_56 (fun H locs_w hP hS_w => ?_)
    refine lv_aload_n hx hb_w dX2_counts_59 rfl (lv_at hl 1 rfl) ?_
    refine mget (index := 82) (v := .int 1) hx hb_w hts hinX2 hown hK_w hP 16 (by decide) (List.mem_of_getElem? (i := 3) rfl) rfl dX2_counts_60 ?_
    refine lv_iconst (v := 3) hx hb_w dX2_counts_63 (by decide) ?_
    refine lv_icmp_lt (tgt := 97) hx hb_w dX2_counts_64 (by decide) (fun c64 => ?_) (fun c64 => ?_)
    · have hrow : rowM g_w f_w i_w = 1 := by unfold rowM; rw [if_neg (fun q_w => c33_w q_w.2.2)]
      have hP : va_P G_w vwCl (wM a_w cI cZ (cntG g_w (g_w 0 - f_w 0 i_w) 1 i_w) f_w tc_w) H := by unfold cntG; rw [if_pos (Or.inl c64)]; exact hP
      exact hret (cntG g_w (g_w 0 - f_w 0 i_w) 1 i_w, f_w, tc_w) _ _ _ _ dX2_counts_97 hP hS_w (by rw [← hro, hrow])
    refine lv_iload_n hx hb_w dX2_counts_67 rfl (lv_at hl 0 rfl) ?_
    refine lv_if_eq (tgt := 97) hx hb_w dX2_counts_68 (by decide) (fun c68 => ?_) (fun c68 => ?_)
    · have hrow : rowM g_w f_w i_w = 1 := by unfold rowM; rw [if_neg (fun q_w => c33_w q_w.2.2)]
      have hP : va_P G_w vwCl (wM a_w cI cZ (cntG g_w (g_w 0 - f_w 0 i_w) 1 i_w) f_w tc_w) H := by unfold cntG; rw [if_pos (Or.inr (by unfold okS; rw [decide_eq_true c68]; rfl))]; exact hP
      exact hret (cntG g_w (g_w 0 - f_w 0 i_w) 1 i_w, f_w, tc_w) _ _ _ _ dX2_counts_97 hP hS_w (by rw [← hro, hrow])
    refine lv_iload_n hx hb_w dX2_counts_71 rfl (lv_at hl 0 rfl) ?_
    refine lv_bipush (v := (-15)) hx hb_w dX2_counts_72 (by decide) ?_
    refine lv_bipush (v := 15) hx hb_w dX2_counts_74 (by decide) ?_
    refine rdr_S (As := [.int ((g_w 0) - ((f_w 0) i_w)), .int (-15), .int 15]) (rest := []) ⟨hx, hb_w, hml, hown, hts⟩ (kX2_isIn l G_w _ _ ((g_w 0) - ((f_w 0) i_w)) (-15) 15 ) (va_cwS 3 hts gX2_counts_X2_isIn rfl rfl rfl (by decide +kernel) ⟨Nat.le_of_ble_eq_true rfl, Nat.le_of_ble_eq_true rfl⟩)  hP hK_w rfl hl.1 rfl (Nat.le_of_ble_eq_true rfl) dX2_counts_76 (by decide) (fun r76 h76 => ?_)
    replace h76 : r76 = bI (isW ((g_w 0) - ((f_w 0) i_w)) (-15) 15) := h76
    subst h76
    refine lv_if_eq (tgt := 97) hx hb_w dX2_counts_79 (by decide) (fun c79 => ?_) (fun c79 => ?_)
    · replace c79 := bI0 c79
      have hrow : rowM g_w f_w i_w = 1 := by unfold rowM; rw [if_neg (fun q_w => c33_w q_w.2.2)]
      have hP : va_P G_w vwCl (wM a_w cI cZ (cntG g_w (g_w 0 - f_w 0 i_w) 1 i_w) f_w tc_w) H := by unfold cntG; rw [if_pos (Or.inr (by unfold okS; rw [c79]; simp))]; exact hP
      exact hret (cntG g_w (g_w 0 - f_w 0 i_w) 1 i_w, f_w, tc_w) _ _ _ _ dX2_counts_97 hP hS_w (by rw [← hro, hrow])
    replace c79 := bIn c79
    refine lv_aload_n hx hb_w dX2_counts_82 rfl (lv_at hl 1 rfl) ?_
    refine lv_dup hx hb_w dX2_counts_83 rfl ?_
    refine mget (index := 59) (v := .int (g_w 8)) hx hb_w hts hinX2 hown hK_w hP 13 (by decide) (List.mem_of_getElem? (i := 6) rfl) rfl dX2_counts_84 ?_
    refine lv_iload_n hx hb_w dX2_counts_87 rfl (lv_at hl 0 rfl) ?_
    refine lv_iadd hx hb_w dX2_counts_88 ?_
    refine mput (index := 59) (v := .int ((g_w 8) + ((g_w 0) - ((f_w 0) i_w)))) (upd (upd (upd (upd g_w 11 1) 9 (nI i_w)) 10 ((g_w 0) - ((f_w 0) i_w))) 8 ((g_w 8) + ((g_w 0) - ((f_w 0) i_w)))) tc_w hx hb_w hts hinX2 hown hK_w hP hap hS_w 13 (by decide) (List.mem_of_getElem? (i := 6) rfl) rfl rfl rfl rfl dX2_counts_89 (fun H locs_w hP hS_w => ?_)
    refine lv_aload_n hx hb_w dX2_counts_92 rfl (lv_at hl 1 rfl) ?_
    refine lv_iconst (v := 0) hx hb_w dX2_counts_93 (by decide) ?_
    refine mput (index := 82) (v := .int 0) (upd (upd (upd (upd g_w 9 (nI i_w)) 10 ((g_w 0) - ((f_w 0) i_w))) 8 ((g_w 8) + ((g_w 0) - ((f_w 0) i_w)))) 11 0) tc_w hx hb_w hts hinX2 hown hK_w hP hap hS_w 16 (by decide) (List.mem_of_getElem? (i := 3) rfl) rfl rfl rfl rfl dX2_counts_94 (fun H locs_w hP hS_w => ?_)
    have hrow : rowM g_w f_w i_w = 1 := by unfold rowM; rw [if_neg (fun q_w => c33_w q_w.2.2)]
    have hP : va_P G_w vwCl (wM a_w cI cZ (cntG g_w (g_w 0 - f_w 0 i_w) 1 i_w) f_w tc_w) H := by unfold cntG; rw [if_neg (fun q_w => q_w.elim c64 (by unfold okS; rw [c79, decide_eq_false c68]; decide))]; exact hP
    exact hret (cntG g_w (g_w 0 - f_w 0 i_w) 1 i_w, f_w, tc_w) _ _ _ _ dX2_counts_97 hP hS_w (by rw [← hro, hrow])
  refine lv_aload_n hx hb_w dX2_counts_36 rfl (lv_at hl 1 rfl) ?_
  refine mget (index := 82) (v := .int (g_w 11)) hx hb_w hts hinX2 hown hK_w hP 16 (by decide) (List.mem_of_getElem? (i := 3) rfl) rfl dX2_counts_37 ?_
  refine lv_iconst (v := 1) hx hb_w dX2_counts_40 (by decide) ?_
  refine lv_iadd hx hb_w dX2_counts_41 ?_
  refine lv_goto (tgt := 46) hx hb_w dX2_counts_42 (by decide) ?_
  refine mput (index := 82) (v := .int ((g_w 11) + 1)) (upd g_w 11 ((g_w 11) + 1)) tc_w hx hb_w hts hinX2 hown hK_w hP hap hS_w 16 (by decide) (List.mem_of_getElem? (i := 3) rfl) rfl rfl rfl rfl dX2_counts_46 (fun H locs_w hP hS_w => ?_)
  refine lv_aload_n hx hb_w dX2_counts_49 rfl (lv_at hl 1 rfl) ?_
  refine lv_iload_n hx hb_w dX2_counts_50 rfl (lv_at hl 2 rfl) ?_
  refine mput (index := 43) (v := .int (nI i_w)) (upd (upd g_w 11 ((g_w 11) + 1)) 9 (nI i_w)) tc_w hx hb_w hts hinX2 hown hK_w hP hap hS_w 14 (by decide) (List.mem_of_getElem? (i := 5) rfl) rfl rfl rfl rfl dX2_counts_51 (fun H locs_w hP hS_w => ?_)
  refine lv_aload_n hx hb_w dX2_counts_54 rfl (lv_at hl 1 rfl) ?_
  refine lv_iload_n hx hb_w dX2_counts_55 rfl (lv_at hl 0 rfl) ?_
  refine mput (index := 88) (v := .int ((g_w 0) - ((f_w 0) i_w))) (upd (upd (upd g_w 11 ((g_w 11) + 1)) 9 (nI i_w)) 10 ((g_w 0) - ((f_w 0) i_w))) tc_w hx hb_w hts hinX2 hown hK_w hP hap hS_w 15 (by decide) (List.mem_of_getElem? (i := 4) rfl) rfl rfl rfl rfl dX2_counts_56 (fun H locs_w hP hS_w => ?_)
  refine lv_aload_n hx hb_w dX2_counts_59 rfl (lv_at hl 1 rfl) ?_
  refine mget (index := 82) (v := .int ((g_w 11) + 1)) hx hb_w hts hinX2 hown hK_w hP 16 (by decide) (List.mem_of_getElem? (i := 3) rfl) rfl dX2_counts_60 ?_
  refine lv_iconst (v := 3) hx hb_w dX2_counts_63 (by decide) ?_
  refine lv_icmp_lt (tgt := 97) hx hb_w dX2_counts_64 (by decide) (fun c64 => ?_) (fun c64 => ?_)
  · have hrow : rowM g_w f_w i_w = (g_w 11 + 1) := by unfold rowM; rw [if_pos ⟨c17, c25_w, c33_w⟩]
    have hP : va_P G_w vwCl (wM a_w cI cZ (cntG g_w (g_w 0 - f_w 0 i_w) (g_w 11 + 1) i_w) f_w tc_w) H := by unfold cntG; rw [if_pos (Or.inl c64)]; exact hP
    exact hret (cntG g_w (g_w 0 - f_w 0 i_w) (g_w 11 + 1) i_w, f_w, tc_w) _ _ _ _ dX2_counts_97 hP hS_w (by rw [← hro, hrow])
  refine lv_iload_n hx hb_w dX2_counts_67 rfl (lv_at hl 0 rfl) ?_
  refine lv_if_eq (tgt := 97) hx hb_w dX2_counts_68 (by decide) (fun c68 => ?_) (fun c68 => ?_)
  · have hrow : rowM g_w f_w i_w = (g_w 11 + 1) := by unfold rowM; rw [if_pos ⟨c17, c25_w, c33_w⟩]
    have hP : va_P G_w vwCl (wM a_w cI cZ (cntG g_w (g_w 0 - f_w 0 i_w) (g_w 11 + 1) i_w) f_w tc_w) H := by unfold cntG; rw [if_pos (Or.inr (by unfold okS; rw [decide_eq_true c68]; rfl))]; exact hP
    exact hret (cntG g_w (g_w 0 - f_w 0 i_w) (g_w 11 + 1) i_w, f_w, tc_w) _ _ _ _ dX2_counts_97 hP hS_w (by rw [← hro, hrow])
  refine lv_iload_n hx hb_w dX2_counts_71 rfl (lv_at hl 0 rfl) ?_
  refine lv_bipush (v := (-15)) hx hb_w dX2_counts_72 (by decide) ?_
  refine lv_bipush (v := 15) hx hb_w dX2_counts_74 (by decide) ?_
  refine rdr_S (As := [.int ((g_w 0) - ((f_w 0) i_w)), .int (-15), .int 15]) (rest := []) ⟨hx, hb_w, hml, hown, hts⟩ (kX2_isIn l G_w _ _ ((g_w 0) - ((f_w 0) i_w)) (-15) 15 ) (va_cwS 3 hts gX2_counts_X2_isIn rfl rfl rfl (by decide +kernel) ⟨Nat.le_of_ble_eq_true rfl, Nat.le_of_ble_eq_true rfl⟩)  hP hK_w rfl hl.1 rfl (Nat.le_of_ble_eq_true rfl) dX2_counts_76 (by decide) (fun r76 h76 => ?_)
  replace h76 : r76 = bI (isW ((g_w 0) - ((f_w 0) i_w)) (-15) 15) := h76
  subst h76
  refine lv_if_eq (tgt := 97) hx hb_w dX2_counts_79 (by decide) (fun c79 => ?_) (fun c79 => ?_)
  · replace c79 := bI0 c79
    have hrow : rowM g_w f_w i_w = (g_w 11 + 1) := by unfold rowM; rw [if_pos ⟨c17, c25_w, c33_w⟩]
    have hP : va_P G_w vwCl (wM a_w cI cZ (cntG g_w (g_w 0 - f_w 0 i_w) (g_w 11 + 1) i_w) f_w tc_w) H := by unfold cntG; rw [if_pos (Or.inr (by unfold okS; rw [c79]; simp))]; exact hP
    exact hret (cntG g_w (g_w 0 - f_w 0 i_w) (g_w 11 + 1) i_w, f_w, tc_w) _ _ _ _ dX2_counts_97 hP hS_w (by rw [← hro, hrow])
  replace c79 := bIn c79
  refine lv_aload_n hx hb_w dX2_counts_82 rfl (lv_at hl 1 rfl) ?_
  refine lv_dup hx hb_w dX2_counts_83 rfl ?_
  refine mget (index := 59) (v := .int (g_w 8)) hx hb_w hts hinX2 hown hK_w hP 13 (by decide) (List.mem_of_getElem? (i := 6) rfl) rfl dX2_counts_84 ?_
  refine lv_iload_n hx hb_w dX2_counts_87 rfl (lv_at hl 0 rfl) ?_
  refine lv_iadd hx hb_w dX2_counts_88 ?_
  refine mput (index := 59) (v := .int ((g_w 8) + ((g_w 0) - ((f_w 0) i_w)))) (upd (upd (upd (upd g_w 11 ((g_w 11) + 1)) 9 (nI i_w)) 10 ((g_w 0) - ((f_w 0) i_w))) 8 ((g_w 8) + ((g_w 0) - ((f_w 0) i_w)))) tc_w hx hb_w hts hinX2 hown hK_w hP hap hS_w 13 (by decide) (List.mem_of_getElem? (i := 6) rfl) rfl rfl rfl rfl dX2_counts_89 (fun H locs_w hP hS_w => ?_)
  refine lv_aload_n hx hb_w dX2_counts_92 rfl (lv_at hl 1 rfl) ?_
  refine lv_iconst (v := 0) hx hb_w dX2_counts_93 (by decide) ?_
  refine mput (index := 82) (v := .int 0) (upd (upd (upd (upd g_w 9 (nI i_w)) 10 ((g_w 0) - ((f_w 0) i_w))) 8 ((g_w 8) + ((g_w 0) - ((f_w 0) i_w)))) 11 0) tc_w hx hb_w hts hinX2 hown hK_w hP hap hS_w 16 (by decide) (List.mem_of_getElem? (i := 3) rfl) rfl rfl rfl rfl dX2_counts_94 (fun H locs_w hP hS_w => ?_)
  have hrow : rowM g_w f_w i_w = (g_w 11 + 1) := by unfold rowM; rw [if_pos ⟨c17, c25_w, c33_w⟩]
  have hP : va_P G_w vwCl (wM a_w cI cZ (cntG g_w (g_w 0 - f_w 0 i_w) (g_w 11 + 1) i_w) f_w tc_w) H := by unfold cntG; rw [if_neg (fun q_w => q_w.elim c64 (by unfold okS; rw [c79, decide_eq_false c68]; decide))]; exact hP
  exact hret (cntG g_w (g_w 0 - f_w 0 i_w) (g_w 11 + 1) i_w, f_w, tc_w) _ _ _ _ dX2_counts_97 hP hS_w (by rw [← hro, hrow])
