set_option maxHeartbeats 4000000 in
set_option maxRecDepth 100000 in
theorem kX1_startOfRange (l : Launch) (G_w : va_G) (a_w : Nat → Nat) (cI cZ : ClassId) (g_w : Nat → Int32) (f_w : Nat → Nat → Int32) (cd : Nat → Int32) (tc_w : Int32) (p0_w : Int32): rdr l yX1_startOfRange wsX1_startOfRange { frames := 4, cells := 0, slots := 0, locals := 83 } G_w (wD a_w cI cZ g_w f_w cd tc_w) (tyIZ cI cZ) [.ref (a_w 0), .int p0_w] (fun r_w => r_w = scan (rsB g_w f_w) p0_w 0 200 0) := by
  refine rdr_of (cc := cX1_startOfRange) (nL := 4) (ty := .int) (by decide) rfl (Nat.le_of_ble_eq_true rfl) ?_
  intro p_w e_w s_w m_w args_w below meth_w c_w H ls Q hx hb_w hml hown hts hP hK_w hret hl
  have hl : lv_has ls 4 [(0, .ref (a_w 0)), (1, .int p0_w)] := hl
  refine lv_iconst (v := 0) hx hb_w dX1_startOfRange_0 (by decide) ?_
  refine lv_istore_n (lv' := [(2, .int 0), (0, .ref (a_w 0)), (1, .int p0_w)]) hx hb_w dX1_startOfRange_1 rfl hl (by decide) rfl (fun ls hl => ?_)
  refine lv_iconst (v := 0) hx hb_w dX1_startOfRange_2 (by decide) ?_
  refine lv_istore_n (lv' := [(3, .int 0), (2, .int 0), (0, .ref (a_w 0)), (1, .int p0_w)]) hx hb_w dX1_startOfRange_3 rfl hl (by decide) rfl (fun ls hl => ?_)
  have loop4 : ∀ (n_w : Nat) (i_w sN_w : Nat) (x : Int32), i_w ≤ 200 → 200 - i_w < n_w → x = nI sN_w → scan (rsB g_w f_w) p0_w i_w (200 - i_w) sN_w = scan (rsB g_w f_w) p0_w 0 200 0 → ∀ (ls : Array Slot), lv_has ls 4 [(0, .ref (a_w 0)), (1, .int p0_w), (2, .int x), (3, .int (nI i_w))] → W p_w l e_w { frames := 4, cells := 0, slots := 0, locals := 83 } s_w m_w args_w below meth_w c_w H [] 0 0 Q (F0 m_w 4 ls []) := by
    intro n_w
    induction n_w with
    | zero => intro i_w sN_w x hi_w hn ex_w hq; exact absurd hn (Nat.not_lt_zero _)
    | succ n_w ih4 =>
      intro i_w sN_w x hi_w hn ex_w hq ls hl
      refine lv_iload_n hx hb_w dX1_startOfRange_4 rfl (lv_at hl 3 rfl) ?_
      refine lv_sipush (v := 200) hx hb_w dX1_startOfRange_5 (by decide) ?_
      refine lv_icmp_ge (tgt := 35) hx hb_w dX1_startOfRange_8 (by decide) (fun c8_w => ?_) (fun c8_w => ?_)
      · have ei := ge_200 c8_w (by omega)
        refine lv_iconst (v := (-1)) hx hb_w dX1_startOfRange_35 (by decide) ?_
        exact hret (-1) _ _ dX1_startOfRange_36 rfl (by rw [← hq, ei]; rfl)
      have hi2 := nge_200 c8_w (by omega)
      refine lv_aload_n hx hb_w dX1_startOfRange_11 rfl (lv_at hl 0 rfl) ?_
      refine lv_iload_n hx hb_w dX1_startOfRange_12 rfl (lv_at hl 3 rfl) ?_
      refine rdr_V (As := [.int (nI i_w)]) (rest := []) ⟨hx, hb_w, hml, hown, hts⟩ (kX1_isRangeStart l G_w a_w cI cZ g_w f_w cd tc_w i_w hi2) (cwV 1 hts gX1_startOfRange_X1_isRangeStart rfl rfl rfl (by decide +kernel) ⟨Nat.le_of_ble_eq_true rfl, Nat.le_of_ble_eq_true rfl⟩) (va_recv hK_w hP (ci := 1) (q0 := 0) rfl rfl) hP hK_w rfl hl.1 rfl (Nat.le_of_ble_eq_true rfl) dX1_startOfRange_13 (by decide) (fun r13 h13 => ?_)
      replace h13 : r13 = bI (rsB g_w f_w i_w) := h13
      subst h13
      refine lv_if_eq (tgt := 29) hx hb_w dX1_startOfRange_16 (by decide) (fun c16 => ?_) (fun c16 => ?_)
      · replace c16 := bI0 c16
        refine lv_iinc (v := nI (i_w + 1)) (lv' := [(3, .int (nI (i_w + 1))), (0, .ref (a_w 0)), (1, .int p0_w), (2, .int x)]) hx hb_w dX1_startOfRange_29 hl (k := 3) rfl (nI_1 _) (by decide) rfl (fun ls hl => ?_)
        refine lv_goto (tgt := 4) hx hb_w dX1_startOfRange_32 (by decide) ?_
        exact ih4 (i_w + 1) sN_w x (by omega) (by omega) ex_w (by rw [← hq, scan_step hi2, if_neg (by rw [c16]; decide)]) _ (lv_sub hl [1, 2, 3, 0] rfl)
      replace c16 := bIn c16
      refine lv_iload_n hx hb_w dX1_startOfRange_19 rfl (lv_at hl 2 rfl) ?_
      refine lv_iload_n hx hb_w dX1_startOfRange_20 rfl (lv_at hl 1 rfl) ?_
      refine lv_icmp_ne (tgt := 26) hx hb_w dX1_startOfRange_21 (by decide) (fun c21 => ?_) (fun c21 => ?_)
      · refine lv_iinc (v := x + 1) (lv' := [(2, .int (x + 1)), (0, .ref (a_w 0)), (1, .int p0_w), (3, .int (nI i_w))]) hx hb_w dX1_startOfRange_26 hl (k := 2) rfl rfl (by decide) rfl (fun ls hl => ?_)
        refine lv_iinc (v := nI (i_w + 1)) (lv' := [(3, .int (nI (i_w + 1))), (2, .int (x + 1)), (0, .ref (a_w 0)), (1, .int p0_w)]) hx hb_w dX1_startOfRange_29 hl (k := 3) rfl (nI_1 _) (by decide) rfl (fun ls hl => ?_)
        refine lv_goto (tgt := 4) hx hb_w dX1_startOfRange_32 (by decide) ?_
        exact ih4 (i_w + 1) (sN_w + 1) (x + 1) (by omega) (by omega) (by rw [ex_w]; exact nI_1 _) (by rw [← hq, scan_step hi2, if_pos c16, if_neg (by rw [← ex_w]; exact c21)]) _ (lv_sub hl [2, 3, 1, 0] rfl)
      refine lv_iload_n hx hb_w dX1_startOfRange_24 rfl (lv_at hl 3 rfl) ?_
      exact hret (nI i_w) _ _ dX1_startOfRange_25 rfl (by rw [← hq, scan_step hi2, if_pos c16, if_pos (by rw [← ex_w]; exact c21)])
  exact loop4 201 0 0 0 (by omega) (by omega) rfl rfl _ (lv_sub hl [2, 3, 1, 0] rfl)
set_option maxHeartbeats 4000000 in
set_option maxRecDepth 100000 in
theorem kX1_endOfRange (l : Launch) (G_w : va_G) (a_w : Nat → Nat) (cI cZ : ClassId) (g_w : Nat → Int32) (f_w : Nat → Nat → Int32) (cd : Nat → Int32) (tc_w : Int32) (k_w : Nat) (hk : k_w < 200): rdr l yX1_endOfRange wsX1_endOfRange { frames := 3, cells := 0, slots := 0, locals := 62 } G_w (wD a_w cI cZ g_w f_w cd tc_w) (tyIZ cI cZ) [.ref (a_w 0), .int (nI k_w)] (fun r_w => r_w = nI (eoR g_w f_w (199 - k_w) k_w)) := by
  refine rdr_of (cc := cX1_endOfRange) (nL := 3) (ty := .int) (by decide) rfl (Nat.le_of_ble_eq_true rfl) ?_
  intro p_w e_w s_w m_w args_w below meth_w c_w H ls Q hx hb_w hml hown hts hP hK_w hret hl
  have hl : lv_has ls 3 [(0, .ref (a_w 0)), (1, .int (nI k_w))] := hl
  refine lv_iload_n hx hb_w dX1_endOfRange_0 rfl (lv_at hl 1 rfl) ?_
  refine lv_istore_n (lv' := [(2, .int (nI k_w)), (0, .ref (a_w 0)), (1, .int (nI k_w))]) hx hb_w dX1_endOfRange_1 rfl hl (by decide) rfl (fun ls hl => ?_)
  have loop2 : ∀ (n_w : Nat) (j_w : Nat), j_w ≤ 199 → 199 - j_w < n_w → eoR g_w f_w (199 - j_w) j_w = eoR g_w f_w (199 - k_w) k_w → ∀ (ls : Array Slot), lv_has ls 3 [(0, .ref (a_w 0)), (1, .int (nI k_w)), (2, .int (nI j_w))] → W p_w l e_w { frames := 3, cells := 0, slots := 0, locals := 62 } s_w m_w args_w below meth_w c_w H [] 0 0 Q (F0 m_w 2 ls []) := by
    intro n_w
    induction n_w with
    | zero => intro j_w hj hn hq; exact absurd hn (Nat.not_lt_zero _)
    | succ n_w ih2 =>
      intro j_w hj hn hq ls hl
      refine lv_iload_n hx hb_w dX1_endOfRange_2 rfl (lv_at hl 2 rfl) ?_
      refine lv_sipush (v := 199) hx hb_w dX1_endOfRange_3 (by decide) ?_
      refine lv_icmp_ge (tgt := 25) hx hb_w dX1_endOfRange_6 (by decide) (fun c6_w => ?_) (fun c6_w => ?_)
      · have ej : j_w = 199 := by have := (nI_leI (a := 199) (b := j_w) (by decide) (by omega)).mp c6_w; omega
        refine lv_iload_n hx hb_w dX1_endOfRange_25 rfl (lv_at hl 2 rfl) ?_
        exact hret (nI j_w) _ _ dX1_endOfRange_26 rfl (by rw [← hq, ej]; rfl)
      have hj2 : j_w < 199 := nle_nI (a := 199) (by omega) (by omega) c6_w
      refine lv_aload_n hx hb_w dX1_endOfRange_9 rfl (lv_at hl 0 rfl) ?_
      refine lv_iload_n hx hb_w dX1_endOfRange_10 rfl (lv_at hl 2 rfl) ?_
      refine lv_iconst (v := 1) hx hb_w dX1_endOfRange_11 (by decide) ?_
      refine lv_iadd hx hb_w dX1_endOfRange_12 ?_
      refine top_eq (z := nI (j_w + 1)) (nI_1 _) ?_
      refine rdr_V (As := [.int (nI (j_w + 1))]) (rest := []) ⟨hx, hb_w, hml, hown, hts⟩ (kX1_isInHouse l G_w a_w cI cZ g_w f_w cd tc_w (nI (j_w + 1)) ) (cwV 1 hts gX1_endOfRange_X1_isInHouse rfl rfl rfl (by decide +kernel) ⟨Nat.le_of_ble_eq_true rfl, Nat.le_of_ble_eq_true rfl⟩) (va_recv hK_w hP (ci := 1) (q0 := 0) rfl rfl) hP hK_w rfl hl.1 rfl (Nat.le_of_ble_eq_true rfl) dX1_endOfRange_13 (by decide) (fun r13 h13 => ?_)
      replace h13 : r13 = bI (hereI g_w f_w (nI (j_w + 1))) := h13
      subst h13
      refine lv_if_eq (tgt := 25) hx hb_w dX1_endOfRange_16 (by decide) (fun c16 => ?_) (fun c16 => ?_)
      · replace c16 := bI0 c16
        refine lv_iload_n hx hb_w dX1_endOfRange_25 rfl (lv_at hl 2 rfl) ?_
        exact hret (nI j_w) _ _ dX1_endOfRange_26 rfl (by rw [← hq, eoR_step hj2, if_neg (by rw [← hereI_nI (show j_w + 1 < 200 by omega), c16]; decide)])
      replace c16 := bIn c16
      refine lv_iinc (v := nI (j_w + 1)) (lv' := [(2, .int (nI (j_w + 1))), (0, .ref (a_w 0)), (1, .int (nI k_w))]) hx hb_w dX1_endOfRange_19 hl (k := 2) rfl (nI_1 _) (by decide) rfl (fun ls hl => ?_)
      refine lv_goto (tgt := 2) hx hb_w dX1_endOfRange_22 (by decide) ?_
      exact ih2 (j_w + 1) (by omega) (by omega) (by rw [← hq, eoR_step hj2, if_pos (by rw [← hereI_nI (show j_w + 1 < 200 by omega), c16])]) _ (lv_sub hl [1, 2, 0] rfl)
  exact loop2 200 k_w (by omega) (by omega) rfl _ (lv_sub hl [1, 2, 0] rfl)
set_option maxHeartbeats 4000000 in
set_option maxRecDepth 100000 in
theorem kX1_isHeld (l : Launch) (G_w : va_G) (a_w : Nat → Nat) (cI cZ : ClassId) (g_w : Nat → Int32) (f_w : Nat → Nat → Int32) (cd : Nat → Int32) (tc_w : Int32) (p0_w : Int32): rdr l yX1_isHeld wsX1_isHeld { frames := 4, cells := 0, slots := 0, locals := 84 } G_w (wD a_w cI cZ g_w f_w cd tc_w) (tyIZ cI cZ) [.ref (a_w 0), .int p0_w] (fun r_w => r_w = bI (anyR (hdB g_w f_w p0_w) 0 200)) := by
  refine rdr_of (cc := cX1_isHeld) (nL := 3) (ty := .boolean) (by decide) rfl (Nat.le_of_ble_eq_true rfl) ?_
  intro p_w e_w s_w m_w args_w below meth_w c_w H ls Q hx hb_w hml hown hts hP hK_w hret hl
  have hl : lv_has ls 3 [(0, .ref (a_w 0)), (1, .int p0_w)] := hl
  refine lv_iconst (v := 0) hx hb_w dX1_isHeld_0 (by decide) ?_
  refine lv_istore_n (lv' := [(2, .int 0), (0, .ref (a_w 0)), (1, .int p0_w)]) hx hb_w dX1_isHeld_1 rfl hl (by decide) rfl (fun ls hl => ?_)
  have loop2 : ∀ (n_w : Nat) (i_w : Nat), i_w ≤ 200 → 200 - i_w < n_w → anyR (hdB g_w f_w p0_w) i_w (200 - i_w) = anyR (hdB g_w f_w p0_w) 0 200 → ∀ (ls : Array Slot), lv_has ls 3 [(0, .ref (a_w 0)), (1, .int p0_w), (2, .int (nI i_w))] → W p_w l e_w { frames := 4, cells := 0, slots := 0, locals := 84 } s_w m_w args_w below meth_w c_w H [] 0 0 Q (F0 m_w 2 ls []) := by
    intro n_w
    induction n_w with
    | zero => intro i_w hi_w hn hq; exact absurd hn (Nat.not_lt_zero _)
    | succ n_w ih2 =>
      intro i_w hi_w hn hq ls hl
      refine lv_iload_n hx hb_w dX1_isHeld_2 rfl (lv_at hl 2 rfl) ?_
      refine lv_sipush (v := 200) hx hb_w dX1_isHeld_3 (by decide) ?_
      refine lv_icmp_ge (tgt := 38) hx hb_w dX1_isHeld_6 (by decide) (fun c6_w => ?_) (fun c6_w => ?_)
      · have ei := ge_200 c6_w (by omega)
        refine lv_iconst (v := 0) hx hb_w dX1_isHeld_38 (by decide) ?_
        exact hret 0 _ _ dX1_isHeld_39 rfl (by rw [← hq, ei]; rfl)
      have hi2 := nge_200 c6_w (by omega)
      refine lv_aload_n hx hb_w dX1_isHeld_9 rfl (lv_at hl 0 rfl) ?_
      refine lv_iload_n hx hb_w dX1_isHeld_10 rfl (lv_at hl 2 rfl) ?_
      refine rdr_V (As := [.int (nI i_w)]) (rest := []) ⟨hx, hb_w, hml, hown, hts⟩ (kX1_isRangeStart l G_w a_w cI cZ g_w f_w cd tc_w i_w hi2) (cwV 1 hts gX1_isHeld_X1_isRangeStart rfl rfl rfl (by decide +kernel) ⟨Nat.le_of_ble_eq_true rfl, Nat.le_of_ble_eq_true rfl⟩) (va_recv hK_w hP (ci := 1) (q0 := 0) rfl rfl) hP hK_w rfl hl.1 rfl (Nat.le_of_ble_eq_true rfl) dX1_isHeld_11 (by decide) (fun r11 h11 => ?_)
      replace h11 : r11 = bI (rsB g_w f_w i_w) := h11
      subst h11
      refine lv_if_eq (tgt := 32) hx hb_w dX1_isHeld_14 (by decide) (fun c14_w => ?_) (fun c14_w => ?_)
      · replace c14_w := bI0 c14_w
        refine lv_iinc (v := nI (i_w + 1)) (lv' := [(2, .int (nI (i_w + 1))), (0, .ref (a_w 0)), (1, .int p0_w)]) hx hb_w dX1_isHeld_32 hl (k := 2) rfl (nI_1 _) (by decide) rfl (fun ls hl => ?_)
        refine lv_goto (tgt := 2) hx hb_w dX1_isHeld_35 (by decide) ?_
        exact ih2 (i_w + 1) (by omega) (by omega) (by rw [← hq, anyR_step hi2]; simp [hdB, c14_w]) _ (lv_sub hl [1, 2, 0] rfl)
      replace c14_w := bIn c14_w
      refine lv_iload_n hx hb_w dX1_isHeld_17 rfl (lv_at hl 1 rfl) ?_
      refine lv_iload_n hx hb_w dX1_isHeld_18 rfl (lv_at hl 2 rfl) ?_
      refine lv_aload_n hx hb_w dX1_isHeld_19 rfl (lv_at hl 0 rfl) ?_
      refine lv_iload_n hx hb_w dX1_isHeld_20 rfl (lv_at hl 2 rfl) ?_
      refine rdr_V (As := [.int (nI i_w)]) (rest := [.int (nI i_w), .int p0_w]) ⟨hx, hb_w, hml, hown, hts⟩ (kX1_endOfRange l G_w a_w cI cZ g_w f_w cd tc_w i_w hi2) (cwV 1 hts gX1_isHeld_X1_endOfRange rfl rfl rfl (by decide +kernel) ⟨Nat.le_of_ble_eq_true rfl, Nat.le_of_ble_eq_true rfl⟩) (va_recv hK_w hP (ci := 1) (q0 := 0) rfl rfl) hP hK_w rfl hl.1 rfl (Nat.le_of_ble_eq_true rfl) dX1_isHeld_21 (by decide) (fun r21 h21 => ?_)
      replace h21 : r21 = nI (eoR g_w f_w (199 - i_w) i_w) := h21
      subst h21
      refine rdr_S (As := [.int p0_w, .int (nI i_w), .int (nI (eoR g_w f_w (199 - i_w) i_w))]) (rest := []) ⟨hx, hb_w, hml, hown, hts⟩ (kX1_isWithin l G_w _ _ p0_w (nI i_w) (nI (eoR g_w f_w (199 - i_w) i_w)) ) (va_cwS 3 hts gX1_isHeld_X1_isWithin rfl rfl rfl (by decide +kernel) ⟨Nat.le_of_ble_eq_true rfl, Nat.le_of_ble_eq_true rfl⟩)  hP hK_w rfl hl.1 rfl (Nat.le_of_ble_eq_true rfl) dX1_isHeld_24 (by decide) (fun r24 h24 => ?_)
      replace h24 : r24 = bI (isW p0_w (nI i_w) (nI (eoR g_w f_w (199 - i_w) i_w))) := h24
      subst h24
      refine lv_if_eq (tgt := 32) hx hb_w dX1_isHeld_27 (by decide) (fun c27_w => ?_) (fun c27_w => ?_)
      · replace c27_w := bI0 c27_w
        refine lv_iinc (v := nI (i_w + 1)) (lv' := [(2, .int (nI (i_w + 1))), (0, .ref (a_w 0)), (1, .int p0_w)]) hx hb_w dX1_isHeld_32 hl (k := 2) rfl (nI_1 _) (by decide) rfl (fun ls hl => ?_)
        refine lv_goto (tgt := 2) hx hb_w dX1_isHeld_35 (by decide) ?_
        exact ih2 (i_w + 1) (by omega) (by omega) (by rw [← hq, anyR_step hi2]; simp [hdB, c14_w, c27_w]) _ (lv_sub hl [1, 2, 0] rfl)
      replace c27_w := bIn c27_w
      refine lv_iconst (v := 1) hx hb_w dX1_isHeld_30 (by decide) ?_
      exact hret 1 _ _ dX1_isHeld_31 rfl (by rw [← hq, anyR_step hi2]; simp [hdB, c14_w, c27_w, bI])
  exact loop2 201 0 (by omega) (by omega) rfl _ (lv_sub hl [1, 2, 0] rfl)
set_option maxHeartbeats 4000000 in
set_option maxRecDepth 100000 in
theorem kX1_find (l : Launch) (G_w : va_G) (a_w : Nat → Nat) (cI cZ : ClassId) (g_w : Nat → Int32) (f_w : Nat → Nat → Int32) (cd : Nat → Int32) (tc_w : Int32) (p0_w p1_w : Int32): rdr l yX1_find wsX1_find { frames := 1, cells := 0, slots := 0, locals := 21 } G_w (wD a_w cI cZ g_w f_w cd tc_w) (tyIZ cI cZ) [.ref (a_w 0), .int p0_w, .int p1_w] (fun r_w => r_w = firstR (fdB g_w p0_w p1_w) 0 200) := by
  refine rdr_of (cc := cX1_find) (nL := 4) (ty := .int) (by decide) rfl (Nat.le_of_ble_eq_true rfl) ?_
  intro p_w e_w s_w m_w args_w below meth_w c_w H ls Q hx hb_w hml hown hts hP hK_w hret hl
  have hl : lv_has ls 4 [(0, .ref (a_w 0)), (1, .int p0_w), (2, .int p1_w)] := hl
  have hinX1 : ∀ w_w ∈ wsX10, w_w ∈ wsX1_find := by decide +kernel
  refine lv_iconst (v := 0) hx hb_w dX1_find_0 (by decide) ?_
  refine lv_istore_n (lv' := [(3, .int 0), (0, .ref (a_w 0)), (1, .int p0_w), (2, .int p1_w)]) hx hb_w dX1_find_1 rfl hl (by decide) rfl (fun ls hl => ?_)
  have loop2 : ∀ (n_w : Nat) (i_w : Nat), i_w ≤ 200 → 200 - i_w < n_w → firstR (fdB g_w p0_w p1_w) i_w (200 - i_w) = firstR (fdB g_w p0_w p1_w) 0 200 → ∀ (ls : Array Slot), lv_has ls 4 [(0, .ref (a_w 0)), (1, .int p0_w), (2, .int p1_w), (3, .int (nI i_w))] → W p_w l e_w { frames := 1, cells := 0, slots := 0, locals := 21 } s_w m_w args_w below meth_w c_w H [] 0 0 Q (F0 m_w 2 ls []) := by
    intro n_w
    induction n_w with
    | zero => intro i_w hi_w hn hq; exact absurd hn (Nat.not_lt_zero _)
    | succ n_w ih2 =>
      intro i_w hi_w hn hq ls hl
      refine lv_iload_n hx hb_w dX1_find_2 rfl (lv_at hl 3 rfl) ?_
      refine lv_sipush (v := 200) hx hb_w dX1_find_3 (by decide) ?_
      refine lv_icmp_ge (tgt := 41) hx hb_w dX1_find_6 (by decide) (fun c6_w => ?_) (fun c6_w => ?_)
      · have ei := ge_200 c6_w (by omega)
        refine lv_iconst (v := (-1)) hx hb_w dX1_find_41 (by decide) ?_
        exact hret (-1) _ _ dX1_find_42 rfl (by rw [← hq, ei]; rfl)
      have hi2 := nge_200 c6_w (by omega)
      refine lv_aload_n hx hb_w dX1_find_9 rfl (lv_at hl 0 rfl) ?_
      refine dget (index := 10) (v := .ref (a_w 1)) hx hb_w hts hinX1 hown hK_w hP 0 (by decide) (List.mem_of_getElem? (i := 1) rfl) rfl dX1_find_10 ?_
      refine lv_iload_n hx hb_w dX1_find_13 rfl (lv_at hl 3 rfl) ?_
      refine rdr_V (As := [.int (nI i_w)]) (rest := []) ⟨hx, hb_w, hml, hown, hts⟩ (kX0_volumeOf l G_w a_w cI cZ g_w f_w cd tc_w (nI i_w) ) (cwV 1 hts gX1_find_X0_volumeOf rfl rfl rfl (by decide +kernel) ⟨Nat.le_of_ble_eq_true rfl, Nat.le_of_ble_eq_true rfl⟩) (va_recv hK_w hP (ci := 0) (q0 := 1) rfl rfl) hP hK_w rfl hl.1 rfl (Nat.le_of_ble_eq_true rfl) dX1_find_14 (by decide) (fun r14 h14 => ?_)
      replace h14 : r14 = volD g_w (nI i_w) := h14
      subst h14
      refine lv_iload_n hx hb_w dX1_find_17 rfl (lv_at hl 1 rfl) ?_
      refine lv_icmp_ne (tgt := 35) hx hb_w dX1_find_18 (by decide) (fun c18_w => ?_) (fun c18_w => ?_)
      · refine lv_iinc (v := nI (i_w + 1)) (lv' := [(3, .int (nI (i_w + 1))), (0, .ref (a_w 0)), (1, .int p0_w), (2, .int p1_w)]) hx hb_w dX1_find_35 hl (k := 3) rfl (nI_1 _) (by decide) rfl (fun ls hl => ?_)
        refine lv_goto (tgt := 2) hx hb_w dX1_find_38 (by decide) ?_
        exact ih2 (i_w + 1) (by omega) (by omega) (by rw [← hq, firstR_step hi2]; simp [fdB, c18_w]) _ (lv_sub hl [1, 2, 3, 0] rfl)
      refine lv_aload_n hx hb_w dX1_find_21 rfl (lv_at hl 0 rfl) ?_
      refine dget (index := 10) (v := .ref (a_w 1)) hx hb_w hts hinX1 hown hK_w hP 0 (by decide) (List.mem_of_getElem? (i := 1) rfl) rfl dX1_find_22 ?_
      refine lv_iload_n hx hb_w dX1_find_25 rfl (lv_at hl 3 rfl) ?_
      refine rdr_V (As := [.int (nI i_w)]) (rest := []) ⟨hx, hb_w, hml, hown, hts⟩ (kX0_numberOf l G_w a_w cI cZ g_w f_w cd tc_w (nI i_w) ) (cwV 1 hts gX1_find_X0_numberOf rfl rfl rfl (by decide +kernel) ⟨Nat.le_of_ble_eq_true rfl, Nat.le_of_ble_eq_true rfl⟩) (va_recv hK_w hP (ci := 0) (q0 := 1) rfl rfl) hP hK_w rfl hl.1 rfl (Nat.le_of_ble_eq_true rfl) dX1_find_26 (by decide) (fun r26 h26 => ?_)
      replace h26 : r26 = numD g_w (nI i_w) := h26
      subst h26
      refine lv_iload_n hx hb_w dX1_find_29 rfl (lv_at hl 2 rfl) ?_
      refine lv_icmp_ne (tgt := 35) hx hb_w dX1_find_30 (by decide) (fun c30_w => ?_) (fun c30_w => ?_)
      · refine lv_iinc (v := nI (i_w + 1)) (lv' := [(3, .int (nI (i_w + 1))), (0, .ref (a_w 0)), (1, .int p0_w), (2, .int p1_w)]) hx hb_w dX1_find_35 hl (k := 3) rfl (nI_1 _) (by decide) rfl (fun ls hl => ?_)
        refine lv_goto (tgt := 2) hx hb_w dX1_find_38 (by decide) ?_
        exact ih2 (i_w + 1) (by omega) (by omega) (by rw [← hq, firstR_step hi2]; simp [fdB, c18_w, c30_w]) _ (lv_sub hl [1, 2, 3, 0] rfl)
      refine lv_iload_n hx hb_w dX1_find_33 rfl (lv_at hl 3 rfl) ?_
      exact hret (nI i_w) _ _ dX1_find_34 rfl (by rw [← hq, firstR_step hi2]; simp [fdB, c18_w, c30_w])
  exact loop2 201 0 (by omega) (by omega) rfl _ (lv_sub hl [1, 2, 3, 0] rfl)
set_option maxHeartbeats 4000000 in
set_option maxRecDepth 100000 in
theorem kX1_canAllCome (l : Launch) (G_w : va_G) (a_w : Nat → Nat) (cI cZ : ClassId) (g_w : Nat → Int32) (f_w : Nat → Nat → Int32) (cd : Nat → Int32) (tc_w : Int32) (F_w L_w : Nat) (hF : F_w ≤ L_w) (hL : L_w < 200): rdr l yX1_canAllCome wsX1_canAllCome { frames := 2, cells := 0, slots := 0, locals := 41 } G_w (wD a_w cI cZ g_w f_w cd tc_w) (tyIZ cI cZ) [.ref (a_w 0), .int (nI F_w), .int (nI L_w)] (fun r_w => r_w = bI (allR (opB g_w f_w) F_w (L_w + 1 - F_w))) := by
  refine rdr_of (cc := cX1_canAllCome) (nL := 4) (ty := .boolean) (by decide) rfl (Nat.le_of_ble_eq_true rfl) ?_
  intro p_w e_w s_w m_w args_w below meth_w c_w H ls Q hx hb_w hml hown hts hP hK_w hret hl
  have hl : lv_has ls 4 [(0, .ref (a_w 0)), (1, .int (nI F_w)), (2, .int (nI L_w))] := hl
  have hinX1 : ∀ w_w ∈ wsX10, w_w ∈ wsX1_canAllCome := by decide +kernel
  refine lv_iload_n hx hb_w dX1_canAllCome_0 rfl (lv_at hl 1 rfl) ?_
  refine lv_istore_n (lv' := [(3, .int (nI F_w)), (0, .ref (a_w 0)), (1, .int (nI F_w)), (2, .int (nI L_w))]) hx hb_w dX1_canAllCome_1 rfl hl (by decide) rfl (fun ls hl => ?_)
  have loop2 : ∀ (n_w : Nat) (i_w : Nat), F_w ≤ i_w → i_w ≤ L_w + 1 → L_w + 1 - i_w < n_w → allR (opB g_w f_w) i_w (L_w + 1 - i_w) = allR (opB g_w f_w) F_w (L_w + 1 - F_w) → ∀ (ls : Array Slot), lv_has ls 4 [(0, .ref (a_w 0)), (1, .int (nI F_w)), (2, .int (nI L_w)), (3, .int (nI i_w))] → W p_w l e_w { frames := 2, cells := 0, slots := 0, locals := 41 } s_w m_w args_w below meth_w c_w H [] 0 0 Q (F0 m_w 2 ls []) := by
    intro n_w
    induction n_w with
    | zero => intro i_w hi0_w hi_w hn hq; exact absurd hn (Nat.not_lt_zero _)
    | succ n_w ih2 =>
      intro i_w hi0_w hi_w hn hq ls hl
      refine lv_iload_n hx hb_w dX1_canAllCome_2 rfl (lv_at hl 3 rfl) ?_
      refine lv_iload_n hx hb_w dX1_canAllCome_3 rfl (lv_at hl 2 rfl) ?_
      refine lv_icmp_gt (tgt := 39) hx hb_w dX1_canAllCome_4 (by decide) (fun c4_w => ?_) (fun c4_w => ?_)
      · have ei : i_w = L_w + 1 := by have := lt_nI (a := L_w) (b := i_w) (by omega) (by omega) c4_w; omega
        refine lv_iconst (v := 1) hx hb_w dX1_canAllCome_39 (by decide) ?_
        exact hret 1 _ _ dX1_canAllCome_40 rfl (by rw [← hq, ei, Nat.sub_self]; rfl)
      have hi2 : i_w ≤ L_w := nlt_nI (by omega) (by omega) c4_w
      refine lv_iload_n hx hb_w dX1_canAllCome_7 rfl (lv_at hl 3 rfl) ?_
      refine lv_sipush (v := 200) hx hb_w dX1_canAllCome_8 (by decide) ?_
      refine lv_icmp_ge (tgt := 39) hx hb_w dX1_canAllCome_11 (by decide) (fun c11_w => ?_) (fun c11_w => ?_)
      · exact absurd (ge_200 c11_w (by omega)) (by omega)
      refine lv_aload_n hx hb_w dX1_canAllCome_14 rfl (lv_at hl 0 rfl) ?_
      refine lv_iload_n hx hb_w dX1_canAllCome_15 rfl (lv_at hl 3 rfl) ?_
      refine rdr_V (As := [.int (nI i_w)]) (rest := []) ⟨hx, hb_w, hml, hown, hts⟩ (kX1_isForetold l G_w a_w cI cZ g_w f_w cd tc_w (nI i_w) ) (cwV 1 hts gX1_canAllCome_X1_isForetold rfl rfl rfl (by decide +kernel) ⟨Nat.le_of_ble_eq_true rfl, Nat.le_of_ble_eq_true rfl⟩) (va_recv hK_w hP (ci := 1) (q0 := 0) rfl rfl) hP hK_w rfl hl.1 rfl (Nat.le_of_ble_eq_true rfl) dX1_canAllCome_16 (by decide) (fun r16 h16_w => ?_)
      replace h16_w : r16 = bI (isF g_w (nI i_w)) := h16_w
      subst h16_w
      refine lv_if_eq (tgt := 33) hx hb_w dX1_canAllCome_19 (by decide) (fun c19_w => ?_) (fun c19_w => ?_)
      · replace c19_w := bI0 c19_w
        replace c19_w := isF_f (by omega) c19_w
        refine lv_iinc (v := nI (i_w + 1)) (lv' := [(3, .int (nI (i_w + 1))), (0, .ref (a_w 0)), (1, .int (nI F_w)), (2, .int (nI L_w))]) hx hb_w dX1_canAllCome_33 hl (k := 3) rfl (nI_1 _) (by decide) rfl (fun ls hl => ?_)
        refine lv_goto (tgt := 2) hx hb_w dX1_canAllCome_36 (by decide) ?_
        exact ih2 (i_w + 1) (by omega) (by omega) (by omega) (by rw [← hq, allR_step (show i_w < L_w + 1 by omega)]; simp [opB, c19_w]) _ (lv_sub hl [1, 2, 3, 0] rfl)
      replace c19_w := bIn c19_w
      replace c19_w := isF_t (by omega) c19_w
      refine lv_aload_n hx hb_w dX1_canAllCome_22 rfl (lv_at hl 0 rfl) ?_
      refine dget (index := 27) (v := .ref (a_w 3)) hx hb_w hts hinX1 hown hK_w hP 7 (by decide) (List.mem_of_getElem? (i := 1) rfl) rfl dX1_canAllCome_23 ?_
      refine lv_iload_n hx hb_w dX1_canAllCome_26 rfl (lv_at hl 3 rfl) ?_
      refine arI (j := i_w) (h := (f_w 1)) hx hb_w hK_w hP 3 rfl rfl (by omega) dX1_canAllCome_27 ?_
      refine lv_if_eq (tgt := 33) hx hb_w dX1_canAllCome_28 (by decide) (fun c28_w => ?_) (fun c28_w => ?_)
      · refine lv_iinc (v := nI (i_w + 1)) (lv' := [(3, .int (nI (i_w + 1))), (0, .ref (a_w 0)), (1, .int (nI F_w)), (2, .int (nI L_w))]) hx hb_w dX1_canAllCome_33 hl (k := 3) rfl (nI_1 _) (by decide) rfl (fun ls hl => ?_)
        refine lv_goto (tgt := 2) hx hb_w dX1_canAllCome_36 (by decide) ?_
        exact ih2 (i_w + 1) (by omega) (by omega) (by omega) (by rw [← hq, allR_step (show i_w < L_w + 1 by omega)]; simp [opB, c28_w]) _ (lv_sub hl [1, 2, 3, 0] rfl)
      refine lv_iconst (v := 0) hx hb_w dX1_canAllCome_31 (by decide) ?_
      exact hret 0 _ _ dX1_canAllCome_32 rfl (by rw [← hq, allR_step (show i_w < L_w + 1 by omega)]; simp only [opB, decide_eq_false c19_w, decide_eq_false c28_w]; rfl)
  exact loop2 (L_w + 2) F_w (by omega) (by omega) (by omega) rfl _ (lv_sub hl [1, 2, 3, 0] rfl)
set_option maxHeartbeats 4000000 in
set_option maxRecDepth 100000 in
theorem kX1_followsStreak (l : Launch) (G_w : va_G) (a_w : Nat → Nat) (cI cZ : ClassId) (g_w : Nat → Int32) (f_w : Nat → Nat → Int32) (cd : Nat → Int32) (tc_w : Int32) (i_w B_w : Nat) (hi_w : i_w < 200) (hf : ¬ g_w 7 ≤ nI i_w) (hB_w : g_w 9 = nI B_w - 1) (hB2 : B_w ≤ 200): rdr l yX1_followsStreak wsX1_followsStreak { frames := 2, cells := 0, slots := 0, locals := 41 } G_w (wD a_w cI cZ g_w f_w cd tc_w) (tyIZ cI cZ) [.ref (a_w 0), .int (nI i_w)] (fun r_w => r_w = bI (decide (B_w ≤ i_w) && allR (foB f_w) B_w (i_w - B_w))) := by
  refine rdr_of (cc := cX1_followsStreak) (nL := 3) (ty := .boolean) (by decide) rfl (Nat.le_of_ble_eq_true rfl) ?_
  intro p_w e_w s_w m_w args_w below meth_w c_w H ls Q hx hb_w hml hown hts hP hK_w hret hl
  have hl : lv_has ls 3 [(0, .ref (a_w 0)), (1, .int (nI i_w))] := hl
  have hinX1 : ∀ w_w ∈ wsX10, w_w ∈ wsX1_followsStreak := by decide +kernel
  refine lv_iload_n hx hb_w dX1_followsStreak_0 rfl (lv_at hl 1 rfl) ?_
  refine lv_aload_n hx hb_w dX1_followsStreak_1 rfl (lv_at hl 0 rfl) ?_
  refine dget (index := 43) (v := .int (g_w 9)) hx hb_w hts hinX1 hown hK_w hP 12 (by decide) (List.mem_of_getElem? (i := 1) rfl) rfl dX1_followsStreak_2 ?_
  refine lv_icmp_gt (tgt := 10) hx hb_w dX1_followsStreak_5 (by decide) (fun c5_w => ?_) (fun c5_w => ?_)
  · have hBi : B_w ≤ i_w := (lt_pred hB2 hi_w).mp (by rw [← hB_w]; exact c5_w)
    refine lv_aload_n hx hb_w dX1_followsStreak_10 rfl (lv_at hl 0 rfl) ?_
    refine dget (index := 43) (v := .int (g_w 9)) hx hb_w hts hinX1 hown hK_w hP 12 (by decide) (List.mem_of_getElem? (i := 1) rfl) rfl dX1_followsStreak_11 ?_
    refine lv_iconst (v := 1) hx hb_w dX1_followsStreak_14 (by decide) ?_
    refine lv_iadd hx hb_w dX1_followsStreak_15 ?_
    refine top_eq (z := nI B_w) (by rw [hB_w]; exact Int32.sub_add_cancel _ _) ?_
    refine lv_istore_n (lv' := [(2, .int (nI B_w)), (0, .ref (a_w 0)), (1, .int (nI i_w))]) hx hb_w dX1_followsStreak_16 rfl hl (by decide) rfl (fun ls hl => ?_)
    have loop17 : ∀ (n_w : Nat) (k_w : Nat), B_w ≤ k_w → k_w ≤ i_w → i_w - k_w < n_w → allR (foB f_w) k_w (i_w - k_w) = allR (foB f_w) B_w (i_w - B_w) → ∀ (ls : Array Slot), lv_has ls 3 [(0, .ref (a_w 0)), (1, .int (nI i_w)), (2, .int (nI k_w))] → W p_w l e_w { frames := 2, cells := 0, slots := 0, locals := 41 } s_w m_w args_w below meth_w c_w H [] 0 0 Q (F0 m_w 17 ls []) := by
      intro n_w
      induction n_w with
      | zero => intro k_w hk0 hk hn hq; exact absurd hn (Nat.not_lt_zero _)
      | succ n_w ih17 =>
        intro k_w hk0 hk hn hq ls hl
        refine lv_iload_n hx hb_w dX1_followsStreak_17 rfl (lv_at hl 2 rfl) ?_
        refine lv_iload_n hx hb_w dX1_followsStreak_18 rfl (lv_at hl 1 rfl) ?_
        refine lv_icmp_ge (tgt := 65) hx hb_w dX1_followsStreak_19 (by decide) (fun c19_w => ?_) (fun c19_w => ?_)
        · have ei : k_w = i_w := by have := le_nI (a := i_w) (b := k_w) (by omega) (by omega) c19_w; omega
          refine lv_iconst (v := 1) hx hb_w dX1_followsStreak_65 (by decide) ?_
          exact hret 1 _ _ dX1_followsStreak_66 rfl (by rw [← hq, ei, Nat.sub_self]; simp [bI, allR, hBi])
        have hk2 : k_w < i_w := nle_nI (by omega) (by omega) c19_w
        refine lv_iload_n hx hb_w dX1_followsStreak_22 rfl (lv_at hl 2 rfl) ?_
        refine lv_sipush (v := 200) hx hb_w dX1_followsStreak_23 (by decide) ?_
        refine lv_icmp_ge (tgt := 65) hx hb_w dX1_followsStreak_26 (by decide) (fun c26 => ?_) (fun c26 => ?_)
        · exact absurd (ge_200 c26 (by omega)) (by omega)
        refine lv_aload_n hx hb_w dX1_followsStreak_29 rfl (lv_at hl 0 rfl) ?_
        refine lv_iload_n hx hb_w dX1_followsStreak_30 rfl (lv_at hl 2 rfl) ?_
        refine rdr_V (As := [.int (nI k_w)]) (rest := []) ⟨hx, hb_w, hml, hown, hts⟩ (kX1_isForetold l G_w a_w cI cZ g_w f_w cd tc_w (nI k_w) ) (cwV 1 hts gX1_followsStreak_X1_isForetold rfl rfl rfl (by decide +kernel) ⟨Nat.le_of_ble_eq_true rfl, Nat.le_of_ble_eq_true rfl⟩) (va_recv hK_w hP (ci := 1) (q0 := 0) rfl rfl) hP hK_w rfl hl.1 rfl (Nat.le_of_ble_eq_true rfl) dX1_followsStreak_31 (by decide) (fun r31 h31 => ?_)
        replace h31 : r31 = bI (isF g_w (nI k_w)) := h31
        subst h31
        refine lv_if_eq (tgt := 57) hx hb_w dX1_followsStreak_34 (by decide) (fun c34_w => ?_) (fun c34_w => ?_)
        · replace c34_w := bI0 c34_w
          exact absurd (Int32.le_trans (isF_f (by omega) c34_w) (nI_le (by omega) (by omega))) hf
        replace c34_w := bIn c34_w
        refine lv_aload_n hx hb_w dX1_followsStreak_37 rfl (lv_at hl 0 rfl) ?_
        refine dget (index := 27) (v := .ref (a_w 3)) hx hb_w hts hinX1 hown hK_w hP 7 (by decide) (List.mem_of_getElem? (i := 2) rfl) rfl dX1_followsStreak_38 ?_
        refine lv_iload_n hx hb_w dX1_followsStreak_41 rfl (lv_at hl 2 rfl) ?_
        refine arI (j := k_w) (h := (f_w 1)) hx hb_w hK_w hP 3 rfl rfl (by omega) dX1_followsStreak_42 ?_
        refine lv_iconst (v := 2) hx hb_w dX1_followsStreak_43 (by decide) ?_
        refine lv_icmp_eq (tgt := 59) hx hb_w dX1_followsStreak_44 (by decide) (fun c44_w => ?_) (fun c44_w => ?_)
        · refine lv_iinc (v := nI (k_w + 1)) (lv' := [(2, .int (nI (k_w + 1))), (0, .ref (a_w 0)), (1, .int (nI i_w))]) hx hb_w dX1_followsStreak_59 hl (k := 2) rfl (nI_1 _) (by decide) rfl (fun ls hl => ?_)
          refine lv_goto (tgt := 17) hx hb_w dX1_followsStreak_62 (by decide) ?_
          exact ih17 (k_w + 1) (by omega) (by omega) (by omega) (by rw [← hq, allR_step hk2]; simp [foB, c44_w]) _ (lv_sub hl [1, 2, 0] rfl)
        refine lv_aload_n hx hb_w dX1_followsStreak_47 rfl (lv_at hl 0 rfl) ?_
        refine dget (index := 27) (v := .ref (a_w 3)) hx hb_w hts hinX1 hown hK_w hP 7 (by decide) (List.mem_of_getElem? (i := 2) rfl) rfl dX1_followsStreak_48 ?_
        refine lv_iload_n hx hb_w dX1_followsStreak_51 rfl (lv_at hl 2 rfl) ?_
        refine arI (j := k_w) (h := (f_w 1)) hx hb_w hK_w hP 3 rfl rfl (by omega) dX1_followsStreak_52 ?_
        refine lv_iconst (v := 3) hx hb_w dX1_followsStreak_53 (by decide) ?_
        refine lv_icmp_eq (tgt := 59) hx hb_w dX1_followsStreak_54 (by decide) (fun c54 => ?_) (fun c54 => ?_)
        · refine lv_iinc (v := nI (k_w + 1)) (lv' := [(2, .int (nI (k_w + 1))), (0, .ref (a_w 0)), (1, .int (nI i_w))]) hx hb_w dX1_followsStreak_59 hl (k := 2) rfl (nI_1 _) (by decide) rfl (fun ls hl => ?_)
          refine lv_goto (tgt := 17) hx hb_w dX1_followsStreak_62 (by decide) ?_
          exact ih17 (k_w + 1) (by omega) (by omega) (by omega) (by rw [← hq, allR_step hk2]; simp [foB, c54]) _ (lv_sub hl [1, 2, 0] rfl)
        refine lv_iconst (v := 0) hx hb_w dX1_followsStreak_57 (by decide) ?_
        exact hret 0 _ _ dX1_followsStreak_58 rfl (by rw [← hq, allR_step hk2]; simp [foB, bI, c44_w, c54])
    exact loop17 (i_w + 1) B_w (by omega) hBi (by omega) rfl _ (lv_sub hl [1, 2, 0] rfl)
  have hBi : ¬ B_w ≤ i_w := fun q_w => c5_w (by rw [hB_w]; exact (lt_pred hB2 hi_w).mpr q_w)
  refine lv_iconst (v := 0) hx hb_w dX1_followsStreak_8 (by decide) ?_
  exact hret 0 _ _ dX1_followsStreak_9 rfl (by simp [bI, hBi])
set_option maxHeartbeats 4000000 in
set_option maxRecDepth 100000 in
theorem kX1_canShift (l : Launch) (G_w : va_G) (ws_w : va_W) (tys : List (ClassId × FieldType)) (p0_w : Int32): rdr l yX1_canShift wsX1_canShift { frames := 1, cells := 0, slots := 0, locals := 22 } G_w ws_w tys [.int p0_w] (fun r_w => r_w = bI (okS p0_w)) := by
  refine rdr_of (cc := cX1_canShift) (nL := 1) (ty := .boolean) (by decide) rfl (Nat.le_of_ble_eq_true rfl) ?_
  intro p_w e_w s_w m_w args_w below meth_w c_w H ls Q hx hb_w hml hown hts hP hK_w hret hl
  have hl : lv_has ls 1 [(0, .int p0_w)] := hl
  refine lv_iload_n hx hb_w dX1_canShift_0 rfl (lv_at hl 0 rfl) ?_
  refine lv_if_eq (tgt := 19) hx hb_w dX1_canShift_1 (by decide) (fun c1_w => ?_) (fun c1_w => ?_)
  · refine lv_iconst (v := 0) hx hb_w dX1_canShift_19 (by decide) ?_
    exact hret 0 _ _ dX1_canShift_20 rfl (by simp [bI, okS, c1_w])
  refine lv_iload_n hx hb_w dX1_canShift_4 rfl (lv_at hl 0 rfl) ?_
  refine lv_bipush (v := (-15)) hx hb_w dX1_canShift_5 (by decide) ?_
  refine lv_bipush (v := 15) hx hb_w dX1_canShift_7 (by decide) ?_
  refine rdr_S (As := [.int p0_w, .int (-15), .int 15]) (rest := []) ⟨hx, hb_w, hml, hown, hts⟩ (kX1_isWithin l G_w _ _ p0_w (-15) 15 ) (va_cwS 3 hts gX1_canShift_X1_isWithin rfl rfl rfl (by decide +kernel) ⟨Nat.le_of_ble_eq_true rfl, Nat.le_of_ble_eq_true rfl⟩)  hP hK_w rfl hl.1 rfl (Nat.le_of_ble_eq_true rfl) dX1_canShift_9 (by decide) (fun r9 h9 => ?_)
  replace h9 : r9 = bI (isW p0_w (-15) 15) := h9
  subst h9
  refine lv_if_eq (tgt := 19) hx hb_w dX1_canShift_12 (by decide) (fun c12_w => ?_) (fun c12_w => ?_)
  · replace c12_w := bI0 c12_w
    refine lv_iconst (v := 0) hx hb_w dX1_canShift_19 (by decide) ?_
    exact hret 0 _ _ dX1_canShift_20 rfl (by simp [bI, okS, c1_w, c12_w])
  replace c12_w := bIn c12_w
  refine lv_iconst (v := 1) hx hb_w dX1_canShift_15 (by decide) ?_
  refine lv_goto (tgt := 20) hx hb_w dX1_canShift_16 (by decide) ?_
  exact hret 1 _ _ dX1_canShift_20 rfl (by simp [bI, okS, c1_w, c12_w])
set_option maxHeartbeats 4000000 in
set_option maxRecDepth 100000 in
theorem kX0_dayBehind (l : Launch) (G_w : va_G) (a_w : Nat → Nat) (cI cZ : ClassId) (g_w : Nat → Int32) (f_w : Nat → Nat → Int32) (cd : Nat → Int32) (tc_w : Int32) (p0_w p1_w : Int32) (n0_w K_w : Nat) (hd_w : (if p0_w + g_w 1 + p1_w < p0_w + 1 then p0_w + 1 else p0_w + g_w 1 + p1_w) = nI n0_w) (hn0 : n0_w ≤ 2000000) (hKn : g_w 4 = nI K_w) (hk : K_w ≤ 4094): rdr l yX0_dayBehind wsX0_dayBehind { frames := 1, cells := 0, slots := 0, locals := 22 } G_w (wD a_w cI cZ g_w f_w cd tc_w) (tyIZ cI cZ) [.ref (a_w 1), .int p0_w, .int p1_w] (fun r_w => r_w = nI (nx g_w n0_w)) := by
  refine rdr_of (cc := cX0_dayBehind) (nL := 5) (ty := .int) (by decide) rfl (Nat.le_of_ble_eq_true rfl) ?_
  intro p_w e_w s_w m_w args_w below meth_w c_w H ls Q hx hb_w hml hown hts hP hK_w hret hl
  have hl : lv_has ls 5 [(0, .ref (a_w 1)), (1, .int p0_w), (2, .int p1_w)] := hl
  have hinX0 : ∀ w_w ∈ wsX00, w_w ∈ wsX0_dayBehind := by decide +kernel
  refine lv_iload_n hx hb_w dX0_dayBehind_0 rfl (lv_at hl 1 rfl) ?_
  refine lv_aload_n hx hb_w dX0_dayBehind_1 rfl (lv_at hl 0 rfl) ?_
  refine pget (index := 9) (v := .int (g_w 1)) hx hb_w hts hinX0 hown hK_w hP 0 (by decide) (List.mem_of_getElem? (i := 1) rfl) rfl dX0_dayBehind_2 ?_
  refine lv_iadd hx hb_w dX0_dayBehind_5 ?_
  refine lv_iload_n hx hb_w dX0_dayBehind_6 rfl (lv_at hl 2 rfl) ?_
  refine lv_iadd hx hb_w dX0_dayBehind_7 ?_
  refine lv_iload_n hx hb_w dX0_dayBehind_8 rfl (lv_at hl 1 rfl) ?_
  refine lv_iconst (v := 1) hx hb_w dX0_dayBehind_9 (by decide) ?_
  refine lv_iadd hx hb_w dX0_dayBehind_10 ?_
  refine va_mmax hx hb_w (hml.trans hl.1.symm) hown (hts _ (List.mem_of_getElem? (i := 2) rfl)) (hts _ (List.mem_of_getElem? (i := 3) rfl)) (hts _ (List.mem_of_getElem? (i := 4) rfl)) (hts _ (List.mem_of_getElem? (i := 5) rfl)) (by decide) (by decide) (by decide) (by decide) dX0_dayBehind_11 ?_
  refine top_eq (z := nI n0_w) hd_w ?_
  refine lv_istore_n (lv' := [(3, .int (nI n0_w)), (0, .ref (a_w 1)), (1, .int p0_w), (2, .int p1_w)]) hx hb_w dX0_dayBehind_14 rfl hl (by decide) rfl (fun ls hl => ?_)
  refine lv_iconst (v := 0) hx hb_w dX0_dayBehind_15 (by decide) ?_
  refine lv_istore (lv' := [(4, .int 0), (3, .int (nI n0_w)), (0, .ref (a_w 1)), (1, .int p0_w), (2, .int p1_w)]) hx hb_w dX0_dayBehind_16 hl (by decide) rfl (fun ls hl => ?_)
  have loop18 : ∀ (n_w : Nat) (k_w d_w : Nat), k_w ≤ 12 → 12 - k_w < n_w → d_w / 30 = n0_w / 30 + k_w → (0 < k_w → d_w = 30 * (n0_w / 30 + k_w)) → (k_w = 0 → d_w = n0_w) → (∀ e_w, n0_w ≤ e_w → e_w < d_w → bar g_w (nI e_w) = true) → (∀ j_w, j_w < k_w → K_w / 2 ^ ((n0_w / 30 + j_w) % 12) % 2 = 1) → ∀ (ls : Array Slot), lv_has ls 5 [(0, .ref (a_w 1)), (1, .int p0_w), (2, .int p1_w), (3, .int (nI d_w)), (4, .int (nI k_w))] → W p_w l e_w { frames := 1, cells := 0, slots := 0, locals := 22 } s_w m_w args_w below meth_w c_w H [] 0 0 Q (F0 m_w 18 ls []) := by
    intro n_w
    induction n_w with
    | zero => intro k_w d_w hk12 hn hd30 hkp hk0 hall hmon; exact absurd hn (Nat.not_lt_zero _)
    | succ n_w ih18 =>
      intro k_w d_w hk12 hn hd30 hkp hk0 hall hmon ls hl
      have hdn : n0_w ≤ d_w ∧ d_w ≤ n0_w + 360 := by rcases Nat.eq_zero_or_pos k_w with q_w | q_w; (have := hk0 q_w; omega); (have := hkp q_w; omega)
      refine lv_iload hx hb_w dX0_dayBehind_18 (lv_at hl 4 rfl) ?_
      refine lv_bipush (v := 12) hx hb_w dX0_dayBehind_20 (by decide) ?_
      refine lv_icmp_ge (tgt := 49) hx hb_w dX0_dayBehind_22 (by decide) (fun c22 => ?_) (fun c22 => ?_)
      · have ek : k_w = 12 := by have := le_nI (a := 12) (b := k_w) (by omega) (by omega) c22; omega
        subst ek
        exact (bar_12 hk hmon).elim
      have hk2 : k_w < 12 := nle_nI (a := 12) (by omega) (by omega) c22
      refine lv_aload_n hx hb_w dX0_dayBehind_25 rfl (lv_at hl 0 rfl) ?_
      refine lv_iload_n hx hb_w dX0_dayBehind_26 rfl (lv_at hl 3 rfl) ?_
      refine rdr_V (As := [.int (nI d_w)]) (rest := []) ⟨hx, hb_w, hml, hown, hts⟩ (kX0_isInSkippedMonth l G_w a_w cI cZ g_w f_w cd tc_w (nI d_w) ) (cwV 1 hts gX0_dayBehind_X0_isInSkippedMonth rfl rfl rfl (by decide +kernel) ⟨Nat.le_of_ble_eq_true rfl, Nat.le_of_ble_eq_true rfl⟩) (va_recv hK_w hP (ci := 0) (q0 := 1) rfl rfl) hP hK_w rfl hl.1 rfl (Nat.le_of_ble_eq_true rfl) dX0_dayBehind_27 (by decide) (fun r27 h27 => ?_)
      replace h27 : r27 = bI (bar g_w (nI d_w)) := h27
      subst h27
      refine lv_if_eq (tgt := 49) hx hb_w dX0_dayBehind_30 (by decide) (fun c30_w => ?_) (fun c30_w => ?_)
      · replace c30_w := bI0 c30_w
        refine lv_iload_n hx hb_w dX0_dayBehind_49 rfl (lv_at hl 3 rfl) ?_
        exact hret (nI d_w) _ _ dX0_dayBehind_50 rfl (by rw [nx_eq c30_w hdn.1 (by omega) hall])
      replace c30_w := bIn c30_w
      refine lv_iload_n hx hb_w dX0_dayBehind_33 rfl (lv_at hl 3 rfl) ?_
      refine lv_bipush (v := 30) hx hb_w dX0_dayBehind_34 (by decide) ?_
      refine lv_idiv hx hb_w dX0_dayBehind_36 (by decide) ?_
      refine top_eq (z := nI (d_w / 30)) (dv30 (by omega)) ?_
      refine lv_iconst (v := 1) hx hb_w dX0_dayBehind_37 (by decide) ?_
      refine lv_iadd hx hb_w dX0_dayBehind_38 ?_
      refine top_eq (z := nI (d_w / 30 + 1)) (nI_1 _) ?_
      refine lv_bipush (v := 30) hx hb_w dX0_dayBehind_39 (by decide) ?_
      refine lv_imul hx hb_w dX0_dayBehind_41 ?_
      refine top_eq (z := nI ((d_w / 30 + 1) * 30)) (pk_mul _ 30) ?_
      refine lv_istore_n (lv' := [(3, .int (nI ((d_w / 30 + 1) * 30))), (0, .ref (a_w 1)), (1, .int p0_w), (2, .int p1_w), (4, .int (nI k_w))]) hx hb_w dX0_dayBehind_42 rfl hl (by decide) rfl (fun ls hl => ?_)
      refine lv_iinc (v := nI (k_w + 1)) (lv' := [(4, .int (nI (k_w + 1))), (3, .int (nI ((d_w / 30 + 1) * 30))), (0, .ref (a_w 1)), (1, .int p0_w), (2, .int p1_w)]) hx hb_w dX0_dayBehind_43 hl (k := 4) rfl (nI_1 _) (by decide) rfl (fun ls hl => ?_)
      refine lv_goto (tgt := 18) hx hb_w dX0_dayBehind_46 (by decide) ?_
      exact ih18 (k_w + 1) ((d_w / 30 + 1) * 30) (by omega) (by omega) (by omega) (by omega) (by omega) (fun e_w h1 h2 => by rcases Nat.lt_or_ge e_w d_w with q_w | q_w; exact hall e_w h1 q_w; rw [bar_same hKn hk (by omega) q_w h2, c30_w]) (fun j_w hj => by rcases Nat.lt_or_ge j_w k_w with q_w | q_w; exact hmon j_w q_w; (have ej : j_w = k_w := by omega); rw [ej, ← hd30]; exact bar_t hKn hk (by omega) c30_w) _ (lv_sub hl [2, 3, 4, 1, 0] rfl)
  exact loop18 13 0 n0_w (by omega) (by omega) (by omega) (by omega) (by omega) (by omega) (by omega) _ (lv_sub hl [2, 3, 4, 1, 0] rfl)
set_option maxHeartbeats 4000000 in
set_option maxRecDepth 100000 in
theorem kX1_nextDay (l : Launch) (G_w : va_G) (a_w : Nat → Nat) (cI cZ : ClassId) (g_w : Nat → Int32) (f_w : Nat → Nat → Int32) (cd : Nat → Int32) (tc_w : Int32) (ct : Nat) (hc_w : ct ≤ 512) (hI : Inv ct g_w f_w): rdr l yX1_nextDay wsX1_nextDay { frames := 2, cells := 0, slots := 0, locals := 46 } G_w (wD a_w cI cZ g_w f_w cd tc_w) (tyIZ cI cZ) [.ref (a_w 0)] (fun r_w => r_w = nd g_w f_w) := by
  obtain ⟨N_w, d_w, e7_w, h1, h2, e0_w, ed, hd2, hd3, hD, -⟩ := inv_d0 hc_w hI
  obtain ⟨K_w, hKn, hk⟩ := hI.2.2.2.1
  refine rdr_of (cc := cX1_nextDay) (nL := 2) (ty := .int) (by decide) rfl (Nat.le_of_ble_eq_true rfl) ?_
  intro p_w e_w s_w m_w args_w below meth_w c_w H ls Q hx hb_w hml hown hts hP hK_w hret hl
  have hl : lv_has ls 2 [(0, .ref (a_w 0))] := hl
  have hinX1 : ∀ w_w ∈ wsX10, w_w ∈ wsX1_nextDay := by decide +kernel
  refine lv_aload_n hx hb_w dX1_nextDay_0 rfl (lv_at hl 0 rfl) ?_
  refine dget (index := 40) (v := .int (g_w 7)) hx hb_w hts hinX1 hown hK_w hP 4 (by decide) (List.mem_of_getElem? (i := 1) rfl) rfl dX1_nextDay_1 ?_
  refine lv_iconst (v := 1) hx hb_w dX1_nextDay_4 (by decide) ?_
  refine lv_isub hx hb_w dX1_nextDay_5 ?_
  refine top_eq (z := nI (N_w - 1)) (by rw [e7_w]; exact pk_sub (b := 1) h1) ?_
  refine lv_istore_n (lv' := [(1, .int (nI (N_w - 1))), (0, .ref (a_w 0))]) hx hb_w dX1_nextDay_6 rfl hl (by decide) rfl (fun ls hl => ?_)
  refine lv_iload_n hx hb_w dX1_nextDay_7 rfl (lv_at hl 0 rfl) ?_
  refine rdr_S (As := [.int (nI (N_w - 1))]) (rest := []) ⟨hx, hb_w, hml, hown, hts⟩ (kX1_isIssue l G_w _ _ (nI (N_w - 1)) ) (va_cwS 1 hts gX1_nextDay_X1_isIssue rfl rfl rfl (by decide +kernel) ⟨Nat.le_of_ble_eq_true rfl, Nat.le_of_ble_eq_true rfl⟩)  hP hK_w rfl hl.1 rfl (Nat.le_of_ble_eq_true rfl) dX1_nextDay_8 (by decide) (fun r8 h8 => ?_)
  replace h8 : r8 = bI (isI (nI (N_w - 1))) := h8
  subst h8
  refine lv_if_eq (tgt := 34) hx hb_w dX1_nextDay_11 (by decide) (fun c11_w => ?_) (fun c11_w => ?_)
  · replace c11_w := bI0 c11_w
    exact absurd c11_w (by simp [isI_nI (show N_w - 1 < 200 by omega)])
  replace c11_w := bIn c11_w
  refine lv_aload_n hx hb_w dX1_nextDay_14 rfl (lv_at hl 1 rfl) ?_
  refine dget (index := 10) (v := .ref (a_w 1)) hx hb_w hts hinX1 hown hK_w hP 0 (by decide) (List.mem_of_getElem? (i := 2) rfl) rfl dX1_nextDay_15 ?_
  refine lv_aload_n hx hb_w dX1_nextDay_18 rfl (lv_at hl 1 rfl) ?_
  refine dget (index := 23) (v := .ref (a_w 2)) hx hb_w hts hinX1 hown hK_w hP 6 (by decide) (List.mem_of_getElem? (i := 3) rfl) rfl dX1_nextDay_19 ?_
  refine lv_iload_n hx hb_w dX1_nextDay_22 rfl (lv_at hl 0 rfl) ?_
  refine arI (j := (N_w - 1)) (h := (f_w 0)) hx hb_w hK_w hP 2 rfl rfl (by omega) dX1_nextDay_23 ?_
  refine lv_aload_n hx hb_w dX1_nextDay_24 rfl (lv_at hl 1 rfl) ?_
  refine dget (index := 123) (v := .int (g_w 8)) hx hb_w hts hinX1 hown hK_w hP 5 (by decide) (List.mem_of_getElem? (i := 4) rfl) rfl dX1_nextDay_25 ?_
  refine rdr_V (As := [.int ((f_w 0) (N_w - 1)), .int (g_w 8)]) (rest := []) ⟨hx, hb_w, hml, hown, hts⟩ (kX0_dayBehind l G_w a_w cI cZ g_w f_w cd tc_w ((f_w 0) (N_w - 1)) (g_w 8) (d0N g_w f_w) K_w hD (by omega) hKn hk) (cwV 2 hts gX1_nextDay_X0_dayBehind rfl rfl rfl (by decide +kernel) ⟨Nat.le_of_ble_eq_true rfl, Nat.le_of_ble_eq_true rfl⟩) (va_recv hK_w hP (ci := 0) (q0 := 1) rfl rfl) hP hK_w rfl hl.1 rfl (Nat.le_of_ble_eq_true rfl) dX1_nextDay_28 (by decide) (fun r28 h28 => ?_)
  replace h28 : r28 = nI (nx g_w (d0N g_w f_w)) := h28
  subst h28
  refine lv_goto (tgt := 35) hx hb_w dX1_nextDay_31 (by decide) ?_
  exact hret (nI (nx g_w (d0N g_w f_w))) _ _ dX1_nextDay_35 rfl rfl
set_option maxHeartbeats 4000000 in
set_option maxRecDepth 100000 in
theorem kX1_foretellNext (l : Launch) (G_w : va_G) (a_w : Nat → Nat) (cI cZ : ClassId) (g_w : Nat → Int32) (f_w : Nat → Nat → Int32) (cd : Nat → Int32) (tc_w : Int32) (hap : apart a_w 7) (sz_w : Nat) (N_w ct : Nat) (hc_w : ct ≤ 512) (hI : Inv ct g_w f_w) (hN_w : g_w 7 = nI N_w) (hlt : N_w < 200): wrv l yX1_foretellNext wsX1_foretellNext { frames := 3, cells := 0, slots := 0, locals := 67 } G_w (wD a_w cI cZ g_w f_w cd tc_w) (tyIZ cI cZ) (aS a_w 7 sz_w) sz_w [.ref (a_w 0)] (fun u_w => u_w = (foreG g_w, foreF g_w f_w, cd, tc_w)) (wfD a_w cI cZ) := by
  have eN_w : g_w 7 = nI (g_w 7).toNatClampNeg := by rw [hN_w, nI_clamp (by omega)]
  have hjN : (g_w 7).toNatClampNeg < 200 := by rw [hN_w, nI_clamp (by omega)]; exact hlt
  refine wrv_of (cc := cX1_foretellNext) (nL := 1) (by decide) rfl (Nat.le_of_ble_eq_true rfl) ?_
  intro p_w e_w s_w m_w args_w below meth_w c_w H locs_w ls Q hx hb_w hml hown hts hP hK_w hS_w hret hl
  have hl : lv_has ls 1 [(0, .ref (a_w 0))] := hl
  have hinX1 : ∀ w_w ∈ wsX10, w_w ∈ wsX1_foretellNext := by decide +kernel
  refine lv_aload_n hx hb_w dX1_foretellNext_0 rfl (lv_at hl 0 rfl) ?_
  refine dget (index := 40) (v := .int (g_w 7)) hx hb_w hts hinX1 hown hK_w hP 4 (by decide) (List.mem_of_getElem? (i := 1) rfl) rfl dX1_foretellNext_1 ?_
  refine rdr_S (As := [.int (g_w 7)]) (rest := []) ⟨hx, hb_w, hml, hown, hts⟩ (kX1_isIssue l G_w _ _ (g_w 7) ) (va_cwS 1 hts gX1_foretellNext_X1_isIssue rfl rfl rfl (by decide +kernel) ⟨Nat.le_of_ble_eq_true rfl, Nat.le_of_ble_eq_true rfl⟩)  hP hK_w rfl hl.1 rfl (Nat.le_of_ble_eq_true rfl) dX1_foretellNext_4 (by decide) (fun r4 h4 => ?_)
  replace h4 : r4 = bI (isI (g_w 7)) := h4
  subst h4
  refine lv_if_eq (tgt := 38) hx hb_w dX1_foretellNext_7 (by decide) (fun c7_w => ?_) (fun c7_w => ?_)
  · replace c7_w := bI0 c7_w
    exact absurd c7_w (by rw [hN_w]; simp [isI_nI hlt])
  replace c7_w := bIn c7_w
  refine lv_aload_n hx hb_w dX1_foretellNext_10 rfl (lv_at hl 0 rfl) ?_
  refine dget (index := 23) (v := .ref (a_w 2)) hx hb_w hts hinX1 hown hK_w hP 6 (by decide) (List.mem_of_getElem? (i := 2) rfl) rfl dX1_foretellNext_11 ?_
  refine lv_aload_n hx hb_w dX1_foretellNext_14 rfl (lv_at hl 0 rfl) ?_
  refine dget (index := 40) (v := .int (g_w 7)) hx hb_w hts hinX1 hown hK_w hP 4 (by decide) (List.mem_of_getElem? (i := 1) rfl) rfl dX1_foretellNext_15 ?_
  refine lv_aload_n hx hb_w dX1_foretellNext_18 rfl (lv_at hl 0 rfl) ?_
  refine rdr_V (As := []) (rest := [.int (g_w 7), .ref (a_w 2)]) ⟨hx, hb_w, hml, hown, hts⟩ (kX1_nextDay l G_w a_w cI cZ g_w f_w cd tc_w  ct hc_w hI) (cwV 0 hts gX1_foretellNext_X1_nextDay rfl rfl rfl (by decide +kernel) ⟨Nat.le_of_ble_eq_true rfl, Nat.le_of_ble_eq_true rfl⟩) (va_recv hK_w hP (ci := 1) (q0 := 0) rfl rfl) hP hK_w rfl hl.1 rfl (Nat.le_of_ble_eq_true rfl) dX1_foretellNext_19 (by decide) (fun r19 h19 => ?_)
  replace h19 : r19 = nd g_w f_w := h19
  subst h19
  refine asI (j := (g_w 7).toNatClampNeg) (h := (f_w 0)) (x := nd g_w f_w) (wD a_w cI cZ g_w (up2 f_w 0 (upd (f_w 0) ((g_w 7).toNatClampNeg) (nd g_w f_w))) cd tc_w) hx hb_w hK_w hP (wD_D hap _) hS_w 2 rfl eN_w hjN rfl dX1_foretellNext_22 (fun H locs_w hP hS_w => ?_)
  refine lv_aload_n hx hb_w dX1_foretellNext_23 rfl (lv_at hl 0 rfl) ?_
  refine lv_iconst (v := 0) hx hb_w dX1_foretellNext_24 (by decide) ?_
  refine dput (index := 123) (v := .int 0) (upd g_w 8 0) tc_w hx hb_w hts hinX1 hown hK_w hP hap hS_w 5 (by decide) (List.mem_of_getElem? (i := 3) rfl) rfl rfl rfl rfl rfl dX1_foretellNext_25 (fun H locs_w hP hS_w => ?_)
  refine lv_aload_n hx hb_w dX1_foretellNext_28 rfl (lv_at hl 0 rfl) ?_
  refine lv_dup hx hb_w dX1_foretellNext_29 rfl ?_
  refine dget (index := 40) (v := .int (g_w 7)) hx hb_w hts hinX1 hown hK_w hP 4 (by decide) (List.mem_of_getElem? (i := 1) rfl) rfl dX1_foretellNext_30 ?_
  refine lv_iconst (v := 1) hx hb_w dX1_foretellNext_33 (by decide) ?_
  refine lv_iadd hx hb_w dX1_foretellNext_34 ?_
  refine dput (index := 40) (v := .int ((g_w 7) + 1)) (upd (upd g_w 8 0) 7 ((g_w 7) + 1)) tc_w hx hb_w hts hinX1 hown hK_w hP hap hS_w 4 (by decide) (List.mem_of_getElem? (i := 1) rfl) rfl rfl rfl rfl rfl dX1_foretellNext_35 (fun H locs_w hP hS_w => ?_)
  exact hret (foreG g_w, foreF g_w f_w, cd, tc_w) _ _ _ _ dX1_foretellNext_38 hP hS_w rfl
set_option maxHeartbeats 4000000 in
set_option maxRecDepth 100000 in
theorem kX1_foretellUpTo (l : Launch) (G_w : va_G) (a_w : Nat → Nat) (cI cZ : ClassId) (g_w : Nat → Int32) (f_w : Nat → Nat → Int32) (cd : Nat → Int32) (tc_w : Int32) (hap : apart a_w 7) (sz_w : Nat) (L_w ct : Nat) (hL : L_w < 200) (hc_w : ct ≤ 512) (hI : Inv ct g_w f_w): wrv l yX1_foretellUpTo wsX1_foretellUpTo { frames := 4, cells := 0, slots := 0, locals := 87 } G_w (wD a_w cI cZ g_w f_w cd tc_w) (tyIZ cI cZ) (aS a_w 7 sz_w) sz_w [.ref (a_w 0), .int (nI L_w)] (fun u_w => u_w = ((itF (L_w + 1 - (g_w 7).toNatClampNeg) (g_w, f_w)).1, (itF (L_w + 1 - (g_w 7).toNatClampNeg) (g_w, f_w)).2, cd, tc_w)) (wfD a_w cI cZ) := by
  obtain ⟨N_w, e7_w, h1, h2, h3, h4⟩ := inv_N hI
  refine wrv_of (cc := cX1_foretellUpTo) (nL := 3) (by decide) rfl (Nat.le_of_ble_eq_true rfl) ?_
  intro p_w e_w s_w m_w args_w below meth_w c_w H locs_w ls Q hx hb_w hml hown hts hP hK_w hS_w hret hl
  have hl : lv_has ls 3 [(0, .ref (a_w 0)), (1, .int (nI L_w))] := hl
  have hinX1 : ∀ w_w ∈ wsX10, w_w ∈ wsX1_foretellUpTo := by decide +kernel
  refine lv_aload_n hx hb_w dX1_foretellUpTo_0 rfl (lv_at hl 0 rfl) ?_
  refine dget (index := 40) (v := .int (g_w 7)) hx hb_w hts hinX1 hown hK_w hP 4 (by decide) (List.mem_of_getElem? (i := 1) rfl) rfl dX1_foretellUpTo_1 ?_
  refine top_eq (z := nI N_w) e7_w ?_
  refine lv_istore_n (lv' := [(2, .int (nI N_w)), (0, .ref (a_w 0)), (1, .int (nI L_w))]) hx hb_w dX1_foretellUpTo_4 rfl hl (by decide) rfl (fun ls hl => ?_)
  have loop5 : ∀ (n_w : Nat) (g1 : Nat → Int32) (f1_w : Nat → Nat → Int32) (M_w : Nat), g1 7 = nI M_w → M_w ≤ 200 → Inv ct g1 f1_w → itF (L_w + 1 - M_w) (g1, f1_w) = itF (L_w + 1 - (g_w 7).toNatClampNeg) (g_w, f_w) → 201 - M_w < n_w → ∀ (H : Heap) (locs_w : List Loc), va_P G_w vwCl (wD a_w cI cZ g1 f1_w cd tc_w) H → va_S (aS a_w 7 s_w.heap.size) s_w.heap H locs_w → ∀ (ls : Array Slot), lv_has ls 3 [(0, .ref (a_w 0)), (1, .int (nI L_w)), (2, .int (nI M_w))] → W p_w l e_w { frames := 4, cells := 0, slots := 0, locals := 87 } s_w m_w args_w below meth_w c_w H locs_w 0 0 Q (F0 m_w 5 ls []) := by
    intro n_w
    induction n_w with
    | zero => intro g1 f1_w M_w hM_w hM2 hI1 hq hn; intros; exact absurd hn (Nat.not_lt_zero _)
    | succ n_w ih5 =>
      intro g1 f1_w M_w hM_w hM2 hI1 hq hn H locs_w hP hS_w ls hl
      refine lv_iload_n hx hb_w dX1_foretellUpTo_5 rfl (lv_at hl 2 rfl) ?_
      refine lv_iload_n hx hb_w dX1_foretellUpTo_6 rfl (lv_at hl 1 rfl) ?_
      refine lv_icmp_gt (tgt := 27) hx hb_w dX1_foretellUpTo_7 (by decide) (fun c7_w => ?_) (fun c7_w => ?_)
      · have hLM : L_w < M_w := lt_nI (by omega) (by omega) c7_w
        exact hret (g1, f1_w, cd, tc_w) _ _ _ _ dX1_foretellUpTo_27 hP hS_w (by rw [← hq, show L_w + 1 - M_w = 0 by omega]; rfl)
      have hLM : M_w ≤ L_w := nlt_nI (by omega) (by omega) c7_w
      refine lv_iload_n hx hb_w dX1_foretellUpTo_10 rfl (lv_at hl 2 rfl) ?_
      refine lv_sipush (v := 200) hx hb_w dX1_foretellUpTo_11 (by decide) ?_
      refine lv_icmp_ge (tgt := 27) hx hb_w dX1_foretellUpTo_14 (by decide) (fun c14_w => ?_) (fun c14_w => ?_)
      · exact absurd (ge_200 c14_w (by omega)) (by omega)
      refine lv_aload_n hx hb_w dX1_foretellUpTo_17 rfl (lv_at hl 0 rfl) ?_
      refine wrv_V (As := []) (rest := []) ⟨hx, hb_w, hml, hown, hts⟩ (kX1_foretellNext l G_w a_w cI cZ g1 f1_w cd tc_w hap _  M_w ct hc_w hI1 hM_w (by omega)) (cwV 0 hts gX1_foretellUpTo_X1_foretellNext rfl rfl rfl (by decide +kernel) ⟨Nat.le_of_ble_eq_true rfl, Nat.le_of_ble_eq_true rfl⟩) (va_recv hK_w hP (ci := 1) (q0 := 0) rfl rfl) hP hK_w hS_w rfl hl.1 rfl (Nat.le_of_ble_eq_true rfl) dX1_foretellUpTo_18 (by decide) (fun u18 H locs_w h18 hP hS_w => ?_)
      subst h18
      have hP : va_P G_w vwCl (wD a_w cI cZ (foreG g1) (foreF g1 f1_w) cd tc_w) H := hP
      obtain ⟨hI2, e72_w⟩ := inv_fore hc_w hI1 hM_w (show M_w < 200 by omega)
      refine lv_iinc (v := nI (M_w + 1)) (lv' := [(2, .int (nI (M_w + 1))), (0, .ref (a_w 0)), (1, .int (nI L_w))]) hx hb_w dX1_foretellUpTo_21 hl (k := 2) rfl (nI_1 _) (by decide) rfl (fun ls hl => ?_)
      refine lv_goto (tgt := 5) hx hb_w dX1_foretellUpTo_24 (by decide) ?_
      exact ih5 (foreG g1) (foreF g1 f1_w) (M_w + 1) e72_w (by omega) hI2 (by rw [← hq, show L_w + 1 - M_w = (L_w + 1 - (M_w + 1)) + 1 by omega]; rfl) (by omega) _ _ hP hS_w _ (lv_sub hl [1, 2, 0] rfl)
  exact loop5 202 g_w f_w N_w e7_w h2 hI (by rw [h3]) (by omega) _ _ hP hS_w _ (lv_sub hl [1, 2, 0] rfl)
set_option maxHeartbeats 4000000 in
set_option maxRecDepth 100000 in
theorem kX1_foretellDueIssues (l : Launch) (G_w : va_G) (a_w : Nat → Nat) (cI cZ : ClassId) (g_w : Nat → Int32) (f_w : Nat → Nat → Int32) (cd : Nat → Int32) (tc_w : Int32) (hap : apart a_w 7) (sz_w : Nat) (ct : Nat) (hc_w : ct ≤ 512) (hI : Inv ct g_w f_w): wrv l yX1_foretellDueIssues wsX1_foretellDueIssues { frames := 4, cells := 0, slots := 0, locals := 87 } G_w (wD a_w cI cZ g_w f_w cd tc_w) (tyIZ cI cZ) (aS a_w 7 sz_w) sz_w [.ref (a_w 0)] (fun u_w => u_w = ((lkF (200 - (g_w 7).toNatClampNeg) (g_w, f_w)).1, (lkF (200 - (g_w 7).toNatClampNeg) (g_w, f_w)).2, cd, tc_w)) (wfD a_w cI cZ) := by
  obtain ⟨N_w, e7_w, h1, h2, h3, h4⟩ := inv_N hI
  refine wrv_of (cc := cX1_foretellDueIssues) (nL := 2) (by decide) rfl (Nat.le_of_ble_eq_true rfl) ?_
  intro p_w e_w s_w m_w args_w below meth_w c_w H locs_w ls Q hx hb_w hml hown hts hP hK_w hS_w hret hl
  have hl : lv_has ls 2 [(0, .ref (a_w 0))] := hl
  have hinX1 : ∀ w_w ∈ wsX10, w_w ∈ wsX1_foretellDueIssues := by decide +kernel
  refine lv_aload_n hx hb_w dX1_foretellDueIssues_0 rfl (lv_at hl 0 rfl) ?_
  refine dget (index := 40) (v := .int (g_w 7)) hx hb_w hts hinX1 hown hK_w hP 4 (by decide) (List.mem_of_getElem? (i := 1) rfl) rfl dX1_foretellDueIssues_1 ?_
  refine top_eq (z := nI N_w) e7_w ?_
  refine lv_istore_n (lv' := [(1, .int (nI N_w)), (0, .ref (a_w 0))]) hx hb_w dX1_foretellDueIssues_4 rfl hl (by decide) rfl (fun ls hl => ?_)
  have loop5 : ∀ (n_w : Nat) (g1 : Nat → Int32) (f1_w : Nat → Nat → Int32) (M_w : Nat), g1 7 = nI M_w → M_w ≤ 200 → Inv ct g1 f1_w → lkF (200 - M_w) (g1, f1_w) = lkF (200 - (g_w 7).toNatClampNeg) (g_w, f_w) → 200 - M_w < n_w → ∀ (H : Heap) (locs_w : List Loc), va_P G_w vwCl (wD a_w cI cZ g1 f1_w cd tc_w) H → va_S (aS a_w 7 s_w.heap.size) s_w.heap H locs_w → ∀ (ls : Array Slot), lv_has ls 2 [(0, .ref (a_w 0)), (1, .int (nI M_w))] → W p_w l e_w { frames := 4, cells := 0, slots := 0, locals := 87 } s_w m_w args_w below meth_w c_w H locs_w 0 0 Q (F0 m_w 5 ls []) := by
    intro n_w
    induction n_w with
    | zero => intro g1 f1_w M_w hM_w hM2 hI1 hq hn; intros; exact absurd hn (Nat.not_lt_zero _)
    | succ n_w ih5 =>
      intro g1 f1_w M_w hM_w hM2 hI1 hq hn H locs_w hP hS_w ls hl
      refine lv_iload_n hx hb_w dX1_foretellDueIssues_5 rfl (lv_at hl 1 rfl) ?_
      refine lv_sipush (v := 200) hx hb_w dX1_foretellDueIssues_6 (by decide) ?_
      refine lv_icmp_ge (tgt := 33) hx hb_w dX1_foretellDueIssues_9 (by decide) (fun c9_w => ?_) (fun c9_w => ?_)
      · have ei := ge_200 c9_w (by omega)
        exact hret (g1, f1_w, cd, tc_w) _ _ _ _ dX1_foretellDueIssues_33 hP hS_w (by rw [← hq, ei]; rfl)
      have hi2 := nge_200 c9_w (by omega)
      refine lv_aload_n hx hb_w dX1_foretellDueIssues_12 rfl (lv_at hl 0 rfl) ?_
      refine rdr_V (As := []) (rest := []) ⟨hx, hb_w, hml, hown, hts⟩ (kX1_nextDay l G_w a_w cI cZ g1 f1_w cd tc_w  ct hc_w hI1) (cwV 0 hts gX1_foretellDueIssues_X1_nextDay rfl rfl rfl (by decide +kernel) ⟨Nat.le_of_ble_eq_true rfl, Nat.le_of_ble_eq_true rfl⟩) (va_recv hK_w hP (ci := 1) (q0 := 0) rfl rfl) hP hK_w rfl hl.1 rfl (Nat.le_of_ble_eq_true rfl) dX1_foretellDueIssues_13 (by decide) (fun r13 h13 => ?_)
      replace h13 : r13 = nd g1 f1_w := h13
      subst h13
      refine lv_aload_n hx hb_w dX1_foretellDueIssues_16 rfl (lv_at hl 0 rfl) ?_
      refine dget (index := 74) (v := .int (g1 0)) hx hb_w hts hinX1 hown hK_w hP 3 (by decide) (List.mem_of_getElem? (i := 2) rfl) rfl dX1_foretellDueIssues_17 ?_
      refine lv_icmp_gt (tgt := 33) hx hb_w dX1_foretellDueIssues_20 (by decide) (fun c20_w => ?_) (fun c20_w => ?_)
      · exact hret (g1, f1_w, cd, tc_w) _ _ _ _ dX1_foretellDueIssues_33 hP hS_w (by rw [← hq, show 200 - M_w = (200 - (M_w + 1)) + 1 by omega]; rw [lkF_step, if_pos c20_w])
      refine lv_aload_n hx hb_w dX1_foretellDueIssues_23 rfl (lv_at hl 0 rfl) ?_
      refine wrv_V (As := []) (rest := []) ⟨hx, hb_w, hml, hown, hts⟩ (kX1_foretellNext l G_w a_w cI cZ g1 f1_w cd tc_w hap _  M_w ct hc_w hI1 hM_w (by omega)) (cwV 0 hts gX1_foretellDueIssues_X1_foretellNext rfl rfl rfl (by decide +kernel) ⟨Nat.le_of_ble_eq_true rfl, Nat.le_of_ble_eq_true rfl⟩) (va_recv hK_w hP (ci := 1) (q0 := 0) rfl rfl) hP hK_w hS_w rfl hl.1 rfl (Nat.le_of_ble_eq_true rfl) dX1_foretellDueIssues_24 (by decide) (fun u24 H locs_w h24 hP hS_w => ?_)
      subst h24
      have hP : va_P G_w vwCl (wD a_w cI cZ (foreG g1) (foreF g1 f1_w) cd tc_w) H := hP
      obtain ⟨hI2, e72_w⟩ := inv_fore hc_w hI1 hM_w (show M_w < 200 by omega)
      refine lv_iinc (v := nI (M_w + 1)) (lv' := [(1, .int (nI (M_w + 1))), (0, .ref (a_w 0))]) hx hb_w dX1_foretellDueIssues_27 hl (k := 1) rfl (nI_1 _) (by decide) rfl (fun ls hl => ?_)
      refine lv_goto (tgt := 5) hx hb_w dX1_foretellDueIssues_30 (by decide) ?_
      exact ih5 (foreG g1) (foreF g1 f1_w) (M_w + 1) e72_w (by omega) hI2 (by rw [← hq, show 200 - M_w = (200 - (M_w + 1)) + 1 by omega]; rw [lkF_step, if_neg c20_w]) (by omega) _ _ hP hS_w _ (lv_sub hl [1, 0] rfl)
  exact loop5 201 g_w f_w N_w e7_w h2 hI (by rw [h3]) (by omega) _ _ hP hS_w _ (lv_sub hl [1, 0] rfl)
