set_option maxHeartbeats 4000000 in
set_option maxRecDepth 100000 in
theorem kX1_takeIn (l : Launch) (G_w : va_G) (a_w : Nat → Nat) (cI cZ : ClassId) (g_w : Nat → Int32) (f_w : Nat → Nat → Int32) (cd : Nat → Int32) (tc_w : Int32) (hap : apart a_w 7) (sz_w : Nat) (F_w L_w N_w : Nat) (hF : F_w ≤ L_w) (hL : L_w < N_w) (hN_w : g_w 7 = nI N_w) (hN2 : N_w ≤ 200): wrv l yX1_takeIn wsX1_takeIn { frames := 2, cells := 0, slots := 0, locals := 41 } G_w (wD a_w cI cZ g_w f_w cd tc_w) (tyIZ cI cZ) (aS a_w 7 sz_w) sz_w [.ref (a_w 0), .int (nI F_w), .int (nI L_w)] (fun u_w => u_w = (g_w, up2 f_w 1 (tkU (f_w 1) F_w (L_w + 1)), cd, tc_w)) (wfD a_w cI cZ) := by
  refine wrv_of (cc := cX1_takeIn) (nL := 4) (by decide) rfl (Nat.le_of_ble_eq_true rfl) ?_
  intro p_w e_w s_w m_w args_w below meth_w c_w H locs_w ls Q hx hb_w hml hown hts hP hK_w hS_w hret hl
  have hl : lv_has ls 4 [(0, .ref (a_w 0)), (1, .int (nI F_w)), (2, .int (nI L_w))] := hl
  have hinX1 : ∀ w_w ∈ wsX10, w_w ∈ wsX1_takeIn := by decide +kernel
  refine lv_iload_n hx hb_w dX1_takeIn_0 rfl (lv_at hl 1 rfl) ?_
  refine lv_istore_n (lv' := [(3, .int (nI F_w)), (0, .ref (a_w 0)), (1, .int (nI F_w)), (2, .int (nI L_w))]) hx hb_w dX1_takeIn_1 rfl hl (by decide) rfl (fun ls hl => ?_)
  have loop2 : ∀ (n_w : Nat) (i_w : Nat) (h1 : Nat → Int32), F_w ≤ i_w → i_w ≤ L_w + 1 → L_w + 1 - i_w < n_w → h1 = tkU (f_w 1) F_w i_w → ∀ (H : Heap) (locs_w : List Loc), va_P G_w vwCl (wD a_w cI cZ g_w (up2 f_w 1 h1) cd tc_w) H → va_S (aS a_w 7 s_w.heap.size) s_w.heap H locs_w → ∀ (ls : Array Slot), lv_has ls 4 [(0, .ref (a_w 0)), (1, .int (nI F_w)), (2, .int (nI L_w)), (3, .int (nI i_w))] → W p_w l e_w { frames := 2, cells := 0, slots := 0, locals := 41 } s_w m_w args_w below meth_w c_w H locs_w 0 0 Q (F0 m_w 2 ls []) := by
    intro n_w
    induction n_w with
    | zero => intro i_w h1 hi0_w hi_w hn hq; intros; exact absurd hn (Nat.not_lt_zero _)
    | succ n_w ih2 =>
      intro i_w h1 hi0_w hi_w hn hq H locs_w hP hS_w ls hl
      refine lv_iload_n hx hb_w dX1_takeIn_2 rfl (lv_at hl 3 rfl) ?_
      refine lv_iload_n hx hb_w dX1_takeIn_3 rfl (lv_at hl 2 rfl) ?_
      refine lv_icmp_gt (tgt := 44) hx hb_w dX1_takeIn_4 (by decide) (fun c4_w => ?_) (fun c4_w => ?_)
      · have ei : i_w = L_w + 1 := by have := lt_nI (a := L_w) (b := i_w) (by omega) (by omega) c4_w; omega
        rw [hq, ei] at hP
        exact hret (g_w, up2 f_w 1 (tkU (f_w 1) F_w (L_w + 1)), cd, tc_w) _ _ _ _ dX1_takeIn_44 hP hS_w rfl
      have hi2 : i_w ≤ L_w := nlt_nI (by omega) (by omega) c4_w
      refine lv_iload_n hx hb_w dX1_takeIn_7 rfl (lv_at hl 3 rfl) ?_
      refine lv_sipush (v := 200) hx hb_w dX1_takeIn_8 (by decide) ?_
      refine lv_icmp_ge (tgt := 44) hx hb_w dX1_takeIn_11 (by decide) (fun c11_w => ?_) (fun c11_w => ?_)
      · exact absurd (ge_200 c11_w (show i_w ≤ 200 by omega)) (show ¬ i_w = 200 by omega)
      refine lv_aload_n hx hb_w dX1_takeIn_14 rfl (lv_at hl 0 rfl) ?_
      refine lv_iload_n hx hb_w dX1_takeIn_15 rfl (lv_at hl 3 rfl) ?_
      refine rdr_V (As := [.int (nI i_w)]) (rest := []) ⟨hx, hb_w, hml, hown, hts⟩ (kX1_isForetold l G_w a_w cI cZ g_w (up2 f_w 1 h1) cd tc_w (nI i_w) ) (cwV 1 hts gX1_takeIn_X1_isForetold rfl rfl rfl (by decide +kernel) ⟨Nat.le_of_ble_eq_true rfl, Nat.le_of_ble_eq_true rfl⟩) (va_recv hK_w hP (ci := 1) (q0 := 0) rfl rfl) hP hK_w rfl hl.1 rfl (Nat.le_of_ble_eq_true rfl) dX1_takeIn_16 (by decide) (fun r16 h16_w => ?_)
      replace h16_w : r16 = bI (isF g_w (nI i_w)) := h16_w
      subst h16_w
      refine lv_if_eq (tgt := 38) hx hb_w dX1_takeIn_19 (by decide) (fun c19_w => ?_) (fun c19_w => ?_)
      · replace c19_w := bI0 c19_w
        exact absurd (isF_f (by omega) c19_w) (by rw [hN_w]; exact nI_ge (by omega) (by omega))
      replace c19_w := bIn c19_w
      refine lv_aload_n hx hb_w dX1_takeIn_22 rfl (lv_at hl 0 rfl) ?_
      refine dget (index := 27) (v := .ref (a_w 3)) hx hb_w hts hinX1 hown hK_w hP 7 (by decide) (List.mem_of_getElem? (i := 1) rfl) rfl dX1_takeIn_23 ?_
      refine lv_iload_n hx hb_w dX1_takeIn_26 rfl (lv_at hl 3 rfl) ?_
      refine lv_iload_n hx hb_w dX1_takeIn_27 rfl (lv_at hl 3 rfl) ?_
      refine lv_iload_n hx hb_w dX1_takeIn_28 rfl (lv_at hl 1 rfl) ?_
      refine lv_icmp_ne (tgt := 36) hx hb_w dX1_takeIn_29 (by decide) (fun c29_w => ?_) (fun c29_w => ?_)
      · have ei : ¬ i_w = F_w := fun q_w => c29_w (by rw [q_w])
        refine lv_iconst (v := 2) hx hb_w dX1_takeIn_36 (by decide) ?_
        refine asI (j := i_w) (h := h1) (x := 2) (wD a_w cI cZ g_w (up2 f_w 1 (upd h1 i_w 2)) cd tc_w) hx hb_w hK_w hP (wD_D hap _) hS_w 3 rfl rfl (by omega) rfl dX1_takeIn_37 (fun H locs_w hP hS_w => ?_)
        refine lv_iinc (v := nI (i_w + 1)) (lv' := [(3, .int (nI (i_w + 1))), (0, .ref (a_w 0)), (1, .int (nI F_w)), (2, .int (nI L_w))]) hx hb_w dX1_takeIn_38 hl (k := 3) rfl (nI_1 _) (by decide) rfl (fun ls hl => ?_)
        refine lv_goto (tgt := 2) hx hb_w dX1_takeIn_41 (by decide) ?_
        exact ih2 (i_w + 1) (upd h1 i_w 2) (by omega) (by omega) (by omega) (by rw [hq]; exact tkU_s _ hi0_w _ (by rw [if_neg ei])) _ _ hP hS_w _ (lv_sub hl [1, 2, 3, 0] rfl)
      have ei : i_w = F_w := (nI_eq (by omega) (by omega)).mp c29_w
      refine lv_iconst (v := 1) hx hb_w dX1_takeIn_32 (by decide) ?_
      refine lv_goto (tgt := 37) hx hb_w dX1_takeIn_33 (by decide) ?_
      refine asI (j := i_w) (h := h1) (x := 1) (wD a_w cI cZ g_w (up2 f_w 1 (upd h1 i_w 1)) cd tc_w) hx hb_w hK_w hP (wD_D hap _) hS_w 3 rfl rfl (by omega) rfl dX1_takeIn_37 (fun H locs_w hP hS_w => ?_)
      refine lv_iinc (v := nI (i_w + 1)) (lv' := [(3, .int (nI (i_w + 1))), (0, .ref (a_w 0)), (1, .int (nI F_w)), (2, .int (nI L_w))]) hx hb_w dX1_takeIn_38 hl (k := 3) rfl (nI_1 _) (by decide) rfl (fun ls hl => ?_)
      refine lv_goto (tgt := 2) hx hb_w dX1_takeIn_41 (by decide) ?_
      exact ih2 (i_w + 1) (upd h1 i_w 1) (by omega) (by omega) (by omega) (by rw [hq]; exact tkU_s _ hi0_w _ (by rw [if_pos ei])) _ _ hP hS_w _ (lv_sub hl [1, 2, 3, 0] rfl)
  exact loop2 (L_w + 2) F_w (f_w 1) (by omega) (by omega) (by omega) (tkU_0 _ _) _ _ hP hS_w _ (lv_sub hl [1, 2, 3, 0] rfl)
set_option maxHeartbeats 4000000 in
set_option maxRecDepth 100000 in
theorem kX1_noteDifference (l : Launch) (G_w : va_G) (a_w : Nat → Nat) (cI cZ : ClassId) (g_w : Nat → Int32) (f_w : Nat → Nat → Int32) (cd : Nat → Int32) (tc_w : Int32) (hap : apart a_w 7) (sz_w : Nat) (i_w N_w ct : Nat) (hi_w : i_w < N_w) (hN_w : g_w 7 = nI N_w) (hN2 : N_w ≤ 200) (hI : Inv ct g_w f_w): wrv l yX1_noteDifference wsX1_noteDifference { frames := 3, cells := 0, slots := 0, locals := 63 } G_w (wD a_w cI cZ g_w f_w cd tc_w) (tyIZ cI cZ) (aS a_w 7 sz_w) sz_w [.ref (a_w 0), .int (nI i_w)] (fun u_w => u_w = (cntG g_w (g_w 0 - f_w 0 i_w) (rowD g_w f_w i_w) i_w, f_w, cd, tc_w)) (wfD a_w cI cZ) := by
  obtain ⟨B_w, b1, b2, b3, b4, b5⟩ := inv_B hI
  have hnf : ¬ g_w 7 ≤ nI i_w := by rw [hN_w]; exact nI_ge hi_w (by omega)
  have hfo : foD g_w f_w i_w = (decide (B_w ≤ i_w) && allR (foB f_w) B_w (i_w - B_w)) := by unfold foD; rw [b5]
  refine wrv_of (cc := cX1_noteDifference) (nL := 4) (by decide) rfl (Nat.le_of_ble_eq_true rfl) ?_
  intro p_w e_w s_w m_w args_w below meth_w c_w H locs_w ls Q hx hb_w hml hown hts hP hK_w hS_w hret hl
  have hl : lv_has ls 4 [(0, .ref (a_w 0)), (1, .int (nI i_w))] := hl
  have hinX1 : ∀ w_w ∈ wsX10, w_w ∈ wsX1_noteDifference := by decide +kernel
  refine lv_aload_n hx hb_w dX1_noteDifference_0 rfl (lv_at hl 0 rfl) ?_
  refine lv_iload_n hx hb_w dX1_noteDifference_1 rfl (lv_at hl 1 rfl) ?_
  refine rdr_V (As := [.int (nI i_w)]) (rest := []) ⟨hx, hb_w, hml, hown, hts⟩ (kX1_isForetold l G_w a_w cI cZ g_w f_w cd tc_w (nI i_w) ) (cwV 1 hts gX1_noteDifference_X1_isForetold rfl rfl rfl (by decide +kernel) ⟨Nat.le_of_ble_eq_true rfl, Nat.le_of_ble_eq_true rfl⟩) (va_recv hK_w hP (ci := 1) (q0 := 0) rfl rfl) hP hK_w rfl hl.1 rfl (Nat.le_of_ble_eq_true rfl) dX1_noteDifference_2 (by decide) (fun r2 h2 => ?_)
  replace h2 : r2 = bI (isF g_w (nI i_w)) := h2
  subst h2
  refine lv_if_ne (tgt := 9) hx hb_w dX1_noteDifference_5 (by decide) (fun c5_w => ?_) (fun c5_w => ?_)
  · replace c5_w := bIn c5_w
    refine lv_aload_n hx hb_w dX1_noteDifference_9 rfl (lv_at hl 0 rfl) ?_
    refine dget (index := 74) (v := .int (g_w 0)) hx hb_w hts hinX1 hown hK_w hP 3 (by decide) (List.mem_of_getElem? (i := 1) rfl) rfl dX1_noteDifference_10 ?_
    refine lv_aload_n hx hb_w dX1_noteDifference_13 rfl (lv_at hl 0 rfl) ?_
    refine dget (index := 23) (v := .ref (a_w 2)) hx hb_w hts hinX1 hown hK_w hP 6 (by decide) (List.mem_of_getElem? (i := 2) rfl) rfl dX1_noteDifference_14 ?_
    refine lv_iload_n hx hb_w dX1_noteDifference_17 rfl (lv_at hl 1 rfl) ?_
    refine arI (j := i_w) (h := (f_w 0)) hx hb_w hK_w hP 2 rfl rfl (by omega) dX1_noteDifference_18 ?_
    refine lv_isub hx hb_w dX1_noteDifference_19 ?_
    refine lv_istore_n (lv' := [(2, .int ((g_w 0) - ((f_w 0) i_w))), (0, .ref (a_w 0)), (1, .int (nI i_w))]) hx hb_w dX1_noteDifference_20 rfl hl (by decide) rfl (fun ls hl => ?_)
    refine lv_iload_n hx hb_w dX1_noteDifference_21 rfl (lv_at hl 0 rfl) ?_
    refine lv_aload_n hx hb_w dX1_noteDifference_22 rfl (lv_at hl 1 rfl) ?_
    refine dget (index := 167) (v := .int (g_w 10)) hx hb_w hts hinX1 hown hK_w hP 11 (by decide) (List.mem_of_getElem? (i := 3) rfl) rfl dX1_noteDifference_23 ?_
    refine lv_icmp_ne (tgt := 41) hx hb_w dX1_noteDifference_26 (by decide) (fun c26 => ?_) (fun c26 => ?_)
    · refine lv_iconst (v := 0) hx hb_w dX1_noteDifference_41 (by decide) ?_
      refine lv_istore_n (lv' := [(3, .int 0), (2, .int ((g_w 0) - ((f_w 0) i_w))), (0, .ref (a_w 0)), (1, .int (nI i_w))]) hx hb_w dX1_noteDifference_42 rfl hl (by decide) rfl (fun ls hl => ?_)
      refine lv_aload_n hx hb_w dX1_noteDifference_43 rfl (lv_at hl 2 rfl) ?_
      refine lv_iload_n hx hb_w dX1_noteDifference_44 rfl (lv_at hl 0 rfl) ?_
      refine lv_if_eq (tgt := 57) hx hb_w dX1_noteDifference_45 (by decide) (fun c45 => ?_) (fun c45 => ?_)
      · refine lv_iconst (v := 1) hx hb_w dX1_noteDifference_57 (by decide) ?_
        refine dput (index := 173) (v := .int 1) (upd g_w 11 1) tc_w hx hb_w hts hinX1 hown hK_w hP hap hS_w 10 (by decide) (List.mem_of_getElem? (i := 4) rfl) rfl rfl rfl rfl rfl dX1_noteDifference_58 (fun H locs_w hP hS_w => ?_)
        refine lv_aload_n hx hb_w dX1_noteDifference_61 rfl (lv_at hl 2 rfl) ?_
        refine lv_iload_n hx hb_w dX1_noteDifference_62 rfl (lv_at hl 1 rfl) ?_
        refine dput (index := 167) (v := .int ((g_w 0) - ((f_w 0) i_w))) (upd (upd g_w 11 1) 10 ((g_w 0) - ((f_w 0) i_w))) tc_w hx hb_w hts hinX1 hown hK_w hP hap hS_w 11 (by decide) (List.mem_of_getElem? (i := 3) rfl) rfl rfl rfl rfl rfl dX1_noteDifference_63 (fun H locs_w hP hS_w => ?_)
        refine lv_aload_n hx hb_w dX1_noteDifference_66 rfl (lv_at hl 2 rfl) ?_
        refine lv_iload_n hx hb_w dX1_noteDifference_67 rfl (lv_at hl 3 rfl) ?_
        refine dput (index := 43) (v := .int (nI i_w)) (upd (upd (upd g_w 11 1) 10 ((g_w 0) - ((f_w 0) i_w))) 9 (nI i_w)) tc_w hx hb_w hts hinX1 hown hK_w hP hap hS_w 12 (by decide) (List.mem_of_getElem? (i := 5) rfl) rfl rfl rfl rfl rfl dX1_noteDifference_68 (fun H locs_w hP hS_w => ?_)
        refine lv_aload_n hx hb_w dX1_noteDifference_71 rfl (lv_at hl 2 rfl) ?_
        refine dget (index := 173) (v := .int 1) hx hb_w hts hinX1 hown hK_w hP 10 (by decide) (List.mem_of_getElem? (i := 4) rfl) rfl dX1_noteDifference_72 ?_
        refine lv_iconst (v := 3) hx hb_w dX1_noteDifference_75 (by decide) ?_
        refine lv_icmp_lt (tgt := 101) hx hb_w dX1_noteDifference_76 (by decide) (fun c76 => ?_) (fun c76 => ?_)
        · have hrow : rowD g_w f_w i_w = 1 := by unfold rowD; rw [if_neg (fun q_w => c26 q_w.1)]
          have hP : va_P G_w vwCl (wD a_w cI cZ (cntG g_w (g_w 0 - f_w 0 i_w) 1 i_w) f_w cd tc_w) H := by unfold cntG; rw [if_pos (Or.inl c76)]; exact hP
          exact hret (cntG g_w (g_w 0 - f_w 0 i_w) 1 i_w, f_w, cd, tc_w) _ _ _ _ dX1_noteDifference_101 hP hS_w (by rw [hrow])
        refine lv_iload_n hx hb_w dX1_noteDifference_79 rfl (lv_at hl 1 rfl) ?_
        refine rdr_S (As := [.int ((g_w 0) - ((f_w 0) i_w))]) (rest := []) ⟨hx, hb_w, hml, hown, hts⟩ (kX1_canShift l G_w _ _ ((g_w 0) - ((f_w 0) i_w)) ) (va_cwS 1 hts gX1_noteDifference_X1_canShift rfl rfl rfl (by decide +kernel) ⟨Nat.le_of_ble_eq_true rfl, Nat.le_of_ble_eq_true rfl⟩)  hP hK_w rfl hl.1 rfl (Nat.le_of_ble_eq_true rfl) dX1_noteDifference_80 (by decide) (fun r80 h80 => ?_)
        replace h80 : r80 = bI (okS ((g_w 0) - ((f_w 0) i_w))) := h80
        subst h80
        refine lv_if_eq (tgt := 101) hx hb_w dX1_noteDifference_83 (by decide) (fun c83 => ?_) (fun c83 => ?_)
        · replace c83 := bI0 c83
          have hrow : rowD g_w f_w i_w = 1 := by unfold rowD; rw [if_neg (fun q_w => c26 q_w.1)]
          have hP : va_P G_w vwCl (wD a_w cI cZ (cntG g_w (g_w 0 - f_w 0 i_w) 1 i_w) f_w cd tc_w) H := by unfold cntG; rw [if_pos (Or.inr c83)]; exact hP
          exact hret (cntG g_w (g_w 0 - f_w 0 i_w) 1 i_w, f_w, cd, tc_w) _ _ _ _ dX1_noteDifference_101 hP hS_w (by rw [hrow])
        replace c83 := bIn c83
        refine lv_aload_n hx hb_w dX1_noteDifference_86 rfl (lv_at hl 2 rfl) ?_
        refine lv_dup hx hb_w dX1_noteDifference_87 rfl ?_
        refine dget (index := 123) (v := .int (g_w 8)) hx hb_w hts hinX1 hown hK_w hP 5 (by decide) (List.mem_of_getElem? (i := 6) rfl) rfl dX1_noteDifference_88 ?_
        refine lv_iload_n hx hb_w dX1_noteDifference_91 rfl (lv_at hl 1 rfl) ?_
        refine lv_iadd hx hb_w dX1_noteDifference_92 ?_
        refine dput (index := 123) (v := .int ((g_w 8) + ((g_w 0) - ((f_w 0) i_w)))) (upd (upd (upd (upd g_w 11 1) 10 ((g_w 0) - ((f_w 0) i_w))) 9 (nI i_w)) 8 ((g_w 8) + ((g_w 0) - ((f_w 0) i_w)))) tc_w hx hb_w hts hinX1 hown hK_w hP hap hS_w 5 (by decide) (List.mem_of_getElem? (i := 6) rfl) rfl rfl rfl rfl rfl dX1_noteDifference_93 (fun H locs_w hP hS_w => ?_)
        refine lv_aload_n hx hb_w dX1_noteDifference_96 rfl (lv_at hl 2 rfl) ?_
        refine lv_iconst (v := 0) hx hb_w dX1_noteDifference_97 (by decide) ?_
        refine dput (index := 173) (v := .int 0) (upd (upd (upd (upd g_w 10 ((g_w 0) - ((f_w 0) i_w))) 9 (nI i_w)) 8 ((g_w 8) + ((g_w 0) - ((f_w 0) i_w)))) 11 0) tc_w hx hb_w hts hinX1 hown hK_w hP hap hS_w 10 (by decide) (List.mem_of_getElem? (i := 4) rfl) rfl rfl rfl rfl rfl dX1_noteDifference_98 (fun H locs_w hP hS_w => ?_)
        have hrow : rowD g_w f_w i_w = 1 := by unfold rowD; rw [if_neg (fun q_w => c26 q_w.1)]
        have hP : va_P G_w vwCl (wD a_w cI cZ (cntG g_w (g_w 0 - f_w 0 i_w) 1 i_w) f_w cd tc_w) H := by unfold cntG; rw [if_neg (fun q_w => q_w.elim c76 (by rw [c83]; decide))]; exact hP
        exact hret (cntG g_w (g_w 0 - f_w 0 i_w) 1 i_w, f_w, cd, tc_w) _ _ _ _ dX1_noteDifference_101 hP hS_w (by rw [hrow])
      exact absurd rfl c45
    refine lv_aload_n hx hb_w dX1_noteDifference_29 rfl (lv_at hl 1 rfl) ?_
    refine lv_iload_n hx hb_w dX1_noteDifference_30 rfl (lv_at hl 2 rfl) ?_
    refine rdr_V (As := [.int (nI i_w)]) (rest := []) ⟨hx, hb_w, hml, hown, hts⟩ (kX1_followsStreak l G_w a_w cI cZ g_w f_w cd tc_w i_w B_w (by omega) hnf b1 b2) (cwV 1 hts gX1_noteDifference_X1_followsStreak rfl rfl rfl (by decide +kernel) ⟨Nat.le_of_ble_eq_true rfl, Nat.le_of_ble_eq_true rfl⟩) (va_recv hK_w hP (ci := 1) (q0 := 0) rfl rfl) hP hK_w rfl hl.1 rfl (Nat.le_of_ble_eq_true rfl) dX1_noteDifference_31 (by decide) (fun r31 h31 => ?_)
    replace h31 : r31 = bI (decide (B_w ≤ i_w) && allR (foB f_w) B_w (i_w - B_w)) := h31
    subst h31
    refine lv_if_eq (tgt := 41) hx hb_w dX1_noteDifference_34 (by decide) (fun c34_w => ?_) (fun c34_w => ?_)
    · replace c34_w := bI0 c34_w
      rw [← hfo] at c34_w
      refine lv_iconst (v := 0) hx hb_w dX1_noteDifference_41 (by decide) ?_
      refine lv_istore_n (lv' := [(3, .int 0), (2, .int ((g_w 0) - ((f_w 0) i_w))), (0, .ref (a_w 0)), (1, .int (nI i_w))]) hx hb_w dX1_noteDifference_42 rfl hl (by decide) rfl (fun ls hl => ?_)
      refine lv_aload_n hx hb_w dX1_noteDifference_43 rfl (lv_at hl 2 rfl) ?_
      refine lv_iload_n hx hb_w dX1_noteDifference_44 rfl (lv_at hl 0 rfl) ?_
      refine lv_if_eq (tgt := 57) hx hb_w dX1_noteDifference_45 (by decide) (fun c45 => ?_) (fun c45 => ?_)
      · refine lv_iconst (v := 1) hx hb_w dX1_noteDifference_57 (by decide) ?_
        refine dput (index := 173) (v := .int 1) (upd g_w 11 1) tc_w hx hb_w hts hinX1 hown hK_w hP hap hS_w 10 (by decide) (List.mem_of_getElem? (i := 4) rfl) rfl rfl rfl rfl rfl dX1_noteDifference_58 (fun H locs_w hP hS_w => ?_)
        refine lv_aload_n hx hb_w dX1_noteDifference_61 rfl (lv_at hl 2 rfl) ?_
        refine lv_iload_n hx hb_w dX1_noteDifference_62 rfl (lv_at hl 1 rfl) ?_
        refine dput (index := 167) (v := .int ((g_w 0) - ((f_w 0) i_w))) (upd (upd g_w 11 1) 10 ((g_w 0) - ((f_w 0) i_w))) tc_w hx hb_w hts hinX1 hown hK_w hP hap hS_w 11 (by decide) (List.mem_of_getElem? (i := 3) rfl) rfl rfl rfl rfl rfl dX1_noteDifference_63 (fun H locs_w hP hS_w => ?_)
        refine lv_aload_n hx hb_w dX1_noteDifference_66 rfl (lv_at hl 2 rfl) ?_
        refine lv_iload_n hx hb_w dX1_noteDifference_67 rfl (lv_at hl 3 rfl) ?_
        refine dput (index := 43) (v := .int (nI i_w)) (upd (upd (upd g_w 11 1) 10 ((g_w 0) - ((f_w 0) i_w))) 9 (nI i_w)) tc_w hx hb_w hts hinX1 hown hK_w hP hap hS_w 12 (by decide) (List.mem_of_getElem? (i := 5) rfl) rfl rfl rfl rfl rfl dX1_noteDifference_68 (fun H locs_w hP hS_w => ?_)
        refine lv_aload_n hx hb_w dX1_noteDifference_71 rfl (lv_at hl 2 rfl) ?_
        refine dget (index := 173) (v := .int 1) hx hb_w hts hinX1 hown hK_w hP 10 (by decide) (List.mem_of_getElem? (i := 4) rfl) rfl dX1_noteDifference_72 ?_
        refine lv_iconst (v := 3) hx hb_w dX1_noteDifference_75 (by decide) ?_
        refine lv_icmp_lt (tgt := 101) hx hb_w dX1_noteDifference_76 (by decide) (fun c76 => ?_) (fun c76 => ?_)
        · have hrow : rowD g_w f_w i_w = 1 := by unfold rowD; rw [if_neg (fun q_w => by rw [q_w.2] at c34_w; exact absurd c34_w (by decide))]
          have hP : va_P G_w vwCl (wD a_w cI cZ (cntG g_w (g_w 0 - f_w 0 i_w) 1 i_w) f_w cd tc_w) H := by unfold cntG; rw [if_pos (Or.inl c76)]; exact hP
          exact hret (cntG g_w (g_w 0 - f_w 0 i_w) 1 i_w, f_w, cd, tc_w) _ _ _ _ dX1_noteDifference_101 hP hS_w (by rw [hrow])
        refine lv_iload_n hx hb_w dX1_noteDifference_79 rfl (lv_at hl 1 rfl) ?_
        refine rdr_S (As := [.int ((g_w 0) - ((f_w 0) i_w))]) (rest := []) ⟨hx, hb_w, hml, hown, hts⟩ (kX1_canShift l G_w _ _ ((g_w 0) - ((f_w 0) i_w)) ) (va_cwS 1 hts gX1_noteDifference_X1_canShift rfl rfl rfl (by decide +kernel) ⟨Nat.le_of_ble_eq_true rfl, Nat.le_of_ble_eq_true rfl⟩)  hP hK_w rfl hl.1 rfl (Nat.le_of_ble_eq_true rfl) dX1_noteDifference_80 (by decide) (fun r80 h80 => ?_)
        replace h80 : r80 = bI (okS ((g_w 0) - ((f_w 0) i_w))) := h80
        subst h80
        refine lv_if_eq (tgt := 101) hx hb_w dX1_noteDifference_83 (by decide) (fun c83 => ?_) (fun c83 => ?_)
        · replace c83 := bI0 c83
          have hrow : rowD g_w f_w i_w = 1 := by unfold rowD; rw [if_neg (fun q_w => by rw [q_w.2] at c34_w; exact absurd c34_w (by decide))]
          have hP : va_P G_w vwCl (wD a_w cI cZ (cntG g_w (g_w 0 - f_w 0 i_w) 1 i_w) f_w cd tc_w) H := by unfold cntG; rw [if_pos (Or.inr c83)]; exact hP
          exact hret (cntG g_w (g_w 0 - f_w 0 i_w) 1 i_w, f_w, cd, tc_w) _ _ _ _ dX1_noteDifference_101 hP hS_w (by rw [hrow])
        replace c83 := bIn c83
        refine lv_aload_n hx hb_w dX1_noteDifference_86 rfl (lv_at hl 2 rfl) ?_
        refine lv_dup hx hb_w dX1_noteDifference_87 rfl ?_
        refine dget (index := 123) (v := .int (g_w 8)) hx hb_w hts hinX1 hown hK_w hP 5 (by decide) (List.mem_of_getElem? (i := 6) rfl) rfl dX1_noteDifference_88 ?_
        refine lv_iload_n hx hb_w dX1_noteDifference_91 rfl (lv_at hl 1 rfl) ?_
        refine lv_iadd hx hb_w dX1_noteDifference_92 ?_
        refine dput (index := 123) (v := .int ((g_w 8) + ((g_w 0) - ((f_w 0) i_w)))) (upd (upd (upd (upd g_w 11 1) 10 ((g_w 0) - ((f_w 0) i_w))) 9 (nI i_w)) 8 ((g_w 8) + ((g_w 0) - ((f_w 0) i_w)))) tc_w hx hb_w hts hinX1 hown hK_w hP hap hS_w 5 (by decide) (List.mem_of_getElem? (i := 6) rfl) rfl rfl rfl rfl rfl dX1_noteDifference_93 (fun H locs_w hP hS_w => ?_)
        refine lv_aload_n hx hb_w dX1_noteDifference_96 rfl (lv_at hl 2 rfl) ?_
        refine lv_iconst (v := 0) hx hb_w dX1_noteDifference_97 (by decide) ?_
        refine dput (index := 173) (v := .int 0) (upd (upd (upd (upd g_w 10 ((g_w 0) - ((f_w 0) i_w))) 9 (nI i_w)) 8 ((g_w 8) + ((g_w 0) - ((f_w 0) i_w)))) 11 0) tc_w hx hb_w hts hinX1 hown hK_w hP hap hS_w 10 (by decide) (List.mem_of_getElem? (i := 4) rfl) rfl rfl rfl rfl rfl dX1_noteDifference_98 (fun H locs_w hP hS_w => ?_)
        have hrow : rowD g_w f_w i_w = 1 := by unfold rowD; rw [if_neg (fun q_w => by rw [q_w.2] at c34_w; exact absurd c34_w (by decide))]
        have hP : va_P G_w vwCl (wD a_w cI cZ (cntG g_w (g_w 0 - f_w 0 i_w) 1 i_w) f_w cd tc_w) H := by unfold cntG; rw [if_neg (fun q_w => q_w.elim c76 (by rw [c83]; decide))]; exact hP
        exact hret (cntG g_w (g_w 0 - f_w 0 i_w) 1 i_w, f_w, cd, tc_w) _ _ _ _ dX1_noteDifference_101 hP hS_w (by rw [hrow])
      exact absurd rfl c45
    replace c34_w := bIn c34_w
    rw [← hfo] at c34_w
    refine lv_iconst (v := 1) hx hb_w dX1_noteDifference_37 (by decide) ?_
    refine lv_goto (tgt := 42) hx hb_w dX1_noteDifference_38 (by decide) ?_
    refine lv_istore_n (lv' := [(3, .int 1), (2, .int ((g_w 0) - ((f_w 0) i_w))), (0, .ref (a_w 0)), (1, .int (nI i_w))]) hx hb_w dX1_noteDifference_42 rfl hl (by decide) rfl (fun ls hl => ?_)
    refine lv_aload_n hx hb_w dX1_noteDifference_43 rfl (lv_at hl 2 rfl) ?_
    refine lv_iload_n hx hb_w dX1_noteDifference_44 rfl (lv_at hl 0 rfl) ?_
    refine lv_if_eq (tgt := 57) hx hb_w dX1_noteDifference_45 (by decide) (fun c45 => ?_) (fun c45 => ?_)
    · exact absurd c45 (by decide)
    refine lv_aload_n hx hb_w dX1_noteDifference_48 rfl (lv_at hl 2 rfl) ?_
    refine dget (index := 173) (v := .int (g_w 11)) hx hb_w hts hinX1 hown hK_w hP 10 (by decide) (List.mem_of_getElem? (i := 4) rfl) rfl dX1_noteDifference_49 ?_
    refine lv_iconst (v := 1) hx hb_w dX1_noteDifference_52 (by decide) ?_
    refine lv_iadd hx hb_w dX1_noteDifference_53 ?_
    refine lv_goto (tgt := 58) hx hb_w dX1_noteDifference_54 (by decide) ?_
    refine dput (index := 173) (v := .int ((g_w 11) + 1)) (upd g_w 11 ((g_w 11) + 1)) tc_w hx hb_w hts hinX1 hown hK_w hP hap hS_w 10 (by decide) (List.mem_of_getElem? (i := 4) rfl) rfl rfl rfl rfl rfl dX1_noteDifference_58 (fun H locs_w hP hS_w => ?_)
    refine lv_aload_n hx hb_w dX1_noteDifference_61 rfl (lv_at hl 2 rfl) ?_
    refine lv_iload_n hx hb_w dX1_noteDifference_62 rfl (lv_at hl 1 rfl) ?_
    refine dput (index := 167) (v := .int ((g_w 0) - ((f_w 0) i_w))) (upd (upd g_w 11 ((g_w 11) + 1)) 10 ((g_w 0) - ((f_w 0) i_w))) tc_w hx hb_w hts hinX1 hown hK_w hP hap hS_w 11 (by decide) (List.mem_of_getElem? (i := 3) rfl) rfl rfl rfl rfl rfl dX1_noteDifference_63 (fun H locs_w hP hS_w => ?_)
    refine lv_aload_n hx hb_w dX1_noteDifference_66 rfl (lv_at hl 2 rfl) ?_
    refine lv_iload_n hx hb_w dX1_noteDifference_67 rfl (lv_at hl 3 rfl) ?_
    refine dput (index := 43) (v := .int (nI i_w)) (upd (upd (upd g_w 11 ((g_w 11) + 1)) 10 ((g_w 0) - ((f_w 0) i_w))) 9 (nI i_w)) tc_w hx hb_w hts hinX1 hown hK_w hP hap hS_w 12 (by decide) (List.mem_of_getElem? (i := 5) rfl) rfl rfl rfl rfl rfl dX1_noteDifference_68 (fun H locs_w hP hS_w => ?_)
    refine lv_aload_n hx hb_w dX1_noteDifference_71 rfl (lv_at hl 2 rfl) ?_
    refine dget (index := 173) (v := .int ((g_w 11) + 1)) hx hb_w hts hinX1 hown hK_w hP 10 (by decide) (List.mem_of_getElem? (i := 4) rfl) rfl dX1_noteDifference_72 ?_
    refine lv_iconst (v := 3) hx hb_w dX1_noteDifference_75 (by decide) ?_
    refine lv_icmp_lt (tgt := 101) hx hb_w dX1_noteDifference_76 (by decide) (fun c76 => ?_) (fun c76 => ?_)
    · have hrow : rowD g_w f_w i_w = (g_w 11 + 1) := by unfold rowD; rw [if_pos ⟨c26, c34_w⟩]
      have hP : va_P G_w vwCl (wD a_w cI cZ (cntG g_w (g_w 0 - f_w 0 i_w) (g_w 11 + 1) i_w) f_w cd tc_w) H := by unfold cntG; rw [if_pos (Or.inl c76)]; exact hP
      exact hret (cntG g_w (g_w 0 - f_w 0 i_w) (g_w 11 + 1) i_w, f_w, cd, tc_w) _ _ _ _ dX1_noteDifference_101 hP hS_w (by rw [hrow])
    refine lv_iload_n hx hb_w dX1_noteDifference_79 rfl (lv_at hl 1 rfl) ?_
    refine rdr_S (As := [.int ((g_w 0) - ((f_w 0) i_w))]) (rest := []) ⟨hx, hb_w, hml, hown, hts⟩ (kX1_canShift l G_w _ _ ((g_w 0) - ((f_w 0) i_w)) ) (va_cwS 1 hts gX1_noteDifference_X1_canShift rfl rfl rfl (by decide +kernel) ⟨Nat.le_of_ble_eq_true rfl, Nat.le_of_ble_eq_true rfl⟩)  hP hK_w rfl hl.1 rfl (Nat.le_of_ble_eq_true rfl) dX1_noteDifference_80 (by decide) (fun r80 h80 => ?_)
    replace h80 : r80 = bI (okS ((g_w 0) - ((f_w 0) i_w))) := h80
    subst h80
    refine lv_if_eq (tgt := 101) hx hb_w dX1_noteDifference_83 (by decide) (fun c83 => ?_) (fun c83 => ?_)
    · replace c83 := bI0 c83
      have hrow : rowD g_w f_w i_w = (g_w 11 + 1) := by unfold rowD; rw [if_pos ⟨c26, c34_w⟩]
      have hP : va_P G_w vwCl (wD a_w cI cZ (cntG g_w (g_w 0 - f_w 0 i_w) (g_w 11 + 1) i_w) f_w cd tc_w) H := by unfold cntG; rw [if_pos (Or.inr c83)]; exact hP
      exact hret (cntG g_w (g_w 0 - f_w 0 i_w) (g_w 11 + 1) i_w, f_w, cd, tc_w) _ _ _ _ dX1_noteDifference_101 hP hS_w (by rw [hrow])
    replace c83 := bIn c83
    refine lv_aload_n hx hb_w dX1_noteDifference_86 rfl (lv_at hl 2 rfl) ?_
    refine lv_dup hx hb_w dX1_noteDifference_87 rfl ?_
    refine dget (index := 123) (v := .int (g_w 8)) hx hb_w hts hinX1 hown hK_w hP 5 (by decide) (List.mem_of_getElem? (i := 6) rfl) rfl dX1_noteDifference_88 ?_
    refine lv_iload_n hx hb_w dX1_noteDifference_91 rfl (lv_at hl 1 rfl) ?_
    refine lv_iadd hx hb_w dX1_noteDifference_92 ?_
    refine dput (index := 123) (v := .int ((g_w 8) + ((g_w 0) - ((f_w 0) i_w)))) (upd (upd (upd (upd g_w 11 ((g_w 11) + 1)) 10 ((g_w 0) - ((f_w 0) i_w))) 9 (nI i_w)) 8 ((g_w 8) + ((g_w 0) - ((f_w 0) i_w)))) tc_w hx hb_w hts hinX1 hown hK_w hP hap hS_w 5 (by decide) (List.mem_of_getElem? (i := 6) rfl) rfl rfl rfl rfl rfl dX1_noteDifference_93 (fun H locs_w hP hS_w => ?_)
    refine lv_aload_n hx hb_w dX1_noteDifference_96 rfl (lv_at hl 2 rfl) ?_
    refine lv_iconst (v := 0) hx hb_w dX1_noteDifference_97 (by decide) ?_
    refine dput (index := 173) (v := .int 0) (upd (upd (upd (upd g_w 10 ((g_w 0) - ((f_w 0) i_w))) 9 (nI i_w)) 8 ((g_w 8) + ((g_w 0) - ((f_w 0) i_w)))) 11 0) tc_w hx hb_w hts hinX1 hown hK_w hP hap hS_w 10 (by decide) (List.mem_of_getElem? (i := 4) rfl) rfl rfl rfl rfl rfl dX1_noteDifference_98 (fun H locs_w hP hS_w => ?_)
    have hrow : rowD g_w f_w i_w = (g_w 11 + 1) := by unfold rowD; rw [if_pos ⟨c26, c34_w⟩]
    have hP : va_P G_w vwCl (wD a_w cI cZ (cntG g_w (g_w 0 - f_w 0 i_w) (g_w 11 + 1) i_w) f_w cd tc_w) H := by unfold cntG; rw [if_neg (fun q_w => q_w.elim c76 (by rw [c83]; decide))]; exact hP
    exact hret (cntG g_w (g_w 0 - f_w 0 i_w) (g_w 11 + 1) i_w, f_w, cd, tc_w) _ _ _ _ dX1_noteDifference_101 hP hS_w (by rw [hrow])
  replace c5_w := bI0 c5_w
  exact absurd c5_w (by simp [isF_nI (show i_w < 200 by omega), hnf])
set_option maxHeartbeats 4000000 in
set_option maxRecDepth 100000 in
theorem kX0_change (l : Launch) (G_w : va_G) (a_w : Nat → Nat) (cI cZ : ClassId) (g_w : Nat → Int32) (f_w : Nat → Nat → Int32) (cd : Nat → Int32) (tc_w : Int32) (hap : apart a_w 7) (sz_w : Nat) (p0_w p1_w p2_w p3_w : Int32) (hp2 : p2_w = 0 ∨ p2_w = 1): wrv l yX0_change wsX0_change { frames := 0, cells := 0, slots := 0, locals := 0 } G_w (wD a_w cI cZ g_w f_w cd tc_w) (tyIZ cI cZ) (aS a_w 7 sz_w) sz_w [.ref (a_w 1), .int p0_w, .int p1_w, .int p2_w, .int p3_w] (fun u_w => u_w = (upd (upd (upd (upd g_w 1 p0_w) 2 p1_w) 3 p2_w) 4 p3_w, f_w, cd, tc_w)) (wfD a_w cI cZ) := by
  refine wrv_of (cc := cX0_change) (nL := 5) (by decide) rfl (Nat.le_of_ble_eq_true rfl) ?_
  intro p_w e_w s_w m_w args_w below meth_w c_w H locs_w ls Q hx hb_w hml hown hts hP hK_w hS_w hret hl
  have hl : lv_has ls 5 [(0, .ref (a_w 1)), (1, .int p0_w), (2, .int p1_w), (3, .int p2_w), (4, .int p3_w)] := hl
  have hinX0 : ∀ w_w ∈ wsX00, w_w ∈ wsX0_change := by decide +kernel
  refine lv_aload_n hx hb_w dX0_change_0 rfl (lv_at hl 0 rfl) ?_
  refine lv_iload_n hx hb_w dX0_change_1 rfl (lv_at hl 1 rfl) ?_
  refine pput (index := 9) (v := .int p0_w) (upd g_w 1 p0_w) hx hb_w hts hinX0 hown hK_w hP hap hS_w 0 (by decide) (List.mem_of_getElem? (i := 1) rfl) rfl rfl rfl rfl rfl dX0_change_2 (fun H locs_w hP hS_w => ?_)
  refine lv_aload_n hx hb_w dX0_change_5 rfl (lv_at hl 0 rfl) ?_
  refine lv_iload_n hx hb_w dX0_change_6 rfl (lv_at hl 2 rfl) ?_
  refine pput (index := 15) (v := .int p1_w) (upd (upd g_w 1 p0_w) 2 p1_w) hx hb_w hts hinX0 hown hK_w hP hap hS_w 1 (by decide) (List.mem_of_getElem? (i := 2) rfl) rfl rfl rfl rfl rfl dX0_change_7 (fun H locs_w hP hS_w => ?_)
  refine lv_aload_n hx hb_w dX0_change_10 rfl (lv_at hl 0 rfl) ?_
  refine lv_iload_n hx hb_w dX0_change_11 rfl (lv_at hl 3 rfl) ?_
  refine pput (index := 18) (v := .int p2_w) (upd (upd (upd g_w 1 p0_w) 2 p1_w) 3 p2_w) hx hb_w hts hinX0 hown hK_w hP hap hS_w 2 (by decide) (List.mem_of_getElem? (i := 3) rfl) rfl (by rcases hp2 with q_w | q_w <;> rw [q_w] <;> rfl) (by rcases hp2 with q_w | q_w <;> rw [q_w] <;> rfl) rfl rfl dX0_change_12 (fun H locs_w hP hS_w => ?_)
  refine lv_aload_n hx hb_w dX0_change_15 rfl (lv_at hl 0 rfl) ?_
  refine lv_iload hx hb_w dX0_change_16 (lv_at hl 4 rfl) ?_
  refine pput (index := 22) (v := .int p3_w) (upd (upd (upd (upd g_w 1 p0_w) 2 p1_w) 3 p2_w) 4 p3_w) hx hb_w hts hinX0 hown hK_w hP hap hS_w 3 (by decide) (List.mem_of_getElem? (i := 4) rfl) rfl rfl rfl rfl rfl dX0_change_18 (fun H locs_w hP hS_w => ?_)
  exact hret ((upd (upd (upd (upd g_w 1 p0_w) 2 p1_w) 3 p2_w) 4 p3_w), f_w, cd, tc_w) _ _ _ _ dX0_change_21 hP hS_w rfl
