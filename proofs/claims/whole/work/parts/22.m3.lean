set_option maxHeartbeats 4000000 in
set_option maxRecDepth 100000 in
theorem kX1_takeIn (l : Launch) (G_w : va_G) (a_w : Nat → Nat) (cI cZ : ClassId) (g_w : Nat → Int32) (f_w : Nat → Nat → Int32) (cd : Nat → Int32) (tc_w : Int32) (hap : apart a_w 7) (sz_w : Nat) (F_w L_w N_w : Nat) (hF : F_w ≤ L_w) (hL : L_w < N_w) (hN_w : g_w 7 = nI N_w) (hN2 : N_w ≤ 200): wrv l yX1_takeIn wsX1_takeIn { frames := 2, cells := 0, slots := 0, locals := 41 } G_w (wD a_w cI cZ g_w f_w cd tc_w) (tyIZ cI cZ) (aS a_w 7 sz_w) sz_w [.ref (a_w 0), .int (nI F_w), .int (nI L_w)] (fun u_w => u_w = (g_w, up2 f_w 1 (tkU (f_w 1) F_w (L_w + 1)), cd, tc_w)) (wfD a_w cI cZ) := by
  refine wrv_of (cc := cX1_takeIn) (nL := 4) (by decide) rfl (Nat.le_of_ble_eq_true rfl) ?_
  intro p_w e_w s_w m_w args_w below meth_w c_w H locs_w ls Q hx hb_w hml hown hts hP hK_w hS_w hret hl
  have hl : lv_has ls 4 [(0, .ref (a_w 0)), (1, .int (nI F_w)), (2, .int (nI L_w))] := hl
  have hinX1 : ∀ w_w ∈ wsX10, w_w ∈ wsX1_takeIn := by decide +kernel
  refine lv_iload_n hx hb_w dX1_takeIn_0 rfl (lv_at hl 1 rfl) ?_
  refine lv_istore_n (lv' := [(3, .int (nI F_w)), (0, .ref (a_w 0)), (1, .int (nI F_w)), (2, .int (nI L_w))]) hx hb_w dX1_takeIn_1 rfl hl (by decide) rfl (fun ls hl => ?_)
  have loop2 : ∀ (n_w : Nat) (i_w : Nat) (h1 : Nat → Int32), F_w ≤ i_w → i_w ≤ L_w + 1 → L_w + 1 - i_w < n_w → h1 = tkU (f_w 1) F_w i_w → ∀ (H : Heap) (locs_w : List Loc), va_P G_w vwCl (wD a_w cI cZ g_w (up2 f_w 1 h1) cd tc_w) H → va_S (aS a_w 7 s_w.heap.size) s_w.heap H locs_w → ∀ (ls : Array Slot), lv_has ls 4 [(0, .ref (a_w 0)), (1, .int (nI F_w)), (2, .int (nI L_w)), (3, .int (nI i_w))] → W p_w l e_w { frames := 2, cells := 0, slots := 0, locals := 41 } s_w m_w args_w below meth_w c_w H locs_w 0 0 Q (F0 m_w 2 ls []) := by
    intro n_w
    induction n_w with
    | zero => intro i_w h1 hi0_w hi_w hn hq; intros; exact absurd hn (Nat.not_lt_zero _)
    | succ n_w ih2 =>
      intro i_w h1 hi0_w hi_w hn hq H locs_w hP hS_w ls hl
      refine lv_iload_n hx hb_w dX1_takeIn_2 rfl (lv_at hl 3 rfl) ?_
      refine lv_iload_n hx hb_w dX1_takeIn_3 rfl (lv_at hl 2 rfl) ?_
      refine lv_icmp_gt (tgt := 44) hx hb_w dX1_takeIn_4 (by decide) (fun c4_w => ?_) (fun c4_w => ?_)
      · have ei : i_w = L_w + 1 := by have := lt_nI (a := L_w) (b := i_w) (by omega) (by omega) c4_w; omega
        rw [hq, ei] at hP
        exact hret (g_w, up2 f_w 1 (tkU (f_w 1) F_w (L_w + 1)), cd, tc_w) _ _ _ _ dX1_takeIn_44 hP hS_w rfl
      have hi2 : i_w ≤ L_w := nlt_nI (by omega) (by omega) c4_w
      refine lv_iload_n hx hb_w dX1_takeIn_7 rfl (lv_at hl 3 rfl) ?_
      refine lv_sipush (v := 200) hx hb_w dX1_takeIn_8 (by decide) ?_
      refine lv_icmp_ge (tgt := 44) hx hb_w dX1_takeIn_11 (by decide) (fun c11_w => ?_) (fun c11_w => ?_)
      · exact absurd (ge_200 c11_w (show i_w ≤ 200 by omega)) (show ¬ i_w = 200 by omega)
      refine lv_aload_n hx hb_w dX1_takeIn_14 rfl (lv_at hl 0 rfl) ?_
      refine lv_iload_n hx hb_w dX1_takeIn_15 rfl (lv_at hl 3 rfl) ?_
      refine rdr_V (As := [.int (nI i_w)]) (rest := []) ⟨hx, hb_w, hml, hown, hts⟩ (kX1_isForetold l G_w a_w cI cZ g_w (up2 f_w 1 h1) cd tc_w (nI i_w) ) (cwV 1 hts gX1_takeIn_X1_isForetold rfl rfl rfl (by decide +kernel) ⟨Nat.le_of_ble_eq_true rfl, Nat.le_of_ble_eq_true rfl⟩) (va_recv hK_w hP (ci := 1) (q0 := 0) rfl rfl) hP hK_w rfl hl.1 rfl (Nat.le_of_ble_eq_true rfl) dX1_takeIn_16 (by decide) (fun r16 h16_w => ?_)
      replace h16_w : r16 = bI (isF g_w (nI i_w)) := h16_w
      subst h16_w
      refine lv_if_eq (tgt := 38) hx hb_w dX1_takeIn_19 (by decide) (fun c19_w => ?_) (fun c19_w => ?_)
      · replace c19_w := bI0 c19_w
        exact absurd (isF_f (by omega) c19_w) (by rw [hN_w]; exact nI_ge (by omega) (by omega))
      replace c19_w := bIn c19_w
      refine lv_aload_n hx hb_w dX1_takeIn_22 rfl (lv_at hl 0 rfl) ?_
      refine dget (index := 27) (v := .ref (a_w 3)) hx hb_w hts hinX1 hown hK_w hP 7 (by decide) (List.mem_of_getElem? (i := 1) rfl) rfl dX1_takeIn_23 ?_
      refine lv_iload_n hx hb_w dX1_takeIn_26 rfl (lv_at hl 3 rfl) ?_
      refine lv_iload_n hx hb_w dX1_takeIn_27 rfl (lv_at hl 3 rfl) ?_
      refine lv_iload_n hx hb_w dX1_takeIn_28 rfl (lv_at hl 1 rfl) ?_
      refine lv_icmp_ne (tgt := 36) hx hb_w dX1_takeIn_29 (by decide) (fun c29_w => ?_) (fun c29_w => ?_)
      · have ei : ¬ i_w = F_w := fun q_w => c29_w (by rw [q_w])
        refine lv_iconst (v := 2) hx hb_w dX1_takeIn_36 (by decide) ?_
        refine asI (j := i_w) (h := h1) (x := 2) (wD a_w cI cZ g_w (up2 f_w 1 (upd h1 i_w 2)) cd tc_w) hx hb_w hK_w hP (wD_D hap _) hS_w 3 rfl rfl (by omega) rfl dX1_takeIn_37 (fun H locs_w hP hS_w => ?_)
        refine lv_iinc (v := nI (i_w + 1)) (lv' := [(3, .int (nI (i_w + 1))), (0, .ref (a_w 0)), (1, .int (nI F_w)), (2, .int (nI L_w))]) hx hb_w dX1_takeIn_38 hl (k := 3) rfl (nI_1 _) (by decide) rfl (fun ls hl => ?_)
        refine lv_goto (tgt := 2) hx hb_w dX1_takeIn_41 (by decide) ?_
        exact ih2 (i_w + 1) (upd h1 i_w 2) (by omega) (by omega) (by omega) (by rw [hq]; exact tkU_s _ hi0_w _ (by rw [if_neg ei])) _ _ hP hS_w _ (lv_sub hl [1, 2, 3, 0] rfl)
      have ei : i_w = F_w := (nI_eq (by omega) (by omega)).mp c29_w
      refine lv_iconst (v := 1) hx hb_w dX1_takeIn_32 (by decide) ?_
      refine lv_goto (tgt := 37) hx hb_w dX1_takeIn_33 (by decide) ?_
      refine asI (j := i_w) (h := h1) (x := 1) (wD a_w cI cZ g_w (up2 f_w 1 (upd h1 i_w 1)) cd tc_w) hx hb_w hK_w hP (wD_D hap _) hS_w 3 rfl rfl (by omega) rfl dX1_takeIn_37 (fun H locs_w hP hS_w => ?_)
      refine lv_iinc (v := nI (i_w + 1)) (lv' := [(3, .int (nI (i_w + 1))), (0, .ref (a_w 0)), (1, .int (nI F_w)), (2, .int (nI L_w))]) hx hb_w dX1_takeIn_38 hl (k := 3) rfl (nI_1 _) (by decide) rfl (fun ls hl => ?_)
      refine lv_goto (tgt := 2) hx hb_w dX1_takeIn_41 (by decide) ?_
      exact ih2 (i_w + 1) (upd h1 i_w 1) (by omega) (by omega) (by omega) (by rw [hq]; exact tkU_s _ hi0_w _ (by rw [if_pos ei])) _ _ hP hS_w _ (lv_sub hl [1, 2, 3, 0] rfl)
  exact loop2 (L_w + 2) F_w (f_w 1) (by omega) (by omega) (by omega) (tkU_0 _ _) _ _ hP hS_w _ (lv_sub hl [1, 2, 3, 0] rfl)
set_option maxHeartbeats 4000000 in
set_option maxRecDepth 100000 in
theorem kX1_noteDifference (l : Launch) (G_w : va_G) (a_w : Nat → Nat) (cI cZ : ClassId) (g_w : Nat → Int32) (f_w : Nat → Nat → Int32) (cd : Nat → Int32) (tc_w : Int32) (hap : apart a_w 7) (sz_w : Nat) (i_w N_w ct : Nat) (hi_w : i_w < N_w) (hN_w : g_w 7 = nI N_w) (hN2 : N_w ≤ 200) (hI : Inv ct g_w f_w): wrv l yX1_noteDifference wsX1_noteDifference { frames := 3, cells := 0, slots := 0, locals := 63 } G_w (wD a_w cI cZ g_w f_w cd tc_w) (tyIZ cI cZ) (aS a_w 7 sz_w) sz_w [.ref (a_w 0), .int (nI i_w)] (fun u_w => u_w = (cntG g_w (g_w 0 - f_w 0 i_w) (rowD g_w f_w i_w) i_w, f_w, cd, tc_w)) (wfD a_w cI cZ) := by
  obtain ⟨B_w, b1, b2, b3, b4, b5⟩ := inv_B hI
  have hnf : ¬ g_w 7 ≤ nI i_w := by rw [hN_w]; exact nI_ge hi_w (by omega)
  have hfo : foD g_w f_w i_w = (decide (B_w ≤ i_w) && allR (foB f_w) B_w (i_w - B_w)) := by unfold foD; rw [b5]
  refine wrv_of (cc := cX1_noteDifference) (nL := 4) (by decide) rfl (Nat.le_of_ble_eq_true rfl) ?_
  intro p_w e_w s_w m_w args_w below meth_w c_w H locs_w ls Q hx hb_w hml hown hts hP hK_w hS_w hret hl
  have hl : lv_has ls 4 [(0, .ref (a_w 0)), (1, .int (nI i_w))] := hl
  have hinX1 : ∀ w_w ∈ wsX10, w_w ∈ wsX1_noteDifference := by decide +kernel
  refine lv_aload_n hx hb_w dX1_noteDifference_0 rfl (lv_at hl 0 rfl) ?_
  refine lv_iload_n hx hb_w dX1_noteDifference_1 rfl (lv_at hl 1 rfl) ?_
  refine rdr_V (As := [.int (nI i_w)]) (rest := []) ⟨hx, hb_w, hml, hown, hts⟩ (kX1_isForetold l G_w a_w cI cZ g_w f_w cd tc_w (nI i_w) ) (cwV 1 hts gX1_noteDifference_X1_isForetold rfl rfl rfl (by decide +kernel) ⟨Nat.le_of_ble_eq_true rfl, Nat.le_of_ble_eq_true rfl⟩) (va_recv hK_w hP (ci := 1) (q0 := 0) rfl rfl) hP hK_w rfl hl.1 rfl (Nat.le_of_ble_eq_true rfl) dX1_noteDifference_2 (by decide) (fun r2 h2 => ?_)
  replace h2 : r2 = bI (isF g_w (nI i_w)) := h2
  subst h2
  refine lv_if_ne (tgt := 9) hx hb_w dX1_noteDifference_5 (by decide) (fun c5_w => ?_) (fun c5_w => ?_)
  · replace c5_w := bIn c5_w
    refine lv_aload_n hx hb_w dX1_noteDifference_9 rfl (lv_at hl 0 rfl) ?_
    refine dget (index := 74) (v := .int (g_w 0)) hx hb_w hts hinX1 hown hK_w hP 3 (by decide) (List.mem_of_getElem? (i := 1) rfl) rfl dX1_noteDifference_10 ?_
    refine lv_aload_n hx hb_w dX1_noteDifference_13 rfl (lv_at hl 0 rfl) ?_
    refine dget (index := 23) (v := .ref (a_w 2)) hx hb_w hts hinX1 hown hK_w hP 6 (by decide) (List.mem_of_getElem? (i := 2) rfl) rfl dX1_noteDifference_14 ?_
    refine lv_iload_n hx hb_w dX1_noteDifference_17 rfl (lv_at hl 1 rfl) ?_
    refine arI (j := i_w) (h := (f_w 0)) hx hb_w hK_w hP 2 rfl rfl (by omega) dX1_noteDifference_18 ?_
    refine lv_isub hx hb_w dX1_noteDifference_19 ?_
    refine lv_istore_n (lv' := [(2, .int ((g_w 0) - ((f_w 0) i_w))), (0, .ref (a_w 0)), (1, .int (nI i_w))]) hx hb_w dX1_noteDifference_20 rfl hl (by decide) rfl (fun ls hl => ?_)
    refine lv_iload_n hx hb_w dX1_noteDifference_21 rfl (lv_at hl 0 rfl) ?_
    refine lv_aload_n hx hb_w dX1_noteDifference_22 rfl (lv_at hl 1 rfl) ?_
    refine dget (index := 167) (v := .int (g_w 10)) hx hb_w hts hinX1 hown hK_w hP 11 (by decide) (List.mem_of_getElem? (i := 3) rfl) rfl dX1_noteDifference_23 ?_
    refine lv_icmp_ne (tgt := 41) hx hb_w dX1_noteDifference_26 (by decide) (fun c26 => ?_) (fun c26 => ?_)
    · refine lv_iconst (v := 0) hx hb_w dX1_noteDifference_41 (by decide) ?_
      refine lv_istore_n (lv' := [(3, .int 0), (2, .int ((g_w 0) - ((f_w 0) i_w))), (0, .ref (a_w 0)), (1, .int (nI i_w))]) hx hb_w dX1_noteDifference_42 rfl hl (by decide) rfl (fun ls hl => ?_)
      refine lv_aload_n hx hb_w dX1_noteDifference_43 rfl (lv_at hl 2 rfl) ?_
      refine lv_iload_n hx hb_w dX1_noteDifference_44 rfl (lv_at hl 0 rfl) ?_
      refine lv_if_eq (tgt := 57) hx hb_w dX1_noteDifference_45 (by decide) (fun c45 => ?_) (fun c45 => ?_)
      · refine lv_iconst (v := 1) hx hb_w dX1_noteDifference_57 (by decide) ?_
        refine dput (index := 173) (v := .int 1) (upd g_w 11 1) tc_w hx hb_w hts hinX1 hown hK_w hP hap hS_w 10 (by decide) (List.mem_of_getElem? (i := 4) rfl) rfl rfl rfl rfl rfl dX1_noteDifference_58 (fun H locs_w hP hS_w => ?_)
        refine lv_aload_n hx hb_w dX1_noteDifference_61 rfl (lv_at hl 2 rfl) ?_
        refine lv_iload_n hx hb_w dX1_noteDifference_62 rfl (lv_at hl 1 rfl) ?_
        refine dput (index := 167) (v := .int ((g_w 0) - ((f_w 0) i_w))) (upd (upd g_w 11 1) 10 ((g_w 0) - ((f_w 0) i_w))) tc_w hx hb_w hts hinX1 hown hK_w hP hap hS_w 11 (by decide) (List.mem_of_getElem? (i := 3) rfl) rfl rfl rfl rfl rfl dX1_noteDifference_63 (fun H locs_w hP hS_w => ?_)
        refine lv_aload_n hx hb_w dX1_noteDifference_66 rfl (lv_at hl 2 rfl) ?_
        refine lv_iload_n hx hb_w dX1_noteDifference_67 rfl (lv_at hl 3 rfl) ?_
        refine dput (index := 43) (v := .int (nI i_w)) (upd (upd (upd g_w 11 1) 10 ((g_w 0) - ((f_w 0) i_w))) 9 (nI i_w)) tc_w hx hb_w hts hinX1 hown hK_w hP hap hS_w 12 (by decide) (List.mem_of_getElem? (i := 5) rfl) rfl rfl rfl rfl rfl dX1_noteDifference_68 (fun H locs_w hP hS_w => ?_)
        refine lv_aload_n hx hb_w dX1_noteDifference_71 rfl (lv_at hl 2 rfl) ?_
        refine dget (index := 173) (v := .int 1) hx hb_w hts hinX1 hown hK_w hP 10 (by decide) (List.mem_of_getElem? (i := 4) rfl) rfl dX1_noteDifference_72 ?_
        refine lv_iconst (v := 3) hx hb_w dX1_noteDifference_75 (by decide) ?_
        refine lv_icmp_lt (tgt := 101) hx hb_w dX1_noteDifference_76 (by decide) (fun c76 => ?_) (fun c76 => ?_)
        · have hrow : rowD g_w f_w i_w = 1 := by unfold rowD; rw [if_neg (fun q_w => c26 q_w.1)]
          have hP : va_P G_w vwCl (wD a_w cI cZ (cntG g_w (g_w 0 - f_w 0 i_w) 1 i_w) f_w cd tc_w) H := by unfold cntG; rw [if_pos (Or.inl c76)]; exact hP
          exact hret (cntG g_w (g_w 0 - f_w 0 i_w) 1 i_w, f_w, cd, tc_w) _ _ _ _ dX1_noteDifference_101 hP hS_w (by rw [hrow])
        refine lv_iload_n hx hb_w dX1_noteDifference_79 rfl (lv_at hl 1 rfl) ?_
        refine rdr_S (As := [.int ((g_w 0) - ((f_w 0) i_w))]) (rest := []) ⟨hx, hb_w, hml, hown, hts⟩ (kX1_canShift l G_w _ _ ((g_w 0) - ((f_w 0) i_w)) ) (va_cwS 1 hts gX1_noteDifference_X1_canShift rfl rfl rfl (by decide +kernel) ⟨Nat.le_of_ble_eq_true rfl, Nat.le_of_ble_eq_true rfl⟩)  hP hK_w rfl hl.1 rfl (Nat.le_of_ble_eq_true rfl) dX1_noteDifference_80 (by decide) (fun r80 h80 => ?_)
        replace h80 : r80 = bI (okS ((g_w 0) - ((f_w 0) i_w))) := h80
        subst h80
        refine lv_if_eq (tgt := 101) hx hb_w dX1_noteDifference_83 (by decide) (fun c83 => ?_) (fun c83 => ?_)
        · replace c83 := bI0 c83
          have hrow : rowD g_w f_w i_w = 1 := by unfold rowD; rw [if_neg (fun q_w => c26 q_w.1)]
          have hP : va_P G_w vwCl (wD a_w cI cZ (cntG g_w (g_w 0 - f_w 0 i_w) 1 i_w) f_w cd tc_w) H := by unfold cntG; rw [if_pos (Or.inr c83)]; exact hP
          exact hret (cntG g_w (g_w 0 - f_w 0 i_w) 1 i_w, f_w, cd, tc_w) _ _ _ _ dX1_noteDifference_101 hP hS_w (by rw [hrow])
        replace c83 := bIn c83
        refine lv_aload_n hx hb_w dX1_noteDifference_86 rfl (lv_at hl 2 rfl) ?_
        refine lv_dup hx hb_w dX1_noteDifference_87 rfl ?_
        refine dget (index := 123) (v := .int (g_w 8)) hx hb_w hts hinX1 hown hK_w hP 5 (by decide) (List.mem_of_getElem? (i := 6) rfl) rfl dX1_noteDifference_88 ?_
        refine lv_iload_n hx hb_w dX1_noteDifference_91 rfl (lv_at hl 1 rfl) ?_
        refine lv_iadd hx hb_w dX1_noteDifference_92 ?_
        refine dput (index := 123) (v := .int ((g_w 8) + ((g_w 0) - ((f_w 0) i_w)))) (upd (upd (upd (upd g_w 11 1) 10 ((g_w 0) - ((f_w 0) i_w))) 9 (nI i_w)) 8 ((g_w 8) + ((g_w 0) - ((f_w 0) i_w)))) tc_w hx hb_w hts hinX1 hown hK_w hP hap hS_w 5 (by decide) (List.mem_of_getElem? (i := 6) rfl) rfl rfl rfl rfl rfl dX1_noteDifference_93 (fun H locs_w hP hS_w => ?_)
        refine lv_aload_n hx hb_w dX1_noteDifference_96 rfl (lv_at hl 2 rfl) ?_
        refine lv_iconst (v := 0) hx hb_w dX1_noteDifference_97 (by decide) ?_
        refine dput (index := 173) (v := .int 0) (upd (upd (upd (upd g_w 10 ((g_w 0) - ((f_w 0) i_w))) 9 (nI i_w)) 8 ((g_w 8) + ((g_w 0) - ((f_w 0) i_w)))) 11 0) tc_w hx hb_w hts hinX1 hown hK_w hP hap hS_w 10 (by decide) (List.mem_of_getElem? (i := 4) rfl) rfl rfl rfl rfl rfl dX1_noteDifference_98 (fun H locs_w hP hS_w => ?_)
        have hrow : rowD g_w f_w i_w = 1 := by unfold rowD; rw [if_neg (fun q_w => c26 q_w.1)]
        have hP : va_P G_w vwCl (wD a_w cI cZ (cntG g_w (g_w 0 - f_w 0 i_w) 1 i_w) f_w cd tc_w) H := by unfold cntG; rw [if_neg (fun q_w => q_w.elim c76 (by rw [c83]; decide))]; exact hP
        exact hret (cntG g_w (g_w 0 - f_w 0 i_w) 1 i_w, f_w, cd, tc_w) _ _ _ _ dX1_noteDifference_101 hP hS_w (by rw [hrow])
      exact absurd rfl c45
    refine lv_aload_n hx hb_w dX1_noteDifference_29 rfl (lv_at hl 1 rfl) ?_
    refine lv_iload_n hx hb_w dX1_noteDifference_30 rfl (lv_at hl 2 rfl) ?_
    refine rdr_V (As := [.int (nI i_w)]) (rest := []) ⟨hx, hb_w, hml, hown, hts⟩ (kX1_followsStreak l G_w a_w cI cZ g_w f_w cd tc_w i_w B_w (by omega) hnf b1 b2) (cwV 1 hts gX1_noteDifference_X1_followsStreak rfl rfl rfl (by decide +kernel) ⟨Nat.le_of_ble_eq_true rfl, Nat.le_of_ble_eq_true rfl⟩) (va_recv hK_w hP (ci := 1) (q0 := 0) rfl rfl) hP hK_w rfl hl.1 rfl (Nat.le_of_ble_eq_true rfl) dX1_noteDifference_31 (by decide) (fun r31 h31 => ?_)
    replace h31 : r31 = bI (decide (B_w ≤ i_w) && allR (foB f_w) B_w (i_w - B_w)) := h31
    subst h31
    refine lv_if_eq (tgt := 41) hx hb_w dX1_noteDifference_34 (by decide) (fun c34_w => ?_) (fun c34_w => ?_)
    · replace c34_w := bI0 c34_w
      rw [← hfo] at c34_w
      refine lv_iconst (v := 0) hx hb_w dX1_noteDifference_41 (by decide) ?_
      refine lv_istore_n (lv' := [(3, .int 0), (2, .int ((g_w 0) - ((f_w 0) i_w))), (0, .ref (a_w 0)), (1, .int (nI i_w))]) hx hb_w dX1_noteDifference_42 rfl hl (by decide) rfl (fun ls hl => ?_)
      refine lv_aload_n hx hb_w dX1_noteDifference_43 rfl (lv_at hl 2 rfl) ?_
      refine lv_iload_n hx hb_w dX1_noteDifference_44 rfl (lv_at hl 0 rfl) ?_
      refine lv_if_eq (tgt := 57) hx hb_w dX1_noteDifference_45 (by decide) (fun c45 => ?_) (fun c45 => ?_)
      · refine lv_iconst (v := 1) hx hb_w dX1_noteDifference_57 (by decide) ?_
        refine dput (index := 173) (v := .int 1) (upd g_w 11 1) tc_w hx hb_w hts hinX1 hown hK_w hP hap hS_w 10 (by decide) (List.mem_of_getElem? (i := 4) rfl) rfl rfl rfl rfl rfl dX1_noteDifference_58 (fun H locs_w hP hS_w => ?_)
        refine lv_aload_n hx hb_w dX1_noteDifference_61 rfl (lv_at hl 2 rfl) ?_
        refine lv_iload_n hx hb_w dX1_noteDifference_62 rfl (lv_at hl 1 rfl) ?_
        refine dput (index := 167) (v := .int ((g_w 0) - ((f_w 0) i_w))) (upd (upd g_w 11 1) 10 ((g_w 0) - ((f_w 0) i_w))) tc_w hx hb_w hts hinX1 hown hK_w hP hap hS_w 11 (by decide) (List.mem_of_getElem? (i := 3) rfl) rfl rfl rfl rfl rfl dX1_noteDifference_63 (fun H locs_w hP hS_w => ?_)
        refine lv_aload_n hx hb_w dX1_noteDifference_66 rfl (lv_at hl 2 rfl) ?_
        refine lv_iload_n hx hb_w dX1_noteDifference_67 rfl (lv_at hl 3 rfl) ?_
        refine dput (index := 43) (v := .int (nI i_w)) (upd (upd (upd g_w 11 1) 10 ((g_w 0) - ((f_w 0) i_w))) 9 (nI i_w)) tc_w hx hb_w hts hinX1 hown hK_w hP hap hS_w 12 (by decide) (List.mem_of_getElem? (i := 5) rfl) rfl rfl rfl rfl rfl dX1_noteDifference_68 (fun H locs_w hP hS_w => ?_)
        refine lv_aload_n hx hb_w dX1_noteDifference_71 rfl (lv_at hl 2 rfl) ?_
        refine dget (index := 173) (v := .int 1) hx hb_w hts hinX1 hown hK_w hP 10 (by decide) (List.mem_of_getElem? (i := 4) rfl) rfl dX1_noteDifference_72 ?_
        refine lv_iconst (v := 3) hx hb_w dX1_noteDifference_75 (by decide) ?_
        refine lv_icmp_lt (tgt := 101) hx hb_w dX1_noteDifference_76 (by decide) (fun c76 => ?_) (fun c76 => ?_)
        · have hrow : rowD g_w f_w i_w = 1 := by unfold rowD; rw [if_neg (fun q_w => by rw [q_w.2] at c34_w; exact absurd c34_w (by decide))]
          have hP : va_P G_w vwCl (wD a_w cI cZ (cntG g_w (g_w 0 - f_w 0 i_w) 1 i_w) f_w cd tc_w) H := by unfold cntG; rw [if_pos (Or.inl c76)]; exact hP
          exact hret (cntG g_w (g_w 0 - f_w 0 i_w) 1 i_w, f_w, cd, tc_w) _ _ _ _ dX1_noteDifference_101 hP hS_w (by rw [hrow])
        refine lv_iload_n hx hb_w dX1_noteDifference_79 rfl (lv_at hl 1 rfl) ?_
        refine rdr_S (As := [.int ((g_w 0) - ((f_w 0) i_w))]) (rest := []) ⟨hx, hb_w, hml, hown, hts⟩ (kX1_canShift l G_w _ _ ((g_w 0) - ((f_w 0) i_w)) ) (va_cwS 1 hts gX1_noteDifference_X1_canShift rfl rfl rfl (by decide +kernel) ⟨Nat.le_of_ble_eq_true rfl, Nat.le_of_ble_eq_true rfl⟩)  hP hK_w rfl hl.1 rfl (Nat.le_of_ble_eq_true rfl) dX1_noteDifference_80 (by decide) (fun r80 h80 => ?_)
        replace h80 : r80 = bI (okS ((g_w 0) - ((f_w 0) i_w))) := h80
        subst h80
        refine lv_if_eq (tgt := 101) hx hb_w dX1_noteDifference_83 (by decide) (fun c83 => ?_) (fun c83 => ?_)
        · replace c83 := bI0 c83
          have hrow : rowD g_w f_w i_w = 1 := by unfold rowD; rw [if_neg (fun q_w => by rw [q_w.2] at c34_w; exact absurd c34_w (by decide))]
          have hP : va_P G_w vwCl (wD a_w cI cZ (cntG g_w (g_w 0 - f_w 0 i_w) 1 i_w) f_w cd tc_w) H := by unfold cntG; rw [if_pos (Or.inr c83)]; exact hP
          exact hret (cntG g_w (g_w 0 - f_w 0 i_w) 1 i_w, f_w, cd, tc_w) _ _ _ _ dX1_noteDifference_101 hP hS_w (by rw [hrow])
        replace c83 := bIn c83
        refine lv_aload_n hx hb_w dX1_noteDifference_86 rfl (lv_at hl 2 rfl) ?_
        refine lv_dup hx hb_w dX1_noteDifference_87 rfl ?_
        refine dget (index := 123) (v := .int (g_w 8)) hx hb_w hts hinX1 hown hK_w hP 5 (by decide) (List.mem_of_getElem? (i := 6) rfl) rfl dX1_noteDifference_88 ?_
        refine lv_iload_n hx hb_w dX1_noteDifference_91 rfl (lv_at hl 1 rfl) ?_
        refine lv_iadd hx hb_w dX1_noteDifference_92 ?_
        refine dput (index := 123) (v := .int ((g_w 8) + ((g_w 0) - ((f_w 0) i_w)))) (upd (upd (upd (upd g_w 11 1) 10 ((g_w 0) - ((f_w 0) i_w))) 9 (nI i_w)) 8 ((g_w 8) + ((g_w 0) - ((f_w 0) i_w)))) tc_w hx hb_w hts hinX1 hown hK_w hP hap hS_w 5 (by decide) (List.mem_of_getElem? (i := 6) rfl) rfl rfl rfl rfl rfl dX1_noteDifference_93 (fun H locs_w hP hS_w => ?_)
        refine lv_aload_n hx hb_w dX1_noteDifference_96 rfl (lv_at hl 2 rfl) ?_
        refine lv_iconst (v := 0) hx hb_w dX1_noteDifference_97 (by decide) ?_
        refine dput (index := 173) (v := .int 0) (upd (upd (upd (upd g_w 10 ((g_w 0) - ((f_w 0) i_w))) 9 (nI i_w)) 8 ((g_w 8) + ((g_w 0) - ((f_w 0) i_w)))) 11 0) tc_w hx hb_w hts hinX1 hown hK_w hP hap hS_w 10 (by decide) (List.mem_of_getElem? (i := 4) rfl) rfl rfl rfl rfl rfl dX1_noteDifference_98 (fun H locs_w hP hS_w => ?_)
        have hrow : rowD g_w f_w i_w = 1 := by unfold rowD; rw [if_neg (fun q_w => by rw [q_w.2] at c34_w; exact absurd c34_w (by decide))]
        have hP : va_P G_w vwCl (wD a_w cI cZ (cntG g_w (g_w 0 - f_w 0 i_w) 1 i_w) f_w cd tc_w) H := by unfold cntG; rw [if_neg (fun q_w => q_w.elim c76 (by rw [c83]; decide))]; exact hP
        exact hret (cntG g_w (g_w 0 - f_w 0 i_w) 1 i_w, f_w, cd, tc_w) _ _ _ _ dX1_noteDifference_101 hP hS_w (by rw [hrow])
      exact absurd rfl c45
    replace c34_w := bIn c34_w
    rw [← hfo] at c34_w
    refine lv_iconst (v := 1) hx hb_w dX1_noteDifference_37 (by decide) ?_
    refine lv_goto (tgt := 42) hx hb_w dX1_noteDifference_38 (by decide) ?_
    refine lv_istore_n (lv' := [(3, .int 1), (2, .int ((g_w 0) - ((f_w 0) i_w))), (0, .ref (a_w 0)), (1, .int (nI i_w))]) hx hb_w dX1_noteDifference_42 rfl hl (by decide) rfl (fun ls hl => ?_)
    refine lv_aload_n hx hb_w dX1_noteDifference_43 rfl (lv_at hl 2 rfl) ?_
    refine lv_iload_n hx hb_w dX1_noteDifference_44 rfl (lv_at hl 0 rfl) ?_
    refine lv_if_eq (tgt := 57) hx hb_w dX1_noteDifference_45 (by decide) (fun c45 => ?_) (fun c45 => ?_)
    · exact absurd c45 (by decide)
    refine lv_aload_n hx hb_w dX1_noteDifference_48 rfl (lv_at hl 2 rfl) ?_
    refine dget (index := 173) (v := .int (g_w 11)) hx hb_w hts hinX1 hown hK_w hP 10 (by decide) (List.mem_of_getElem? (i := 4) rfl) rfl dX1_noteDifference_49 ?_
    refine lv_iconst (v := 1) hx hb_w dX1_noteDifference_52 (by decide) ?_
    refine lv_iadd hx hb_w dX1_noteDifference_53 ?_
    refine lv_goto (tgt := 58) hx hb_w dX1_noteDifference_54 (by decide) ?_
    refine dput (index := 173) (v := .int ((g_w 11) + 1)) (upd g_w 11 ((g_w 11) + 1)) tc_w hx hb_w hts hinX1 hown hK_w hP hap hS_w 10 (by decide) (List.mem_of_getElem? (i := 4) rfl) rfl rfl rfl rfl rfl dX1_noteDifference_58 (fun H locs_w hP hS_w => ?_)
    refine lv_aload_n hx hb_w dX1_noteDifference_61 rfl (lv_at hl 2 rfl) ?_
    refine lv_iload_n hx hb_w dX1_noteDifference_62 rfl (lv_at hl 1 rfl) ?_
    refine dput (index := 167) (v := .int ((g_w 0) - ((f_w 0) i_w))) (upd (upd g_w 11 ((g_w 11) + 1)) 10 ((g_w 0) - ((f_w 0) i_w))) tc_w hx hb_w hts hinX1 hown hK_w hP hap hS_w 11 (by decide) (List.mem_of_getElem? (i := 3) rfl) rfl rfl rfl rfl rfl dX1_noteDifference_63 (fun H locs_w hP hS_w => ?_)
    refine lv_aload_n hx hb_w dX1_noteDifference_66 rfl (lv_at hl 2 rfl) ?_
    refine lv_iload_n hx hb_w dX1_noteDifference_67 rfl (lv_at hl 3 rfl) ?_
    refine dput (index := 43) (v := .int (nI i_w)) (upd (upd (upd g_w 11 ((g_w 11) + 1)) 10 ((g_w 0) - ((f_w 0) i_w))) 9 (nI i_w)) tc_w hx hb_w hts hinX1 hown hK_w hP hap hS_w 12 (by decide) (List.mem_of_getElem? (i := 5) rfl) rfl rfl rfl rfl rfl dX1_noteDifference_68 (fun H locs_w hP hS_w => ?_)
    refine lv_aload_n hx hb_w dX1_noteDifference_71 rfl (lv_at hl 2 rfl) ?_
    refine dget (index := 173) (v := .int ((g_w 11) + 1)) hx hb_w hts hinX1 hown hK_w hP 10 (by decide) (List.mem_of_getElem? (i := 4) rfl) rfl dX1_noteDifference_72 ?_
    refine lv_iconst (v := 3) hx hb_w dX1_noteDifference_75 (by decide) ?_
    refine lv_icmp_lt (tgt := 101) hx hb_w dX1_noteDifference_76 (by decide) (fun c76 => ?_) (fun c76 => ?_)
    · have hrow : rowD g_w f_w i_w = (g_w 11 + 1) := by unfold rowD; rw [if_pos ⟨c26, c34_w⟩]
      have hP : va_P G_w vwCl (wD a_w cI cZ (cntG g_w (g_w 0 - f_w 0 i_w) (g_w 11 + 1) i_w) f_w cd tc_w) H := by unfold cntG; rw [if_pos (Or.inl c76)]; exact hP
      exact hret (cntG g_w (g_w 0 - f_w 0 i_w) (g_w 11 + 1) i_w, f_w, cd, tc_w) _ _ _ _ dX1_noteDifference_101 hP hS_w (by rw [hrow])
    refine lv_iload_n hx hb_w dX1_noteDifference_79 rfl (lv_at hl 1 rfl) ?_
    refine rdr_S (As := [.int ((g_w 0) - ((f_w 0) i_w))]) (rest := []) ⟨hx, hb_w, hml, hown, hts⟩ (kX1_canShift l G_w _ _ ((g_w 0) - ((f_w 0) i_w)) ) (va_cwS 1 hts gX1_noteDifference_X1_canShift rfl rfl rfl (by decide +kernel) ⟨Nat.le_of_ble_eq_true rfl, Nat.le_of_ble_eq_true rfl⟩)  hP hK_w rfl hl.1 rfl (Nat.le_of_ble_eq_true rfl) dX1_noteDifference_80 (by decide) (fun r80 h80 => ?_)
    replace h80 : r80 = bI (okS ((g_w 0) - ((f_w 0) i_w))) := h80
    subst h80
    refine lv_if_eq (tgt := 101) hx hb_w dX1_noteDifference_83 (by decide) (fun c83 => ?_) (fun c83 => ?_)
    · replace c83 := bI0 c83
      have hrow : rowD g_w f_w i_w = (g_w 11 + 1) := by unfold rowD; rw [if_pos ⟨c26, c34_w⟩]
      have hP : va_P G_w vwCl (wD a_w cI cZ (cntG g_w (g_w 0 - f_w 0 i_w) (g_w 11 + 1) i_w) f_w cd tc_w) H := by unfold cntG; rw [if_pos (Or.inr c83)]; exact hP
      exact hret (cntG g_w (g_w 0 - f_w 0 i_w) (g_w 11 + 1) i_w, f_w, cd, tc_w) _ _ _ _ dX1_noteDifference_101 hP hS_w (by rw [hrow])
    replace c83 := bIn c83
    refine lv_aload_n hx hb_w dX1_noteDifference_86 rfl (lv_at hl 2 rfl) ?_
    refine lv_dup hx hb_w dX1_noteDifference_87 rfl ?_
    refine dget (index := 123) (v := .int (g_w 8)) hx hb_w hts hinX1 hown hK_w hP 5 (by decide) (List.mem_of_getElem? (i := 6) rfl) rfl dX1_noteDifference_88 ?_
    refine lv_iload_n hx hb_w dX1_noteDifference_91 rfl (lv_at hl 1 rfl) ?_
    refine lv_iadd hx hb_w dX1_noteDifference_92 ?_
    refine dput (index := 123) (v := .int ((g_w 8) + ((g_w 0) - ((f_w 0) i_w)))) (upd (upd (upd (upd g_w 11 ((g_w 11) + 1)) 10 ((g_w 0) - ((f_w 0) i_w))) 9 (nI i_w)) 8 ((g_w 8) + ((g_w 0) - ((f_w 0) i_w)))) tc_w hx hb_w hts hinX1 hown hK_w hP hap hS_w 5 (by decide) (List.mem_of_getElem? (i := 6) rfl) rfl rfl rfl rfl rfl dX1_noteDifference_93 (fun H locs_w hP hS_w => ?_)
    refine lv_aload_n hx hb_w dX1_noteDifference_96 rfl (lv_at hl 2 rfl) ?_
    refine lv_iconst (v := 0) hx hb_w dX1_noteDifference_97 (by decide) ?_
    refine dput (index := 173) (v := .int 0) (upd (upd (upd (upd g_w 10 ((g_w 0) - ((f_w 0) i_w))) 9 (nI i_w)) 8 ((g_w 8) + ((g_w 0) - ((f_w 0) i_w)))) 11 0) tc_w hx hb_w hts hinX1 hown hK_w hP hap hS_w 10 (by decide) (List.mem_of_getElem? (i := 4) rfl) rfl rfl rfl rfl rfl dX1_noteDifference_98 (fun H locs_w hP hS_w => ?_)
    have hrow : rowD g_w f_w i_w = (g_w 11 + 1) := by unfold rowD; rw [if_pos ⟨c26, c34_w⟩]
    have hP : va_P G_w vwCl (wD a_w cI cZ (cntG g_w (g_w 0 - f_w 0 i_w) (g_w 11 + 1) i_w) f_w cd tc_w) H := by unfold cntG; rw [if_neg (fun q_w => q_w.elim c76 (by rw [c83]; decide))]; exact hP
    exact hret (cntG g_w (g_w 0 - f_w 0 i_w) (g_w 11 + 1) i_w, f_w, cd, tc_w) _ _ _ _ dX1_noteDifference_101 hP hS_w (by rw [hrow])
  replace c5_w := bI0 c5_w
  exact absurd c5_w (by simp [isF_nI (show i_w < 200 by omega), hnf])
set_option maxHeartbeats 4000000 in
set_option maxRecDepth 100000 in
theorem kX0_change (l : Launch) (G_w : va_G) (a_w : Nat → Nat) (cI cZ : ClassId) (g_w : Nat → Int32) (f_w : Nat → Nat → Int32) (cd : Nat → Int32) (tc_w : Int32) (hap : apart a_w 7) (sz_w : Nat) (p0_w p1_w p2_w p3_w : Int32) (hp2 : p2_w = 0 ∨ p2_w = 1): wrv l yX0_change wsX0_change { frames := 0, cells := 0, slots := 0, locals := 0 } G_w (wD a_w cI cZ g_w f_w cd tc_w) (tyIZ cI cZ) (aS a_w 7 sz_w) sz_w [.ref (a_w 1), .int p0_w, .int p1_w, .int p2_w, .int p3_w] (fun u_w => u_w = (upd (upd (upd (upd g_w 1 p0_w) 2 p1_w) 3 p2_w) 4 p3_w, f_w, cd, tc_w)) (wfD a_w cI cZ) := by
  refine wrv_of (cc := cX0_change) (nL := 5) (by decide) rfl (Nat.le_of_ble_eq_true rfl) ?_
  intro p_w e_w s_w m_w args_w below meth_w c_w H locs_w ls Q hx hb_w hml hown hts hP hK_w hS_w hret hl
  have hl : lv_has ls 5 [(0, .ref (a_w 1)), (1, .int p0_w), (2, .int p1_w), (3, .int p2_w), (4, .int p3_w)] := hl
  have hinX0 : ∀ w_w ∈ wsX00, w_w ∈ wsX0_change := by decide +kernel
  refine lv_aload_n hx hb_w dX0_change_0 rfl (lv_at hl 0 rfl) ?_
  refine lv_iload_n hx hb_w dX0_change_1 rfl (lv_at hl 1 rfl) ?_
  refine pput (index := 9) (v := .int p0_w) (upd g_w 1 p0_w) hx hb_w hts hinX0 hown hK_w hP hap hS_w 0 (by decide) (List.mem_of_getElem? (i := 1) rfl) rfl rfl rfl rfl rfl dX0_change_2 (fun H locs_w hP hS_w => ?_)
  refine lv_aload_n hx hb_w dX0_change_5 rfl (lv_at hl 0 rfl) ?_
  refine lv_iload_n hx hb_w dX0_change_6 rfl (lv_at hl 2 rfl) ?_
  refine pput (index := 15) (v := .int p1_w) (upd (upd g_w 1 p0_w) 2 p1_w) hx hb_w hts hinX0 hown hK_w hP hap hS_w 1 (by decide) (List.mem_of_getElem? (i := 2) rfl) rfl rfl rfl rfl rfl dX0_change_7 (fun H locs_w hP hS_w => ?_)
  refine lv_aload_n hx hb_w dX0_change_10 rfl (lv_at hl 0 rfl) ?_
  refine lv_iload_n hx hb_w dX0_change_11 rfl (lv_at hl 3 rfl) ?_
  refine pput (index := 18) (v := .int p2_w) (upd (upd (upd g_w 1 p0_w) 2 p1_w) 3 p2_w) hx hb_w hts hinX0 hown hK_w hP hap hS_w 2 (by decide) (List.mem_of_getElem? (i := 3) rfl) rfl (by rcases hp2 with q_w | q_w <;> rw [q_w] <;> rfl) (by rcases hp2 with q_w | q_w <;> rw [q_w] <;> rfl) rfl rfl dX0_change_12 (fun H locs_w hP hS_w => ?_)
  refine lv_aload_n hx hb_w dX0_change_15 rfl (lv_at hl 0 rfl) ?_
  refine lv_iload hx hb_w dX0_change_16 (lv_at hl 4 rfl) ?_
  refine pput (index := 22) (v := .int p3_w) (upd (upd (upd (upd g_w 1 p0_w) 2 p1_w) 3 p2_w) 4 p3_w) hx hb_w hts hinX0 hown hK_w hP hap hS_w 3 (by decide) (List.mem_of_getElem? (i := 4) rfl) rfl rfl rfl rfl rfl dX0_change_18 (fun H locs_w hP hS_w => ?_)
  exact hret ((upd (upd (upd (upd g_w 1 p0_w) 2 p1_w) 3 p2_w) 4 p3_w), f_w, cd, tc_w) _ _ _ _ dX0_change_21 hP hS_w rfl
set_option maxHeartbeats 4000000 in
set_option maxRecDepth 100000 in
theorem kX2_isIn (l : Launch) (G_w : va_G) (ws_w : va_W) (tys : List (ClassId × FieldType)) (p0_w p1_w p2_w : Int32): rdr l yX2_isIn wsX2_isIn { frames := 0, cells := 0, slots := 0, locals := 0 } G_w ws_w tys [.int p0_w, .int p1_w, .int p2_w] (fun r_w => r_w = bI (isW p0_w p1_w p2_w)) := by
  refine rdr_of (cc := cX2_isIn) (nL := 3) (ty := .boolean) (by decide) rfl (Nat.le_of_ble_eq_true rfl) ?_
  intro p_w e_w s_w m_w args_w below meth_w c_w H ls Q hx hb_w hml hown hts hP hK_w hret hl
  have hl : lv_has ls 3 [(0, .int p0_w), (1, .int p1_w), (2, .int p2_w)] := hl
  refine lv_iload_n hx hb_w dX2_isIn_0 rfl (lv_at hl 0 rfl) ?_
  refine lv_iload_n hx hb_w dX2_isIn_1 rfl (lv_at hl 1 rfl) ?_
  refine lv_icmp_lt (tgt := 14) hx hb_w dX2_isIn_2 (by decide) (fun c2_w => ?_) (fun c2_w => ?_)
  · refine lv_iconst (v := 0) hx hb_w dX2_isIn_14 (by decide) ?_
    exact hret 0 _ _ dX2_isIn_15 rfl (by simp [bI, isW, c2_w])
  refine lv_iload_n hx hb_w dX2_isIn_5 rfl (lv_at hl 0 rfl) ?_
  refine lv_iload_n hx hb_w dX2_isIn_6 rfl (lv_at hl 2 rfl) ?_
  refine lv_icmp_gt (tgt := 14) hx hb_w dX2_isIn_7 (by decide) (fun c7_w => ?_) (fun c7_w => ?_)
  · refine lv_iconst (v := 0) hx hb_w dX2_isIn_14 (by decide) ?_
    exact hret 0 _ _ dX2_isIn_15 rfl (by simp [bI, isW, c2_w, c7_w])
  refine lv_iconst (v := 1) hx hb_w dX2_isIn_10 (by decide) ?_
  refine lv_goto (tgt := 15) hx hb_w dX2_isIn_11 (by decide) ?_
  exact hret 1 _ _ dX2_isIn_15 rfl (by simp [bI, isW, c2_w, c7_w])
set_option maxHeartbeats 4000000 in
set_option maxRecDepth 100000 in
theorem kX2_isIssue (l : Launch) (G_w : va_G) (ws_w : va_W) (tys : List (ClassId × FieldType)) (p0_w : Int32): rdr l yX2_isIssue wsX2_isIssue { frames := 1, cells := 0, slots := 0, locals := 22 } G_w ws_w tys [.int p0_w] (fun r_w => r_w = bI (isI p0_w)) := by
  refine rdr_of (cc := cX2_isIssue) (nL := 1) (ty := .boolean) (by decide) rfl (Nat.le_of_ble_eq_true rfl) ?_
  intro p_w e_w s_w m_w args_w below meth_w c_w H ls Q hx hb_w hml hown hts hP hK_w hret hl
  have hl : lv_has ls 1 [(0, .int p0_w)] := hl
  refine lv_iload_n hx hb_w dX2_isIssue_0 rfl (lv_at hl 0 rfl) ?_
  refine lv_iconst (v := 0) hx hb_w dX2_isIssue_1 (by decide) ?_
  refine lv_sipush (v := 199) hx hb_w dX2_isIssue_2 (by decide) ?_
  refine rdr_S (As := [.int p0_w, .int 0, .int 199]) (rest := []) ⟨hx, hb_w, hml, hown, hts⟩ (kX2_isIn l G_w _ _ p0_w 0 199 ) (va_cwS 3 hts gX2_isIssue_X2_isIn rfl rfl rfl (by decide +kernel) ⟨Nat.le_of_ble_eq_true rfl, Nat.le_of_ble_eq_true rfl⟩)  hP hK_w rfl hl.1 rfl (Nat.le_of_ble_eq_true rfl) dX2_isIssue_5 (by decide) (fun r5_w h5 => ?_)
  replace h5 : r5_w = bI (isW p0_w 0 199) := h5
  subst h5
  exact hret (bI (isW p0_w 0 199)) _ _ dX2_isIssue_8 (bIr _) (by rw [isW_I])
set_option maxHeartbeats 4000000 in
set_option maxRecDepth 100000 in
theorem kX2_isForetold (l : Launch) (G_w : va_G) (a_w : Nat → Nat) (cI cZ : ClassId) (g_w : Nat → Int32) (f_w : Nat → Nat → Int32) (tc_w : Int32) (p0_w : Int32) (hNN : NN g_w): rdr l yX2_isForetold wsX2_isForetold { frames := 1, cells := 0, slots := 0, locals := 22 } G_w (wM a_w cI cZ g_w f_w tc_w) (tyIZ cI cZ) [.ref (a_w 0), .int p0_w] (fun r_w => r_w = bI (isF g_w p0_w)) := by
  refine rdr_of (cc := cX2_isForetold) (nL := 2) (ty := .boolean) (by decide) rfl (Nat.le_of_ble_eq_true rfl) ?_
  intro p_w e_w s_w m_w args_w below meth_w c_w H ls Q hx hb_w hml hown hts hP hK_w hret hl
  have hl : lv_has ls 2 [(0, .ref (a_w 0)), (1, .int p0_w)] := hl
  have hinX2 : ∀ w_w ∈ wsX20, w_w ∈ wsX2_isForetold := by decide +kernel
  refine lv_iload_n hx hb_w dX2_isForetold_0 rfl (lv_at hl 1 rfl) ?_
  refine lv_iconst (v := 0) hx hb_w dX2_isForetold_1 (by decide) ?_
  refine lv_aload_n hx hb_w dX2_isForetold_2 rfl (lv_at hl 0 rfl) ?_
  refine mget (index := 46) (v := .int (g_w 7)) hx hb_w hts hinX2 hown hK_w hP 7 (by decide) (List.mem_of_getElem? (i := 1) rfl) rfl dX2_isForetold_3 ?_
  refine lv_iconst (v := 1) hx hb_w dX2_isForetold_6 (by decide) ?_
  refine lv_isub hx hb_w dX2_isForetold_7 ?_
  refine rdr_S (As := [.int p0_w, .int 0, .int ((g_w 7) - 1)]) (rest := []) ⟨hx, hb_w, hml, hown, hts⟩ (kX2_isIn l G_w _ _ p0_w 0 ((g_w 7) - 1) ) (va_cwS 3 hts gX2_isForetold_X2_isIn rfl rfl rfl (by decide +kernel) ⟨Nat.le_of_ble_eq_true rfl, Nat.le_of_ble_eq_true rfl⟩)  hP hK_w rfl hl.1 rfl (Nat.le_of_ble_eq_true rfl) dX2_isForetold_8 (by decide) (fun r8 h8 => ?_)
  replace h8 : r8 = bI (isW p0_w 0 ((g_w 7) - 1)) := h8
  subst h8
  exact hret (bI (isW p0_w 0 ((g_w 7) - 1))) _ _ dX2_isForetold_11 (bIr _) (by rw [isW_F hNN])
set_option maxHeartbeats 4000000 in
set_option maxRecDepth 100000 in
theorem kX2_can (l : Launch) (G_w : va_G) (a_w : Nat → Nat) (cI cZ : ClassId) (g_w : Nat → Int32) (f_w : Nat → Nat → Int32) (tc_w : Int32) (hap : apart a_w 6) (sz_w : Nat) (p0_w : Int32): wri l yX2_can wsX2_can { frames := 0, cells := 0, slots := 0, locals := 0 } G_w (wM a_w cI cZ g_w f_w tc_w) (tyIZ cI cZ) (aS a_w 6 sz_w) sz_w [.ref (a_w 0), .int p0_w] (fun r_w u_w => r_w = bI (decide (p0_w = 0)) ∧ u_w = (g_w, f_w, p0_w)) (wfM a_w cI cZ) := by
  refine wri_of (cc := cX2_can) (nL := 2) (ty := .boolean) (by decide) rfl (Nat.le_of_ble_eq_true rfl) ?_
  intro p_w e_w s_w m_w args_w below meth_w c_w H locs_w ls Q hx hb_w hml hown hts hP hK_w hS_w hret hl
  have hl : lv_has ls 2 [(0, .ref (a_w 0)), (1, .int p0_w)] := hl
  have hinX2 : ∀ w_w ∈ wsX20, w_w ∈ wsX2_can := by decide +kernel
  refine lv_aload_n hx hb_w dX2_can_0 rfl (lv_at hl 0 rfl) ?_
  refine lv_iload_n hx hb_w dX2_can_1 rfl (lv_at hl 1 rfl) ?_
  refine mput (index := 49) (v := .int p0_w) g_w p0_w hx hb_w hts hinX2 hown hK_w hP hap hS_w 17 (by decide) (List.mem_of_getElem? (i := 1) rfl) rfl rfl rfl rfl dX2_can_2 (fun H locs_w hP hS_w => ?_)
  refine lv_iload_n hx hb_w dX2_can_5 rfl (lv_at hl 1 rfl) ?_
  refine lv_if_ne (tgt := 13) hx hb_w dX2_can_6 (by decide) (fun c6_w => ?_) (fun c6_w => ?_)
  · refine lv_iconst (v := 0) hx hb_w dX2_can_13 (by decide) ?_
    exact hret 0 (g_w, f_w, p0_w) _ _ _ _ dX2_can_14 rfl hP hS_w ⟨by simp [bI, c6_w], rfl⟩
  refine lv_iconst (v := 1) hx hb_w dX2_can_9 (by decide) ?_
  refine lv_goto (tgt := 14) hx hb_w dX2_can_10 (by decide) ?_
  exact hret 1 (g_w, f_w, p0_w) _ _ _ _ dX2_can_14 rfl hP hS_w ⟨by simp [bI, c6_w], rfl⟩
set_option maxHeartbeats 4000000 in
set_option maxRecDepth 100000 in
theorem kX2_isBarred (l : Launch) (G_w : va_G) (a_w : Nat → Nat) (cI cZ : ClassId) (g_w : Nat → Int32) (f_w : Nat → Nat → Int32) (tc_w : Int32) (p0_w : Int32): rdr l yX2_isBarred wsX2_isBarred { frames := 0, cells := 0, slots := 0, locals := 0 } G_w (wM a_w cI cZ g_w f_w tc_w) (tyIZ cI cZ) [.ref (a_w 0), .int p0_w] (fun r_w => r_w = bI (bar g_w p0_w)) := by
  refine rdr_of (cc := cX2_isBarred) (nL := 2) (ty := .boolean) (by decide) rfl (Nat.le_of_ble_eq_true rfl) ?_
  intro p_w e_w s_w m_w args_w below meth_w c_w H ls Q hx hb_w hml hown hts hP hK_w hret hl
  have hl : lv_has ls 2 [(0, .ref (a_w 0)), (1, .int p0_w)] := hl
  have hinX2 : ∀ w_w ∈ wsX20, w_w ∈ wsX2_isBarred := by decide +kernel
  refine lv_aload_n hx hb_w dX2_isBarred_0 rfl (lv_at hl 0 rfl) ?_
  refine mget (index := 56) (v := .int (g_w 4)) hx hb_w hts hinX2 hown hK_w hP 4 (by decide) (List.mem_of_getElem? (i := 1) rfl) rfl dX2_isBarred_1 ?_
  refine lv_iload_n hx hb_w dX2_isBarred_4 rfl (lv_at hl 1 rfl) ?_
  refine lv_bipush (v := 30) hx hb_w dX2_isBarred_5 (by decide) ?_
  refine lv_idiv hx hb_w dX2_isBarred_7 (by decide) ?_
  refine lv_bipush (v := 12) hx hb_w dX2_isBarred_8 (by decide) ?_
  refine lv_irem hx hb_w dX2_isBarred_10 (by decide) ?_
  refine lv_ishr hx hb_w dX2_isBarred_11 ?_
  refine lv_iconst (v := 1) hx hb_w dX2_isBarred_12 (by decide) ?_
  refine lv_iand hx hb_w dX2_isBarred_13 ?_
  refine lv_iconst (v := 1) hx hb_w dX2_isBarred_14 (by decide) ?_
  refine lv_icmp_ne (tgt := 22) hx hb_w dX2_isBarred_15 (by decide) (fun c15_w => ?_) (fun c15_w => ?_)
  · refine lv_iconst (v := 0) hx hb_w dX2_isBarred_22 (by decide) ?_
    exact hret 0 _ _ dX2_isBarred_23 rfl (by have e_w : barV g_w p0_w = 0 := ((and1 _).resolve_right c15_w); simp [bI, bar, e_w])
  refine lv_iconst (v := 1) hx hb_w dX2_isBarred_18 (by decide) ?_
  refine lv_goto (tgt := 23) hx hb_w dX2_isBarred_19 (by decide) ?_
  exact hret 1 _ _ dX2_isBarred_23 rfl (by have e_w : barV g_w p0_w = 1 := (c15_w); simp [bI, bar, e_w])
set_option maxHeartbeats 4000000 in
set_option maxRecDepth 100000 in
theorem kX2_nextDay (l : Launch) (G_w : va_G) (a_w : Nat → Nat) (cI cZ : ClassId) (g_w : Nat → Int32) (f_w : Nat → Nat → Int32) (tc_w : Int32) (ct : Nat) (hc_w : ct ≤ 512) (hI : Inv ct g_w f_w): rdr l yX2_nextDay wsX2_nextDay { frames := 1, cells := 0, slots := 0, locals := 21 } G_w (wM a_w cI cZ g_w f_w tc_w) (tyIZ cI cZ) [.ref (a_w 0)] (fun r_w => r_w = nd g_w f_w) := by
  obtain ⟨N_w, d_w, e7_w, h1, h2, e0_w, ed, hd2, hd3, -, hD1, hD2⟩ := inv_d0 hc_w hI
  obtain ⟨K_w, hKn, hk⟩ := hI.2.2.2.1
  obtain ⟨r0, hr1, hr2, hr3⟩ := num_unbar (n := d0N g_w f_w) hKn hk (by omega)
  refine rdr_of (cc := cX2_nextDay) (nL := 3) (ty := .int) (by decide) rfl (Nat.le_of_ble_eq_true rfl) ?_
  intro p_w e_w s_w m_w args_w below meth_w c_w H ls Q hx hb_w hml hown hts hP hK_w hret hl
  have hl : lv_has ls 3 [(0, .ref (a_w 0))] := hl
  have hinX2 : ∀ w_w ∈ wsX20, w_w ∈ wsX2_nextDay := by decide +kernel
  refine lv_aload_n hx hb_w dX2_nextDay_0 rfl (lv_at hl 0 rfl) ?_
  refine mget (index := 26) (v := .ref (a_w 1)) hx hb_w hts hinX2 hown hK_w hP 8 (by decide) (List.mem_of_getElem? (i := 1) rfl) rfl dX2_nextDay_1 ?_
  refine lv_aload_n hx hb_w dX2_nextDay_4 rfl (lv_at hl 0 rfl) ?_
  refine mget (index := 46) (v := .int (g_w 7)) hx hb_w hts hinX2 hown hK_w hP 7 (by decide) (List.mem_of_getElem? (i := 2) rfl) rfl dX2_nextDay_5 ?_
  refine lv_iconst (v := 1) hx hb_w dX2_nextDay_8 (by decide) ?_
  refine lv_isub hx hb_w dX2_nextDay_9 ?_
  refine top_eq (z := nI (N_w - 1)) (by rw [e7_w]; exact pk_sub (b := 1) h1) ?_
  refine arI (j := (N_w - 1)) (h := (f_w 0)) hx hb_w hK_w hP 1 rfl rfl (by omega) dX2_nextDay_10 ?_
  refine lv_istore_n (lv' := [(1, .int ((f_w 0) (N_w - 1))), (0, .ref (a_w 0))]) hx hb_w dX2_nextDay_11 rfl hl (by decide) rfl (fun ls hl => ?_)
  refine lv_iload_n hx hb_w dX2_nextDay_12 rfl (lv_at hl 0 rfl) ?_
  refine lv_aload_n hx hb_w dX2_nextDay_13 rfl (lv_at hl 1 rfl) ?_
  refine mget (index := 7) (v := .int (g_w 1)) hx hb_w hts hinX2 hown hK_w hP 1 (by decide) (List.mem_of_getElem? (i := 3) rfl) rfl dX2_nextDay_14 ?_
  refine lv_iadd hx hb_w dX2_nextDay_17 ?_
  refine lv_aload_n hx hb_w dX2_nextDay_18 rfl (lv_at hl 1 rfl) ?_
  refine mget (index := 59) (v := .int (g_w 8)) hx hb_w hts hinX2 hown hK_w hP 13 (by decide) (List.mem_of_getElem? (i := 4) rfl) rfl dX2_nextDay_19 ?_
  refine lv_iadd hx hb_w dX2_nextDay_22 ?_
  refine lv_istore_n (lv' := [(2, .int ((((f_w 0) (N_w - 1)) + (g_w 1)) + (g_w 8))), (1, .int ((f_w 0) (N_w - 1))), (0, .ref (a_w 0))]) hx hb_w dX2_nextDay_23 rfl hl (by decide) rfl (fun ls hl => ?_)
  refine lv_iload_n hx hb_w dX2_nextDay_24 rfl (lv_at hl 0 rfl) ?_
  refine lv_iload_n hx hb_w dX2_nextDay_25 rfl (lv_at hl 1 rfl) ?_
  refine lv_icmp_le (tgt := 33) hx hb_w dX2_nextDay_26 (by decide) (fun c26 => ?_) (fun c26 => ?_)
  · refine lv_iload_n hx hb_w dX2_nextDay_33 rfl (lv_at hl 1 rfl) ?_
    refine lv_iconst (v := 1) hx hb_w dX2_nextDay_34 (by decide) ?_
    refine lv_iadd hx hb_w dX2_nextDay_35 ?_
    refine top_eq (z := nI (d0N g_w f_w)) (hD2 (Int32.not_lt.mpr c26)) ?_
    refine lv_istore_n (lv' := [(2, .int (nI (d0N g_w f_w))), (1, .int ((f_w 0) (N_w - 1))), (0, .ref (a_w 0))]) hx hb_w dX2_nextDay_36 rfl hl (by decide) rfl (fun ls hl => ?_)
    have loop37 : ∀ (n_w : Nat) (d_w : Nat), d0N g_w f_w ≤ d_w → d_w ≤ r0 → (∀ e_w, d0N g_w f_w ≤ e_w → e_w < d_w → bar g_w (nI e_w) = true) → r0 - d_w < n_w → ∀ (ls : Array Slot), lv_has ls 3 [(0, .ref (a_w 0)), (1, .int (f_w 0 (N_w - 1))), (2, .int (nI d_w))] → W p_w l e_w { frames := 1, cells := 0, slots := 0, locals := 21 } s_w m_w args_w below meth_w c_w H [] 0 0 Q (F0 m_w 37 ls []) := by
      intro n_w
      induction n_w with
      | zero => intro d_w h3 h4 hall hn; exact absurd hn (Nat.not_lt_zero _)
      | succ n_w ih37 =>
        intro d_w h3 h4 hall hn ls hl
        refine lv_aload_n hx hb_w dX2_nextDay_37 rfl (lv_at hl 0 rfl) ?_
        refine lv_iload_n hx hb_w dX2_nextDay_38 rfl (lv_at hl 2 rfl) ?_
        refine rdr_V (As := [.int (nI d_w)]) (rest := []) ⟨hx, hb_w, hml, hown, hts⟩ (kX2_isBarred l G_w a_w cI cZ g_w f_w tc_w (nI d_w) ) (cwV 1 hts gX2_nextDay_X2_isBarred rfl rfl rfl (by decide +kernel) ⟨Nat.le_of_ble_eq_true rfl, Nat.le_of_ble_eq_true rfl⟩) (va_recv hK_w hP (ci := 2) (q0 := 0) rfl rfl) hP hK_w rfl hl.1 rfl (Nat.le_of_ble_eq_true rfl) dX2_nextDay_39 (by decide) (fun r39 h39 => ?_)
        replace h39 : r39 = bI (bar g_w (nI d_w)) := h39
        subst h39
        refine lv_if_eq (tgt := 51) hx hb_w dX2_nextDay_42 (by decide) (fun c42 => ?_) (fun c42 => ?_)
        · replace c42 := bI0 c42
          refine lv_iload_n hx hb_w dX2_nextDay_51 rfl (lv_at hl 2 rfl) ?_
          exact hret (nI d_w) _ _ dX2_nextDay_52 rfl (by unfold nd; rw [nx_eq c42 h3 (by omega) hall])
        replace c42 := bIn c42
        refine lv_iinc (v := nI (d_w + 1)) (lv' := [(2, .int (nI (d_w + 1))), (0, .ref (a_w 0)), (1, .int (f_w 0 (N_w - 1)))]) hx hb_w dX2_nextDay_45 hl (k := 2) rfl (nI_1 _) (by decide) rfl (fun ls hl => ?_)
        refine lv_goto (tgt := 37) hx hb_w dX2_nextDay_48 (by decide) ?_
        exact ih37 (d_w + 1) (by omega) (by have hne : d_w ≠ r0 := (fun q_w => by rw [q_w, hr3] at c42; exact absurd c42 (by decide)); omega) (fun e_w h5 h6 => by rcases Nat.lt_or_ge e_w d_w with q_w | q_w; exact hall e_w h5 q_w; rw [show e_w = d_w by omega]; exact c42) (by have hne : d_w ≠ r0 := (fun q_w => by rw [q_w, hr3] at c42; exact absurd c42 (by decide)); omega) _ (lv_sub hl [1, 2, 0] rfl)
    exact loop37 (r0 - d0N g_w f_w + 1) (d0N g_w f_w) (Nat.le_refl _) hr1 (by omega) (by omega) _ (lv_sub hl [2, 1, 0] rfl)
  refine lv_iload_n hx hb_w dX2_nextDay_29 rfl (lv_at hl 0 rfl) ?_
  refine lv_goto (tgt := 36) hx hb_w dX2_nextDay_30 (by decide) ?_
  refine top_eq (z := nI (d0N g_w f_w)) (hD1 (Int32.not_le.mp c26)) ?_
  refine lv_istore_n (lv' := [(2, .int (nI (d0N g_w f_w))), (1, .int ((f_w 0) (N_w - 1))), (0, .ref (a_w 0))]) hx hb_w dX2_nextDay_36 rfl hl (by decide) rfl (fun ls hl => ?_)
  have loop37 : ∀ (n_w : Nat) (d_w : Nat), d0N g_w f_w ≤ d_w → d_w ≤ r0 → (∀ e_w, d0N g_w f_w ≤ e_w → e_w < d_w → bar g_w (nI e_w) = true) → r0 - d_w < n_w → ∀ (ls : Array Slot), lv_has ls 3 [(0, .ref (a_w 0)), (1, .int (f_w 0 (N_w - 1))), (2, .int (nI d_w))] → W p_w l e_w { frames := 1, cells := 0, slots := 0, locals := 21 } s_w m_w args_w below meth_w c_w H [] 0 0 Q (F0 m_w 37 ls []) := by
    intro n_w
    induction n_w with
    | zero => intro d_w h3 h4 hall hn; exact absurd hn (Nat.not_lt_zero _)
    | succ n_w ih37 =>
      intro d_w h3 h4 hall hn ls hl
      refine lv_aload_n hx hb_w dX2_nextDay_37 rfl (lv_at hl 0 rfl) ?_
      refine lv_iload_n hx hb_w dX2_nextDay_38 rfl (lv_at hl 2 rfl) ?_
      refine rdr_V (As := [.int (nI d_w)]) (rest := []) ⟨hx, hb_w, hml, hown, hts⟩ (kX2_isBarred l G_w a_w cI cZ g_w f_w tc_w (nI d_w) ) (cwV 1 hts gX2_nextDay_X2_isBarred rfl rfl rfl (by decide +kernel) ⟨Nat.le_of_ble_eq_true rfl, Nat.le_of_ble_eq_true rfl⟩) (va_recv hK_w hP (ci := 2) (q0 := 0) rfl rfl) hP hK_w rfl hl.1 rfl (Nat.le_of_ble_eq_true rfl) dX2_nextDay_39 (by decide) (fun r39 h39 => ?_)
      replace h39 : r39 = bI (bar g_w (nI d_w)) := h39
      subst h39
      refine lv_if_eq (tgt := 51) hx hb_w dX2_nextDay_42 (by decide) (fun c42 => ?_) (fun c42 => ?_)
      · replace c42 := bI0 c42
        refine lv_iload_n hx hb_w dX2_nextDay_51 rfl (lv_at hl 2 rfl) ?_
        exact hret (nI d_w) _ _ dX2_nextDay_52 rfl (by unfold nd; rw [nx_eq c42 h3 (by omega) hall])
      replace c42 := bIn c42
      refine lv_iinc (v := nI (d_w + 1)) (lv' := [(2, .int (nI (d_w + 1))), (0, .ref (a_w 0)), (1, .int (f_w 0 (N_w - 1)))]) hx hb_w dX2_nextDay_45 hl (k := 2) rfl (nI_1 _) (by decide) rfl (fun ls hl => ?_)
      refine lv_goto (tgt := 37) hx hb_w dX2_nextDay_48 (by decide) ?_
      exact ih37 (d_w + 1) (by omega) (by have hne : d_w ≠ r0 := (fun q_w => by rw [q_w, hr3] at c42; exact absurd c42 (by decide)); omega) (fun e_w h5 h6 => by rcases Nat.lt_or_ge e_w d_w with q_w | q_w; exact hall e_w h5 q_w; rw [show e_w = d_w by omega]; exact c42) (by have hne : d_w ≠ r0 := (fun q_w => by rw [q_w, hr3] at c42; exact absurd c42 (by decide)); omega) _ (lv_sub hl [1, 2, 0] rfl)
  exact loop37 (r0 - d0N g_w f_w + 1) (d0N g_w f_w) (Nat.le_refl _) hr1 (by omega) (by omega) _ (lv_sub hl [2, 1, 0] rfl)
set_option maxHeartbeats 4000000 in
set_option maxRecDepth 100000 in
theorem kX2_foretells (l : Launch) (G_w : va_G) (a_w : Nat → Nat) (cI cZ : ClassId) (g_w : Nat → Int32) (f_w : Nat → Nat → Int32) (tc_w : Int32) (hap : apart a_w 6) (sz_w : Nat) (N_w ct : Nat) (hc_w : ct ≤ 512) (hI : Inv ct g_w f_w) (hN_w : g_w 7 = nI N_w) (hlt : N_w < 200): wrv l yX2_foretells wsX2_foretells { frames := 2, cells := 0, slots := 0, locals := 43 } G_w (wM a_w cI cZ g_w f_w tc_w) (tyIZ cI cZ) (aS a_w 6 sz_w) sz_w [.ref (a_w 0)] (fun u_w => u_w = (foreG g_w, foreF g_w f_w, tc_w)) (wfM a_w cI cZ) := by
  have eN_w : g_w 7 = nI (g_w 7).toNatClampNeg := by rw [hN_w, nI_clamp (by omega)]
  have hjN : (g_w 7).toNatClampNeg < 200 := by rw [hN_w, nI_clamp (by omega)]; exact hlt
  refine wrv_of (cc := cX2_foretells) (nL := 1) (by decide) rfl (Nat.le_of_ble_eq_true rfl) ?_
  intro p_w e_w s_w m_w args_w below meth_w c_w H locs_w ls Q hx hb_w hml hown hts hP hK_w hS_w hret hl
  have hl : lv_has ls 1 [(0, .ref (a_w 0))] := hl
  have hinX2 : ∀ w_w ∈ wsX20, w_w ∈ wsX2_foretells := by decide +kernel
  refine lv_aload_n hx hb_w dX2_foretells_0 rfl (lv_at hl 0 rfl) ?_
  refine mget (index := 26) (v := .ref (a_w 1)) hx hb_w hts hinX2 hown hK_w hP 8 (by decide) (List.mem_of_getElem? (i := 1) rfl) rfl dX2_foretells_1 ?_
  refine lv_aload_n hx hb_w dX2_foretells_4 rfl (lv_at hl 0 rfl) ?_
  refine mget (index := 46) (v := .int (g_w 7)) hx hb_w hts hinX2 hown hK_w hP 7 (by decide) (List.mem_of_getElem? (i := 2) rfl) rfl dX2_foretells_5 ?_
  refine lv_aload_n hx hb_w dX2_foretells_8 rfl (lv_at hl 0 rfl) ?_
  refine rdr_V (As := []) (rest := [.int (g_w 7), .ref (a_w 1)]) ⟨hx, hb_w, hml, hown, hts⟩ (kX2_nextDay l G_w a_w cI cZ g_w f_w tc_w  ct hc_w hI) (cwV 0 hts gX2_foretells_X2_nextDay rfl rfl rfl (by decide +kernel) ⟨Nat.le_of_ble_eq_true rfl, Nat.le_of_ble_eq_true rfl⟩) (va_recv hK_w hP (ci := 2) (q0 := 0) rfl rfl) hP hK_w rfl hl.1 rfl (Nat.le_of_ble_eq_true rfl) dX2_foretells_9 (by decide) (fun r9 h9 => ?_)
  replace h9 : r9 = nd g_w f_w := h9
  subst h9
  refine asI (j := (g_w 7).toNatClampNeg) (h := (f_w 0)) (x := nd g_w f_w) (wM a_w cI cZ g_w (up2 f_w 0 (upd (f_w 0) ((g_w 7).toNatClampNeg) (nd g_w f_w))) tc_w) hx hb_w hK_w hP (wM_D hap _) hS_w 1 rfl eN_w hjN rfl dX2_foretells_12 (fun H locs_w hP hS_w => ?_)
  refine lv_aload_n hx hb_w dX2_foretells_13 rfl (lv_at hl 0 rfl) ?_
  refine lv_iconst (v := 0) hx hb_w dX2_foretells_14 (by decide) ?_
  refine mput (index := 59) (v := .int 0) (upd g_w 8 0) tc_w hx hb_w hts hinX2 hown hK_w hP hap hS_w 13 (by decide) (List.mem_of_getElem? (i := 3) rfl) rfl rfl rfl rfl dX2_foretells_15 (fun H locs_w hP hS_w => ?_)
  refine lv_aload_n hx hb_w dX2_foretells_18 rfl (lv_at hl 0 rfl) ?_
  refine lv_dup hx hb_w dX2_foretells_19 rfl ?_
  refine mget (index := 46) (v := .int (g_w 7)) hx hb_w hts hinX2 hown hK_w hP 7 (by decide) (List.mem_of_getElem? (i := 2) rfl) rfl dX2_foretells_20 ?_
  refine lv_iconst (v := 1) hx hb_w dX2_foretells_23 (by decide) ?_
  refine lv_iadd hx hb_w dX2_foretells_24 ?_
  refine mput (index := 46) (v := .int ((g_w 7) + 1)) (upd (upd g_w 8 0) 7 ((g_w 7) + 1)) tc_w hx hb_w hts hinX2 hown hK_w hP hap hS_w 7 (by decide) (List.mem_of_getElem? (i := 2) rfl) rfl rfl rfl rfl dX2_foretells_25 (fun H locs_w hP hS_w => ?_)
  exact hret (foreG g_w, foreF g_w f_w, tc_w) _ _ _ _ dX2_foretells_28 hP hS_w rfl
set_option maxHeartbeats 4000000 in
set_option maxRecDepth 100000 in
theorem kX2_looks (l : Launch) (G_w : va_G) (a_w : Nat → Nat) (cI cZ : ClassId) (g_w : Nat → Int32) (f_w : Nat → Nat → Int32) (tc_w : Int32) (hap : apart a_w 6) (sz_w : Nat) (ct : Nat) (hc_w : ct ≤ 512) (hI : Inv ct g_w f_w): wrv l yX2_looks wsX2_looks { frames := 3, cells := 0, slots := 0, locals := 63 } G_w (wM a_w cI cZ g_w f_w tc_w) (tyIZ cI cZ) (aS a_w 6 sz_w) sz_w [.ref (a_w 0)] (fun u_w => u_w = ((lkF (200 - (g_w 7).toNatClampNeg) (g_w, f_w)).1, (lkF (200 - (g_w 7).toNatClampNeg) (g_w, f_w)).2, tc_w)) (wfM a_w cI cZ) := by
  obtain ⟨N_w, e7_w, h1, h2, h3, h4⟩ := inv_N hI
  refine wrv_of (cc := cX2_looks) (nL := 1) (by decide) rfl (Nat.le_of_ble_eq_true rfl) ?_
  intro p_w e_w s_w m_w args_w below meth_w c_w H locs_w ls Q hx hb_w hml hown hts hP hK_w hS_w hret hl
  have hl : lv_has ls 1 [(0, .ref (a_w 0))] := hl
  have hinX2 : ∀ w_w ∈ wsX20, w_w ∈ wsX2_looks := by decide +kernel
  have loop0 : ∀ (n_w : Nat) (g1 : Nat → Int32) (f1_w : Nat → Nat → Int32) (M_w : Nat), g1 7 = nI M_w → M_w ≤ 200 → Inv ct g1 f1_w → lkF (200 - M_w) (g1, f1_w) = lkF (200 - (g_w 7).toNatClampNeg) (g_w, f_w) → 200 - M_w < n_w → ∀ (H : Heap) (locs_w : List Loc), va_P G_w vwCl (wM a_w cI cZ g1 f1_w tc_w) H → va_S (aS a_w 6 s_w.heap.size) s_w.heap H locs_w → ∀ (ls : Array Slot), lv_has ls 1 [(0, .ref (a_w 0))] → W p_w l e_w { frames := 3, cells := 0, slots := 0, locals := 63 } s_w m_w args_w below meth_w c_w H locs_w 0 0 Q (F0 m_w 0 ls []) := by
    intro n_w
    induction n_w with
    | zero => intro g1 f1_w M_w hM_w hM2 hI1 hq hn; intros; exact absurd hn (Nat.not_lt_zero _)
    | succ n_w ih0 =>
      intro g1 f1_w M_w hM_w hM2 hI1 hq hn H locs_w hP hS_w ls hl
      refine lv_aload_n hx hb_w dX2_looks_0 rfl (lv_at hl 0 rfl) ?_
      refine mget (index := 46) (v := .int (g1 7)) hx hb_w hts hinX2 hown hK_w hP 7 (by decide) (List.mem_of_getElem? (i := 1) rfl) rfl dX2_looks_1 ?_
      refine lv_sipush (v := 200) hx hb_w dX2_looks_4 (by decide) ?_
      refine lv_icmp_ge (tgt := 28) hx hb_w dX2_looks_7 (by decide) (fun c7_w => ?_) (fun c7_w => ?_)
      · rw [hM_w] at c7_w
        have ei := ge_200 c7_w hM2
        exact hret (g1, f1_w, tc_w) _ _ _ _ dX2_looks_28 hP hS_w (by rw [← hq, ei]; rfl)
      rw [hM_w] at c7_w
      have hi2 := nge_200 c7_w hM2
      refine lv_aload_n hx hb_w dX2_looks_10 rfl (lv_at hl 0 rfl) ?_
      refine rdr_V (As := []) (rest := []) ⟨hx, hb_w, hml, hown, hts⟩ (kX2_nextDay l G_w a_w cI cZ g1 f1_w tc_w  ct hc_w hI1) (cwV 0 hts gX2_looks_X2_nextDay rfl rfl rfl (by decide +kernel) ⟨Nat.le_of_ble_eq_true rfl, Nat.le_of_ble_eq_true rfl⟩) (va_recv hK_w hP (ci := 2) (q0 := 0) rfl rfl) hP hK_w rfl hl.1 rfl (Nat.le_of_ble_eq_true rfl) dX2_looks_11 (by decide) (fun r11 h11 => ?_)
      replace h11 : r11 = nd g1 f1_w := h11
      subst h11
      refine lv_aload_n hx hb_w dX2_looks_14 rfl (lv_at hl 0 rfl) ?_
      refine mget (index := 70) (v := .int (g1 0)) hx hb_w hts hinX2 hown hK_w hP 0 (by decide) (List.mem_of_getElem? (i := 2) rfl) rfl dX2_looks_15 ?_
      refine lv_icmp_gt (tgt := 28) hx hb_w dX2_looks_18 (by decide) (fun c18_w => ?_) (fun c18_w => ?_)
      · exact hret (g1, f1_w, tc_w) _ _ _ _ dX2_looks_28 hP hS_w (by rw [← hq, show 200 - M_w = (200 - (M_w + 1)) + 1 by omega]; rw [lkF_step, if_pos c18_w])
      refine lv_aload_n hx hb_w dX2_looks_21 rfl (lv_at hl 0 rfl) ?_
      refine wrv_V (As := []) (rest := []) ⟨hx, hb_w, hml, hown, hts⟩ (kX2_foretells l G_w a_w cI cZ g1 f1_w tc_w hap _  M_w ct hc_w hI1 hM_w (by omega)) (cwV 0 hts gX2_looks_X2_foretells rfl rfl rfl (by decide +kernel) ⟨Nat.le_of_ble_eq_true rfl, Nat.le_of_ble_eq_true rfl⟩) (va_recv hK_w hP (ci := 2) (q0 := 0) rfl rfl) hP hK_w hS_w rfl hl.1 rfl (Nat.le_of_ble_eq_true rfl) dX2_looks_22 (by decide) (fun u22 H locs_w h22 hP hS_w => ?_)
      subst h22
      have hP : va_P G_w vwCl (wM a_w cI cZ (foreG g1) (foreF g1 f1_w) tc_w) H := hP
      obtain ⟨hI2, e72_w⟩ := inv_fore hc_w hI1 hM_w (show M_w < 200 by omega)
      refine lv_goto (tgt := 0) hx hb_w dX2_looks_25 (by decide) ?_
      exact ih0 (foreG g1) (foreF g1 f1_w) (M_w + 1) e72_w (by omega) hI2 (by rw [← hq, show 200 - M_w = (200 - (M_w + 1)) + 1 by omega]; rw [lkF_step, if_neg c18_w]) (by omega) _ _ hP hS_w _ (lv_sub hl [0] rfl)
  exact loop0 201 g_w f_w N_w e7_w h2 hI (by rw [h3]) (by omega) _ _ hP hS_w _ (lv_sub hl [0] rfl)
set_option maxHeartbeats 4000000 in
set_option maxRecDepth 100000 in
theorem kX2_isOpen (l : Launch) (G_w : va_G) (a_w : Nat → Nat) (cI cZ : ClassId) (g_w : Nat → Int32) (f_w : Nat → Nat → Int32) (tc_w : Int32) (F_w b_w : Nat) (hFb : F_w + b_w < 200): rdr l yX2_isOpen wsX2_isOpen { frames := 0, cells := 0, slots := 0, locals := 0 } G_w (wM a_w cI cZ g_w f_w tc_w) (tyIZ cI cZ) [.ref (a_w 0), .int (nI F_w), .int (nI b_w)] (fun r_w => r_w = bI (allR (opB g_w f_w) F_w (F_w + b_w + 1 - F_w))) := by
  refine rdr_of (cc := cX2_isOpen) (nL := 5) (ty := .boolean) (by decide) rfl (Nat.le_of_ble_eq_true rfl) ?_
  intro p_w e_w s_w m_w args_w below meth_w c_w H ls Q hx hb_w hml hown hts hP hK_w hret hl
  have hl : lv_has ls 5 [(0, .ref (a_w 0)), (1, .int (nI F_w)), (2, .int (nI b_w))] := hl
  have hinX2 : ∀ w_w ∈ wsX20, w_w ∈ wsX2_isOpen := by decide +kernel
  refine lv_iconst (v := 1) hx hb_w dX2_isOpen_0 (by decide) ?_
  refine lv_istore_n (lv' := [(3, .int 1), (0, .ref (a_w 0)), (1, .int (nI F_w)), (2, .int (nI b_w))]) hx hb_w dX2_isOpen_1 rfl hl (by decide) rfl (fun ls hl => ?_)
  refine lv_iload_n hx hb_w dX2_isOpen_2 rfl (lv_at hl 2 rfl) ?_
  refine lv_istore (lv' := [(4, .int (nI F_w)), (3, .int 1), (0, .ref (a_w 0)), (1, .int (nI F_w)), (2, .int (nI b_w))]) hx hb_w dX2_isOpen_3 hl (by decide) rfl (fun ls hl => ?_)
  have loop5 : ∀ (n_w : Nat) (k_w : Nat) (y_w : Bool), F_w ≤ k_w → k_w ≤ F_w + b_w + 1 → (y_w && allR (opB g_w f_w) k_w (F_w + b_w + 1 - k_w)) = allR (opB g_w f_w) F_w (F_w + b_w + 1 - F_w) → F_w + b_w + 1 - k_w < n_w → ∀ (ls : Array Slot), lv_has ls 5 [(0, .ref (a_w 0)), (1, .int (nI F_w)), (2, .int (nI b_w)), (3, .int (bI y_w)), (4, .int (nI k_w))] → W p_w l e_w { frames := 0, cells := 0, slots := 0, locals := 0 } s_w m_w args_w below meth_w c_w H [] 0 0 Q (F0 m_w 5 ls []) := by
    intro n_w
    induction n_w with
    | zero => intro k_w y_w hk0 hk hq hn; exact absurd hn (Nat.not_lt_zero _)
    | succ n_w ih5 =>
      intro k_w y_w hk0 hk hq hn ls hl
      refine lv_iload hx hb_w dX2_isOpen_5 (lv_at hl 4 rfl) ?_
      refine lv_iload_n hx hb_w dX2_isOpen_7 rfl (lv_at hl 1 rfl) ?_
      refine lv_iload_n hx hb_w dX2_isOpen_8 rfl (lv_at hl 2 rfl) ?_
      refine lv_iadd hx hb_w dX2_isOpen_9 ?_
      refine top_eq (z := nI (F_w + b_w)) (nI_add _ _) ?_
      refine lv_icmp_gt (tgt := 48) hx hb_w dX2_isOpen_10 (by decide) (fun c10_w => ?_) (fun c10_w => ?_)
      · have ek : k_w = F_w + b_w + 1 := by have := lt_nI (a := F_w + b_w) (b := k_w) (by omega) (by omega) c10_w; omega
        refine lv_iload_n hx hb_w dX2_isOpen_48 rfl (lv_at hl 3 rfl) ?_
        exact hret (bI y_w) _ _ dX2_isOpen_49 (bIr _) (by rw [← hq, ek, Nat.sub_self]; simp [allR])
      have hk2 : k_w ≤ F_w + b_w := nlt_nI (by omega) (by omega) c10_w
      refine lv_iload_n hx hb_w dX2_isOpen_13 rfl (lv_at hl 3 rfl) ?_
      refine lv_if_eq (tgt := 40) hx hb_w dX2_isOpen_14 (by decide) (fun c14_w => ?_) (fun c14_w => ?_)
      · replace c14_w := bI0 c14_w
        refine lv_iconst (v := 0) hx hb_w dX2_isOpen_40 (by decide) ?_
        refine lv_istore_n (lv' := [(3, .int 0), (0, .ref (a_w 0)), (1, .int (nI F_w)), (2, .int (nI b_w)), (4, .int (nI k_w))]) hx hb_w dX2_isOpen_41 rfl hl (by decide) rfl (fun ls hl => ?_)
        refine lv_iinc (v := nI (k_w + 1)) (lv' := [(4, .int (nI (k_w + 1))), (3, .int 0), (0, .ref (a_w 0)), (1, .int (nI F_w)), (2, .int (nI b_w))]) hx hb_w dX2_isOpen_42 hl (k := 4) rfl (nI_1 _) (by decide) rfl (fun ls hl => ?_)
        refine lv_goto (tgt := 5) hx hb_w dX2_isOpen_45 (by decide) ?_
        exact ih5 (k_w + 1) false (by omega) (by omega) (by rw [← hq, allR_step (show k_w < F_w + b_w + 1 by omega), c14_w]; simp [opB, ]) (by omega) _ (lv_sub hl [2, 3, 4, 1, 0] rfl)
      replace c14_w := bIn c14_w
      refine lv_iload hx hb_w dX2_isOpen_17 (lv_at hl 4 rfl) ?_
      refine lv_aload_n hx hb_w dX2_isOpen_19 rfl (lv_at hl 0 rfl) ?_
      refine mget (index := 46) (v := .int (g_w 7)) hx hb_w hts hinX2 hown hK_w hP 7 (by decide) (List.mem_of_getElem? (i := 1) rfl) rfl dX2_isOpen_20 ?_
      refine lv_icmp_ge (tgt := 36) hx hb_w dX2_isOpen_23 (by decide) (fun c23_w => ?_) (fun c23_w => ?_)
      · refine lv_iconst (v := 1) hx hb_w dX2_isOpen_36 (by decide) ?_
        refine lv_goto (tgt := 41) hx hb_w dX2_isOpen_37 (by decide) ?_
        refine lv_istore_n (lv' := [(3, .int 1), (0, .ref (a_w 0)), (1, .int (nI F_w)), (2, .int (nI b_w)), (4, .int (nI k_w))]) hx hb_w dX2_isOpen_41 rfl hl (by decide) rfl (fun ls hl => ?_)
        refine lv_iinc (v := nI (k_w + 1)) (lv' := [(4, .int (nI (k_w + 1))), (3, .int 1), (0, .ref (a_w 0)), (1, .int (nI F_w)), (2, .int (nI b_w))]) hx hb_w dX2_isOpen_42 hl (k := 4) rfl (nI_1 _) (by decide) rfl (fun ls hl => ?_)
        refine lv_goto (tgt := 5) hx hb_w dX2_isOpen_45 (by decide) ?_
        exact ih5 (k_w + 1) true (by omega) (by omega) (by rw [← hq, allR_step (show k_w < F_w + b_w + 1 by omega), c14_w]; simp [opB, c23_w]) (by omega) _ (lv_sub hl [2, 3, 4, 1, 0] rfl)
      refine lv_aload_n hx hb_w dX2_isOpen_26 rfl (lv_at hl 0 rfl) ?_
      refine mget (index := 30) (v := .ref (a_w 2)) hx hb_w hts hinX2 hown hK_w hP 9 (by decide) (List.mem_of_getElem? (i := 2) rfl) rfl dX2_isOpen_27 ?_
      refine lv_iload hx hb_w dX2_isOpen_30 (lv_at hl 4 rfl) ?_
      refine arI (j := k_w) (h := (f_w 1)) hx hb_w hK_w hP 2 rfl rfl (by omega) dX2_isOpen_32 ?_
      refine lv_if_ne (tgt := 40) hx hb_w dX2_isOpen_33 (by decide) (fun c33_w => ?_) (fun c33_w => ?_)
      · refine lv_iconst (v := 0) hx hb_w dX2_isOpen_40 (by decide) ?_
        refine lv_istore_n (lv' := [(3, .int 0), (0, .ref (a_w 0)), (1, .int (nI F_w)), (2, .int (nI b_w)), (4, .int (nI k_w))]) hx hb_w dX2_isOpen_41 rfl hl (by decide) rfl (fun ls hl => ?_)
        refine lv_iinc (v := nI (k_w + 1)) (lv' := [(4, .int (nI (k_w + 1))), (3, .int 0), (0, .ref (a_w 0)), (1, .int (nI F_w)), (2, .int (nI b_w))]) hx hb_w dX2_isOpen_42 hl (k := 4) rfl (nI_1 _) (by decide) rfl (fun ls hl => ?_)
        refine lv_goto (tgt := 5) hx hb_w dX2_isOpen_45 (by decide) ?_
        exact ih5 (k_w + 1) false (by omega) (by omega) (by rw [← hq, allR_step (show k_w < F_w + b_w + 1 by omega), c14_w]; simp [opB, c23_w, c33_w]) (by omega) _ (lv_sub hl [2, 3, 4, 1, 0] rfl)
      refine lv_iconst (v := 1) hx hb_w dX2_isOpen_36 (by decide) ?_
      refine lv_goto (tgt := 41) hx hb_w dX2_isOpen_37 (by decide) ?_
      refine lv_istore_n (lv' := [(3, .int 1), (0, .ref (a_w 0)), (1, .int (nI F_w)), (2, .int (nI b_w)), (4, .int (nI k_w))]) hx hb_w dX2_isOpen_41 rfl hl (by decide) rfl (fun ls hl => ?_)
      refine lv_iinc (v := nI (k_w + 1)) (lv' := [(4, .int (nI (k_w + 1))), (3, .int 1), (0, .ref (a_w 0)), (1, .int (nI F_w)), (2, .int (nI b_w))]) hx hb_w dX2_isOpen_42 hl (k := 4) rfl (nI_1 _) (by decide) rfl (fun ls hl => ?_)
      refine lv_goto (tgt := 5) hx hb_w dX2_isOpen_45 (by decide) ?_
      exact ih5 (k_w + 1) true (by omega) (by omega) (by rw [← hq, allR_step (show k_w < F_w + b_w + 1 by omega), c14_w]; simp [opB, c23_w, c33_w]) (by omega) _ (lv_sub hl [2, 3, 4, 1, 0] rfl)
  exact loop5 (b_w + 2) F_w true (by omega) (by omega) rfl (by omega) _ (lv_sub hl [2, 3, 4, 1, 0] rfl)
set_option maxHeartbeats 4000000 in
set_option maxRecDepth 100000 in
theorem kX2_follows (l : Launch) (G_w : va_G) (a_w : Nat → Nat) (cI cZ : ClassId) (g_w : Nat → Int32) (f_w : Nat → Nat → Int32) (tc_w : Int32) (i_w B_w : Nat) (hi_w : i_w < 200) (hB1 : (g_w 9 + 1) = nI B_w) (hB2 : B_w ≤ 200) (hlt : ¬ nI i_w ≤ g_w 9 → B_w ≤ i_w): rdr l yX2_follows wsX2_follows { frames := 0, cells := 0, slots := 0, locals := 0 } G_w (wM a_w cI cZ g_w f_w tc_w) (tyIZ cI cZ) [.ref (a_w 0), .int (nI i_w)] (fun r_w => r_w = bI (!decide (g_w 9 = -1) && (!decide (nI i_w ≤ g_w 9) && allR (foB f_w) B_w (i_w - B_w)))) := by
  refine rdr_of (cc := cX2_follows) (nL := 4) (ty := .boolean) (by decide) rfl (Nat.le_of_ble_eq_true rfl) ?_
  intro p_w e_w s_w m_w args_w below meth_w c_w H ls Q hx hb_w hml hown hts hP hK_w hret hl
  have hl : lv_has ls 4 [(0, .ref (a_w 0)), (1, .int (nI i_w))] := hl
  have hinX2 : ∀ w_w ∈ wsX20, w_w ∈ wsX2_follows := by decide +kernel
  refine lv_aload_n hx hb_w dX2_follows_0 rfl (lv_at hl 0 rfl) ?_
  refine mget (index := 43) (v := .int (g_w 9)) hx hb_w hts hinX2 hown hK_w hP 14 (by decide) (List.mem_of_getElem? (i := 1) rfl) rfl dX2_follows_1 ?_
  refine lv_iconst (v := (-1)) hx hb_w dX2_follows_4 (by decide) ?_
  refine lv_icmp_eq (tgt := 20) hx hb_w dX2_follows_5 (by decide) (fun c5_w => ?_) (fun c5_w => ?_)
  · refine lv_iconst (v := 0) hx hb_w dX2_follows_20 (by decide) ?_
    refine lv_istore_n (lv' := [(2, .int 0), (0, .ref (a_w 0)), (1, .int (nI i_w))]) hx hb_w dX2_follows_21 rfl hl (by decide) rfl (fun ls hl => ?_)
    refine lv_aload_n hx hb_w dX2_follows_22 rfl (lv_at hl 1 rfl) ?_
    refine mget (index := 43) (v := .int (g_w 9)) hx hb_w hts hinX2 hown hK_w hP 14 (by decide) (List.mem_of_getElem? (i := 1) rfl) rfl dX2_follows_23 ?_
    refine lv_iconst (v := 1) hx hb_w dX2_follows_26 (by decide) ?_
    refine lv_iadd hx hb_w dX2_follows_27 ?_
    refine top_eq (z := nI B_w) hB1 ?_
    refine lv_istore_n (lv' := [(3, .int (nI B_w)), (2, .int 0), (0, .ref (a_w 0)), (1, .int (nI i_w))]) hx hb_w dX2_follows_28 rfl hl (by decide) rfl (fun ls hl => ?_)
    have loop29 : ∀ (n_w : Nat) (k_w : Nat) (y_w : Bool), (y_w = true → B_w ≤ k_w ∧ k_w ≤ i_w) → k_w ≤ 200 → (y_w && allR (foB f_w) k_w (i_w - k_w)) = (!decide (g_w 9 = -1) && (!decide (nI i_w ≤ g_w 9) && allR (foB f_w) B_w (i_w - B_w))) → 200 - k_w < n_w → ∀ (ls : Array Slot), lv_has ls 4 [(0, .ref (a_w 0)), (1, .int (nI i_w)), (2, .int (bI y_w)), (3, .int (nI k_w))] → W p_w l e_w { frames := 0, cells := 0, slots := 0, locals := 0 } s_w m_w args_w below meth_w c_w H [] 0 0 Q (F0 m_w 29 ls []) := by
      intro n_w
      induction n_w with
      | zero => intro k_w y_w hy hk hq hn; exact absurd hn (Nat.not_lt_zero _)
      | succ n_w ih29 =>
        intro k_w y_w hy hk hq hn ls hl
        refine lv_iload_n hx hb_w dX2_follows_29 rfl (lv_at hl 3 rfl) ?_
        refine lv_iload_n hx hb_w dX2_follows_30 rfl (lv_at hl 1 rfl) ?_
        refine lv_icmp_ge (tgt := 70) hx hb_w dX2_follows_31 (by decide) (fun c31_w => ?_) (fun c31_w => ?_)
        · have ek : i_w ≤ k_w := le_nI (by omega) (by omega) c31_w
          refine lv_iload_n hx hb_w dX2_follows_70 rfl (lv_at hl 2 rfl) ?_
          exact hret (bI y_w) _ _ dX2_follows_71 (bIr _) (by rw [← hq]; cases y_w with | false => rfl | true => have := hy rfl; rw [show k_w = i_w by omega, Nat.sub_self]; rfl)
        have hk2 : k_w < i_w := nle_nI (by omega) (by omega) c31_w
        refine lv_iload_n hx hb_w dX2_follows_34 rfl (lv_at hl 2 rfl) ?_
        refine lv_if_eq (tgt := 70) hx hb_w dX2_follows_35 (by decide) (fun c35_w => ?_) (fun c35_w => ?_)
        · replace c35_w := bI0 c35_w
          refine lv_iload_n hx hb_w dX2_follows_70 rfl (lv_at hl 2 rfl) ?_
          exact hret (bI y_w) _ _ dX2_follows_71 (bIr _) (by rw [← hq, c35_w]; rfl)
        replace c35_w := bIn c35_w
        refine lv_aload_n hx hb_w dX2_follows_38 rfl (lv_at hl 0 rfl) ?_
        refine mget (index := 30) (v := .ref (a_w 2)) hx hb_w hts hinX2 hown hK_w hP 9 (by decide) (List.mem_of_getElem? (i := 2) rfl) rfl dX2_follows_39 ?_
        refine lv_iload_n hx hb_w dX2_follows_42 rfl (lv_at hl 3 rfl) ?_
        refine arI (j := k_w) (h := (f_w 1)) hx hb_w hK_w hP 2 rfl rfl (by omega) dX2_follows_43 ?_
        refine lv_iconst (v := 2) hx hb_w dX2_follows_44 (by decide) ?_
        refine lv_icmp_eq (tgt := 58) hx hb_w dX2_follows_45 (by decide) (fun c45 => ?_) (fun c45 => ?_)
        · refine lv_iconst (v := 1) hx hb_w dX2_follows_58 (by decide) ?_
          refine lv_goto (tgt := 63) hx hb_w dX2_follows_59 (by decide) ?_
          refine lv_istore_n (lv' := [(2, .int 1), (0, .ref (a_w 0)), (1, .int (nI i_w)), (3, .int (nI k_w))]) hx hb_w dX2_follows_63 rfl hl (by decide) rfl (fun ls hl => ?_)
          refine lv_iinc (v := nI (k_w + 1)) (lv' := [(3, .int (nI (k_w + 1))), (2, .int 1), (0, .ref (a_w 0)), (1, .int (nI i_w))]) hx hb_w dX2_follows_64 hl (k := 3) rfl (nI_1 _) (by decide) rfl (fun ls hl => ?_)
          refine lv_goto (tgt := 29) hx hb_w dX2_follows_67 (by decide) ?_
          exact ih29 (k_w + 1) true (fun _ => by have := hy c35_w; omega) (by omega) (by rw [← hq, allR_step hk2, c35_w]; simp [foB, c45]) (by omega) _ (lv_sub hl [2, 3, 1, 0] rfl)
        refine lv_aload_n hx hb_w dX2_follows_48 rfl (lv_at hl 0 rfl) ?_
        refine mget (index := 30) (v := .ref (a_w 2)) hx hb_w hts hinX2 hown hK_w hP 9 (by decide) (List.mem_of_getElem? (i := 2) rfl) rfl dX2_follows_49 ?_
        refine lv_iload_n hx hb_w dX2_follows_52 rfl (lv_at hl 3 rfl) ?_
        refine arI (j := k_w) (h := (f_w 1)) hx hb_w hK_w hP 2 rfl rfl (by omega) dX2_follows_53 ?_
        refine lv_iconst (v := 3) hx hb_w dX2_follows_54 (by decide) ?_
        refine lv_icmp_ne (tgt := 62) hx hb_w dX2_follows_55 (by decide) (fun c55 => ?_) (fun c55 => ?_)
        · refine lv_iconst (v := 0) hx hb_w dX2_follows_62 (by decide) ?_
          refine lv_istore_n (lv' := [(2, .int 0), (0, .ref (a_w 0)), (1, .int (nI i_w)), (3, .int (nI k_w))]) hx hb_w dX2_follows_63 rfl hl (by decide) rfl (fun ls hl => ?_)
          refine lv_iinc (v := nI (k_w + 1)) (lv' := [(3, .int (nI (k_w + 1))), (2, .int 0), (0, .ref (a_w 0)), (1, .int (nI i_w))]) hx hb_w dX2_follows_64 hl (k := 3) rfl (nI_1 _) (by decide) rfl (fun ls hl => ?_)
          refine lv_goto (tgt := 29) hx hb_w dX2_follows_67 (by decide) ?_
          exact ih29 (k_w + 1) false (fun _ => by have := hy c35_w; omega) (by omega) (by rw [← hq, allR_step hk2, c35_w]; simp [foB, c45, c55]) (by omega) _ (lv_sub hl [2, 3, 1, 0] rfl)
        refine lv_iconst (v := 1) hx hb_w dX2_follows_58 (by decide) ?_
        refine lv_goto (tgt := 63) hx hb_w dX2_follows_59 (by decide) ?_
        refine lv_istore_n (lv' := [(2, .int 1), (0, .ref (a_w 0)), (1, .int (nI i_w)), (3, .int (nI k_w))]) hx hb_w dX2_follows_63 rfl hl (by decide) rfl (fun ls hl => ?_)
        refine lv_iinc (v := nI (k_w + 1)) (lv' := [(3, .int (nI (k_w + 1))), (2, .int 1), (0, .ref (a_w 0)), (1, .int (nI i_w))]) hx hb_w dX2_follows_64 hl (k := 3) rfl (nI_1 _) (by decide) rfl (fun ls hl => ?_)
        refine lv_goto (tgt := 29) hx hb_w dX2_follows_67 (by decide) ?_
        exact ih29 (k_w + 1) true (fun _ => by have := hy c35_w; omega) (by omega) (by rw [← hq, allR_step hk2, c35_w]; simp [foB, c45, c55]) (by omega) _ (lv_sub hl [2, 3, 1, 0] rfl)
    exact loop29 201 B_w false (fun q_w => absurd q_w (by decide)) hB2 (by simp [c5_w]) (by omega) _ (lv_sub hl [2, 3, 1, 0] rfl)
  refine lv_iload_n hx hb_w dX2_follows_8 rfl (lv_at hl 1 rfl) ?_
  refine lv_aload_n hx hb_w dX2_follows_9 rfl (lv_at hl 0 rfl) ?_
  refine mget (index := 43) (v := .int (g_w 9)) hx hb_w hts hinX2 hown hK_w hP 14 (by decide) (List.mem_of_getElem? (i := 1) rfl) rfl dX2_follows_10 ?_
  refine lv_icmp_le (tgt := 20) hx hb_w dX2_follows_13 (by decide) (fun c13_w => ?_) (fun c13_w => ?_)
  · refine lv_iconst (v := 0) hx hb_w dX2_follows_20 (by decide) ?_
    refine lv_istore_n (lv' := [(2, .int 0), (0, .ref (a_w 0)), (1, .int (nI i_w))]) hx hb_w dX2_follows_21 rfl hl (by decide) rfl (fun ls hl => ?_)
    refine lv_aload_n hx hb_w dX2_follows_22 rfl (lv_at hl 1 rfl) ?_
    refine mget (index := 43) (v := .int (g_w 9)) hx hb_w hts hinX2 hown hK_w hP 14 (by decide) (List.mem_of_getElem? (i := 1) rfl) rfl dX2_follows_23 ?_
    refine lv_iconst (v := 1) hx hb_w dX2_follows_26 (by decide) ?_
    refine lv_iadd hx hb_w dX2_follows_27 ?_
    refine top_eq (z := nI B_w) hB1 ?_
    refine lv_istore_n (lv' := [(3, .int (nI B_w)), (2, .int 0), (0, .ref (a_w 0)), (1, .int (nI i_w))]) hx hb_w dX2_follows_28 rfl hl (by decide) rfl (fun ls hl => ?_)
    have loop29 : ∀ (n_w : Nat) (k_w : Nat) (y_w : Bool), (y_w = true → B_w ≤ k_w ∧ k_w ≤ i_w) → k_w ≤ 200 → (y_w && allR (foB f_w) k_w (i_w - k_w)) = (!decide (g_w 9 = -1) && (!decide (nI i_w ≤ g_w 9) && allR (foB f_w) B_w (i_w - B_w))) → 200 - k_w < n_w → ∀ (ls : Array Slot), lv_has ls 4 [(0, .ref (a_w 0)), (1, .int (nI i_w)), (2, .int (bI y_w)), (3, .int (nI k_w))] → W p_w l e_w { frames := 0, cells := 0, slots := 0, locals := 0 } s_w m_w args_w below meth_w c_w H [] 0 0 Q (F0 m_w 29 ls []) := by
      intro n_w
      induction n_w with
      | zero => intro k_w y_w hy hk hq hn; exact absurd hn (Nat.not_lt_zero _)
      | succ n_w ih29 =>
        intro k_w y_w hy hk hq hn ls hl
        refine lv_iload_n hx hb_w dX2_follows_29 rfl (lv_at hl 3 rfl) ?_
        refine lv_iload_n hx hb_w dX2_follows_30 rfl (lv_at hl 1 rfl) ?_
        refine lv_icmp_ge (tgt := 70) hx hb_w dX2_follows_31 (by decide) (fun c31_w => ?_) (fun c31_w => ?_)
        · have ek : i_w ≤ k_w := le_nI (by omega) (by omega) c31_w
          refine lv_iload_n hx hb_w dX2_follows_70 rfl (lv_at hl 2 rfl) ?_
          exact hret (bI y_w) _ _ dX2_follows_71 (bIr _) (by rw [← hq]; cases y_w with | false => rfl | true => have := hy rfl; rw [show k_w = i_w by omega, Nat.sub_self]; rfl)
        have hk2 : k_w < i_w := nle_nI (by omega) (by omega) c31_w
        refine lv_iload_n hx hb_w dX2_follows_34 rfl (lv_at hl 2 rfl) ?_
        refine lv_if_eq (tgt := 70) hx hb_w dX2_follows_35 (by decide) (fun c35_w => ?_) (fun c35_w => ?_)
        · replace c35_w := bI0 c35_w
          refine lv_iload_n hx hb_w dX2_follows_70 rfl (lv_at hl 2 rfl) ?_
          exact hret (bI y_w) _ _ dX2_follows_71 (bIr _) (by rw [← hq, c35_w]; rfl)
        replace c35_w := bIn c35_w
        refine lv_aload_n hx hb_w dX2_follows_38 rfl (lv_at hl 0 rfl) ?_
        refine mget (index := 30) (v := .ref (a_w 2)) hx hb_w hts hinX2 hown hK_w hP 9 (by decide) (List.mem_of_getElem? (i := 2) rfl) rfl dX2_follows_39 ?_
        refine lv_iload_n hx hb_w dX2_follows_42 rfl (lv_at hl 3 rfl) ?_
        refine arI (j := k_w) (h := (f_w 1)) hx hb_w hK_w hP 2 rfl rfl (by omega) dX2_follows_43 ?_
        refine lv_iconst (v := 2) hx hb_w dX2_follows_44 (by decide) ?_
        refine lv_icmp_eq (tgt := 58) hx hb_w dX2_follows_45 (by decide) (fun c45 => ?_) (fun c45 => ?_)
        · refine lv_iconst (v := 1) hx hb_w dX2_follows_58 (by decide) ?_
          refine lv_goto (tgt := 63) hx hb_w dX2_follows_59 (by decide) ?_
          refine lv_istore_n (lv' := [(2, .int 1), (0, .ref (a_w 0)), (1, .int (nI i_w)), (3, .int (nI k_w))]) hx hb_w dX2_follows_63 rfl hl (by decide) rfl (fun ls hl => ?_)
          refine lv_iinc (v := nI (k_w + 1)) (lv' := [(3, .int (nI (k_w + 1))), (2, .int 1), (0, .ref (a_w 0)), (1, .int (nI i_w))]) hx hb_w dX2_follows_64 hl (k := 3) rfl (nI_1 _) (by decide) rfl (fun ls hl => ?_)
          refine lv_goto (tgt := 29) hx hb_w dX2_follows_67 (by decide) ?_
          exact ih29 (k_w + 1) true (fun _ => by have := hy c35_w; omega) (by omega) (by rw [← hq, allR_step hk2, c35_w]; simp [foB, c45]) (by omega) _ (lv_sub hl [2, 3, 1, 0] rfl)
        refine lv_aload_n hx hb_w dX2_follows_48 rfl (lv_at hl 0 rfl) ?_
        refine mget (index := 30) (v := .ref (a_w 2)) hx hb_w hts hinX2 hown hK_w hP 9 (by decide) (List.mem_of_getElem? (i := 2) rfl) rfl dX2_follows_49 ?_
        refine lv_iload_n hx hb_w dX2_follows_52 rfl (lv_at hl 3 rfl) ?_
        refine arI (j := k_w) (h := (f_w 1)) hx hb_w hK_w hP 2 rfl rfl (by omega) dX2_follows_53 ?_
        refine lv_iconst (v := 3) hx hb_w dX2_follows_54 (by decide) ?_
        refine lv_icmp_ne (tgt := 62) hx hb_w dX2_follows_55 (by decide) (fun c55 => ?_) (fun c55 => ?_)
        · refine lv_iconst (v := 0) hx hb_w dX2_follows_62 (by decide) ?_
          refine lv_istore_n (lv' := [(2, .int 0), (0, .ref (a_w 0)), (1, .int (nI i_w)), (3, .int (nI k_w))]) hx hb_w dX2_follows_63 rfl hl (by decide) rfl (fun ls hl => ?_)
          refine lv_iinc (v := nI (k_w + 1)) (lv' := [(3, .int (nI (k_w + 1))), (2, .int 0), (0, .ref (a_w 0)), (1, .int (nI i_w))]) hx hb_w dX2_follows_64 hl (k := 3) rfl (nI_1 _) (by decide) rfl (fun ls hl => ?_)
          refine lv_goto (tgt := 29) hx hb_w dX2_follows_67 (by decide) ?_
          exact ih29 (k_w + 1) false (fun _ => by have := hy c35_w; omega) (by omega) (by rw [← hq, allR_step hk2, c35_w]; simp [foB, c45, c55]) (by omega) _ (lv_sub hl [2, 3, 1, 0] rfl)
        refine lv_iconst (v := 1) hx hb_w dX2_follows_58 (by decide) ?_
        refine lv_goto (tgt := 63) hx hb_w dX2_follows_59 (by decide) ?_
        refine lv_istore_n (lv' := [(2, .int 1), (0, .ref (a_w 0)), (1, .int (nI i_w)), (3, .int (nI k_w))]) hx hb_w dX2_follows_63 rfl hl (by decide) rfl (fun ls hl => ?_)
        refine lv_iinc (v := nI (k_w + 1)) (lv' := [(3, .int (nI (k_w + 1))), (2, .int 1), (0, .ref (a_w 0)), (1, .int (nI i_w))]) hx hb_w dX2_follows_64 hl (k := 3) rfl (nI_1 _) (by decide) rfl (fun ls hl => ?_)
        refine lv_goto (tgt := 29) hx hb_w dX2_follows_67 (by decide) ?_
        exact ih29 (k_w + 1) true (fun _ => by have := hy c35_w; omega) (by omega) (by rw [← hq, allR_step hk2, c35_w]; simp [foB, c45, c55]) (by omega) _ (lv_sub hl [2, 3, 1, 0] rfl)
    exact loop29 201 B_w false (fun q_w => absurd q_w (by decide)) hB2 (by simp [c5_w, c13_w]) (by omega) _ (lv_sub hl [2, 3, 1, 0] rfl)
  refine lv_iconst (v := 1) hx hb_w dX2_follows_16 (by decide) ?_
  refine lv_goto (tgt := 21) hx hb_w dX2_follows_17 (by decide) ?_
  refine lv_istore_n (lv' := [(2, .int 1), (0, .ref (a_w 0)), (1, .int (nI i_w))]) hx hb_w dX2_follows_21 rfl hl (by decide) rfl (fun ls hl => ?_)
  refine lv_aload_n hx hb_w dX2_follows_22 rfl (lv_at hl 1 rfl) ?_
  refine mget (index := 43) (v := .int (g_w 9)) hx hb_w hts hinX2 hown hK_w hP 14 (by decide) (List.mem_of_getElem? (i := 1) rfl) rfl dX2_follows_23 ?_
  refine lv_iconst (v := 1) hx hb_w dX2_follows_26 (by decide) ?_
  refine lv_iadd hx hb_w dX2_follows_27 ?_
  refine top_eq (z := nI B_w) hB1 ?_
  refine lv_istore_n (lv' := [(3, .int (nI B_w)), (2, .int 1), (0, .ref (a_w 0)), (1, .int (nI i_w))]) hx hb_w dX2_follows_28 rfl hl (by decide) rfl (fun ls hl => ?_)
  have loop29 : ∀ (n_w : Nat) (k_w : Nat) (y_w : Bool), (y_w = true → B_w ≤ k_w ∧ k_w ≤ i_w) → k_w ≤ 200 → (y_w && allR (foB f_w) k_w (i_w - k_w)) = (!decide (g_w 9 = -1) && (!decide (nI i_w ≤ g_w 9) && allR (foB f_w) B_w (i_w - B_w))) → 200 - k_w < n_w → ∀ (ls : Array Slot), lv_has ls 4 [(0, .ref (a_w 0)), (1, .int (nI i_w)), (2, .int (bI y_w)), (3, .int (nI k_w))] → W p_w l e_w { frames := 0, cells := 0, slots := 0, locals := 0 } s_w m_w args_w below meth_w c_w H [] 0 0 Q (F0 m_w 29 ls []) := by
    intro n_w
    induction n_w with
    | zero => intro k_w y_w hy hk hq hn; exact absurd hn (Nat.not_lt_zero _)
    | succ n_w ih29 =>
      intro k_w y_w hy hk hq hn ls hl
      refine lv_iload_n hx hb_w dX2_follows_29 rfl (lv_at hl 3 rfl) ?_
      refine lv_iload_n hx hb_w dX2_follows_30 rfl (lv_at hl 1 rfl) ?_
      refine lv_icmp_ge (tgt := 70) hx hb_w dX2_follows_31 (by decide) (fun c31_w => ?_) (fun c31_w => ?_)
      · have ek : i_w ≤ k_w := le_nI (by omega) (by omega) c31_w
        refine lv_iload_n hx hb_w dX2_follows_70 rfl (lv_at hl 2 rfl) ?_
        exact hret (bI y_w) _ _ dX2_follows_71 (bIr _) (by rw [← hq]; cases y_w with | false => rfl | true => have := hy rfl; rw [show k_w = i_w by omega, Nat.sub_self]; rfl)
      have hk2 : k_w < i_w := nle_nI (by omega) (by omega) c31_w
      refine lv_iload_n hx hb_w dX2_follows_34 rfl (lv_at hl 2 rfl) ?_
      refine lv_if_eq (tgt := 70) hx hb_w dX2_follows_35 (by decide) (fun c35_w => ?_) (fun c35_w => ?_)
      · replace c35_w := bI0 c35_w
        refine lv_iload_n hx hb_w dX2_follows_70 rfl (lv_at hl 2 rfl) ?_
        exact hret (bI y_w) _ _ dX2_follows_71 (bIr _) (by rw [← hq, c35_w]; rfl)
      replace c35_w := bIn c35_w
      refine lv_aload_n hx hb_w dX2_follows_38 rfl (lv_at hl 0 rfl) ?_
      refine mget (index := 30) (v := .ref (a_w 2)) hx hb_w hts hinX2 hown hK_w hP 9 (by decide) (List.mem_of_getElem? (i := 2) rfl) rfl dX2_follows_39 ?_
      refine lv_iload_n hx hb_w dX2_follows_42 rfl (lv_at hl 3 rfl) ?_
      refine arI (j := k_w) (h := (f_w 1)) hx hb_w hK_w hP 2 rfl rfl (by omega) dX2_follows_43 ?_
      refine lv_iconst (v := 2) hx hb_w dX2_follows_44 (by decide) ?_
      refine lv_icmp_eq (tgt := 58) hx hb_w dX2_follows_45 (by decide) (fun c45 => ?_) (fun c45 => ?_)
      · refine lv_iconst (v := 1) hx hb_w dX2_follows_58 (by decide) ?_
        refine lv_goto (tgt := 63) hx hb_w dX2_follows_59 (by decide) ?_
        refine lv_istore_n (lv' := [(2, .int 1), (0, .ref (a_w 0)), (1, .int (nI i_w)), (3, .int (nI k_w))]) hx hb_w dX2_follows_63 rfl hl (by decide) rfl (fun ls hl => ?_)
        refine lv_iinc (v := nI (k_w + 1)) (lv' := [(3, .int (nI (k_w + 1))), (2, .int 1), (0, .ref (a_w 0)), (1, .int (nI i_w))]) hx hb_w dX2_follows_64 hl (k := 3) rfl (nI_1 _) (by decide) rfl (fun ls hl => ?_)
        refine lv_goto (tgt := 29) hx hb_w dX2_follows_67 (by decide) ?_
        exact ih29 (k_w + 1) true (fun _ => by have := hy c35_w; omega) (by omega) (by rw [← hq, allR_step hk2, c35_w]; simp [foB, c45]) (by omega) _ (lv_sub hl [2, 3, 1, 0] rfl)
      refine lv_aload_n hx hb_w dX2_follows_48 rfl (lv_at hl 0 rfl) ?_
      refine mget (index := 30) (v := .ref (a_w 2)) hx hb_w hts hinX2 hown hK_w hP 9 (by decide) (List.mem_of_getElem? (i := 2) rfl) rfl dX2_follows_49 ?_
      refine lv_iload_n hx hb_w dX2_follows_52 rfl (lv_at hl 3 rfl) ?_
      refine arI (j := k_w) (h := (f_w 1)) hx hb_w hK_w hP 2 rfl rfl (by omega) dX2_follows_53 ?_
      refine lv_iconst (v := 3) hx hb_w dX2_follows_54 (by decide) ?_
      refine lv_icmp_ne (tgt := 62) hx hb_w dX2_follows_55 (by decide) (fun c55 => ?_) (fun c55 => ?_)
      · refine lv_iconst (v := 0) hx hb_w dX2_follows_62 (by decide) ?_
        refine lv_istore_n (lv' := [(2, .int 0), (0, .ref (a_w 0)), (1, .int (nI i_w)), (3, .int (nI k_w))]) hx hb_w dX2_follows_63 rfl hl (by decide) rfl (fun ls hl => ?_)
        refine lv_iinc (v := nI (k_w + 1)) (lv' := [(3, .int (nI (k_w + 1))), (2, .int 0), (0, .ref (a_w 0)), (1, .int (nI i_w))]) hx hb_w dX2_follows_64 hl (k := 3) rfl (nI_1 _) (by decide) rfl (fun ls hl => ?_)
        refine lv_goto (tgt := 29) hx hb_w dX2_follows_67 (by decide) ?_
        exact ih29 (k_w + 1) false (fun _ => by have := hy c35_w; omega) (by omega) (by rw [← hq, allR_step hk2, c35_w]; simp [foB, c45, c55]) (by omega) _ (lv_sub hl [2, 3, 1, 0] rfl)
      refine lv_iconst (v := 1) hx hb_w dX2_follows_58 (by decide) ?_
      refine lv_goto (tgt := 63) hx hb_w dX2_follows_59 (by decide) ?_
      refine lv_istore_n (lv' := [(2, .int 1), (0, .ref (a_w 0)), (1, .int (nI i_w)), (3, .int (nI k_w))]) hx hb_w dX2_follows_63 rfl hl (by decide) rfl (fun ls hl => ?_)
      refine lv_iinc (v := nI (k_w + 1)) (lv' := [(3, .int (nI (k_w + 1))), (2, .int 1), (0, .ref (a_w 0)), (1, .int (nI i_w))]) hx hb_w dX2_follows_64 hl (k := 3) rfl (nI_1 _) (by decide) rfl (fun ls hl => ?_)
      refine lv_goto (tgt := 29) hx hb_w dX2_follows_67 (by decide) ?_
      exact ih29 (k_w + 1) true (fun _ => by have := hy c35_w; omega) (by omega) (by rw [← hq, allR_step hk2, c35_w]; simp [foB, c45, c55]) (by omega) _ (lv_sub hl [2, 3, 1, 0] rfl)
  exact loop29 201 B_w true (fun _ => ⟨Nat.le_refl _, hlt c13_w⟩) hB2 (by simp [c5_w, c13_w]) (by omega) _ (lv_sub hl [2, 3, 1, 0] rfl)
set_option maxHeartbeats 4000000 in
set_option maxRecDepth 100000 in
theorem kX2_isLate (l : Launch) (G_w : va_G) (a_w : Nat → Nat) (cI cZ : ClassId) (g_w : Nat → Int32) (f_w : Nat → Nat → Int32) (tc_w : Int32) (k_w : Nat) (hk : k_w < 200): rdr l yX2_isLate wsX2_isLate { frames := 0, cells := 0, slots := 0, locals := 0 } G_w (wM a_w cI cZ g_w f_w tc_w) (tyIZ cI cZ) [.ref (a_w 0), .int (nI k_w)] (fun r_w => r_w = bI (lateM g_w f_w k_w)) := by
  refine rdr_of (cc := cX2_isLate) (nL := 2) (ty := .boolean) (by decide) rfl (Nat.le_of_ble_eq_true rfl) ?_
  intro p_w e_w s_w m_w args_w below meth_w c_w H ls Q hx hb_w hml hown hts hP hK_w hret hl
  have hl : lv_has ls 2 [(0, .ref (a_w 0)), (1, .int (nI k_w))] := hl
  have hinX2 : ∀ w_w ∈ wsX20, w_w ∈ wsX2_isLate := by decide +kernel
  refine lv_aload_n hx hb_w dX2_isLate_0 rfl (lv_at hl 0 rfl) ?_
  refine mget (index := 30) (v := .ref (a_w 2)) hx hb_w hts hinX2 hown hK_w hP 9 (by decide) (List.mem_of_getElem? (i := 1) rfl) rfl dX2_isLate_1 ?_
  refine lv_iload_n hx hb_w dX2_isLate_4 rfl (lv_at hl 1 rfl) ?_
  refine arI (j := k_w) (h := (f_w 1)) hx hb_w hK_w hP 2 rfl rfl hk dX2_isLate_5 ?_
  refine lv_if_ne (tgt := 31) hx hb_w dX2_isLate_6 (by decide) (fun c6_w => ?_) (fun c6_w => ?_)
  · refine lv_iconst (v := 0) hx hb_w dX2_isLate_31 (by decide) ?_
    exact hret 0 _ _ dX2_isLate_32 rfl (by simp [bI, lateM, c6_w])
  refine lv_aload_n hx hb_w dX2_isLate_9 rfl (lv_at hl 0 rfl) ?_
  refine mget (index := 70) (v := .int (g_w 0)) hx hb_w hts hinX2 hown hK_w hP 0 (by decide) (List.mem_of_getElem? (i := 2) rfl) rfl dX2_isLate_10 ?_
  refine lv_aload_n hx hb_w dX2_isLate_13 rfl (lv_at hl 0 rfl) ?_
  refine mget (index := 26) (v := .ref (a_w 1)) hx hb_w hts hinX2 hown hK_w hP 8 (by decide) (List.mem_of_getElem? (i := 3) rfl) rfl dX2_isLate_14 ?_
  refine lv_iload_n hx hb_w dX2_isLate_17 rfl (lv_at hl 1 rfl) ?_
  refine arI (j := k_w) (h := (f_w 0)) hx hb_w hK_w hP 1 rfl rfl hk dX2_isLate_18 ?_
  refine lv_isub hx hb_w dX2_isLate_19 ?_
  refine lv_aload_n hx hb_w dX2_isLate_20 rfl (lv_at hl 0 rfl) ?_
  refine mget (index := 20) (v := .int (g_w 5)) hx hb_w hts hinX2 hown hK_w hP 5 (by decide) (List.mem_of_getElem? (i := 4) rfl) rfl dX2_isLate_21 ?_
  refine lv_icmp_le (tgt := 31) hx hb_w dX2_isLate_24 (by decide) (fun c24_w => ?_) (fun c24_w => ?_)
  · refine lv_iconst (v := 0) hx hb_w dX2_isLate_31 (by decide) ?_
    exact hret 0 _ _ dX2_isLate_32 rfl (by simp [bI, lateM, c6_w, c24_w])
  refine lv_iconst (v := 1) hx hb_w dX2_isLate_27 (by decide) ?_
  refine lv_goto (tgt := 32) hx hb_w dX2_isLate_28 (by decide) ?_
  exact hret 1 _ _ dX2_isLate_32 rfl (by simp [bI, lateM, c6_w, c24_w])
set_option maxHeartbeats 4000000 in
set_option maxRecDepth 100000 in
theorem kX2_isHere (l : Launch) (G_w : va_G) (a_w : Nat → Nat) (cI cZ : ClassId) (g_w : Nat → Int32) (f_w : Nat → Nat → Int32) (tc_w : Int32) (p0_w : Int32) (hNN : NN g_w): rdr l yX2_isHere wsX2_isHere { frames := 2, cells := 0, slots := 0, locals := 43 } G_w (wM a_w cI cZ g_w f_w tc_w) (tyIZ cI cZ) [.ref (a_w 0), .int p0_w] (fun r_w => r_w = bI (hereI g_w f_w p0_w)) := by
  refine rdr_of (cc := cX2_isHere) (nL := 2) (ty := .boolean) (by decide) rfl (Nat.le_of_ble_eq_true rfl) ?_
  intro p_w e_w s_w m_w args_w below meth_w c_w H ls Q hx hb_w hml hown hts hP hK_w hret hl
  have hl : lv_has ls 2 [(0, .ref (a_w 0)), (1, .int p0_w)] := hl
  have hinX2 : ∀ w_w ∈ wsX20, w_w ∈ wsX2_isHere := by decide +kernel
  refine lv_aload_n hx hb_w dX2_isHere_0 rfl (lv_at hl 0 rfl) ?_
  refine lv_iload_n hx hb_w dX2_isHere_1 rfl (lv_at hl 1 rfl) ?_
  refine rdr_V (As := [.int p0_w]) (rest := []) ⟨hx, hb_w, hml, hown, hts⟩ (kX2_isForetold l G_w a_w cI cZ g_w f_w tc_w p0_w hNN) (cwV 1 hts gX2_isHere_X2_isForetold rfl rfl rfl (by decide +kernel) ⟨Nat.le_of_ble_eq_true rfl, Nat.le_of_ble_eq_true rfl⟩) (va_recv hK_w hP (ci := 2) (q0 := 0) rfl rfl) hP hK_w rfl hl.1 rfl (Nat.le_of_ble_eq_true rfl) dX2_isHere_2 (by decide) (fun r2 h2 => ?_)
  replace h2 : r2 = bI (isF g_w p0_w) := h2
  subst h2
  refine lv_if_eq (tgt := 32) hx hb_w dX2_isHere_5 (by decide) (fun c5_w => ?_) (fun c5_w => ?_)
  · replace c5_w := bI0 c5_w
    refine lv_iconst (v := 0) hx hb_w dX2_isHere_32 (by decide) ?_
    exact hret 0 _ _ dX2_isHere_33 rfl (by simp [bI, hereI, c5_w])
  replace c5_w := bIn c5_w
  obtain ⟨k_w, hk, ek⟩ : ∃ k_w, k_w < 200 ∧ p0_w = nI k_w := isI_of (by simp only [isF, Bool.and_eq_true] at c5_w; exact c5_w.1)
  have ec : p0_w.toNatClampNeg = k_w := by rw [ek]; exact nI_clamp (by omega)
  refine lv_aload_n hx hb_w dX2_isHere_8 rfl (lv_at hl 0 rfl) ?_
  refine mget (index := 30) (v := .ref (a_w 2)) hx hb_w hts hinX2 hown hK_w hP 9 (by decide) (List.mem_of_getElem? (i := 1) rfl) rfl dX2_isHere_9 ?_
  refine lv_iload_n hx hb_w dX2_isHere_12 rfl (lv_at hl 1 rfl) ?_
  refine arI (j := k_w) (h := (f_w 1)) hx hb_w hK_w hP 2 rfl ek hk dX2_isHere_13 ?_
  refine lv_iconst (v := 1) hx hb_w dX2_isHere_14 (by decide) ?_
  refine lv_icmp_eq (tgt := 28) hx hb_w dX2_isHere_15 (by decide) (fun c15_w => ?_) (fun c15_w => ?_)
  · refine lv_iconst (v := 1) hx hb_w dX2_isHere_28 (by decide) ?_
    refine lv_goto (tgt := 33) hx hb_w dX2_isHere_29 (by decide) ?_
    exact hret 1 _ _ dX2_isHere_33 rfl (by simp [bI, hereI, ec, c5_w, c15_w])
  refine lv_aload_n hx hb_w dX2_isHere_18 rfl (lv_at hl 0 rfl) ?_
  refine mget (index := 30) (v := .ref (a_w 2)) hx hb_w hts hinX2 hown hK_w hP 9 (by decide) (List.mem_of_getElem? (i := 1) rfl) rfl dX2_isHere_19 ?_
  refine lv_iload_n hx hb_w dX2_isHere_22 rfl (lv_at hl 1 rfl) ?_
  refine arI (j := k_w) (h := (f_w 1)) hx hb_w hK_w hP 2 rfl ek hk dX2_isHere_23 ?_
  refine lv_iconst (v := 2) hx hb_w dX2_isHere_24 (by decide) ?_
  refine lv_icmp_ne (tgt := 32) hx hb_w dX2_isHere_25 (by decide) (fun c25_w => ?_) (fun c25_w => ?_)
  · refine lv_iconst (v := 0) hx hb_w dX2_isHere_32 (by decide) ?_
    exact hret 0 _ _ dX2_isHere_33 rfl (by simp [bI, hereI, ec, c5_w, c15_w, c25_w])
  refine lv_iconst (v := 1) hx hb_w dX2_isHere_28 (by decide) ?_
  refine lv_goto (tgt := 33) hx hb_w dX2_isHere_29 (by decide) ?_
  exact hret 1 _ _ dX2_isHere_33 rfl (by simp [bI, hereI, ec, c5_w, c15_w, c25_w])
set_option maxHeartbeats 4000000 in
set_option maxRecDepth 100000 in
theorem kX2_volume (l : Launch) (G_w : va_G) (a_w : Nat → Nat) (cI cZ : ClassId) (g_w : Nat → Int32) (f_w : Nat → Nat → Int32) (tc_w : Int32) (p0_w : Int32) (hp : inPat g_w): rdr l yX2_volume wsX2_volume { frames := 0, cells := 0, slots := 0, locals := 0 } G_w (wM a_w cI cZ g_w f_w tc_w) (tyIZ cI cZ) [.ref (a_w 0), .int p0_w] (fun r_w => r_w = volD g_w p0_w) := by
  refine rdr_of (cc := cX2_volume) (nL := 2) (ty := .int) (by decide) rfl (Nat.le_of_ble_eq_true rfl) ?_
  intro p_w e_w s_w m_w args_w below meth_w c_w H ls Q hx hb_w hml hown hts hP hK_w hret hl
  have hl : lv_has ls 2 [(0, .ref (a_w 0)), (1, .int p0_w)] := hl
  have hinX2 : ∀ w_w ∈ wsX20, w_w ∈ wsX2_volume := by decide +kernel
  refine lv_iload_n hx hb_w dX2_volume_0 rfl (lv_at hl 1 rfl) ?_
  refine lv_aload_n hx hb_w dX2_volume_1 rfl (lv_at hl 0 rfl) ?_
  refine mget (index := 13) (v := .int (g_w 2)) hx hb_w hts hinX2 hown hK_w hP 2 (by decide) (List.mem_of_getElem? (i := 1) rfl) rfl dX2_volume_2 ?_
  refine lv_idiv hx hb_w dX2_volume_5 (fun q_w => by have z_w := pat_1 hp; rw [q_w] at z_w; exact absurd z_w (by decide)) ?_
  refine lv_iconst (v := 1) hx hb_w dX2_volume_6 (by decide) ?_
  refine lv_iadd hx hb_w dX2_volume_7 ?_
  exact hret ((p0_w / (g_w 2)) + 1) _ _ dX2_volume_8 rfl (by unfold volD; rw [if_pos (pat_1 hp)])
set_option maxHeartbeats 4000000 in
set_option maxRecDepth 100000 in
theorem kX2_number (l : Launch) (G_w : va_G) (a_w : Nat → Nat) (cI cZ : ClassId) (g_w : Nat → Int32) (f_w : Nat → Nat → Int32) (tc_w : Int32) (p0_w : Int32) (hp : inPat g_w): rdr l yX2_number wsX2_number { frames := 0, cells := 0, slots := 0, locals := 0 } G_w (wM a_w cI cZ g_w f_w tc_w) (tyIZ cI cZ) [.ref (a_w 0), .int p0_w] (fun r_w => r_w = numD g_w p0_w) := by
  refine rdr_of (cc := cX2_number) (nL := 2) (ty := .int) (by decide) rfl (Nat.le_of_ble_eq_true rfl) ?_
  intro p_w e_w s_w m_w args_w below meth_w c_w H ls Q hx hb_w hml hown hts hP hK_w hret hl
  have hl : lv_has ls 2 [(0, .ref (a_w 0)), (1, .int p0_w)] := hl
  have hinX2 : ∀ w_w ∈ wsX20, w_w ∈ wsX2_number := by decide +kernel
  refine lv_aload_n hx hb_w dX2_number_0 rfl (lv_at hl 0 rfl) ?_
  refine mget (index := 16) (v := .int (g_w 3)) hx hb_w hts hinX2 hown hK_w hP 3 (by decide) (List.mem_of_getElem? (i := 1) rfl) rfl dX2_number_1 ?_
  refine lv_if_eq (tgt := 18) hx hb_w dX2_number_4 (by decide) (fun c4_w => ?_) (fun c4_w => ?_)
  · refine lv_iload_n hx hb_w dX2_number_18 rfl (lv_at hl 1 rfl) ?_
    refine lv_iconst (v := 1) hx hb_w dX2_number_19 (by decide) ?_
    refine lv_iadd hx hb_w dX2_number_20 ?_
    exact hret (p0_w + 1) _ _ dX2_number_21 rfl (by unfold numD; rw [if_pos c4_w])
  refine lv_iload_n hx hb_w dX2_number_7 rfl (lv_at hl 1 rfl) ?_
  refine lv_aload_n hx hb_w dX2_number_8 rfl (lv_at hl 0 rfl) ?_
  refine mget (index := 13) (v := .int (g_w 2)) hx hb_w hts hinX2 hown hK_w hP 2 (by decide) (List.mem_of_getElem? (i := 2) rfl) rfl dX2_number_9 ?_
  refine lv_irem hx hb_w dX2_number_12 (fun q_w => by have z_w := pat_1 hp; rw [q_w] at z_w; exact absurd z_w (by decide)) ?_
  refine lv_iconst (v := 1) hx hb_w dX2_number_13 (by decide) ?_
  refine lv_iadd hx hb_w dX2_number_14 ?_
  refine lv_goto (tgt := 21) hx hb_w dX2_number_15 (by decide) ?_
  exact hret ((p0_w - p0_w / (g_w 2) * (g_w 2)) + 1) _ _ dX2_number_21 rfl (by unfold numD; rw [if_neg c4_w, if_pos (pat_1 hp)])
