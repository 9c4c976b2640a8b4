set_option maxHeartbeats 4000000 in
set_option maxRecDepth 100000 in
theorem kX1_round (l : Launch) (G_w : va_G) (a_w : Nat → Nat) (cI cZ : ClassId) (g_w : Nat → Int32) (f_w : Nat → Nat → Int32) (cd : Nat → Int32) (tc_w : Int32) (hap : apart a_w 7) (sz_w : Nat) (hCD : CD f_w cd): wri l yX1_round wsX1_round { frames := 3, cells := 0, slots := 0, locals := 62 } G_w (wD a_w cI cZ g_w f_w cd tc_w) (tyIZ cI cZ) (aS a_w 7 sz_w) sz_w [.ref (a_w 0)] (fun r_w u_w => r_w = nI (rdN g_w f_w 200) ∧ u_w = (g_w, up2 (up2 f_w 1 (rd1 g_w f_w 200)) 2 (rd2 g_w f_w 200), rdc g_w f_w cd 200, tc_w)) (wfD a_w cI cZ) := by
  refine wri_of (cc := cX1_round) (nL := 3) (ty := .int) (by decide) rfl (Nat.le_of_ble_eq_true rfl) ?_
  intro p_w e_w s_w m_w args_w below meth_w c_w H locs_w ls Q hx hb_w hml hown hts hP hK_w hS_w hret hl
  have hl : lv_has ls 3 [(0, .ref (a_w 0))] := hl
  have hinX1 : ∀ w_w ∈ wsX10, w_w ∈ wsX1_round := by decide +kernel
  refine lv_iconst (v := 0) hx hb_w dX1_round_0 (by decide) ?_
  refine lv_istore_n (lv' := [(1, .int 0), (0, .ref (a_w 0))]) hx hb_w dX1_round_1 rfl hl (by decide) rfl (fun ls hl => ?_)
  refine lv_iconst (v := 0) hx hb_w dX1_round_2 (by decide) ?_
  refine lv_istore_n (lv' := [(2, .int 0), (1, .int 0), (0, .ref (a_w 0))]) hx hb_w dX1_round_3 rfl hl (by decide) rfl (fun ls hl => ?_)
  have loop4 : ∀ (n_w : Nat) (i_w : Nat) (x : Int32) (h1 h2 c1_w : Nat → Int32), i_w ≤ 200 → 200 - i_w < n_w → x = nI (rdN g_w f_w i_w) → h1 = rd1 g_w f_w i_w → h2 = rd2 g_w f_w i_w → c1_w = rdc g_w f_w cd i_w → ∀ (H : Heap) (locs_w : List Loc), va_P G_w vwCl (wD a_w cI cZ g_w (up2 (up2 f_w 1 h1) 2 h2) c1_w tc_w) H → va_S (aS a_w 7 s_w.heap.size) s_w.heap H locs_w → ∀ (ls : Array Slot), lv_has ls 3 [(0, .ref (a_w 0)), (1, .int x), (2, .int (nI i_w))] → W p_w l e_w { frames := 3, cells := 0, slots := 0, locals := 62 } s_w m_w args_w below meth_w c_w H locs_w 0 0 Q (F0 m_w 4 ls []) := by
    intro n_w
    induction n_w with
    | zero => intro i_w x h1 h2 c1_w hi_w hn ex_w e1_w e2_w e3_w; intros; exact absurd hn (Nat.not_lt_zero _)
    | succ n_w ih4 =>
      intro i_w x h1 h2 c1_w hi_w hn ex_w e1_w e2_w e3_w H locs_w hP hS_w ls hl
      have z1 : h1 i_w = f_w 1 i_w := by rw [e1_w]; unfold rd1; rw [if_neg (by omega)]
      have z2 : h2 i_w = f_w 2 i_w := by rw [e2_w]; unfold rd2; rw [if_neg (by omega)]
      have z3 : c1_w i_w = cd i_w := by rw [e3_w]; unfold rdc; rw [if_neg (by omega)]
      have zl : lateB g_w (up2 (up2 f_w 1 h1) 2 h2) i_w = lateB g_w f_w i_w := by (show (!decide (g_w 7 ≤ nI i_w) && decide (h1 i_w = 0) && _) = _); rw [z1]; rfl
      have zd : dueB g_w (up2 (up2 f_w 1 h1) 2 h2) c1_w i_w = dueB g_w f_w cd i_w := by (show (decide (h2 i_w = 0) || !decide (g_w 0 - c1_w i_w < g_w 6)) = _); rw [z2, z3]; rfl
      refine lv_iload_n hx hb_w dX1_round_4 rfl (lv_at hl 2 rfl) ?_
      refine lv_sipush (v := 200) hx hb_w dX1_round_5 (by decide) ?_
      refine lv_icmp_ge (tgt := 76) hx hb_w dX1_round_8 (by decide) (fun c8_w => ?_) (fun c8_w => ?_)
      · have ei := ge_200 c8_w (by omega)
        rw [ei] at e1_w e2_w e3_w
        have hP : va_P G_w vwCl (wD a_w cI cZ g_w (up2 (up2 f_w 1 (rd1 g_w f_w 200)) 2 (rd2 g_w f_w 200)) (rdc g_w f_w cd 200) tc_w) H := by rw [← e1_w, ← e2_w, ← e3_w]; exact hP
        refine lv_iload_n hx hb_w dX1_round_76 rfl (lv_at hl 1 rfl) ?_
        exact hret x (g_w, up2 (up2 f_w 1 (rd1 g_w f_w 200)) 2 (rd2 g_w f_w 200), rdc g_w f_w cd 200, tc_w) _ _ _ _ dX1_round_77 rfl hP hS_w ⟨by rw [ex_w, ei], rfl⟩
      have hi2 := nge_200 c8_w (by omega)
      refine lv_aload_n hx hb_w dX1_round_11 rfl (lv_at hl 0 rfl) ?_
      refine lv_iload_n hx hb_w dX1_round_12 rfl (lv_at hl 2 rfl) ?_
      refine rdr_V (As := [.int (nI i_w)]) (rest := []) ⟨hx, hb_w, hml, hown, hts⟩ (kX1_isLate l G_w a_w cI cZ g_w (up2 (up2 f_w 1 h1) 2 h2) c1_w tc_w i_w hi2) (cwV 1 hts gX1_round_X1_isLate rfl rfl rfl (by decide +kernel) ⟨Nat.le_of_ble_eq_true rfl, Nat.le_of_ble_eq_true rfl⟩) (va_recv hK_w hP (ci := 1) (q0 := 0) rfl rfl) hP hK_w rfl hl.1 rfl (Nat.le_of_ble_eq_true rfl) dX1_round_13 (by decide) (fun r13 h13 => ?_)
      replace h13 : r13 = bI (lateB g_w (up2 (up2 f_w 1 h1) 2 h2) i_w) := h13
      subst h13
      refine lv_if_eq (tgt := 70) hx hb_w dX1_round_16 (by decide) (fun c16 => ?_) (fun c16 => ?_)
      · replace c16 := bI0 c16
        rw [zl] at c16
        refine lv_iinc (v := nI (i_w + 1)) (lv' := [(2, .int (nI (i_w + 1))), (0, .ref (a_w 0)), (1, .int x)]) hx hb_w dX1_round_70 hl (k := 2) rfl (nI_1 _) (by decide) rfl (fun ls hl => ?_)
        refine lv_goto (tgt := 4) hx hb_w dX1_round_73 (by decide) ?_
        exact ih4 (i_w + 1) x h1 h2 c1_w (by omega) (by omega) (by rw [ex_w]; exact congrArg nI (cnt_f (by rw [(show rdB g_w f_w i_w = false from by unfold rdB; rw [c16]; rfl)]; rfl)).symm) (by rw [e1_w]; exact w_same fun k_w => by by_cases q_w : k_w = i_w; (rw [q_w]; unfold rd1; rw [if_neg (fun z_w => by have := (show rdB g_w f_w i_w = false from by unfold rdB; rw [c16]; rfl); rw [this] at z_w; exact absurd z_w.2.1 (by decide)), if_neg (by omega)]); (unfold rd1; simp only [lt_ne q_w])) (by rw [e2_w]; exact w_same fun k_w => by by_cases q_w : k_w = i_w; (rw [q_w]; unfold rd2; rw [if_neg (fun z_w => by have := (show rdB g_w f_w i_w = false from by unfold rdB; rw [c16]; rfl); rw [this] at z_w; exact absurd z_w.2.1 (by decide)), if_neg (by omega)]); (unfold rd2; simp only [lt_ne q_w])) (by rw [e3_w]; exact w_same fun k_w => by by_cases q_w : k_w = i_w; (rw [q_w]; unfold rdc; rw [if_neg (fun z_w => by have := (show rdB g_w f_w i_w = false from by unfold rdB; rw [c16]; rfl); rw [this] at z_w; exact absurd z_w.2.1 (by decide)), if_neg (by omega)]); (unfold rdc; simp only [lt_ne q_w])) _ _ hP hS_w _ (lv_sub hl [1, 2, 0] rfl)
      replace c16 := bIn c16
      rw [zl] at c16
      refine lv_aload_n hx hb_w dX1_round_19 rfl (lv_at hl 0 rfl) ?_
      refine lv_iload_n hx hb_w dX1_round_20 rfl (lv_at hl 2 rfl) ?_
      refine rdr_V (As := [.int (nI i_w)]) (rest := []) ⟨hx, hb_w, hml, hown, hts⟩ (kX1_isTimeToClaim l G_w a_w cI cZ g_w (up2 (up2 f_w 1 h1) 2 h2) c1_w tc_w i_w hi2) (cwV 1 hts gX1_round_X1_isTimeToClaim rfl rfl rfl (by decide +kernel) ⟨Nat.le_of_ble_eq_true rfl, Nat.le_of_ble_eq_true rfl⟩) (va_recv hK_w hP (ci := 1) (q0 := 0) rfl rfl) hP hK_w rfl hl.1 rfl (Nat.le_of_ble_eq_true rfl) dX1_round_21 (by decide) (fun r21 h21 => ?_)
      replace h21 : r21 = bI (dueB g_w (up2 (up2 f_w 1 h1) 2 h2) c1_w i_w) := h21
      subst h21
      refine lv_if_eq (tgt := 70) hx hb_w dX1_round_24 (by decide) (fun c24_w => ?_) (fun c24_w => ?_)
      · replace c24_w := bI0 c24_w
        rw [zd, due_CD hCD hi2 c16] at c24_w
        refine lv_iinc (v := nI (i_w + 1)) (lv' := [(2, .int (nI (i_w + 1))), (0, .ref (a_w 0)), (1, .int x)]) hx hb_w dX1_round_70 hl (k := 2) rfl (nI_1 _) (by decide) rfl (fun ls hl => ?_)
        refine lv_goto (tgt := 4) hx hb_w dX1_round_73 (by decide) ?_
        exact ih4 (i_w + 1) x h1 h2 c1_w (by omega) (by omega) (by rw [ex_w]; exact congrArg nI (cnt_f (by rw [(show rdB g_w f_w i_w = false from by unfold rdB; rw [c16, c24_w]; rfl)]; rfl)).symm) (by rw [e1_w]; exact w_same fun k_w => by by_cases q_w : k_w = i_w; (rw [q_w]; unfold rd1; rw [if_neg (fun z_w => by have := (show rdB g_w f_w i_w = false from by unfold rdB; rw [c16, c24_w]; rfl); rw [this] at z_w; exact absurd z_w.2.1 (by decide)), if_neg (by omega)]); (unfold rd1; simp only [lt_ne q_w])) (by rw [e2_w]; exact w_same fun k_w => by by_cases q_w : k_w = i_w; (rw [q_w]; unfold rd2; rw [if_neg (fun z_w => by have := (show rdB g_w f_w i_w = false from by unfold rdB; rw [c16, c24_w]; rfl); rw [this] at z_w; exact absurd z_w.2.1 (by decide)), if_neg (by omega)]); (unfold rd2; simp only [lt_ne q_w])) (by rw [e3_w]; exact w_same fun k_w => by by_cases q_w : k_w = i_w; (rw [q_w]; unfold rdc; rw [if_neg (fun z_w => by have := (show rdB g_w f_w i_w = false from by unfold rdB; rw [c16, c24_w]; rfl); rw [this] at z_w; exact absurd z_w.2.1 (by decide)), if_neg (by omega)]); (unfold rdc; simp only [lt_ne q_w])) _ _ hP hS_w _ (lv_sub hl [1, 2, 0] rfl)
      replace c24_w := bIn c24_w
      rw [zd, due_CD hCD hi2 c16] at c24_w
      refine lv_aload_n hx hb_w dX1_round_27 rfl (lv_at hl 0 rfl) ?_
      refine dget (index := 30) (v := .ref (a_w 4)) hx hb_w hts hinX1 hown hK_w hP 8 (by decide) (List.mem_of_getElem? (i := 1) rfl) rfl dX1_round_28 ?_
      refine lv_iload_n hx hb_w dX1_round_31 rfl (lv_at hl 2 rfl) ?_
      refine arI (j := i_w) (h := h2) hx hb_w hK_w hP 4 rfl rfl hi2 dX1_round_32 ?_
      refine lv_iconst (v := 3) hx hb_w dX1_round_33 (by decide) ?_
      refine lv_icmp_ge (tgt := 63) hx hb_w dX1_round_34 (by decide) (fun c34_w => ?_) (fun c34_w => ?_)
      · rw [z2] at c34_w
        refine lv_aload_n hx hb_w dX1_round_63 rfl (lv_at hl 0 rfl) ?_
        refine dget (index := 27) (v := .ref (a_w 3)) hx hb_w hts hinX1 hown hK_w hP 7 (by decide) (List.mem_of_getElem? (i := 4) rfl) rfl dX1_round_64 ?_
        refine lv_iload_n hx hb_w dX1_round_67 rfl (lv_at hl 2 rfl) ?_
        refine lv_iconst (v := 3) hx hb_w dX1_round_68 (by decide) ?_
        refine asI (j := i_w) (h := h1) (x := 3) (wD a_w cI cZ g_w (up2 (up2 f_w 2 h2) 1 (upd h1 i_w 3)) c1_w tc_w) hx hb_w hK_w hP (wD_D hap _) hS_w 3 rfl rfl hi2 rfl dX1_round_69 (fun H locs_w hP hS_w => ?_)
        refine lv_iinc (v := nI (i_w + 1)) (lv' := [(2, .int (nI (i_w + 1))), (0, .ref (a_w 0)), (1, .int x)]) hx hb_w dX1_round_70 hl (k := 2) rfl (nI_1 _) (by decide) rfl (fun ls hl => ?_)
        refine lv_goto (tgt := 4) hx hb_w dX1_round_73 (by decide) ?_
        exact ih4 (i_w + 1) x (upd h1 i_w 3) h2 c1_w (by omega) (by omega) (by rw [ex_w]; exact congrArg nI (cnt_f (by rw [(show rdB g_w f_w i_w = true from by unfold rdB; rw [c16, c24_w]; rfl), (show clB f_w i_w = false from by unfold clB; rw [decide_eq_true c34_w]; rfl)]; rfl)).symm) (by rw [e1_w]; exact w_step (by unfold rd1; rw [if_pos ⟨by omega, (show rdB g_w f_w i_w = true from by unfold rdB; rw [c16, c24_w]; rfl), (show clB f_w i_w = false from by unfold clB; rw [decide_eq_true c34_w]; rfl)⟩]) (fun k_w q_w => by unfold rd1; simp only [lt_ne q_w])) (by rw [e2_w]; exact w_same fun k_w => by by_cases q_w : k_w = i_w; (rw [q_w]; unfold rd2; rw [if_neg (fun z_w => by have := (show clB f_w i_w = false from by unfold clB; rw [decide_eq_true c34_w]; rfl); rw [this] at z_w; exact absurd z_w.2.2 (by decide)), if_neg (by omega)]); (unfold rd2; simp only [lt_ne q_w])) (by rw [e3_w]; exact w_same fun k_w => by by_cases q_w : k_w = i_w; (rw [q_w]; unfold rdc; rw [if_neg (fun z_w => by have := (show clB f_w i_w = false from by unfold clB; rw [decide_eq_true c34_w]; rfl); rw [this] at z_w; exact absurd z_w.2.2 (by decide)), if_neg (by omega)]); (unfold rdc; simp only [lt_ne q_w])) _ _ hP hS_w _ (lv_sub hl [1, 2, 0] rfl)
      rw [z2] at c34_w
      refine lv_aload_n hx hb_w dX1_round_37 rfl (lv_at hl 0 rfl) ?_
      refine dget (index := 30) (v := .ref (a_w 4)) hx hb_w hts hinX1 hown hK_w hP 8 (by decide) (List.mem_of_getElem? (i := 1) rfl) rfl dX1_round_38 ?_
      refine lv_iload_n hx hb_w dX1_round_41 rfl (lv_at hl 2 rfl) ?_
      refine lv_dup2_11 hx hb_w dX1_round_42 rfl rfl ?_
      refine arI (j := i_w) (h := h2) hx hb_w hK_w hP 4 rfl rfl hi2 dX1_round_43 ?_
      refine lv_iconst (v := 1) hx hb_w dX1_round_44 (by decide) ?_
      refine lv_iadd hx hb_w dX1_round_45 ?_
      refine asI (j := i_w) (h := h2) (x := (h2 i_w) + 1) (wD a_w cI cZ g_w (up2 (up2 f_w 1 h1) 2 (upd h2 i_w ((h2 i_w) + 1))) c1_w tc_w) hx hb_w hK_w hP (wD_D hap _) hS_w 4 rfl rfl hi2 rfl dX1_round_46 (fun H locs_w hP hS_w => ?_)
      refine lv_aload_n hx hb_w dX1_round_47 rfl (lv_at hl 0 rfl) ?_
      refine dget (index := 33) (v := .ref (a_w 5)) hx hb_w hts hinX1 hown hK_w hP 9 (by decide) (List.mem_of_getElem? (i := 2) rfl) rfl dX1_round_48 ?_
      refine lv_iload_n hx hb_w dX1_round_51 rfl (lv_at hl 2 rfl) ?_
      refine lv_aload_n hx hb_w dX1_round_52 rfl (lv_at hl 0 rfl) ?_
      refine dget (index := 74) (v := .int (g_w 0)) hx hb_w hts hinX1 hown hK_w hP 3 (by decide) (List.mem_of_getElem? (i := 3) rfl) rfl dX1_round_53 ?_
      refine asI (j := i_w) (h := c1_w) (x := g_w 0) (wD a_w cI cZ g_w (up2 (up2 f_w 1 h1) 2 (upd h2 i_w ((h2 i_w) + 1))) (upd c1_w i_w (g_w 0)) tc_w) hx hb_w hK_w hP (wD_D hap _) hS_w 5 rfl rfl hi2 rfl dX1_round_56 (fun H locs_w hP hS_w => ?_)
      refine lv_iinc (v := x + 1) (lv' := [(1, .int (x + 1)), (0, .ref (a_w 0)), (2, .int (nI i_w))]) hx hb_w dX1_round_57 hl (k := 1) rfl rfl (by decide) rfl (fun ls hl => ?_)
      refine lv_goto (tgt := 70) hx hb_w dX1_round_60 (by decide) ?_
      refine lv_iinc (v := nI (i_w + 1)) (lv' := [(2, .int (nI (i_w + 1))), (1, .int (x + 1)), (0, .ref (a_w 0))]) hx hb_w dX1_round_70 hl (k := 2) rfl (nI_1 _) (by decide) rfl (fun ls hl => ?_)
      refine lv_goto (tgt := 4) hx hb_w dX1_round_73 (by decide) ?_
      exact ih4 (i_w + 1) (x + 1) h1 (upd h2 i_w ((h2 i_w) + 1)) (upd c1_w i_w (g_w 0)) (by omega) (by omega) (by rw [ex_w]; exact (nI_1 _).trans (congrArg nI (cnt_t (by rw [(show rdB g_w f_w i_w = true from by unfold rdB; rw [c16, c24_w]; rfl), (show clB f_w i_w = true from by unfold clB; rw [decide_eq_false c34_w]; rfl)]; rfl)).symm)) (by rw [e1_w]; exact w_same fun k_w => by by_cases q_w : k_w = i_w; (rw [q_w]; unfold rd1; rw [if_neg (fun z_w => by have := (show clB f_w i_w = true from by unfold clB; rw [decide_eq_false c34_w]; rfl); rw [this] at z_w; exact absurd z_w.2.2 (by decide)), if_neg (by omega)]); (unfold rd1; simp only [lt_ne q_w])) (by rw [z2, e2_w]; exact w_step (by unfold rd2; rw [if_pos ⟨by omega, (show rdB g_w f_w i_w = true from by unfold rdB; rw [c16, c24_w]; rfl), (show clB f_w i_w = true from by unfold clB; rw [decide_eq_false c34_w]; rfl)⟩]) (fun k_w q_w => by unfold rd2; simp only [lt_ne q_w])) (by rw [e3_w]; exact w_step (by unfold rdc; rw [if_pos ⟨by omega, (show rdB g_w f_w i_w = true from by unfold rdB; rw [c16, c24_w]; rfl), (show clB f_w i_w = true from by unfold clB; rw [decide_eq_false c34_w]; rfl)⟩]) (fun k_w q_w => by unfold rdc; simp only [lt_ne q_w])) _ _ hP hS_w _ (lv_sub hl [2, 1, 0] rfl)
  exact loop4 201 0 0 (f_w 1) (f_w 2) cd (by omega) (by omega) rfl (w_same fun k_w => by unfold rd1; rw [if_neg (by omega)]) (w_same fun k_w => by unfold rd2; rw [if_neg (by omega)]) (w_same fun k_w => by unfold rdc; rw [if_neg (by omega)]) _ _ hP hS_w _ (lv_sub hl [2, 1, 0] rfl)
