set_option maxHeartbeats 4000000 in
set_option maxRecDepth 100000 in
theorem kL_checks (l : Launch) (hst : l.stackTraces = false) (G_w : va_G) (a_w : Nat → Nat) (cI cZ cL : ClassId) (g_w : Nat → Int32) (f_w : Nat → Nat → Int32) (cd : Nat → Int32) (tc_w : Int32) (hap : apart a_w 10) (sz_w : Nat) (tt : Nat → Int32) (gg : Nat → Int64) (i_w b_w N_w ct : Nat) (Gd_w : Nat → Int32) (Fd : Nat → Nat → Int32) (eG : (ciS g_w f_w i_w b_w).1 = Gd_w) (eF : (ciS g_w f_w i_w b_w).2 = Fd) (hib : i_w + b_w ≤ 57) (hb5 : b_w ≤ 5) (hN_w : g_w 7 = nI N_w) (hN2 : N_w ≤ 200) (hct : ct < 512) (hI : Inv ct g_w f_w) (hs03 : ∀ k_w, k_w < 200 → 0 ≤ f_w 1 k_w ∧ f_w 1 k_w ≤ 3) (hz : ∀ k_w, N_w ≤ k_w → f_w 1 k_w = 0): lwc l yL_checks wsL_checks { frames := 9, cells := 2, slots := 66, locals := 156 } G_w (wD a_w cI cZ g_w f_w cd tc_w ++ [cC (a_w 7) cI (ccG g_w), cT (a_w 8) cI tt, cG (a_w 9) cL gg]) (tyL cI cZ cL) (aS a_w 10 sz_w) sz_w [.ref (a_w 0), .int (nI i_w), .int (nI b_w), .ref (a_w 7)] (fun r_w u_w => r_w = 1 ∧ u_w = (if allR (opB g_w f_w) i_w (i_w + b_w + 1 - i_w) = true then (Gd_w, Fd, cd, tc_w) else (g_w, f_w, cd, tc_w))) (fun u_w : SD => wfD a_w cI cZ u_w ++ [cC (a_w 7) cI (ccG u_w.1), cT (a_w 8) cI tt, cG (a_w 9) cL gg]) 2 66 := by
  have hNp : 1 ≤ N_w := by obtain ⟨M_w, q1_w, q2_w, q3_w⟩ := inv_NN hI; rw [hN_w] at q1_w; have := (nI_eq (by omega) (by omega)).mp q1_w; omega
  refine lwc_of (cc := cL_checks) (nL := 16) (ty := .boolean) rfl (Nat.le_of_ble_eq_true rfl) ?_
  intro p_w e_w s_w m_w args_w below meth_w c_w H locs_w ls Q hx hb_w hml hown hts hP hK_w ht hS_w hret hl
  have hA : ∀ q_w, s_w.heap.size ≤ q_w → aS a_w 10 s_w.heap.size q_w := fun q_w h_w => Or.inr h_w
  have hl : lv_has ls 16 [(0, .ref (a_w 0)), (1, .int (nI i_w)), (2, .int (nI b_w)), (3, .ref (a_w 7))] := hl
  have hDD : DD (aS a_w 10 s_w.heap.size) (adD a_w ++ [a_w 7, a_w 8, a_w 9]) := DD_10 hap _
  obtain ⟨N1, m9_w, r9, t9, c8_w, hN1, hG7, hT2, hGq, hF1, hF0, hday, et, er, ec8, hG8, hG9, hG10, hG11, hend, hsh8⟩ := ci_all hct hI hN_w hN2 (show i_w + b_w < 200 by omega)
  rw [eG] at hG7 hGq hG8 hG9 hG10 hG11 hend
  rw [eF] at hF1 hF0 hday et er hend
  obtain ⟨s9, es⟩ : ∃ s9, s9 = shB r9 t9 := ⟨_, rfl⟩
  rw [← es] at ec8 hG11
  have hth := th_ci (g := g_w) (f := f_w) (i := i_w) (j := b_w) (by omega) hb5
  obtain ⟨B_w, hB_w, hB2, -, -, -⟩ := inv_B hI
  have hp := inv_PT hI
  have hs8 := inv_SH hI (by omega)
  have hiT : i_w < N1 + m9_w := by rw [hN1]; split <;> omega
  have hIci := ciS_inv hct hI (show i_w + b_w < 200 by omega)
  rw [eG, eF] at hIci
  have hst2 : ∀ k_w, k_w < 200 → 0 ≤ Fd 1 k_w ∧ Fd 1 k_w ≤ 3 := fun k_w hk => by rw [hF1]; exact tk_03 hs03 k_w hk
  have hN1N : N_w ≤ N1 := by rw [hN1]; split <;> omega
  refine lv_aload_n hx hb_w dL_checks_0 rfl (lv_at hl 0 rfl) ?_
  refine rdr_V (As := []) (rest := []) ⟨hx, hb_w, hml, hown, hts⟩ (kX1_foretold l G_w a_w cI cZ g_w f_w cd tc_w) (cwV 0 hts gL_checks_X1_foretold rfl rfl rfl (by decide +kernel) ⟨Nat.le_of_ble_eq_true rfl, Nat.le_of_ble_eq_true rfl⟩) (va_recv hK_w hP (ci := 1) (q0 := 0) rfl rfl) (hP.sub [0, 1, 2, 3, 4, 5, 6] rfl) (hK_w.sub (tys' := tyIZ cI cZ) [0, 1] rfl) rfl hl.1 rfl (Nat.le_of_ble_eq_true rfl) dL_checks_1  ⟨Nat.le_of_ble_eq_true rfl, Nat.le_of_ble_eq_true rfl⟩ (fun r1_w h1 => ?_)
  replace h1 : r1_w = g_w 7 := h1
  subst h1
  refine top_eq (z := nI N_w) hN_w ?_
  refine lv_istore (lv' := [(4, .int (nI N_w)), (0, .ref (a_w 0)), (1, .int (nI i_w)), (2, .int (nI b_w)), (3, .ref (a_w 7))]) hx hb_w dL_checks_4 hl (by decide) rfl (fun ls hl => ?_)
  refine lv_aload_n hx hb_w dL_checks_6 rfl (lv_at hl 1 rfl) ?_
  refine rdr_V (As := []) (rest := []) ⟨hx, hb_w, hml, hown, hts⟩ (kX1_shift l G_w a_w cI cZ g_w f_w cd tc_w) (cwV 0 hts gL_checks_X1_shift rfl rfl rfl (by decide +kernel) ⟨Nat.le_of_ble_eq_true rfl, Nat.le_of_ble_eq_true rfl⟩) (va_recv hK_w hP (ci := 1) (q0 := 0) rfl rfl) (hP.sub [0, 1, 2, 3, 4, 5, 6] rfl) (hK_w.sub (tys' := tyIZ cI cZ) [0, 1] rfl) rfl hl.1 rfl (Nat.le_of_ble_eq_true rfl) dL_checks_7  ⟨Nat.le_of_ble_eq_true rfl, Nat.le_of_ble_eq_true rfl⟩ (fun r7 h7 => ?_)
  replace h7 : r7 = g_w 8 := h7
  subst h7
  refine lv_istore (lv' := [(5, .int (g_w 8)), (4, .int (nI N_w)), (0, .ref (a_w 0)), (1, .int (nI i_w)), (2, .int (nI b_w)), (3, .ref (a_w 7))]) hx hb_w dL_checks_10 hl (by decide) rfl (fun ls hl => ?_)
  refine lv_iconst (v := 1) hx hb_w dL_checks_12 (by decide) ?_
  refine lv_istore (lv' := [(6, .int 1), (5, .int (g_w 8)), (4, .int (nI N_w)), (0, .ref (a_w 0)), (1, .int (nI i_w)), (2, .int (nI b_w)), (3, .ref (a_w 7))]) hx hb_w dL_checks_13 hl (by decide) rfl (fun ls hl => ?_)
  refine lv_iload_n hx hb_w dL_checks_15 rfl (lv_at hl 4 rfl) ?_
  refine lv_istore (lv' := [(7, .int (nI i_w)), (6, .int 1), (5, .int (g_w 8)), (4, .int (nI N_w)), (0, .ref (a_w 0)), (1, .int (nI i_w)), (2, .int (nI b_w)), (3, .ref (a_w 7))]) hx hb_w dL_checks_16 hl (by decide) rfl (fun ls hl => ?_)
  have loop18 : ∀ (n_w : Nat) (k_w : Nat) (y_w : Bool), i_w ≤ k_w → k_w ≤ i_w + b_w + 1 → (y_w && allR (opB g_w f_w) k_w (i_w + b_w + 1 - k_w)) = allR (opB g_w f_w) i_w (i_w + b_w + 1 - i_w) → i_w + b_w + 1 - k_w < n_w → ∀ (H : Heap) (locs_w : List Loc), va_P G_w vwCl (wD a_w cI cZ g_w f_w cd tc_w ++ [cC (a_w 7) cI (ccG g_w), cT (a_w 8) cI tt, cG (a_w 9) cL gg]) H → va_S (aS a_w 10 s_w.heap.size) s_w.heap H locs_w → ∀ (ls : Array Slot), lv_has ls 16 [(0, .ref (a_w 0)), (1, .int (nI i_w)), (2, .int (nI b_w)), (3, .ref (a_w 7)), (4, .int (nI N_w)), (5, .int (g_w 8)), (6, .int (bI y_w)), (7, .int (nI k_w))] → W p_w l e_w { frames := 9, cells := 2, slots := 66, locals := 156 } s_w m_w args_w below meth_w c_w H locs_w 0 0 Q (F0 m_w 18 ls []) := by
    intro n_w
    induction n_w with
    | zero => intro k_w y_w hk0 hk hq hn; intros; exact absurd hn (Nat.not_lt_zero _)
    | succ n_w ih18 =>
      intro k_w y_w hk0 hk hq hn H locs_w hP hS_w ls hl
      have j60 : (y_w = allR (opB g_w f_w) i_w (i_w + b_w + 1 - i_w)) → W p_w l e_w { frames := 9, cells := 2, slots := 66, locals := 156 } s_w m_w args_w below meth_w c_w H locs_w 0 0 Q (F0 m_w 60 ls []) := by
        intro hyy
        refine lv_bipush (v := 60) hx hb_w dL_checks_60 (by decide) ?_
        refine va_newa (D := G_w) (atype := .int) (ty := .int) (a0 := (60, .inl (fun _ => 0))) (N' := 60) hx hb_w (hts _ (List.mem_of_getElem? (i := 1) rfl)) rfl hK_w hP (DD_D (ws := (wD a_w cI cZ g_w f_w cd tc_w ++ [cC (a_w 7) cI (ccG g_w), cT (a_w 8) cI tt, cG (a_w 9) cL gg])) hDD) hS_w hA (fun _ => rfl) (by decide) (by decide) (by decide) (Nat.le_of_ble_eq_true rfl) (Nat.le_of_ble_eq_true rfl) dL_checks_62 (fun q62 cx H hK_w hP hD hS_w => ?_)
        obtain rfl : cI = cx := ty_int hK_w 0 3 rfl rfl
        have hK_w := hK_w.sub (tys' := tyL cI cZ cL) [0, 1, 2] rfl
        have hP : va_P G_w vwCl (wD a_w cI cZ g_w f_w cd tc_w ++ [cC (a_w 7) cI (ccG g_w), cT (a_w 8) cI tt, cG (a_w 9) cL gg, cT q62 cI (fun _ => 0)]) H := hP
        have hDD := DD_new hD hDD
        have hDD : DD (aS a_w 10 s_w.heap.size) (adD a_w ++ [a_w 7, a_w 8, a_w 9, q62]) := hDD
        refine lv_astore (lv' := [(7, .ref q62), (0, .ref (a_w 0)), (1, .int (nI i_w)), (2, .int (nI b_w)), (3, .ref (a_w 7)), (4, .int (nI N_w)), (5, .int (g_w 8)), (6, .int (bI y_w))]) hx hb_w dL_checks_64 hl (by decide) rfl (fun ls hl => ?_)
        refine lv_iconst (v := 0) hx hb_w dL_checks_66 (by decide) ?_
        refine lv_istore (lv' := [(8, .int 0), (7, .ref q62), (0, .ref (a_w 0)), (1, .int (nI i_w)), (2, .int (nI b_w)), (3, .ref (a_w 7)), (4, .int (nI N_w)), (5, .int (g_w 8)), (6, .int (bI y_w))]) hx hb_w dL_checks_67 hl (by decide) rfl (fun ls hl => ?_)
        have loop69 : ∀ (n_w : Nat) (k_w : Nat) (ww : Nat → Int32), k_w ≤ N_w → k_w ≤ 60 → 60 - k_w < n_w → (∀ j_w, j_w < k_w → ww j_w = f_w 1 j_w) → ∀ (H : Heap) (locs_w : List Loc), va_P G_w vwCl (wD a_w cI cZ g_w f_w cd tc_w ++ [cC (a_w 7) cI (ccG g_w), cT (a_w 8) cI tt, cG (a_w 9) cL gg, cT q62 cI ww]) H → va_S (aS a_w 10 s_w.heap.size) s_w.heap H locs_w → ∀ (ls : Array Slot), lv_has ls 16 [(0, .ref (a_w 0)), (1, .int (nI i_w)), (2, .int (nI b_w)), (3, .ref (a_w 7)), (4, .int (nI N_w)), (5, .int (g_w 8)), (6, .int (bI y_w)), (7, .ref q62), (8, .int (nI k_w))] → W p_w l e_w { frames := 9, cells := 2, slots := 66, locals := 156 } s_w m_w args_w below meth_w c_w H locs_w 1 60 Q (F0 m_w 69 ls []) := by
          intro n_w
          induction n_w with
          | zero => intro k_w ww hk hk6 hn hw; intros; exact absurd hn (Nat.not_lt_zero _)
          | succ n_w ih69 =>
            intro k_w ww hk hk6 hn hw H locs_w hP hS_w ls hl
            have j100 : (∀ j_w, j_w < N_w → j_w < 60 → ww j_w = f_w 1 j_w) → W p_w l e_w { frames := 9, cells := 2, slots := 66, locals := 156 } s_w m_w args_w below meth_w c_w H locs_w 1 60 Q (F0 m_w 100 ls []) := by
              intro hws
              refine lv_aload_n hx hb_w dL_checks_100 rfl (lv_at hl 0 rfl) ?_
              refine lv_iconst (v := 0) hx hb_w dL_checks_101 (by decide) ?_
              refine lv_iload_n hx hb_w dL_checks_102 rfl (lv_at hl 1 rfl) ?_
              refine lv_iload_n hx hb_w dL_checks_103 rfl (lv_at hl 2 rfl) ?_
              refine lA_i (x := (g_w, f_w, cd, tc_w)) (ex := [cC (a_w 7) cI (ccG g_w), cT (a_w 8) cI tt, cG (a_w 9) cL gg, cT q62 cI ww]) (As := [.ref (a_w 0), .int 0, .int (nI i_w), .int (nI b_w)]) (rest := []) ⟨hx, hb_w, hml, hown, hts⟩ (kL_asks0 l hst G_w a_w cI cZ cL (g_w, f_w, cd, tc_w) (DD_ap hDD) H.size (nI i_w) (nI b_w) ct hct hI (by rw [hth]; split; exact Or.inl rfl; exact Or.inr rfl)) (vx_cwSW (hh := hhA) 4 hts gL_checks_L_asks rfl rfl rfl (by decide +kernel) ⟨Nat.le_of_ble_eq_true rfl, Nat.le_of_ble_eq_true rfl⟩) hDD hA hP hK_w ht hS_w rfl hl.1 rfl (Nat.le_of_ble_eq_true rfl) dL_checks_104  ⟨Nat.le_of_ble_eq_true rfl, Nat.le_of_ble_eq_true rfl⟩ (fun r104 u104 H locs_w h104 hP hS_w => ?_)
              rw [nI_clamp (show i_w < 2 ^ 31 by omega), nI_clamp (show b_w < 2 ^ 31 by omega)] at h104
              replace h104 : (thC g_w f_w (nI i_w) (nI b_w) = 0 ∧ r104 = (ciS g_w f_w i_w b_w).1 7 ∧ u104 = ((ciS g_w f_w i_w b_w).1, (ciS g_w f_w i_w b_w).2, cd, tc_w)) ∨ (thC g_w f_w (nI i_w) (nI b_w) = 3 ∧ r104 = -8 ∧ u104 = (g_w, f_w, cd, tc_w)) := h104
              rw [eG, eF, hth] at h104
              rcases h104 with ⟨h9, hr9, hu9⟩ | ⟨h9, hr9, hu9⟩
              · have hy : y_w = true := by rw [hyy]; cases z_w : allR (opB g_w f_w) i_w (i_w + b_w + 1 - i_w) with | true => rfl | false => rw [z_w, if_neg (by decide)] at h9; exact absurd h9 (by decide)
                have hall : allR (opB g_w f_w) i_w (i_w + b_w + 1 - i_w) = true := by rw [← hyy]; exact hy
                rw [hG7] at hr9
                subst hr9
                subst hu9
                have hP : va_P G_w vwCl (wD a_w cI cZ Gd_w Fd cd tc_w ++ [cC (a_w 7) cI (ccG g_w), cT (a_w 8) cI tt, cG (a_w 9) cL gg, cT q62 cI ww]) H := hP
                refine lv_istore (lv' := [(8, .int (nI (N1 + m9_w))), (0, .ref (a_w 0)), (1, .int (nI i_w)), (2, .int (nI b_w)), (3, .ref (a_w 7)), (4, .int (nI N_w)), (5, .int (g_w 8)), (6, .int (bI y_w)), (7, .ref q62)]) hx hb_w dL_checks_107 hl (by decide) rfl (fun ls hl => ?_)
                refine lv_iload hx hb_w dL_checks_109 (lv_at hl 7 rfl) ?_
                refine lv_if_ne (tgt := 145) hx hb_w dL_checks_111 (by decide) (fun c111 => ?_) (fun c111 => ?_)
                · replace c111 := bIn c111
                  refine lv_iload hx hb_w dL_checks_145 (lv_at hl 0 rfl) ?_
                  refine lv_aload_n hx hb_w dL_checks_147 rfl (lv_at hl 1 rfl) ?_
                  refine rdr_V (As := []) (rest := [.int (nI (N1 + m9_w))]) ⟨hx, hb_w, hml, hown, hts⟩ (kX1_foretold l G_w a_w cI cZ Gd_w Fd cd tc_w) (cwV 0 hts gL_checks_X1_foretold rfl rfl rfl (by decide +kernel) ⟨Nat.le_of_ble_eq_true rfl, Nat.le_of_ble_eq_true rfl⟩) (va_recv hK_w hP (ci := 1) (q0 := 0) rfl rfl) (hP.sub [0, 1, 2, 3, 4, 5, 6] rfl) (hK_w.sub (tys' := tyIZ cI cZ) [0, 1] rfl) rfl hl.1 rfl (Nat.le_of_ble_eq_true rfl) dL_checks_148  ⟨Nat.le_of_ble_eq_true rfl, Nat.le_of_ble_eq_true rfl⟩ (fun r148 h148 => ?_)
                  replace h148 : r148 = Gd_w 7 := h148
                  subst h148
                  refine top_eq (z := nI (N1 + m9_w)) hG7 ?_
                  refine lv_icmp_ne (tgt := 158) hx hb_w dL_checks_151 (by decide) (fun c151 => ?_) (fun c151 => ?_)
                  · exact absurd rfl c151
                  refine lv_iconst (v := 1) hx hb_w dL_checks_154 (by decide) ?_
                  refine lv_goto (tgt := 159) hx hb_w dL_checks_155 (by decide) ?_
                  refine lv_istore (lv' := [(9, .int 1), (8, .int (nI (N1 + m9_w))), (0, .ref (a_w 0)), (1, .int (nI i_w)), (2, .int (nI b_w)), (3, .ref (a_w 7)), (4, .int (nI N_w)), (5, .int (g_w 8)), (6, .int (bI y_w)), (7, .ref q62)]) hx hb_w dL_checks_159 hl (by decide) rfl (fun ls hl => ?_)
                  refine lv_iconst (v := 0) hx hb_w dL_checks_161 (by decide) ?_
                  refine lv_istore (lv' := [(10, .int 0), (9, .int 1), (8, .int (nI (N1 + m9_w))), (0, .ref (a_w 0)), (1, .int (nI i_w)), (2, .int (nI b_w)), (3, .ref (a_w 7)), (4, .int (nI N_w)), (5, .int (g_w 8)), (6, .int (bI y_w)), (7, .ref q62)]) hx hb_w dL_checks_162 hl (by decide) rfl (fun ls hl => ?_)
                  have loop164 : ∀ (n_w : Nat) (k_w : Nat), k_w ≤ N1 + m9_w → N1 + m9_w - k_w < n_w → ∀ (H : Heap) (locs_w : List Loc), va_P G_w vwCl (wD a_w cI cZ Gd_w Fd cd tc_w ++ [cC (a_w 7) cI (ccG g_w), cT (a_w 8) cI tt, cG (a_w 9) cL gg, cT q62 cI ww]) H → va_S (aS a_w 10 s_w.heap.size) s_w.heap H locs_w → ∀ (ls : Array Slot), lv_has ls 16 [(0, .ref (a_w 0)), (1, .int (nI i_w)), (2, .int (nI b_w)), (3, .ref (a_w 7)), (4, .int (nI N_w)), (5, .int (g_w 8)), (6, .int (bI y_w)), (7, .ref q62), (8, .int (nI (N1 + m9_w))), (9, .int 1), (10, .int (nI k_w))] → W p_w l e_w { frames := 9, cells := 2, slots := 66, locals := 156 } s_w m_w args_w below meth_w c_w H locs_w 2 66 Q (F0 m_w 164 ls []) := by
                    intro n_w
                    induction n_w with
                    | zero => intro k_w hk hn; intros; exact absurd hn (Nat.not_lt_zero _)
                    | succ n_w ih164 =>
                      intro k_w hk hn H locs_w hP hS_w ls hl
                      refine lv_iload hx hb_w dL_checks_164 (lv_at hl 10 rfl) ?_
                      refine lv_iload hx hb_w dL_checks_166 (lv_at hl 8 rfl) ?_
                      refine lv_icmp_ge (tgt := 267) hx hb_w dL_checks_168 (by decide) (fun c168 => ?_) (fun c168 => ?_)
                      · have ek : k_w = N1 + m9_w := by have := le_nI (a := N1 + m9_w) (b := k_w) (by omega) (by omega) c168; omega
                        refine lv_aload_n hx hb_w dL_checks_267 rfl (lv_at hl 3 rfl) ?_
                        refine lv_iconst (v := 0) hx hb_w dL_checks_268 (by decide) ?_
                        refine arC (j := 0) (h := ccG g_w) hx hb_w hK_w hP 7 rfl rfl (by decide) (by decide) dL_checks_269 ?_
                        refine top_eq (z := g_w 0) rfl ?_
                        refine lv_aload_n hx hb_w dL_checks_270 rfl (lv_at hl 0 rfl) ?_
                        refine lv_iload_n hx hb_w dL_checks_271 rfl (lv_at hl 1 rfl) ?_
                        refine rdr_V (As := [.int (nI i_w)]) (rest := [.int (g_w 0)]) ⟨hx, hb_w, hml, hown, hts⟩ (kX1_dayOf_n l G_w a_w cI cZ Gd_w Fd cd tc_w i_w (N1 + m9_w) hG7 hiT hT2) (cwV 1 hts gL_checks_X1_dayOf rfl rfl rfl (by decide +kernel) ⟨Nat.le_of_ble_eq_true rfl, Nat.le_of_ble_eq_true rfl⟩) (va_recv hK_w hP (ci := 1) (q0 := 0) rfl rfl) (hP.sub [0, 1, 2, 3, 4, 5, 6] rfl) (hK_w.sub (tys' := tyIZ cI cZ) [0, 1] rfl) rfl hl.1 rfl (Nat.le_of_ble_eq_true rfl) dL_checks_272  ⟨Nat.le_of_ble_eq_true rfl, Nat.le_of_ble_eq_true rfl⟩ (fun r272 h272 => ?_)
                        replace h272 : r272 = (Fd 0) i_w := h272
                        subst h272
                        refine lv_isub hx hb_w dL_checks_275 ?_
                        refine top_eq (z := t9) et.symm ?_
                        refine lv_istore (lv' := [(10, .int t9), (0, .ref (a_w 0)), (1, .int (nI i_w)), (2, .int (nI b_w)), (3, .ref (a_w 7)), (4, .int (nI N_w)), (5, .int (g_w 8)), (6, .int (bI y_w)), (7, .ref q62), (8, .int (nI (N1 + m9_w))), (9, .int 1)]) hx hb_w dL_checks_276 hl (by decide) rfl (fun ls hl => ?_)
                        refine lv_aload_n hx hb_w dL_checks_278 rfl (lv_at hl 4 rfl) ?_
                        refine lv_bipush (v := 9) hx hb_w dL_checks_279 (by decide) ?_
                        have j316 : W p_w l e_w { frames := 9, cells := 2, slots := 66, locals := 156 } s_w m_w args_w below meth_w c_w H locs_w 2 66 Q (F0 m_w 316 ls [.int r9, .int 9, .ref (a_w 7)]) := by
                          refine asC (j := 9) (h := ccG g_w) (v := r9) (wD a_w cI cZ Gd_w Fd cd tc_w ++ [cC (a_w 7) cI (upd (ccG g_w) 9 r9), cT (a_w 8) cI tt, cG (a_w 9) cL gg, cT q62 cI ww]) hx hb_w hK_w hP (DD_D (ws := (wD a_w cI cZ Gd_w Fd cd tc_w ++ [cC (a_w 7) cI (ccG g_w), cT (a_w 8) cI tt, cG (a_w 9) cL gg, cT q62 cI ww])) hDD) hS_w 7 rfl rfl (by decide) (by decide) rfl dL_checks_316 (fun H locs_w hP hS_w => ?_)
                          refine lv_aload_n hx hb_w dL_checks_317 rfl (lv_at hl 4 rfl) ?_
                          refine lv_bipush (v := 7) hx hb_w dL_checks_318 (by decide) ?_
                          refine lv_iload_n hx hb_w dL_checks_320 rfl (lv_at hl 2 rfl) ?_
                          refine asC (j := 7) (h := (upd (ccG g_w) 9 r9)) (v := nI i_w) (wD a_w cI cZ Gd_w Fd cd tc_w ++ [cC (a_w 7) cI (upd (upd (ccG g_w) 9 r9) 7 (nI i_w)), cT (a_w 8) cI tt, cG (a_w 9) cL gg, cT q62 cI ww]) hx hb_w hK_w hP (DD_D (ws := (wD a_w cI cZ Gd_w Fd cd tc_w ++ [cC (a_w 7) cI (upd (ccG g_w) 9 r9), cT (a_w 8) cI tt, cG (a_w 9) cL gg, cT q62 cI ww])) hDD) hS_w 7 rfl rfl (by decide) (by decide) rfl dL_checks_321 (fun H locs_w hP hS_w => ?_)
                          refine lv_aload_n hx hb_w dL_checks_322 rfl (lv_at hl 4 rfl) ?_
                          refine lv_bipush (v := 8) hx hb_w dL_checks_323 (by decide) ?_
                          refine lv_iload hx hb_w dL_checks_325 (lv_at hl 0 rfl) ?_
                          refine asC (j := 8) (h := (upd (upd (ccG g_w) 9 r9) 7 (nI i_w))) (v := t9) (wD a_w cI cZ Gd_w Fd cd tc_w ++ [cC (a_w 7) cI (upd (upd (upd (ccG g_w) 9 r9) 7 (nI i_w)) 8 t9), cT (a_w 8) cI tt, cG (a_w 9) cL gg, cT q62 cI ww]) hx hb_w hK_w hP (DD_D (ws := (wD a_w cI cZ Gd_w Fd cd tc_w ++ [cC (a_w 7) cI (upd (upd (ccG g_w) 9 r9) 7 (nI i_w)), cT (a_w 8) cI tt, cG (a_w 9) cL gg, cT q62 cI ww])) hDD) hS_w 7 rfl rfl (by decide) (by decide) rfl dL_checks_327 (fun H locs_w hP hS_w => ?_)
                          have j360 : W p_w l e_w { frames := 9, cells := 2, slots := 66, locals := 156 } s_w m_w args_w below meth_w c_w H locs_w 2 66 Q (F0 m_w 360 ls [.int (bI s9)]) := by
                            refine lv_istore (lv' := [(11, .int (bI s9)), (10, .int t9), (0, .ref (a_w 0)), (1, .int (nI i_w)), (2, .int (nI b_w)), (3, .ref (a_w 7)), (4, .int (nI N_w)), (5, .int (g_w 8)), (6, .int (bI y_w)), (7, .ref q62), (8, .int (nI (N1 + m9_w))), (9, .int 1)]) hx hb_w dL_checks_360 hl (by decide) rfl (fun ls hl => ?_)
                            refine lv_aload_n hx hb_w dL_checks_362 rfl (lv_at hl 5 rfl) ?_
                            refine lv_bipush (v := 9) hx hb_w dL_checks_363 (by decide) ?_
                            have j378 : W p_w l e_w { frames := 9, cells := 2, slots := 66, locals := 156 } s_w m_w args_w below meth_w c_w H locs_w 2 66 Q (F0 m_w 378 ls [.int (if s9 = true then 0 else r9), .int 9, .ref (a_w 7)]) := by
                              refine asC (j := 9) (h := (upd (upd (upd (ccG g_w) 9 r9) 7 (nI i_w)) 8 t9)) (v := if s9 = true then 0 else r9) (wD a_w cI cZ Gd_w Fd cd tc_w ++ [cC (a_w 7) cI (upd (upd (upd (upd (ccG g_w) 9 r9) 7 (nI i_w)) 8 t9) 9 (if s9 = true then 0 else r9)), cT (a_w 8) cI tt, cG (a_w 9) cL gg, cT q62 cI ww]) hx hb_w hK_w hP (DD_D (ws := (wD a_w cI cZ Gd_w Fd cd tc_w ++ [cC (a_w 7) cI (upd (upd (upd (ccG g_w) 9 r9) 7 (nI i_w)) 8 t9), cT (a_w 8) cI tt, cG (a_w 9) cL gg, cT q62 cI ww])) hDD) hS_w 7 rfl rfl (by decide) (by decide) rfl dL_checks_378 (fun H locs_w hP hS_w => ?_)
                              have j393 : W p_w l e_w { frames := 9, cells := 2, slots := 66, locals := 156 } s_w m_w args_w below meth_w c_w H locs_w 2 66 Q (F0 m_w 393 ls [.int (if N_w ≤ i_w + b_w then 0 else g_w 8)]) := by
                                refine lv_istore (lv' := [(12, .int (if N_w ≤ i_w + b_w then 0 else g_w 8)), (11, .int (bI s9)), (10, .int t9), (0, .ref (a_w 0)), (1, .int (nI i_w)), (2, .int (nI b_w)), (3, .ref (a_w 7)), (4, .int (nI N_w)), (5, .int (g_w 8)), (6, .int (bI y_w)), (7, .ref q62), (8, .int (nI (N1 + m9_w))), (9, .int 1)]) hx hb_w dL_checks_393 hl (by decide) rfl (fun ls hl => ?_)
                                refine lv_iload hx hb_w dL_checks_395 (lv_at hl 0 rfl) ?_
                                have j408 : W p_w l e_w { frames := 9, cells := 2, slots := 66, locals := 156 } s_w m_w args_w below meth_w c_w H locs_w 2 66 Q (F0 m_w 408 ls [.int (if s9 = true then t9 else 0), .int (if N_w ≤ i_w + b_w then 0 else g_w 8)]) := by
                                  refine lv_iadd hx hb_w dL_checks_408 ?_
                                  refine top_eq (z := c8_w) ec8.symm ?_
                                  refine lv_istore (lv' := [(12, .int c8_w), (11, .int (bI s9)), (10, .int t9), (0, .ref (a_w 0)), (1, .int (nI i_w)), (2, .int (nI b_w)), (3, .ref (a_w 7)), (4, .int (nI N_w)), (5, .int (g_w 8)), (6, .int (bI y_w)), (7, .ref q62), (8, .int (nI (N1 + m9_w))), (9, .int 1)]) hx hb_w dL_checks_409 hl (by decide) rfl (fun ls hl => ?_)
                                  have j439 : W p_w l e_w { frames := 9, cells := 2, slots := 66, locals := 156 } s_w m_w args_w below meth_w c_w H locs_w 2 66 Q (F0 m_w 439 ls [.int (bI (decide (0 < m9_w)))]) := by
                                    refine lv_istore (lv' := [(13, .int (bI (decide (0 < m9_w)))), (12, .int c8_w), (11, .int (bI s9)), (10, .int t9), (0, .ref (a_w 0)), (1, .int (nI i_w)), (2, .int (nI b_w)), (3, .ref (a_w 7)), (4, .int (nI N_w)), (5, .int (g_w 8)), (6, .int (bI y_w)), (7, .ref q62), (8, .int (nI (N1 + m9_w))), (9, .int 1)]) hx hb_w dL_checks_439 hl (by decide) rfl (fun ls hl => ?_)
                                    refine lv_iload hx hb_w dL_checks_441 (lv_at hl 13 rfl) ?_
                                    refine lv_if_eq (tgt := 468) hx hb_w dL_checks_443 (by decide) (fun c443 => ?_) (fun c443 => ?_)
                                    · exact absurd c443 (by decide)
                                    refine lv_aload_n hx hb_w dL_checks_446 rfl (lv_at hl 4 rfl) ?_
                                    refine rdr_V (As := []) (rest := []) ⟨hx, hb_w, hml, hown, hts⟩ (kX1_shift l G_w a_w cI cZ Gd_w Fd cd tc_w) (cwV 0 hts gL_checks_X1_shift rfl rfl rfl (by decide +kernel) ⟨Nat.le_of_ble_eq_true rfl, Nat.le_of_ble_eq_true rfl⟩) (va_recv hK_w hP (ci := 1) (q0 := 0) rfl rfl) (hP.sub [0, 1, 2, 3, 4, 5, 6] rfl) (hK_w.sub (tys' := tyIZ cI cZ) [0, 1] rfl) rfl hl.1 rfl (Nat.le_of_ble_eq_true rfl) dL_checks_447  ⟨Nat.le_of_ble_eq_true rfl, Nat.le_of_ble_eq_true rfl⟩ (fun r447 h447 => ?_)
                                    replace h447 : r447 = Gd_w 8 := h447
                                    subst h447
                                    have j461 : W p_w l e_w { frames := 9, cells := 2, slots := 66, locals := 156 } s_w m_w args_w below meth_w c_w H locs_w 2 66 Q (F0 m_w 461 ls [.int (if decide (0 < m9_w) = true then 0 else c8_w), .int (Gd_w 8)]) := by
                                      refine lv_icmp_ne (tgt := 468) hx hb_w dL_checks_461 (by decide) (fun c461 => ?_) (fun c461 => ?_)
                                      · exact absurd (hG8.trans (by simp)) c461
                                      refine lv_iconst (v := 1) hx hb_w dL_checks_464 (by decide) ?_
                                      refine lv_goto (tgt := 469) hx hb_w dL_checks_465 (by decide) ?_
                                      refine lv_istore (lv' := [(9, .int 1), (13, .int (bI (decide (0 < m9_w)))), (12, .int c8_w), (11, .int (bI s9)), (10, .int t9), (0, .ref (a_w 0)), (1, .int (nI i_w)), (2, .int (nI b_w)), (3, .ref (a_w 7)), (4, .int (nI N_w)), (5, .int (g_w 8)), (6, .int (bI y_w)), (7, .ref q62), (8, .int (nI (N1 + m9_w)))]) hx hb_w dL_checks_469 hl (by decide) rfl (fun ls hl => ?_)
                                      refine lv_iload hx hb_w dL_checks_471 (lv_at hl 9 rfl) ?_
                                      refine lv_istore (lv' := [(14, .int (nI N_w)), (9, .int 1), (13, .int (bI (decide (0 < m9_w)))), (12, .int c8_w), (11, .int (bI s9)), (10, .int t9), (0, .ref (a_w 0)), (1, .int (nI i_w)), (2, .int (nI b_w)), (3, .ref (a_w 7)), (4, .int (nI N_w)), (5, .int (g_w 8)), (6, .int (bI y_w)), (7, .ref q62), (8, .int (nI (N1 + m9_w)))]) hx hb_w dL_checks_473 hl (by decide) rfl (fun ls hl => ?_)
                                      have loop475 : ∀ (n_w : Nat) (k_w : Nat), N_w ≤ k_w → k_w ≤ N1 + m9_w → N1 + m9_w - k_w < n_w → ∀ (H : Heap) (locs_w : List Loc), va_P G_w vwCl (wD a_w cI cZ Gd_w Fd cd tc_w ++ [cC (a_w 7) cI (upd (upd (upd (upd (ccG g_w) 9 r9) 7 (nI i_w)) 8 t9) 9 (if s9 = true then 0 else r9)), cT (a_w 8) cI tt, cG (a_w 9) cL gg, cT q62 cI ww]) H → va_S (aS a_w 10 s_w.heap.size) s_w.heap H locs_w → ∀ (ls : Array Slot), lv_has ls 16 [(0, .ref (a_w 0)), (1, .int (nI i_w)), (2, .int (nI b_w)), (3, .ref (a_w 7)), (4, .int (nI N_w)), (5, .int (g_w 8)), (6, .int (bI y_w)), (7, .ref q62), (8, .int (nI (N1 + m9_w))), (9, .int 1), (10, .int t9), (11, .int (bI s9)), (12, .int c8_w), (13, .int (bI (decide (0 < m9_w)))), (14, .int (nI k_w))] → W p_w l e_w { frames := 9, cells := 2, slots := 66, locals := 156 } s_w m_w args_w below meth_w c_w H locs_w 2 66 Q (F0 m_w 475 ls []) := by
                                        intro n_w
                                        induction n_w with
                                        | zero => intro k_w hk0 hk hn; intros; exact absurd hn (Nat.not_lt_zero _)
                                        | succ n_w ih475 =>
                                          intro k_w hk0 hk hn H locs_w hP hS_w ls hl
                                          refine lv_iload hx hb_w dL_checks_475 (lv_at hl 14 rfl) ?_
                                          refine lv_iload hx hb_w dL_checks_477 (lv_at hl 8 rfl) ?_
                                          refine lv_icmp_ge (tgt := 594) hx hb_w dL_checks_479 (by decide) (fun c479 => ?_) (fun c479 => ?_)
                                          · have ek : k_w = N1 + m9_w := by have := le_nI (a := N1 + m9_w) (b := k_w) (by omega) (by omega) c479; omega
                                            refine lv_iload hx hb_w dL_checks_594 (lv_at hl 9 rfl) ?_
                                            refine lv_if_eq (tgt := 633) hx hb_w dL_checks_596 (by decide) (fun c596 => ?_) (fun c596 => ?_)
                                            · exact absurd c596 (by decide)
                                            refine lv_iload hx hb_w dL_checks_599 (lv_at hl 8 rfl) ?_
                                            refine lv_sipush (v := 200) hx hb_w dL_checks_601 (by decide) ?_
                                            refine lv_icmp_eq (tgt := 629) hx hb_w dL_checks_604 (by decide) (fun c604 => ?_) (fun c604 => ?_)
                                            · refine lv_iconst (v := 1) hx hb_w dL_checks_629 (by decide) ?_
                                              refine lv_goto (tgt := 634) hx hb_w dL_checks_630 (by decide) ?_
                                              have hcc := cc_ci (g := g_w) (G := Gd_w) (r := r9) (t := t9) (v := if s9 = true then 0 else r9) (i := i_w) hGq hG9 hG10 hG11
                                              rw [hcc] at hP
                                              exact hret 1 (Gd_w, Fd, cd, tc_w) 634 _ _ _ _ _ (Nat.le_of_ble_eq_true rfl) (Nat.le_of_ble_eq_true rfl) dL_checks_634 rfl (hP.sub [0, 1, 2, 3, 4, 5, 6, 7, 8, 9] rfl) hS_w ⟨rfl, by rw [if_pos hall]⟩
                                            refine lv_aload_n hx hb_w dL_checks_607 rfl (lv_at hl 3 rfl) ?_
                                            refine lv_aload_n hx hb_w dL_checks_608 rfl (lv_at hl 0 rfl) ?_
                                            refine lv_iload hx hb_w dL_checks_609 (lv_at hl 8 rfl) ?_
                                            refine lv_iconst (v := 1) hx hb_w dL_checks_611 (by decide) ?_
                                            refine lv_isub hx hb_w dL_checks_612 ?_
                                            refine top_eq (z := nI (N1 + m9_w - 1)) (pk_sub (b := 1) (by omega)) ?_
                                            refine rdr_V (As := [.int (nI (N1 + m9_w - 1))]) (rest := [.ref (a_w 7)]) ⟨hx, hb_w, hml, hown, hts⟩ (kX1_dayOf_n l G_w a_w cI cZ Gd_w Fd cd tc_w (N1 + m9_w - 1) (N1 + m9_w) hG7 (by omega) hT2) (cwV 1 hts gL_checks_X1_dayOf rfl rfl rfl (by decide +kernel) ⟨Nat.le_of_ble_eq_true rfl, Nat.le_of_ble_eq_true rfl⟩) (va_recv hK_w hP (ci := 1) (q0 := 0) rfl rfl) (hP.sub [0, 1, 2, 3, 4, 5, 6] rfl) (hK_w.sub (tys' := tyIZ cI cZ) [0, 1] rfl) rfl hl.1 rfl (Nat.le_of_ble_eq_true rfl) dL_checks_613  ⟨Nat.le_of_ble_eq_true rfl, Nat.le_of_ble_eq_true rfl⟩ (fun r613 h613 => ?_)
                                            replace h613 : r613 = (Fd 0) (N1 + m9_w - 1) := h613
                                            subst h613
                                            refine lv_aload_n hx hb_w dL_checks_616 rfl (lv_at hl 0 rfl) ?_
                                            refine rdr_V (As := []) (rest := [.int ((Fd 0) (N1 + m9_w - 1)), .ref (a_w 7)]) ⟨hx, hb_w, hml, hown, hts⟩ (kX1_shift l G_w a_w cI cZ Gd_w Fd cd tc_w) (cwV 0 hts gL_checks_X1_shift rfl rfl rfl (by decide +kernel) ⟨Nat.le_of_ble_eq_true rfl, Nat.le_of_ble_eq_true rfl⟩) (va_recv hK_w hP (ci := 1) (q0 := 0) rfl rfl) (hP.sub [0, 1, 2, 3, 4, 5, 6] rfl) (hK_w.sub (tys' := tyIZ cI cZ) [0, 1] rfl) rfl hl.1 rfl (Nat.le_of_ble_eq_true rfl) dL_checks_617  ⟨Nat.le_of_ble_eq_true rfl, Nat.le_of_ble_eq_true rfl⟩ (fun r617 h617 => ?_)
                                            replace h617 : r617 = Gd_w 8 := h617
                                            subst h617
                                            refine rdr_S (As := [.ref (a_w 7), .int ((Fd 0) (N1 + m9_w - 1)), .int (Gd_w 8)]) (rest := []) ⟨hx, hb_w, hml, hown, hts⟩ (kL_next l G_w cI cZ cL (a_w 7) (upd (upd (upd (upd (ccG g_w) 9 r9) 7 (nI i_w)) 8 t9) 9 (if s9 = true then 0 else r9)) g_w rfl rfl ((Fd 0) (N1 + m9_w - 1)) (Gd_w 8) hp (inv_DY hIci hG7 hT2 (by omega)) (by rw [hG8]; split; exact SH_0; exact hsh8)) (va_cwS 3 hts gL_checks_L_next rfl rfl rfl (by decide +kernel) ⟨Nat.le_of_ble_eq_true rfl, Nat.le_of_ble_eq_true rfl⟩) (hP.sub [7] rfl) hK_w rfl hl.1 rfl (Nat.le_of_ble_eq_true rfl) dL_checks_620  ⟨Nat.le_of_ble_eq_true rfl, Nat.le_of_ble_eq_true rfl⟩ (fun r620 h620 => ?_)
                                            replace h620 : r620 = nxL g_w ((Fd 0) (N1 + m9_w - 1)) (Gd_w 8) := h620
                                            subst h620
                                            refine lv_aload_n hx hb_w dL_checks_623 rfl (lv_at hl 3 rfl) ?_
                                            refine lv_iconst (v := 0) hx hb_w dL_checks_624 (by decide) ?_
                                            refine arC (j := 0) (h := (upd (upd (upd (upd (ccG g_w) 9 r9) 7 (nI i_w)) 8 t9) 9 (if s9 = true then 0 else r9))) hx hb_w hK_w hP 7 rfl rfl (by decide) (by decide) dL_checks_625 ?_
                                            refine top_eq (z := g_w 0) rfl ?_
                                            refine lv_icmp_le (tgt := 633) hx hb_w dL_checks_626 (by decide) (fun c626 => ?_) (fun c626 => ?_)
                                            · exact absurd (hend.resolve_left (fun y_w => c604 (by rw [y_w]; rfl))) (Int32.not_lt.mpr c626)
                                            refine lv_iconst (v := 1) hx hb_w dL_checks_629 (by decide) ?_
                                            refine lv_goto (tgt := 634) hx hb_w dL_checks_630 (by decide) ?_
                                            have hcc := cc_ci (g := g_w) (G := Gd_w) (r := r9) (t := t9) (v := if s9 = true then 0 else r9) (i := i_w) hGq hG9 hG10 hG11
                                            rw [hcc] at hP
                                            exact hret 1 (Gd_w, Fd, cd, tc_w) 634 _ _ _ _ _ (Nat.le_of_ble_eq_true rfl) (Nat.le_of_ble_eq_true rfl) dL_checks_634 rfl (hP.sub [0, 1, 2, 3, 4, 5, 6, 7, 8, 9] rfl) hS_w ⟨rfl, by rw [if_pos hall]⟩
                                          have hkT : k_w < N1 + m9_w := nle_nI (by omega) (by omega) c479
                                          obtain ⟨hd1, hd2⟩ := hday k_w hk0 hkT
                                          have hgap : i_w + b_w < k_w → Fd 0 k_w ≤ g_w 0 := fun y_w => hd2.resolve_left (by omega)
                                          refine lv_iload hx hb_w dL_checks_482 (lv_at hl 9 rfl) ?_
                                          refine lv_if_eq (tgt := 594) hx hb_w dL_checks_484 (by decide) (fun c484 => ?_) (fun c484 => ?_)
                                          · exact absurd c484 (by decide)
                                          have j536 : W p_w l e_w { frames := 9, cells := 2, slots := 66, locals := 156 } s_w m_w args_w below meth_w c_w H locs_w 2 66 Q (F0 m_w 536 ls [.int (if k_w = N_w ∧ N_w ≤ i_w + b_w then g_w 8 else if k_w = N1 then c8_w else 0)]) := by
                                            refine lv_istore (lv' := [(15, .int (if k_w = N_w ∧ N_w ≤ i_w + b_w then g_w 8 else if k_w = N1 then c8_w else 0)), (0, .ref (a_w 0)), (1, .int (nI i_w)), (2, .int (nI b_w)), (3, .ref (a_w 7)), (4, .int (nI N_w)), (5, .int (g_w 8)), (6, .int (bI y_w)), (7, .ref q62), (8, .int (nI (N1 + m9_w))), (9, .int 1), (10, .int t9), (11, .int (bI s9)), (12, .int c8_w), (13, .int (bI (decide (0 < m9_w)))), (14, .int (nI k_w))]) hx hb_w dL_checks_536 hl (by decide) rfl (fun ls hl => ?_)
                                            refine lv_aload_n hx hb_w dL_checks_538 rfl (lv_at hl 1 rfl) ?_
                                            refine lv_iload hx hb_w dL_checks_539 (lv_at hl 15 rfl) ?_
                                            refine rdr_V (As := [.int (nI k_w)]) (rest := []) ⟨hx, hb_w, hml, hown, hts⟩ (kX1_dayOf_n l G_w a_w cI cZ Gd_w Fd cd tc_w k_w (N1 + m9_w) hG7 hkT hT2) (cwV 1 hts gL_checks_X1_dayOf rfl rfl rfl (by decide +kernel) ⟨Nat.le_of_ble_eq_true rfl, Nat.le_of_ble_eq_true rfl⟩) (va_recv hK_w hP (ci := 1) (q0 := 0) rfl rfl) (hP.sub [0, 1, 2, 3, 4, 5, 6] rfl) (hK_w.sub (tys' := tyIZ cI cZ) [0, 1] rfl) rfl hl.1 rfl (Nat.le_of_ble_eq_true rfl) dL_checks_541  ⟨Nat.le_of_ble_eq_true rfl, Nat.le_of_ble_eq_true rfl⟩ (fun r541 h541 => ?_)
                                            replace h541 : r541 = (Fd 0) k_w := h541
                                            subst h541
                                            refine lv_aload_n hx hb_w dL_checks_544 rfl (lv_at hl 4 rfl) ?_
                                            refine lv_aload_n hx hb_w dL_checks_545 rfl (lv_at hl 1 rfl) ?_
                                            refine lv_iload hx hb_w dL_checks_546 (lv_at hl 15 rfl) ?_
                                            refine lv_iconst (v := 1) hx hb_w dL_checks_548 (by decide) ?_
                                            refine lv_isub hx hb_w dL_checks_549 ?_
                                            refine top_eq (z := nI (k_w - 1)) (pk_sub (b := 1) (by omega)) ?_
                                            refine rdr_V (As := [.int (nI (k_w - 1))]) (rest := [.ref (a_w 7), .int ((Fd 0) k_w)]) ⟨hx, hb_w, hml, hown, hts⟩ (kX1_dayOf_n l G_w a_w cI cZ Gd_w Fd cd tc_w (k_w - 1) (N1 + m9_w) hG7 (by omega) hT2) (cwV 1 hts gL_checks_X1_dayOf rfl rfl rfl (by decide +kernel) ⟨Nat.le_of_ble_eq_true rfl, Nat.le_of_ble_eq_true rfl⟩) (va_recv hK_w hP (ci := 1) (q0 := 0) rfl rfl) (hP.sub [0, 1, 2, 3, 4, 5, 6] rfl) (hK_w.sub (tys' := tyIZ cI cZ) [0, 1] rfl) rfl hl.1 rfl (Nat.le_of_ble_eq_true rfl) dL_checks_550  ⟨Nat.le_of_ble_eq_true rfl, Nat.le_of_ble_eq_true rfl⟩ (fun r550 h550 => ?_)
                                            replace h550 : r550 = (Fd 0) (k_w - 1) := h550
                                            subst h550
                                            refine lv_iload hx hb_w dL_checks_553 (lv_at hl 0 rfl) ?_
                                            refine rdr_S (As := [.ref (a_w 7), .int ((Fd 0) (k_w - 1)), .int (if k_w = N_w ∧ N_w ≤ i_w + b_w then g_w 8 else if k_w = N1 then c8_w else 0)]) (rest := [.int ((Fd 0) k_w)]) ⟨hx, hb_w, hml, hown, hts⟩ (kL_next l G_w cI cZ cL (a_w 7) (upd (upd (upd (upd (ccG g_w) 9 r9) 7 (nI i_w)) 8 t9) 9 (if s9 = true then 0 else r9)) g_w rfl rfl ((Fd 0) (k_w - 1)) (if k_w = N_w ∧ N_w ≤ i_w + b_w then g_w 8 else if k_w = N1 then c8_w else 0) hp (inv_DY hIci hG7 hT2 (by omega)) (by split; exact hs8; split; exact hsh8; exact SH_0)) (va_cwS 3 hts gL_checks_L_next rfl rfl rfl (by decide +kernel) ⟨Nat.le_of_ble_eq_true rfl, Nat.le_of_ble_eq_true rfl⟩) (hP.sub [7] rfl) hK_w rfl hl.1 rfl (Nat.le_of_ble_eq_true rfl) dL_checks_555  ⟨Nat.le_of_ble_eq_true rfl, Nat.le_of_ble_eq_true rfl⟩ (fun r555 h555 => ?_)
                                            replace h555 : r555 = nxL g_w ((Fd 0) (k_w - 1)) (if k_w = N_w ∧ N_w ≤ i_w + b_w then g_w 8 else if k_w = N1 then c8_w else 0) := h555
                                            subst h555
                                            refine lv_icmp_ne (tgt := 585) hx hb_w dL_checks_558 (by decide) (fun c558 => ?_) (fun c558 => ?_)
                                            · exact absurd hd1 c558
                                            refine lv_iload hx hb_w dL_checks_561 (lv_at hl 15 rfl) ?_
                                            refine lv_iload_n hx hb_w dL_checks_563 rfl (lv_at hl 2 rfl) ?_
                                            refine lv_iload_n hx hb_w dL_checks_564 rfl (lv_at hl 3 rfl) ?_
                                            refine lv_iadd hx hb_w dL_checks_565 ?_
                                            refine top_eq (z := nI (i_w + b_w)) (nI_add _ _) ?_
                                            refine lv_icmp_le (tgt := 581) hx hb_w dL_checks_566 (by decide) (fun c566 => ?_) (fun c566 => ?_)
                                            · refine lv_iconst (v := 1) hx hb_w dL_checks_581 (by decide) ?_
                                              refine lv_goto (tgt := 586) hx hb_w dL_checks_582 (by decide) ?_
                                              refine lv_istore (lv' := [(9, .int 1), (15, .int (if k_w = N_w ∧ N_w ≤ i_w + b_w then g_w 8 else if k_w = N1 then c8_w else 0)), (0, .ref (a_w 0)), (1, .int (nI i_w)), (2, .int (nI b_w)), (3, .ref (a_w 7)), (4, .int (nI N_w)), (5, .int (g_w 8)), (6, .int (bI y_w)), (7, .ref q62), (8, .int (nI (N1 + m9_w))), (10, .int t9), (11, .int (bI s9)), (12, .int c8_w), (13, .int (bI (decide (0 < m9_w)))), (14, .int (nI k_w))]) hx hb_w dL_checks_586 hl (by decide) rfl (fun ls hl => ?_)
                                              refine lv_iinc (v := nI (k_w + 1)) (lv' := [(14, .int (nI (k_w + 1))), (9, .int 1), (15, .int (if k_w = N_w ∧ N_w ≤ i_w + b_w then g_w 8 else if k_w = N1 then c8_w else 0)), (0, .ref (a_w 0)), (1, .int (nI i_w)), (2, .int (nI b_w)), (3, .ref (a_w 7)), (4, .int (nI N_w)), (5, .int (g_w 8)), (6, .int (bI y_w)), (7, .ref q62), (8, .int (nI (N1 + m9_w))), (10, .int t9), (11, .int (bI s9)), (12, .int c8_w), (13, .int (bI (decide (0 < m9_w))))]) hx hb_w dL_checks_588 hl (k := 15) rfl (nI_1 _) (by decide) rfl (fun ls hl => ?_)
                                              refine lv_goto (tgt := 475) hx hb_w dL_checks_591 (by decide) ?_
                                              exact ih475 (k_w + 1) (by omega) (by omega) (by omega) _ _ hP hS_w _ (lv_sub hl [3, 4, 5, 6, 7, 8, 9, 10, 11, 1, 12, 13, 14, 15, 0] rfl)
                                            refine lv_aload_n hx hb_w dL_checks_569 rfl (lv_at hl 1 rfl) ?_
                                            refine lv_iload hx hb_w dL_checks_570 (lv_at hl 15 rfl) ?_
                                            refine rdr_V (As := [.int (nI k_w)]) (rest := []) ⟨hx, hb_w, hml, hown, hts⟩ (kX1_dayOf_n l G_w a_w cI cZ Gd_w Fd cd tc_w k_w (N1 + m9_w) hG7 hkT hT2) (cwV 1 hts gL_checks_X1_dayOf rfl rfl rfl (by decide +kernel) ⟨Nat.le_of_ble_eq_true rfl, Nat.le_of_ble_eq_true rfl⟩) (va_recv hK_w hP (ci := 1) (q0 := 0) rfl rfl) (hP.sub [0, 1, 2, 3, 4, 5, 6] rfl) (hK_w.sub (tys' := tyIZ cI cZ) [0, 1] rfl) rfl hl.1 rfl (Nat.le_of_ble_eq_true rfl) dL_checks_572  ⟨Nat.le_of_ble_eq_true rfl, Nat.le_of_ble_eq_true rfl⟩ (fun r572 h572 => ?_)
                                            replace h572 : r572 = (Fd 0) k_w := h572
                                            subst h572
                                            refine lv_aload_n hx hb_w dL_checks_575 rfl (lv_at hl 4 rfl) ?_
                                            refine lv_iconst (v := 0) hx hb_w dL_checks_576 (by decide) ?_
                                            refine arC (j := 0) (h := (upd (upd (upd (upd (ccG g_w) 9 r9) 7 (nI i_w)) 8 t9) 9 (if s9 = true then 0 else r9))) hx hb_w hK_w hP 7 rfl rfl (by decide) (by decide) dL_checks_577 ?_
                                            refine top_eq (z := g_w 0) rfl ?_
                                            refine lv_icmp_gt (tgt := 585) hx hb_w dL_checks_578 (by decide) (fun c578 => ?_) (fun c578 => ?_)
                                            · exact absurd (hgap (nle_nI (by omega) (by omega) c566)) (Int32.not_le.mpr c578)
                                            refine lv_iconst (v := 1) hx hb_w dL_checks_581 (by decide) ?_
                                            refine lv_goto (tgt := 586) hx hb_w dL_checks_582 (by decide) ?_
                                            refine lv_istore (lv' := [(9, .int 1), (15, .int (if k_w = N_w ∧ N_w ≤ i_w + b_w then g_w 8 else if k_w = N1 then c8_w else 0)), (0, .ref (a_w 0)), (1, .int (nI i_w)), (2, .int (nI b_w)), (3, .ref (a_w 7)), (4, .int (nI N_w)), (5, .int (g_w 8)), (6, .int (bI y_w)), (7, .ref q62), (8, .int (nI (N1 + m9_w))), (10, .int t9), (11, .int (bI s9)), (12, .int c8_w), (13, .int (bI (decide (0 < m9_w)))), (14, .int (nI k_w))]) hx hb_w dL_checks_586 hl (by decide) rfl (fun ls hl => ?_)
                                            refine lv_iinc (v := nI (k_w + 1)) (lv' := [(14, .int (nI (k_w + 1))), (9, .int 1), (15, .int (if k_w = N_w ∧ N_w ≤ i_w + b_w then g_w 8 else if k_w = N1 then c8_w else 0)), (0, .ref (a_w 0)), (1, .int (nI i_w)), (2, .int (nI b_w)), (3, .ref (a_w 7)), (4, .int (nI N_w)), (5, .int (g_w 8)), (6, .int (bI y_w)), (7, .ref q62), (8, .int (nI (N1 + m9_w))), (10, .int t9), (11, .int (bI s9)), (12, .int c8_w), (13, .int (bI (decide (0 < m9_w))))]) hx hb_w dL_checks_588 hl (k := 15) rfl (nI_1 _) (by decide) rfl (fun ls hl => ?_)
                                            refine lv_goto (tgt := 475) hx hb_w dL_checks_591 (by decide) ?_
                                            exact ih475 (k_w + 1) (by omega) (by omega) (by omega) _ _ hP hS_w _ (lv_sub hl [3, 4, 5, 6, 7, 8, 9, 10, 11, 1, 12, 13, 14, 15, 0] rfl)
                                          refine lv_iload hx hb_w dL_checks_487 (lv_at hl 14 rfl) ?_
                                          refine lv_iload hx hb_w dL_checks_489 (lv_at hl 4 rfl) ?_
                                          refine lv_icmp_ne (tgt := 507) hx hb_w dL_checks_491 (by decide) (fun c491 => ?_) (fun c491 => ?_)
                                          · refine lv_iload hx hb_w dL_checks_507 (lv_at hl 14 rfl) ?_
                                            have j527 : W p_w l e_w { frames := 9, cells := 2, slots := 66, locals := 156 } s_w m_w args_w below meth_w c_w H locs_w 2 66 Q (F0 m_w 527 ls [.int (nI N1), .int (nI k_w)]) := by
                                              refine lv_icmp_ne (tgt := 535) hx hb_w dL_checks_527 (by decide) (fun c527 => ?_) (fun c527 => ?_)
                                              · refine lv_iconst (v := 0) hx hb_w dL_checks_535 (by decide) ?_
                                                refine top_eq (z := if k_w = N_w ∧ N_w ≤ i_w + b_w then g_w 8 else if k_w = N1 then c8_w else 0) (by rw [if_neg (fun y_w => c491 (by rw [y_w.1])), if_neg (fun y_w => c527 (by rw [y_w]))]) ?_
                                                exact j536
                                              refine lv_iload hx hb_w dL_checks_530 (lv_at hl 12 rfl) ?_
                                              refine lv_goto (tgt := 536) hx hb_w dL_checks_532 (by decide) ?_
                                              refine top_eq (z := if k_w = N_w ∧ N_w ≤ i_w + b_w then g_w 8 else if k_w = N1 then c8_w else 0) (by rw [if_neg (fun y_w => c491 (by rw [y_w.1])), if_pos ((nI_eq (by omega) (by omega)).mp c527)]) ?_
                                              exact j536
                                            refine lv_iload hx hb_w dL_checks_509 (lv_at hl 4 rfl) ?_
                                            refine lv_iload_n hx hb_w dL_checks_511 rfl (lv_at hl 1 rfl) ?_
                                            refine lv_iload_n hx hb_w dL_checks_512 rfl (lv_at hl 2 rfl) ?_
                                            refine lv_iadd hx hb_w dL_checks_513 ?_
                                            refine top_eq (z := nI (i_w + b_w)) (nI_add _ _) ?_
                                            refine lv_icmp_gt (tgt := 525) hx hb_w dL_checks_514 (by decide) (fun c514 => ?_) (fun c514 => ?_)
                                            · refine lv_iload hx hb_w dL_checks_525 (lv_at hl 4 rfl) ?_
                                              refine top_eq (z := nI N1) (by rw [hN1, if_neg (by have := lt_nI (by omega) (by omega) c514; omega)]) ?_
                                              exact j527
                                            refine lv_iload_n hx hb_w dL_checks_517 rfl (lv_at hl 1 rfl) ?_
                                            refine lv_iload_n hx hb_w dL_checks_518 rfl (lv_at hl 2 rfl) ?_
                                            refine lv_iadd hx hb_w dL_checks_519 ?_
                                            refine top_eq (z := nI (i_w + b_w)) (nI_add _ _) ?_
                                            refine lv_iconst (v := 1) hx hb_w dL_checks_520 (by decide) ?_
                                            refine lv_iadd hx hb_w dL_checks_521 ?_
                                            refine top_eq (z := nI (i_w + b_w + 1)) (nI_1 _) ?_
                                            refine lv_goto (tgt := 527) hx hb_w dL_checks_522 (by decide) ?_
                                            refine top_eq (z := nI N1) (by rw [hN1, if_pos (nlt_nI (by omega) (by omega) c514)]) ?_
                                            exact j527
                                          refine lv_iload hx hb_w dL_checks_494 (lv_at hl 4 rfl) ?_
                                          refine lv_iload_n hx hb_w dL_checks_496 rfl (lv_at hl 1 rfl) ?_
                                          refine lv_iload_n hx hb_w dL_checks_497 rfl (lv_at hl 2 rfl) ?_
                                          refine lv_iadd hx hb_w dL_checks_498 ?_
                                          refine top_eq (z := nI (i_w + b_w)) (nI_add _ _) ?_
                                          refine lv_icmp_gt (tgt := 507) hx hb_w dL_checks_499 (by decide) (fun c499 => ?_) (fun c499 => ?_)
                                          · refine lv_iload hx hb_w dL_checks_507 (lv_at hl 14 rfl) ?_
                                            have j527 : W p_w l e_w { frames := 9, cells := 2, slots := 66, locals := 156 } s_w m_w args_w below meth_w c_w H locs_w 2 66 Q (F0 m_w 527 ls [.int (nI N1), .int (nI k_w)]) := by
                                              refine lv_icmp_ne (tgt := 535) hx hb_w dL_checks_527 (by decide) (fun c527 => ?_) (fun c527 => ?_)
                                              · refine lv_iconst (v := 0) hx hb_w dL_checks_535 (by decide) ?_
                                                refine top_eq (z := if k_w = N_w ∧ N_w ≤ i_w + b_w then g_w 8 else if k_w = N1 then c8_w else 0) (by rw [if_neg (fun y_w => by have := lt_nI (a := i_w + b_w) (b := N_w) (by omega) (by omega) c499; omega), if_neg (fun y_w => c527 (by rw [y_w]))]) ?_
                                                exact j536
                                              refine lv_iload hx hb_w dL_checks_530 (lv_at hl 12 rfl) ?_
                                              refine lv_goto (tgt := 536) hx hb_w dL_checks_532 (by decide) ?_
                                              refine top_eq (z := if k_w = N_w ∧ N_w ≤ i_w + b_w then g_w 8 else if k_w = N1 then c8_w else 0) (by rw [if_neg (fun y_w => by have := lt_nI (a := i_w + b_w) (b := N_w) (by omega) (by omega) c499; omega), if_pos ((nI_eq (by omega) (by omega)).mp c527)]) ?_
                                              exact j536
                                            refine lv_iload hx hb_w dL_checks_509 (lv_at hl 4 rfl) ?_
                                            refine lv_iload_n hx hb_w dL_checks_511 rfl (lv_at hl 1 rfl) ?_
                                            refine lv_iload_n hx hb_w dL_checks_512 rfl (lv_at hl 2 rfl) ?_
                                            refine lv_iadd hx hb_w dL_checks_513 ?_
                                            refine top_eq (z := nI (i_w + b_w)) (nI_add _ _) ?_
                                            refine lv_icmp_gt (tgt := 525) hx hb_w dL_checks_514 (by decide) (fun c514 => ?_) (fun c514 => ?_)
                                            · refine lv_iload hx hb_w dL_checks_525 (lv_at hl 4 rfl) ?_
                                              refine top_eq (z := nI N1) (by rw [hN1, if_neg (by have := lt_nI (by omega) (by omega) c514; omega)]) ?_
                                              exact j527
                                            refine lv_iload_n hx hb_w dL_checks_517 rfl (lv_at hl 1 rfl) ?_
                                            refine lv_iload_n hx hb_w dL_checks_518 rfl (lv_at hl 2 rfl) ?_
                                            refine lv_iadd hx hb_w dL_checks_519 ?_
                                            refine top_eq (z := nI (i_w + b_w)) (nI_add _ _) ?_
                                            refine lv_iconst (v := 1) hx hb_w dL_checks_520 (by decide) ?_
                                            refine lv_iadd hx hb_w dL_checks_521 ?_
                                            refine top_eq (z := nI (i_w + b_w + 1)) (nI_1 _) ?_
                                            refine lv_goto (tgt := 527) hx hb_w dL_checks_522 (by decide) ?_
                                            refine top_eq (z := nI N1) (by rw [hN1, if_pos (nlt_nI (by omega) (by omega) c514)]) ?_
                                            exact j527
                                          refine lv_iload hx hb_w dL_checks_502 (lv_at hl 5 rfl) ?_
                                          refine lv_goto (tgt := 536) hx hb_w dL_checks_504 (by decide) ?_
                                          refine top_eq (z := if k_w = N_w ∧ N_w ≤ i_w + b_w then g_w 8 else if k_w = N1 then c8_w else 0) (by rw [if_pos ⟨(nI_eq (by omega) (by omega)).mp c491, nlt_nI (by omega) (by omega) c499⟩]) ?_
                                          exact j536
                                      exact loop475 (N1 + m9_w + 1) N_w (by omega) (by omega) (by omega) _ _ hP hS_w _ (lv_sub hl [6, 7, 8, 9, 10, 11, 12, 13, 14, 1, 5, 4, 3, 2, 0] rfl)
                                    refine lv_iload hx hb_w dL_checks_450 (lv_at hl 0 rfl) ?_
                                    refine lv_if_eq (tgt := 459) hx hb_w dL_checks_452 (by decide) (fun c452 => ?_) (fun c452 => ?_)
                                    · replace c452 := bI0 c452
                                      refine lv_iload hx hb_w dL_checks_459 (lv_at hl 1 rfl) ?_
                                      refine top_eq (z := if decide (0 < m9_w) = true then 0 else c8_w) (by rw [if_neg (by rw [c452]; decide)]) ?_
                                      exact j461
                                    replace c452 := bIn c452
                                    refine lv_iconst (v := 0) hx hb_w dL_checks_455 (by decide) ?_
                                    refine lv_goto (tgt := 461) hx hb_w dL_checks_456 (by decide) ?_
                                    refine top_eq (z := if decide (0 < m9_w) = true then 0 else c8_w) (by rw [if_pos c452]) ?_
                                    exact j461
                                  refine lv_iload hx hb_w dL_checks_411 (lv_at hl 11 rfl) ?_
                                  have j431 : W p_w l e_w { frames := 9, cells := 2, slots := 66, locals := 156 } s_w m_w args_w below meth_w c_w H locs_w 2 66 Q (F0 m_w 431 ls [.int (nI N1), .int (nI (N1 + m9_w))]) := by
                                    refine lv_icmp_le (tgt := 438) hx hb_w dL_checks_431 (by decide) (fun c431 => ?_) (fun c431 => ?_)
                                    · refine lv_iconst (v := 0) hx hb_w dL_checks_438 (by decide) ?_
                                      refine top_eq (z := bI (decide (0 < m9_w))) (by rw [decide_eq_false (by have := le_nI (a := N1 + m9_w) (b := N1) (by omega) (by omega) c431; omega)]; rfl) ?_
                                      exact j439
                                    refine lv_iconst (v := 1) hx hb_w dL_checks_434 (by decide) ?_
                                    refine lv_goto (tgt := 439) hx hb_w dL_checks_435 (by decide) ?_
                                    refine top_eq (z := bI (decide (0 < m9_w))) (by rw [decide_eq_true (by have := nle_nI (a := N1 + m9_w) (b := N1) (by omega) (by omega) c431; omega)]; rfl) ?_
                                    exact j439
                                  refine lv_iload hx hb_w dL_checks_413 (lv_at hl 7 rfl) ?_
                                  refine lv_iload_n hx hb_w dL_checks_415 rfl (lv_at hl 4 rfl) ?_
                                  refine lv_iload_n hx hb_w dL_checks_416 rfl (lv_at hl 5 rfl) ?_
                                  refine lv_iadd hx hb_w dL_checks_417 ?_
                                  refine top_eq (z := nI (i_w + b_w)) (nI_add _ _) ?_
                                  refine lv_icmp_gt (tgt := 429) hx hb_w dL_checks_418 (by decide) (fun c418 => ?_) (fun c418 => ?_)
                                  · refine lv_iload hx hb_w dL_checks_429 (lv_at hl 7 rfl) ?_
                                    refine top_eq (z := nI N1) (by rw [hN1, if_neg (by have := lt_nI (by omega) (by omega) c418; omega)]) ?_
                                    exact j431
                                  refine lv_iload_n hx hb_w dL_checks_421 rfl (lv_at hl 4 rfl) ?_
                                  refine lv_iload_n hx hb_w dL_checks_422 rfl (lv_at hl 5 rfl) ?_
                                  refine lv_iadd hx hb_w dL_checks_423 ?_
                                  refine top_eq (z := nI (i_w + b_w)) (nI_add _ _) ?_
                                  refine lv_iconst (v := 1) hx hb_w dL_checks_424 (by decide) ?_
                                  refine lv_iadd hx hb_w dL_checks_425 ?_
                                  refine top_eq (z := nI (i_w + b_w + 1)) (nI_1 _) ?_
                                  refine lv_goto (tgt := 431) hx hb_w dL_checks_426 (by decide) ?_
                                  refine top_eq (z := nI N1) (by rw [hN1, if_pos (nlt_nI (by omega) (by omega) c418)]) ?_
                                  exact j431
                                refine lv_iload hx hb_w dL_checks_397 (lv_at hl 1 rfl) ?_
                                refine lv_if_eq (tgt := 407) hx hb_w dL_checks_399 (by decide) (fun c399 => ?_) (fun c399 => ?_)
                                · replace c399 := bI0 c399
                                  refine lv_iconst (v := 0) hx hb_w dL_checks_407 (by decide) ?_
                                  refine top_eq (z := if s9 = true then t9 else 0) (by rw [if_neg (by rw [c399]; decide)]) ?_
                                  exact j408
                                replace c399 := bIn c399
                                refine lv_iload hx hb_w dL_checks_402 (lv_at hl 2 rfl) ?_
                                refine lv_goto (tgt := 408) hx hb_w dL_checks_404 (by decide) ?_
                                refine top_eq (z := if s9 = true then t9 else 0) (by rw [if_pos c399]) ?_
                                exact j408
                              refine lv_iload hx hb_w dL_checks_379 (lv_at hl 6 rfl) ?_
                              refine lv_iload_n hx hb_w dL_checks_381 rfl (lv_at hl 3 rfl) ?_
                              refine lv_iload_n hx hb_w dL_checks_382 rfl (lv_at hl 4 rfl) ?_
                              refine lv_iadd hx hb_w dL_checks_383 ?_
                              refine top_eq (z := nI (i_w + b_w)) (nI_add _ _) ?_
                              refine lv_icmp_gt (tgt := 391) hx hb_w dL_checks_384 (by decide) (fun c384 => ?_) (fun c384 => ?_)
                              · refine lv_iload hx hb_w dL_checks_391 (lv_at hl 7 rfl) ?_
                                refine top_eq (z := if N_w ≤ i_w + b_w then 0 else g_w 8) (by rw [if_neg (by have := lt_nI (by omega) (by omega) c384; omega)]) ?_
                                exact j393
                              refine lv_iconst (v := 0) hx hb_w dL_checks_387 (by decide) ?_
                              refine lv_goto (tgt := 393) hx hb_w dL_checks_388 (by decide) ?_
                              refine top_eq (z := if N_w ≤ i_w + b_w then 0 else g_w 8) (by rw [if_pos (nlt_nI (by omega) (by omega) c384)]) ?_
                              exact j393
                            refine lv_iload hx hb_w dL_checks_365 (lv_at hl 0 rfl) ?_
                            refine lv_if_eq (tgt := 374) hx hb_w dL_checks_367 (by decide) (fun c367 => ?_) (fun c367 => ?_)
                            · replace c367 := bI0 c367
                              refine lv_aload_n hx hb_w dL_checks_374 rfl (lv_at hl 5 rfl) ?_
                              refine lv_bipush (v := 9) hx hb_w dL_checks_375 (by decide) ?_
                              refine arC (j := 9) (h := (upd (upd (upd (ccG g_w) 9 r9) 7 (nI i_w)) 8 t9)) hx hb_w hK_w hP 7 rfl rfl (by decide) (by decide) dL_checks_377 ?_
                              refine top_eq (z := r9) rfl ?_
                              refine top_eq (z := if s9 = true then 0 else r9) (by rw [if_neg (by rw [c367]; decide)]) ?_
                              exact j378
                            replace c367 := bIn c367
                            refine lv_iconst (v := 0) hx hb_w dL_checks_370 (by decide) ?_
                            refine lv_goto (tgt := 378) hx hb_w dL_checks_371 (by decide) ?_
                            refine top_eq (z := if s9 = true then 0 else r9) (by rw [if_pos c367]) ?_
                            exact j378
                          refine lv_aload_n hx hb_w dL_checks_328 rfl (lv_at hl 4 rfl) ?_
                          refine lv_bipush (v := 9) hx hb_w dL_checks_329 (by decide) ?_
                          refine arC (j := 9) (h := (upd (upd (upd (ccG g_w) 9 r9) 7 (nI i_w)) 8 t9)) hx hb_w hK_w hP 7 rfl rfl (by decide) (by decide) dL_checks_331 ?_
                          refine top_eq (z := r9) rfl ?_
                          refine lv_iconst (v := 3) hx hb_w dL_checks_332 (by decide) ?_
                          refine lv_icmp_lt (tgt := 359) hx hb_w dL_checks_333 (by decide) (fun c333 => ?_) (fun c333 => ?_)
                          · refine lv_iconst (v := 0) hx hb_w dL_checks_359 (by decide) ?_
                            refine top_eq (z := bI s9) (by rw [es]; unfold shB okS isW; simp [c333, bI]) ?_
                            exact j360
                          refine lv_iload hx hb_w dL_checks_336 (lv_at hl 0 rfl) ?_
                          refine lv_if_eq (tgt := 359) hx hb_w dL_checks_338 (by decide) (fun c338 => ?_) (fun c338 => ?_)
                          · refine lv_iconst (v := 0) hx hb_w dL_checks_359 (by decide) ?_
                            refine top_eq (z := bI s9) (by rw [es]; unfold shB okS isW; simp [c333, c338, bI]) ?_
                            exact j360
                          refine lv_iload hx hb_w dL_checks_341 (lv_at hl 0 rfl) ?_
                          refine lv_bipush (v := (-15)) hx hb_w dL_checks_343 (by decide) ?_
                          refine lv_icmp_lt (tgt := 359) hx hb_w dL_checks_345 (by decide) (fun c345 => ?_) (fun c345 => ?_)
                          · refine lv_iconst (v := 0) hx hb_w dL_checks_359 (by decide) ?_
                            refine top_eq (z := bI s9) (by rw [es]; unfold shB okS isW; simp [c333, c338, c345, bI]) ?_
                            exact j360
                          refine lv_iload hx hb_w dL_checks_348 (lv_at hl 0 rfl) ?_
                          refine lv_bipush (v := 15) hx hb_w dL_checks_350 (by decide) ?_
                          refine lv_icmp_gt (tgt := 359) hx hb_w dL_checks_352 (by decide) (fun c352 => ?_) (fun c352 => ?_)
                          · refine lv_iconst (v := 0) hx hb_w dL_checks_359 (by decide) ?_
                            refine top_eq (z := bI s9) (by rw [es]; unfold shB okS isW; simp [c333, c338, c345, c352, bI]) ?_
                            exact j360
                          refine lv_iconst (v := 1) hx hb_w dL_checks_355 (by decide) ?_
                          refine lv_goto (tgt := 360) hx hb_w dL_checks_356 (by decide) ?_
                          refine top_eq (z := bI s9) (by rw [es]; unfold shB okS isW; simp [c333, c338, c345, c352, bI]) ?_
                          exact j360
                        refine lv_aload_n hx hb_w dL_checks_281 rfl (lv_at hl 4 rfl) ?_
                        refine lv_bipush (v := 9) hx hb_w dL_checks_282 (by decide) ?_
                        refine arC (j := 9) (h := ccG g_w) hx hb_w hK_w hP 7 rfl rfl (by decide) (by decide) dL_checks_284 ?_
                        refine top_eq (z := g_w 11) rfl ?_
                        refine lv_if_le (tgt := 315) hx hb_w dL_checks_285 (by decide) (fun c285 => ?_) (fun c285 => ?_)
                        · refine lv_iconst (v := 1) hx hb_w dL_checks_315 (by decide) ?_
                          refine top_eq (z := r9) (by rw [er, if_neg (fun y_w => y_w.1 c285)]) ?_
                          exact j316
                        refine lv_aload_n hx hb_w dL_checks_288 rfl (lv_at hl 1 rfl) ?_
                        refine lv_aload_n hx hb_w dL_checks_289 rfl (lv_at hl 4 rfl) ?_
                        refine lv_iload_n hx hb_w dL_checks_290 rfl (lv_at hl 2 rfl) ?_
                        refine rdr_S (As := [.ref (a_w 0), .ref (a_w 7), .int (nI i_w)]) (rest := [.int 9, .ref (a_w 7)]) ⟨hx, hb_w, hml, hown, hts⟩ (kL_follows l G_w a_w cI cZ cL Gd_w Fd cd tc_w g_w i_w (N1 + m9_w) B_w hG7 hT2 hiT hB_w hB2 hst2) (va_cwS 3 hts gL_checks_L_follows rfl rfl rfl (by decide +kernel) ⟨Nat.le_of_ble_eq_true rfl, Nat.le_of_ble_eq_true rfl⟩) (hP.sub [0, 1, 2, 3, 4, 5, 6, 7] rfl) hK_w rfl hl.1 rfl (Nat.le_of_ble_eq_true rfl) dL_checks_291  ⟨Nat.le_of_ble_eq_true rfl, Nat.le_of_ble_eq_true rfl⟩ (fun r291 h291 => ?_)
                        replace h291 : r291 = bI (foM g_w Fd i_w) := h291
                        subst h291
                        refine lv_if_eq (tgt := 315) hx hb_w dL_checks_294 (by decide) (fun c294 => ?_) (fun c294 => ?_)
                        · replace c294 := bI0 c294
                          refine lv_iconst (v := 1) hx hb_w dL_checks_315 (by decide) ?_
                          refine top_eq (z := r9) (by rw [er, if_neg (fun y_w => by rw [c294] at y_w; exact absurd y_w.2.1 (by decide))]) ?_
                          exact j316
                        replace c294 := bIn c294
                        refine lv_iload hx hb_w dL_checks_297 (lv_at hl 0 rfl) ?_
                        refine lv_aload_n hx hb_w dL_checks_299 rfl (lv_at hl 4 rfl) ?_
                        refine lv_bipush (v := 8) hx hb_w dL_checks_300 (by decide) ?_
                        refine arC (j := 8) (h := ccG g_w) hx hb_w hK_w hP 7 rfl rfl (by decide) (by decide) dL_checks_302 ?_
                        refine top_eq (z := g_w 10) rfl ?_
                        refine lv_icmp_ne (tgt := 315) hx hb_w dL_checks_303 (by decide) (fun c303 => ?_) (fun c303 => ?_)
                        · refine lv_iconst (v := 1) hx hb_w dL_checks_315 (by decide) ?_
                          refine top_eq (z := r9) (by rw [er, if_neg (fun y_w => c303 y_w.2.2)]) ?_
                          exact j316
                        refine lv_aload_n hx hb_w dL_checks_306 rfl (lv_at hl 4 rfl) ?_
                        refine lv_bipush (v := 9) hx hb_w dL_checks_307 (by decide) ?_
                        refine arC (j := 9) (h := ccG g_w) hx hb_w hK_w hP 7 rfl rfl (by decide) (by decide) dL_checks_309 ?_
                        refine top_eq (z := g_w 11) rfl ?_
                        refine lv_iconst (v := 1) hx hb_w dL_checks_310 (by decide) ?_
                        refine lv_iadd hx hb_w dL_checks_311 ?_
                        refine lv_goto (tgt := 316) hx hb_w dL_checks_312 (by decide) ?_
                        refine top_eq (z := r9) (by rw [er, if_pos ⟨c285, c294, c303⟩]) ?_
                        exact j316
                      have hkT : k_w < N1 + m9_w := nle_nI (by omega) (by omega) c168
                      refine lv_iload hx hb_w dL_checks_171 (lv_at hl 9 rfl) ?_
                      refine lv_if_eq (tgt := 267) hx hb_w dL_checks_173 (by decide) (fun c173 => ?_) (fun c173 => ?_)
                      · exact absurd c173 (by decide)
                      have j227 : W p_w l e_w { frames := 9, cells := 2, slots := 66, locals := 156 } s_w m_w args_w below meth_w c_w H locs_w 2 66 Q (F0 m_w 227 ls [.int (if k_w = i_w then 1 else if i_w < k_w ∧ k_w ≤ i_w + b_w then 2 else if k_w < N_w ∧ k_w < 60 then f_w 1 k_w else 0)]) := by
                        refine lv_istore (lv' := [(11, .int (if k_w = i_w then 1 else if i_w < k_w ∧ k_w ≤ i_w + b_w then 2 else if k_w < N_w ∧ k_w < 60 then f_w 1 k_w else 0)), (0, .ref (a_w 0)), (1, .int (nI i_w)), (2, .int (nI b_w)), (3, .ref (a_w 7)), (4, .int (nI N_w)), (5, .int (g_w 8)), (6, .int (bI y_w)), (7, .ref q62), (8, .int (nI (N1 + m9_w))), (9, .int 1), (10, .int (nI k_w))]) hx hb_w dL_checks_227 hl (by decide) rfl (fun ls hl => ?_)
                        refine lv_aload_n hx hb_w dL_checks_229 rfl (lv_at hl 1 rfl) ?_
                        refine lv_iload hx hb_w dL_checks_230 (lv_at hl 11 rfl) ?_
                        refine rdr_V (As := [.int (nI k_w)]) (rest := []) ⟨hx, hb_w, hml, hown, hts⟩ (kX1_stateOf_n l G_w a_w cI cZ Gd_w Fd cd tc_w k_w (N1 + m9_w) hG7 (by omega) hT2) (cwV 1 hts gL_checks_X1_stateOf rfl rfl rfl (by decide +kernel) ⟨Nat.le_of_ble_eq_true rfl, Nat.le_of_ble_eq_true rfl⟩) (va_recv hK_w hP (ci := 1) (q0 := 0) rfl rfl) (hP.sub [0, 1, 2, 3, 4, 5, 6] rfl) (hK_w.sub (tys' := tyIZ cI cZ) [0, 1] rfl) rfl hl.1 rfl (Nat.le_of_ble_eq_true rfl) dL_checks_232  ⟨Nat.le_of_ble_eq_true rfl, Nat.le_of_ble_eq_true rfl⟩ (fun r232 h232 => ?_)
                        replace h232 : r232 = (Fd 1) k_w := h232
                        subst h232
                        refine top_eq (z := tkU (f_w 1) i_w (i_w + b_w + 1) k_w) (by rw [hF1]) ?_
                        refine lv_iload hx hb_w dL_checks_235 (lv_at hl 0 rfl) ?_
                        refine lv_icmp_eq (tgt := 254) hx hb_w dL_checks_237 (by decide) (fun c237 => ?_) (fun c237 => ?_)
                        · refine lv_iconst (v := 1) hx hb_w dL_checks_254 (by decide) ?_
                          refine lv_goto (tgt := 259) hx hb_w dL_checks_255 (by decide) ?_
                          refine lv_istore (lv' := [(9, .int 1), (11, .int (if k_w = i_w then 1 else if i_w < k_w ∧ k_w ≤ i_w + b_w then 2 else if k_w < N_w ∧ k_w < 60 then f_w 1 k_w else 0)), (0, .ref (a_w 0)), (1, .int (nI i_w)), (2, .int (nI b_w)), (3, .ref (a_w 7)), (4, .int (nI N_w)), (5, .int (g_w 8)), (6, .int (bI y_w)), (7, .ref q62), (8, .int (nI (N1 + m9_w))), (10, .int (nI k_w))]) hx hb_w dL_checks_259 hl (by decide) rfl (fun ls hl => ?_)
                          refine lv_iinc (v := nI (k_w + 1)) (lv' := [(10, .int (nI (k_w + 1))), (9, .int 1), (11, .int (if k_w = i_w then 1 else if i_w < k_w ∧ k_w ≤ i_w + b_w then 2 else if k_w < N_w ∧ k_w < 60 then f_w 1 k_w else 0)), (0, .ref (a_w 0)), (1, .int (nI i_w)), (2, .int (nI b_w)), (3, .ref (a_w 7)), (4, .int (nI N_w)), (5, .int (g_w 8)), (6, .int (bI y_w)), (7, .ref q62), (8, .int (nI (N1 + m9_w)))]) hx hb_w dL_checks_261 hl (k := 11) rfl (nI_1 _) (by decide) rfl (fun ls hl => ?_)
                          refine lv_goto (tgt := 164) hx hb_w dL_checks_264 (by decide) ?_
                          exact ih164 (k_w + 1) (by omega) (by omega) _ _ hP hS_w _ (lv_sub hl [3, 4, 5, 6, 7, 8, 9, 10, 11, 1, 0] rfl)
                        refine lv_iload hx hb_w dL_checks_240 (lv_at hl 11 rfl) ?_
                        refine lv_bipush (v := 60) hx hb_w dL_checks_242 (by decide) ?_
                        refine lv_icmp_lt (tgt := 258) hx hb_w dL_checks_244 (by decide) (fun c244 => ?_) (fun c244 => ?_)
                        · exact absurd (due_eq hz (Or.inl (lt_nI (b := 60) (by omega) (by omega) c244))) c237
                        refine lv_iload hx hb_w dL_checks_247 (lv_at hl 11 rfl) ?_
                        refine lv_iload hx hb_w dL_checks_249 (lv_at hl 5 rfl) ?_
                        refine lv_icmp_ge (tgt := 258) hx hb_w dL_checks_251 (by decide) (fun c251 => ?_) (fun c251 => ?_)
                        · exact absurd (due_eq hz (Or.inr (le_nI (by omega) (by omega) c251))) c237
                        refine lv_iconst (v := 1) hx hb_w dL_checks_254 (by decide) ?_
                        refine lv_goto (tgt := 259) hx hb_w dL_checks_255 (by decide) ?_
                        refine lv_istore (lv' := [(9, .int 1), (11, .int (if k_w = i_w then 1 else if i_w < k_w ∧ k_w ≤ i_w + b_w then 2 else if k_w < N_w ∧ k_w < 60 then f_w 1 k_w else 0)), (0, .ref (a_w 0)), (1, .int (nI i_w)), (2, .int (nI b_w)), (3, .ref (a_w 7)), (4, .int (nI N_w)), (5, .int (g_w 8)), (6, .int (bI y_w)), (7, .ref q62), (8, .int (nI (N1 + m9_w))), (10, .int (nI k_w))]) hx hb_w dL_checks_259 hl (by decide) rfl (fun ls hl => ?_)
                        refine lv_iinc (v := nI (k_w + 1)) (lv' := [(10, .int (nI (k_w + 1))), (9, .int 1), (11, .int (if k_w = i_w then 1 else if i_w < k_w ∧ k_w ≤ i_w + b_w then 2 else if k_w < N_w ∧ k_w < 60 then f_w 1 k_w else 0)), (0, .ref (a_w 0)), (1, .int (nI i_w)), (2, .int (nI b_w)), (3, .ref (a_w 7)), (4, .int (nI N_w)), (5, .int (g_w 8)), (6, .int (bI y_w)), (7, .ref q62), (8, .int (nI (N1 + m9_w)))]) hx hb_w dL_checks_261 hl (k := 11) rfl (nI_1 _) (by decide) rfl (fun ls hl => ?_)
                        refine lv_goto (tgt := 164) hx hb_w dL_checks_264 (by decide) ?_
                        exact ih164 (k_w + 1) (by omega) (by omega) _ _ hP hS_w _ (lv_sub hl [3, 4, 5, 6, 7, 8, 9, 10, 11, 1, 0] rfl)
                      refine lv_iload hx hb_w dL_checks_176 (lv_at hl 10 rfl) ?_
                      refine lv_iload_n hx hb_w dL_checks_178 rfl (lv_at hl 1 rfl) ?_
                      refine lv_icmp_ne (tgt := 186) hx hb_w dL_checks_179 (by decide) (fun c179 => ?_) (fun c179 => ?_)
                      · refine lv_iload hx hb_w dL_checks_186 (lv_at hl 10 rfl) ?_
                        refine lv_iload_n hx hb_w dL_checks_188 rfl (lv_at hl 1 rfl) ?_
                        refine lv_icmp_le (tgt := 204) hx hb_w dL_checks_189 (by decide) (fun c189 => ?_) (fun c189 => ?_)
                        · refine lv_iload hx hb_w dL_checks_204 (lv_at hl 10 rfl) ?_
                          refine lv_iload hx hb_w dL_checks_206 (lv_at hl 4 rfl) ?_
                          refine lv_icmp_ge (tgt := 226) hx hb_w dL_checks_208 (by decide) (fun c208 => ?_) (fun c208 => ?_)
                          · refine lv_iconst (v := 0) hx hb_w dL_checks_226 (by decide) ?_
                            refine top_eq (z := if k_w = i_w then 1 else if i_w < k_w ∧ k_w ≤ i_w + b_w then 2 else if k_w < N_w ∧ k_w < 60 then f_w 1 k_w else 0) (by rw [if_neg (fun y_w => c179 (by rw [y_w])), if_neg (fun y_w => by have := le_nI (a := k_w) (b := i_w) (by omega) (by omega) c189; omega), if_neg (fun y_w => by have := le_nI (a := N_w) (b := k_w) (by omega) (by omega) c208; omega)]) ?_
                            exact j227
                          refine lv_iload hx hb_w dL_checks_211 (lv_at hl 10 rfl) ?_
                          refine lv_bipush (v := 60) hx hb_w dL_checks_213 (by decide) ?_
                          refine lv_icmp_ge (tgt := 226) hx hb_w dL_checks_215 (by decide) (fun c215 => ?_) (fun c215 => ?_)
                          · refine lv_iconst (v := 0) hx hb_w dL_checks_226 (by decide) ?_
                            refine top_eq (z := if k_w = i_w then 1 else if i_w < k_w ∧ k_w ≤ i_w + b_w then 2 else if k_w < N_w ∧ k_w < 60 then f_w 1 k_w else 0) (by rw [if_neg (fun y_w => c179 (by rw [y_w])), if_neg (fun y_w => by have := le_nI (a := k_w) (b := i_w) (by omega) (by omega) c189; omega), if_neg (fun y_w => by have := le_nI (a := 60) (b := k_w) (by omega) (by omega) c215; omega)]) ?_
                            exact j227
                          have hk60 : k_w < 60 := nle_nI (a := 60) (by omega) (by omega) c215
                          refine lv_aload hx hb_w dL_checks_218 (lv_at hl 7 rfl) ?_
                          refine lv_iload hx hb_w dL_checks_220 (lv_at hl 10 rfl) ?_
                          refine arC (j := k_w) (h := ww) hx hb_w hK_w hP 10 rfl rfl (by omega) (by decide) dL_checks_222 ?_
                          refine lv_goto (tgt := 227) hx hb_w dL_checks_223 (by decide) ?_
                          refine top_eq (z := if k_w = i_w then 1 else if i_w < k_w ∧ k_w ≤ i_w + b_w then 2 else if k_w < N_w ∧ k_w < 60 then f_w 1 k_w else 0) (by rw [if_neg (fun y_w => c179 (by rw [y_w])), if_neg (fun y_w => by have := le_nI (a := k_w) (b := i_w) (by omega) (by omega) c189; omega), if_pos ⟨nle_nI (by omega) (by omega) c208, hk60⟩]; exact hws k_w (nle_nI (by omega) (by omega) c208) hk60) ?_
                          exact j227
                        refine lv_iload hx hb_w dL_checks_192 (lv_at hl 10 rfl) ?_
                        refine lv_iload_n hx hb_w dL_checks_194 rfl (lv_at hl 1 rfl) ?_
                        refine lv_iload_n hx hb_w dL_checks_195 rfl (lv_at hl 2 rfl) ?_
                        refine lv_iadd hx hb_w dL_checks_196 ?_
                        refine top_eq (z := nI (i_w + b_w)) (nI_add _ _) ?_
                        refine lv_icmp_gt (tgt := 204) hx hb_w dL_checks_197 (by decide) (fun c197 => ?_) (fun c197 => ?_)
                        · refine lv_iload hx hb_w dL_checks_204 (lv_at hl 10 rfl) ?_
                          refine lv_iload hx hb_w dL_checks_206 (lv_at hl 4 rfl) ?_
                          refine lv_icmp_ge (tgt := 226) hx hb_w dL_checks_208 (by decide) (fun c208 => ?_) (fun c208 => ?_)
                          · refine lv_iconst (v := 0) hx hb_w dL_checks_226 (by decide) ?_
                            refine top_eq (z := if k_w = i_w then 1 else if i_w < k_w ∧ k_w ≤ i_w + b_w then 2 else if k_w < N_w ∧ k_w < 60 then f_w 1 k_w else 0) (by rw [if_neg (fun y_w => c179 (by rw [y_w])), if_neg (fun y_w => by have := lt_nI (a := i_w + b_w) (b := k_w) (by omega) (by omega) c197; omega), if_neg (fun y_w => by have := le_nI (a := N_w) (b := k_w) (by omega) (by omega) c208; omega)]) ?_
                            exact j227
                          refine lv_iload hx hb_w dL_checks_211 (lv_at hl 10 rfl) ?_
                          refine lv_bipush (v := 60) hx hb_w dL_checks_213 (by decide) ?_
                          refine lv_icmp_ge (tgt := 226) hx hb_w dL_checks_215 (by decide) (fun c215 => ?_) (fun c215 => ?_)
                          · refine lv_iconst (v := 0) hx hb_w dL_checks_226 (by decide) ?_
                            refine top_eq (z := if k_w = i_w then 1 else if i_w < k_w ∧ k_w ≤ i_w + b_w then 2 else if k_w < N_w ∧ k_w < 60 then f_w 1 k_w else 0) (by rw [if_neg (fun y_w => c179 (by rw [y_w])), if_neg (fun y_w => by have := lt_nI (a := i_w + b_w) (b := k_w) (by omega) (by omega) c197; omega), if_neg (fun y_w => by have := le_nI (a := 60) (b := k_w) (by omega) (by omega) c215; omega)]) ?_
                            exact j227
                          have hk60 : k_w < 60 := nle_nI (a := 60) (by omega) (by omega) c215
                          refine lv_aload hx hb_w dL_checks_218 (lv_at hl 7 rfl) ?_
                          refine lv_iload hx hb_w dL_checks_220 (lv_at hl 10 rfl) ?_
                          refine arC (j := k_w) (h := ww) hx hb_w hK_w hP 10 rfl rfl (by omega) (by decide) dL_checks_222 ?_
                          refine lv_goto (tgt := 227) hx hb_w dL_checks_223 (by decide) ?_
                          refine top_eq (z := if k_w = i_w then 1 else if i_w < k_w ∧ k_w ≤ i_w + b_w then 2 else if k_w < N_w ∧ k_w < 60 then f_w 1 k_w else 0) (by rw [if_neg (fun y_w => c179 (by rw [y_w])), if_neg (fun y_w => by have := lt_nI (a := i_w + b_w) (b := k_w) (by omega) (by omega) c197; omega), if_pos ⟨nle_nI (by omega) (by omega) c208, hk60⟩]; exact hws k_w (nle_nI (by omega) (by omega) c208) hk60) ?_
                          exact j227
                        refine lv_iconst (v := 2) hx hb_w dL_checks_200 (by decide) ?_
                        refine lv_goto (tgt := 227) hx hb_w dL_checks_201 (by decide) ?_
                        refine top_eq (z := if k_w = i_w then 1 else if i_w < k_w ∧ k_w ≤ i_w + b_w then 2 else if k_w < N_w ∧ k_w < 60 then f_w 1 k_w else 0) (by rw [if_neg (fun y_w => c179 (by rw [y_w])), if_pos ⟨nle_nI (by omega) (by omega) c189, nlt_nI (by omega) (by omega) c197⟩]) ?_
                        exact j227
                      refine lv_iconst (v := 1) hx hb_w dL_checks_182 (by decide) ?_
                      refine lv_goto (tgt := 227) hx hb_w dL_checks_183 (by decide) ?_
                      refine top_eq (z := if k_w = i_w then 1 else if i_w < k_w ∧ k_w ≤ i_w + b_w then 2 else if k_w < N_w ∧ k_w < 60 then f_w 1 k_w else 0) (by rw [if_pos ((nI_eq (by omega) (by omega)).mp c179)]) ?_
                      exact j227
                  exact loop164 (N1 + m9_w + 1) 0 (by omega) (by omega) _ _ hP hS_w _ (lv_sub hl [3, 4, 5, 6, 7, 8, 9, 10, 2, 1, 0] rfl)
                replace c111 := bI0 c111
                exact absurd (hy.symm.trans c111) (by decide)
              · have hy : y_w = false := by rw [hyy]; cases z_w : allR (opB g_w f_w) i_w (i_w + b_w + 1 - i_w) with | false => rfl | true => rw [z_w, if_pos rfl] at h9; exact absurd h9 (by decide)
                have hall : allR (opB g_w f_w) i_w (i_w + b_w + 1 - i_w) = false := by rw [← hyy]; exact hy
                subst hr9
                subst hu9
                have hP : va_P G_w vwCl (wD a_w cI cZ g_w f_w cd tc_w ++ [cC (a_w 7) cI (ccG g_w), cT (a_w 8) cI tt, cG (a_w 9) cL gg, cT q62 cI ww]) H := hP
                refine lv_istore (lv' := [(8, .int (-8)), (0, .ref (a_w 0)), (1, .int (nI i_w)), (2, .int (nI b_w)), (3, .ref (a_w 7)), (4, .int (nI N_w)), (5, .int (g_w 8)), (6, .int (bI y_w)), (7, .ref q62)]) hx hb_w dL_checks_107 hl (by decide) rfl (fun ls hl => ?_)
                refine lv_iload hx hb_w dL_checks_109 (lv_at hl 7 rfl) ?_
                refine lv_if_ne (tgt := 145) hx hb_w dL_checks_111 (by decide) (fun c111 => ?_) (fun c111 => ?_)
                · replace c111 := bIn c111
                  exact absurd (hy.symm.trans c111) (by decide)
                replace c111 := bI0 c111
                refine lv_iload hx hb_w dL_checks_114 (lv_at hl 0 rfl) ?_
                refine lv_bipush (v := (-8)) hx hb_w dL_checks_116 (by decide) ?_
                refine lv_icmp_ne (tgt := 143) hx hb_w dL_checks_118 (by decide) (fun c118 => ?_) (fun c118 => ?_)
                · exact absurd rfl c118
                refine lv_aload_n hx hb_w dL_checks_121 rfl (lv_at hl 1 rfl) ?_
                refine rdr_V (As := []) (rest := []) ⟨hx, hb_w, hml, hown, hts⟩ (kX1_foretold l G_w a_w cI cZ g_w f_w cd tc_w) (cwV 0 hts gL_checks_X1_foretold rfl rfl rfl (by decide +kernel) ⟨Nat.le_of_ble_eq_true rfl, Nat.le_of_ble_eq_true rfl⟩) (va_recv hK_w hP (ci := 1) (q0 := 0) rfl rfl) (hP.sub [0, 1, 2, 3, 4, 5, 6] rfl) (hK_w.sub (tys' := tyIZ cI cZ) [0, 1] rfl) rfl hl.1 rfl (Nat.le_of_ble_eq_true rfl) dL_checks_122  ⟨Nat.le_of_ble_eq_true rfl, Nat.le_of_ble_eq_true rfl⟩ (fun r122 h122 => ?_)
                replace h122 : r122 = g_w 7 := h122
                subst h122
                refine top_eq (z := nI N_w) hN_w ?_
                refine lv_iload hx hb_w dL_checks_125 (lv_at hl 5 rfl) ?_
                refine lv_icmp_ne (tgt := 143) hx hb_w dL_checks_127 (by decide) (fun c127 => ?_) (fun c127 => ?_)
                · exact absurd rfl c127
                refine lv_aload_n hx hb_w dL_checks_130 rfl (lv_at hl 1 rfl) ?_
                refine rdr_V (As := []) (rest := []) ⟨hx, hb_w, hml, hown, hts⟩ (kX1_shift l G_w a_w cI cZ g_w f_w cd tc_w) (cwV 0 hts gL_checks_X1_shift rfl rfl rfl (by decide +kernel) ⟨Nat.le_of_ble_eq_true rfl, Nat.le_of_ble_eq_true rfl⟩) (va_recv hK_w hP (ci := 1) (q0 := 0) rfl rfl) (hP.sub [0, 1, 2, 3, 4, 5, 6] rfl) (hK_w.sub (tys' := tyIZ cI cZ) [0, 1] rfl) rfl hl.1 rfl (Nat.le_of_ble_eq_true rfl) dL_checks_131  ⟨Nat.le_of_ble_eq_true rfl, Nat.le_of_ble_eq_true rfl⟩ (fun r131 h131 => ?_)
                replace h131 : r131 = g_w 8 := h131
                subst h131
                refine lv_iload hx hb_w dL_checks_134 (lv_at hl 6 rfl) ?_
                refine lv_icmp_ne (tgt := 143) hx hb_w dL_checks_136 (by decide) (fun c136 => ?_) (fun c136 => ?_)
                · exact absurd rfl c136
                refine lv_iconst (v := 1) hx hb_w dL_checks_139 (by decide) ?_
                refine lv_goto (tgt := 144) hx hb_w dL_checks_140 (by decide) ?_
                exact hret 1 (g_w, f_w, cd, tc_w) 144 _ _ _ _ _ (Nat.le_of_ble_eq_true rfl) (Nat.le_of_ble_eq_true rfl) dL_checks_144 rfl (hP.sub [0, 1, 2, 3, 4, 5, 6, 7, 8, 9] rfl) hS_w ⟨rfl, by rw [hall]; rfl⟩
            refine lv_iload hx hb_w dL_checks_69 (lv_at hl 8 rfl) ?_
            refine lv_iload hx hb_w dL_checks_71 (lv_at hl 4 rfl) ?_
            refine lv_icmp_ge (tgt := 100) hx hb_w dL_checks_73 (by decide) (fun c73 => ?_) (fun c73 => ?_)
            · have ek : N_w ≤ k_w := le_nI (by omega) (by omega) c73
              exact j100 (fun j_w h1 h2 => hw j_w (by omega))
            have hkN : k_w < N_w := nle_nI (by omega) (by omega) c73
            refine lv_iload hx hb_w dL_checks_76 (lv_at hl 8 rfl) ?_
            refine lv_bipush (v := 60) hx hb_w dL_checks_78 (by decide) ?_
            refine lv_icmp_ge (tgt := 100) hx hb_w dL_checks_80 (by decide) (fun c80 => ?_) (fun c80 => ?_)
            · have ek : 60 ≤ k_w := le_nI (a := 60) (by omega) (by omega) c80
              exact j100 (fun j_w h1 h2 => hw j_w (by omega))
            have hk60 : k_w < 60 := nle_nI (a := 60) (by omega) (by omega) c80
            refine lv_aload hx hb_w dL_checks_83 (lv_at hl 7 rfl) ?_
            refine lv_iload hx hb_w dL_checks_85 (lv_at hl 8 rfl) ?_
            refine lv_aload_n hx hb_w dL_checks_87 rfl (lv_at hl 0 rfl) ?_
            refine lv_iload hx hb_w dL_checks_88 (lv_at hl 8 rfl) ?_
            refine rdr_V (As := [.int (nI k_w)]) (rest := [.int (nI k_w), .ref q62]) ⟨hx, hb_w, hml, hown, hts⟩ (kX1_stateOf_n l G_w a_w cI cZ g_w f_w cd tc_w k_w N_w hN_w hkN hN2) (cwV 1 hts gL_checks_X1_stateOf rfl rfl rfl (by decide +kernel) ⟨Nat.le_of_ble_eq_true rfl, Nat.le_of_ble_eq_true rfl⟩) (va_recv hK_w hP (ci := 1) (q0 := 0) rfl rfl) (hP.sub [0, 1, 2, 3, 4, 5, 6] rfl) (hK_w.sub (tys' := tyIZ cI cZ) [0, 1] rfl) rfl hl.1 rfl (Nat.le_of_ble_eq_true rfl) dL_checks_90  ⟨Nat.le_of_ble_eq_true rfl, Nat.le_of_ble_eq_true rfl⟩ (fun r90 h90 => ?_)
            replace h90 : r90 = (f_w 1) k_w := h90
            subst h90
            refine asC (j := k_w) (h := ww) (v := (f_w 1) k_w) (wD a_w cI cZ g_w f_w cd tc_w ++ [cC (a_w 7) cI (ccG g_w), cT (a_w 8) cI tt, cG (a_w 9) cL gg, cT q62 cI (upd ww k_w ((f_w 1) k_w))]) hx hb_w hK_w hP (DD_D (ws := (wD a_w cI cZ g_w f_w cd tc_w ++ [cC (a_w 7) cI (ccG g_w), cT (a_w 8) cI tt, cG (a_w 9) cL gg, cT q62 cI ww])) hDD) hS_w 10 rfl rfl (by omega) (by decide) rfl dL_checks_93 (fun H locs_w hP hS_w => ?_)
            refine lv_iinc (v := nI (k_w + 1)) (lv' := [(8, .int (nI (k_w + 1))), (0, .ref (a_w 0)), (1, .int (nI i_w)), (2, .int (nI b_w)), (3, .ref (a_w 7)), (4, .int (nI N_w)), (5, .int (g_w 8)), (6, .int (bI y_w)), (7, .ref q62)]) hx hb_w dL_checks_94 hl (k := 8) rfl (nI_1 _) (by decide) rfl (fun ls hl => ?_)
            refine lv_goto (tgt := 69) hx hb_w dL_checks_97 (by decide) ?_
            exact ih69 (k_w + 1) (upd ww k_w (f_w 1 k_w)) (by omega) (by omega) (by omega) (fun j_w hj => up_1 hw hj) _ _ hP hS_w _ (lv_sub hl [1, 2, 3, 4, 5, 6, 7, 8, 0] rfl)
        exact loop69 61 0 (fun _ => 0) (by omega) (by omega) (by omega) (fun j_w hj => absurd hj (Nat.not_lt_zero _)) _ _ hP hS_w _ (lv_sub hl [2, 3, 4, 5, 6, 7, 8, 1, 0] rfl)
      refine lv_iload hx hb_w dL_checks_18 (lv_at hl 7 rfl) ?_
      refine lv_iload_n hx hb_w dL_checks_20 rfl (lv_at hl 1 rfl) ?_
      refine lv_iload_n hx hb_w dL_checks_21 rfl (lv_at hl 2 rfl) ?_
      refine lv_iadd hx hb_w dL_checks_22 ?_
      refine top_eq (z := nI (i_w + b_w)) (nI_add _ _) ?_
      refine lv_icmp_gt (tgt := 60) hx hb_w dL_checks_23 (by decide) (fun c23_w => ?_) (fun c23_w => ?_)
      · have ek : k_w = i_w + b_w + 1 := by have := lt_nI (a := i_w + b_w) (b := k_w) (by omega) (by omega) c23_w; omega
        exact j60 (by rw [← hq, ek, Nat.sub_self]; unfold allR; rw [Bool.and_true])
      have hk3 : k_w ≤ i_w + b_w := nlt_nI (by omega) (by omega) c23_w
      have hk2 : k_w < i_w + b_w + 1 := by omega
      refine lv_iload hx hb_w dL_checks_26 (lv_at hl 7 rfl) ?_
      refine lv_iload hx hb_w dL_checks_28 (lv_at hl 4 rfl) ?_
      refine lv_icmp_ge (tgt := 60) hx hb_w dL_checks_30 (by decide) (fun c30_w => ?_) (fun c30_w => ?_)
      · have ekN : N_w ≤ k_w := le_nI (by omega) (by omega) c30_w
        exact j60 (by rw [← hq, op_out hN_w ekN (by omega), Bool.and_true])
      have hkN : k_w < N_w := nle_nI (by omega) (by omega) c30_w
      refine lv_iload hx hb_w dL_checks_33 (lv_at hl 6 rfl) ?_
      refine lv_if_eq (tgt := 51) hx hb_w dL_checks_35 (by decide) (fun c35_w => ?_) (fun c35_w => ?_)
      · replace c35_w := bI0 c35_w
        refine lv_iconst (v := 0) hx hb_w dL_checks_51 (by decide) ?_
        refine lv_istore (lv' := [(6, .int 0), (0, .ref (a_w 0)), (1, .int (nI i_w)), (2, .int (nI b_w)), (3, .ref (a_w 7)), (4, .int (nI N_w)), (5, .int (g_w 8)), (7, .int (nI k_w))]) hx hb_w dL_checks_52 hl (by decide) rfl (fun ls hl => ?_)
        refine lv_iinc (v := nI (k_w + 1)) (lv' := [(7, .int (nI (k_w + 1))), (6, .int 0), (0, .ref (a_w 0)), (1, .int (nI i_w)), (2, .int (nI b_w)), (3, .ref (a_w 7)), (4, .int (nI N_w)), (5, .int (g_w 8))]) hx hb_w dL_checks_54 hl (k := 7) rfl (nI_1 _) (by decide) rfl (fun ls hl => ?_)
        refine lv_goto (tgt := 18) hx hb_w dL_checks_57 (by decide) ?_
        exact ih18 (k_w + 1) false (by omega) (by omega) (by rw [← hq, c35_w]; rfl) (by omega) _ _ hP hS_w _ (lv_sub hl [2, 3, 4, 5, 6, 7, 1, 0] rfl)
      replace c35_w := bIn c35_w
      refine lv_aload_n hx hb_w dL_checks_38 rfl (lv_at hl 0 rfl) ?_
      refine lv_iload hx hb_w dL_checks_39 (lv_at hl 7 rfl) ?_
      refine rdr_V (As := [.int (nI k_w)]) (rest := []) ⟨hx, hb_w, hml, hown, hts⟩ (kX1_stateOf_n l G_w a_w cI cZ g_w f_w cd tc_w k_w N_w hN_w hkN hN2) (cwV 1 hts gL_checks_X1_stateOf rfl rfl rfl (by decide +kernel) ⟨Nat.le_of_ble_eq_true rfl, Nat.le_of_ble_eq_true rfl⟩) (va_recv hK_w hP (ci := 1) (q0 := 0) rfl rfl) (hP.sub [0, 1, 2, 3, 4, 5, 6] rfl) (hK_w.sub (tys' := tyIZ cI cZ) [0, 1] rfl) rfl hl.1 rfl (Nat.le_of_ble_eq_true rfl) dL_checks_41  ⟨Nat.le_of_ble_eq_true rfl, Nat.le_of_ble_eq_true rfl⟩ (fun r41 h41 => ?_)
      replace h41 : r41 = (f_w 1) k_w := h41
      subst h41
      refine lv_if_ne (tgt := 51) hx hb_w dL_checks_44 (by decide) (fun c44_w => ?_) (fun c44_w => ?_)
      · refine lv_iconst (v := 0) hx hb_w dL_checks_51 (by decide) ?_
        refine lv_istore (lv' := [(6, .int 0), (0, .ref (a_w 0)), (1, .int (nI i_w)), (2, .int (nI b_w)), (3, .ref (a_w 7)), (4, .int (nI N_w)), (5, .int (g_w 8)), (7, .int (nI k_w))]) hx hb_w dL_checks_52 hl (by decide) rfl (fun ls hl => ?_)
        refine lv_iinc (v := nI (k_w + 1)) (lv' := [(7, .int (nI (k_w + 1))), (6, .int 0), (0, .ref (a_w 0)), (1, .int (nI i_w)), (2, .int (nI b_w)), (3, .ref (a_w 7)), (4, .int (nI N_w)), (5, .int (g_w 8))]) hx hb_w dL_checks_54 hl (k := 7) rfl (nI_1 _) (by decide) rfl (fun ls hl => ?_)
        refine lv_goto (tgt := 18) hx hb_w dL_checks_57 (by decide) ?_
        exact ih18 (k_w + 1) false (by omega) (by omega) (by rw [← hq, c35_w, allR_step hk2, (show opB g_w f_w k_w = false from by unfold opB; rw [decide_eq_false (show ¬ g_w 7 ≤ nI k_w from by rw [hN_w]; exact c30_w), decide_eq_false (show ¬ f_w 1 k_w = 0 from c44_w)]; rfl)]; rfl) (by omega) _ _ hP hS_w _ (lv_sub hl [2, 3, 4, 5, 6, 7, 1, 0] rfl)
      refine lv_iconst (v := 1) hx hb_w dL_checks_47 (by decide) ?_
      refine lv_goto (tgt := 52) hx hb_w dL_checks_48 (by decide) ?_
      refine lv_istore (lv' := [(6, .int 1), (0, .ref (a_w 0)), (1, .int (nI i_w)), (2, .int (nI b_w)), (3, .ref (a_w 7)), (4, .int (nI N_w)), (5, .int (g_w 8)), (7, .int (nI k_w))]) hx hb_w dL_checks_52 hl (by decide) rfl (fun ls hl => ?_)
      refine lv_iinc (v := nI (k_w + 1)) (lv' := [(7, .int (nI (k_w + 1))), (6, .int 1), (0, .ref (a_w 0)), (1, .int (nI i_w)), (2, .int (nI b_w)), (3, .ref (a_w 7)), (4, .int (nI N_w)), (5, .int (g_w 8))]) hx hb_w dL_checks_54 hl (k := 7) rfl (nI_1 _) (by decide) rfl (fun ls hl => ?_)
      refine lv_goto (tgt := 18) hx hb_w dL_checks_57 (by decide) ?_
      exact ih18 (k_w + 1) true (by omega) (by omega) (by rw [← hq, c35_w, allR_step hk2, (show opB g_w f_w k_w = true from by unfold opB; rw [decide_eq_false (show ¬ g_w 7 ≤ nI k_w from by rw [hN_w]; exact c30_w), decide_eq_true (show f_w 1 k_w = 0 from c44_w)]; rfl)]; rfl) (by omega) _ _ hP hS_w _ (lv_sub hl [2, 3, 4, 5, 6, 7, 1, 0] rfl)
  exact loop18 (b_w + 2) i_w true (by omega) (by omega) rfl (by omega) _ _ hP hS_w _ (lv_sub hl [4, 5, 6, 7, 3, 2, 1, 0] rfl)
