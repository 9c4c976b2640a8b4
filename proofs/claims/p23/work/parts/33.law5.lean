set_option maxHeartbeats 4000000 in
set_option maxRecDepth 100000 in
theorem kL_step (l : Launch) (hst : l.stackTraces = false) (G_w : va_G) (a_w : Nat → Nat) (cI cZ cL : ClassId) (g_w : Nat → Int32) (f_w : Nat → Nat → Int32) (cd : Nat → Int32) (tc_w : Int32) (hap : apart a_w 10) (sz_w : Nat) (tt : Nat → Int32) (gg : Nat → Int64) (n_w W9 X_w Y : Nat) (hn : n_w < 60) (hX : X_w < 2 ^ 30) (hY : Y < 2 ^ 30) (hW : LWs n_w (g_w, f_w, cd, tc_w) tt gg): lwc l yL_step wsL_step { frames := 10, cells := 2, slots := 120, locals := 191 } G_w (wD a_w cI cZ g_w f_w cd tc_w ++ [cC (a_w 7) cI (ccG g_w), cT (a_w 8) cI tt, cG (a_w 9) cL gg]) (tyL cI cZ cL) (aS a_w 10 sz_w) sz_w [.ref (a_w 0), .int (nI W9), .int (nI X_w), .int (nI Y), .ref (a_w 7), .ref (a_w 8), .ref (a_w 9)] (fun r_w u_w => r_w = 1 ∧ LWs (n_w + 1) u_w.1 u_w.2.1 u_w.2.2) (fun u_w : SD × (Nat → Int32) × (Nat → Int64) => wfD a_w cI cZ u_w.1 ++ [cC (a_w 7) cI (ccG u_w.1.1), cT (a_w 8) cI u_w.2.1, cG (a_w 9) cL u_w.2.2]) 2 120 := by
  have hI : Inv n_w g_w f_w := hW.1.1
  obtain ⟨N_w, hN_w, hN1, hN2, -, hz⟩ := hW.2.2.1
  have hN_w : g_w 7 = nI N_w := hN_w
  have hs03 : ∀ k_w, k_w < 200 → 0 ≤ f_w 1 k_w ∧ f_w 1 k_w ≤ 3 := hW.2.2.2.2.1
  have hc3 : ∀ k_w, k_w < 200 → 0 ≤ f_w 2 k_w ∧ f_w 2 k_w ≤ 3 := hW.2.2.2.2.2.1
  have hCD : CD f_w cd := hW.1.2.1
  have hT_w : TR f_w cd tt := hW.2.2.2.2.2.2.2.1
  have h6 : 0 < g_w 6 := hW.2.2.2.2.2.2.1
  have htc : tc_w = nI (cnt (thB (f_w 4)) 200) := hW.1.2.2
  have h01 : ∀ k_w, f_w 4 k_w = 0 ∨ f_w 4 k_w = 1 := hI.2.2.2.2.2.2.2.2.2
  have hbit : ∀ k_w, k_w < 200 → isT gg k_w = thB (f_w 4) k_w := hW.2.2.2.2.2.2.2.2
  obtain ⟨i5_w, e5_w⟩ : ∃ i5_w, i5_w = X_w % (N_w + 1) := ⟨_, rfl⟩
  have hi5 : i5_w ≤ N_w := by have := Nat.mod_lt X_w (show N_w + 1 > 0 by omega); omega
  have hsv := sk_val (f := f_w) hN_w hN2 hi5
  have hx3 : X_w % (N_w + 3) < N_w + 3 := Nat.mod_lt X_w (by omega)
  refine lwc_of (cc := cL_step) (nL := 13) (ty := .boolean) rfl (Nat.le_of_ble_eq_true rfl) ?_
  intro p_w e_w s_w m_w args_w below meth_w c_w H locs_w ls Q hx hb_w hml hown hts hP hK_w ht hS_w hret hl
  have hA : ∀ q_w, s_w.heap.size ≤ q_w → aS a_w 10 s_w.heap.size q_w := fun q_w h_w => Or.inr h_w
  have hl : lv_has ls 13 [(0, .ref (a_w 0)), (1, .int (nI W9)), (2, .int (nI X_w)), (3, .int (nI Y)), (4, .ref (a_w 7)), (5, .ref (a_w 8)), (6, .ref (a_w 9))] := hl
  have hDD : DD (aS a_w 10 s_w.heap.size) (adD a_w ++ [a_w 7, a_w 8, a_w 9]) := DD_10 hap _
  refine lv_aload_n hx hb_w dL_step_0 rfl (lv_at hl 0 rfl) ?_
  refine rdr_V (As := []) (rest := []) ⟨hx, hb_w, hml, hown, hts⟩ (kX1_foretold l G_w a_w cI cZ g_w f_w cd tc_w) (cwV 0 hts gL_step_X1_foretold rfl rfl rfl (by decide +kernel) ⟨Nat.le_of_ble_eq_true rfl, Nat.le_of_ble_eq_true rfl⟩) (va_recv hK_w hP (ci := 1) (q0 := 0) rfl rfl) (hP.sub [0, 1, 2, 3, 4, 5, 6] rfl) (hK_w.sub (tys' := tyIZ cI cZ) [0, 1] rfl) rfl hl.1 rfl (Nat.le_of_ble_eq_true rfl) dL_step_1  ⟨Nat.le_of_ble_eq_true rfl, Nat.le_of_ble_eq_true rfl⟩ (fun r1_w h1 => ?_)
  replace h1 : r1_w = g_w 7 := h1
  subst h1
  refine top_eq (z := nI N_w) hN_w ?_
  refine lv_istore (lv' := [(7, .int (nI N_w)), (0, .ref (a_w 0)), (1, .int (nI W9)), (2, .int (nI X_w)), (3, .int (nI Y)), (4, .ref (a_w 7)), (5, .ref (a_w 8)), (6, .ref (a_w 9))]) hx hb_w dL_step_4 hl (by decide) rfl (fun ls hl => ?_)
  refine lv_aload_n hx hb_w dL_step_6 rfl (lv_at hl 1 rfl) ?_
  refine rdr_V (As := []) (rest := []) ⟨hx, hb_w, hml, hown, hts⟩ (kX1_shift l G_w a_w cI cZ g_w f_w cd tc_w) (cwV 0 hts gL_step_X1_shift rfl rfl rfl (by decide +kernel) ⟨Nat.le_of_ble_eq_true rfl, Nat.le_of_ble_eq_true rfl⟩) (va_recv hK_w hP (ci := 1) (q0 := 0) rfl rfl) (hP.sub [0, 1, 2, 3, 4, 5, 6] rfl) (hK_w.sub (tys' := tyIZ cI cZ) [0, 1] rfl) rfl hl.1 rfl (Nat.le_of_ble_eq_true rfl) dL_step_7  ⟨Nat.le_of_ble_eq_true rfl, Nat.le_of_ble_eq_true rfl⟩ (fun r7 h7 => ?_)
  replace h7 : r7 = g_w 8 := h7
  subst h7
  refine lv_istore (lv' := [(8, .int (g_w 8)), (7, .int (nI N_w)), (0, .ref (a_w 0)), (1, .int (nI W9)), (2, .int (nI X_w)), (3, .int (nI Y)), (4, .ref (a_w 7)), (5, .ref (a_w 8)), (6, .ref (a_w 9))]) hx hb_w dL_step_10 hl (by decide) rfl (fun ls hl => ?_)
  refine lv_iload_n hx hb_w dL_step_12 rfl (lv_at hl 3 rfl) ?_
  refine lv_iconst (v := 5) hx hb_w dL_step_13 (by decide) ?_
  refine lv_icmp_ge (tgt := 108) hx hb_w dL_step_14 (by decide) (fun c14_w => ?_) (fun c14_w => ?_)
  · refine lv_iload_n hx hb_w dL_step_108 rfl (lv_at hl 3 rfl) ?_
    refine lv_iconst (v := 5) hx hb_w dL_step_109 (by decide) ?_
    refine lv_icmp_ne (tgt := 207) hx hb_w dL_step_110 (by decide) (fun c110 => ?_) (fun c110 => ?_)
    · refine lv_iload_n hx hb_w dL_step_207 rfl (lv_at hl 3 rfl) ?_
      refine lv_bipush (v := 6) hx hb_w dL_step_208 (by decide) ?_
      refine lv_icmp_ne (tgt := 222) hx hb_w dL_step_210 (by decide) (fun c210 => ?_) (fun c210 => ?_)
      · refine lv_iload_n hx hb_w dL_step_222 rfl (lv_at hl 3 rfl) ?_
        refine lv_bipush (v := 7) hx hb_w dL_step_223 (by decide) ?_
        refine lv_icmp_ne (tgt := 275) hx hb_w dL_step_225 (by decide) (fun c225 => ?_) (fun c225 => ?_)
        · refine lv_iload_n hx hb_w dL_step_275 rfl (lv_at hl 3 rfl) ?_
          refine lv_bipush (v := 8) hx hb_w dL_step_276 (by decide) ?_
          refine lv_icmp_ne (tgt := 378) hx hb_w dL_step_278 (by decide) (fun c278 => ?_) (fun c278 => ?_)
          · refine lv_iload_n hx hb_w dL_step_378 rfl (lv_at hl 3 rfl) ?_
            refine lv_bipush (v := 9) hx hb_w dL_step_379 (by decide) ?_
            refine lv_icmp_ne (tgt := 494) hx hb_w dL_step_381 (by decide) (fun c381 => ?_) (fun c381 => ?_)
            · refine lv_iconst (v := 1) hx hb_w dL_step_494 (by decide) ?_
              refine lv_iload_n hx hb_w dL_step_495 rfl (lv_at hl 4 rfl) ?_
              have j509 : ∀ md : Nat, (1 ≤ md) → (md ≤ 60) → W p_w l e_w { frames := 10, cells := 2, slots := 120, locals := 191 } s_w m_w args_w below meth_w c_w H locs_w 0 0 Q (F0 m_w 509 ls [.int (nI md), .int (nI X_w), .int 1]) := by
                intro md hmd1 hmd2
                refine lv_irem hx hb_w dL_step_509 (nI_ne0 (by omega) (by omega)) ?_
                refine top_eq (z := nI (X_w % md)) (pk_rem (a := X_w) (d := md) (by omega) (by omega) (by omega)) ?_
                refine lv_iadd hx hb_w dL_step_510 ?_
                refine top_eq (z := nI (1 + X_w % md)) (nI_add 1 _) ?_
                refine lv_istore (lv' := [(9, .int (nI (1 + X_w % md))), (8, .int (g_w 8)), (7, .int (nI N_w)), (0, .ref (a_w 0)), (1, .int (nI W9)), (2, .int (nI X_w)), (3, .int (nI Y)), (4, .ref (a_w 7)), (5, .ref (a_w 8)), (6, .ref (a_w 9))]) hx hb_w dL_step_511 hl (by decide) rfl (fun ls hl => ?_)
                refine lv_aload hx hb_w dL_step_513 (lv_at hl 7 rfl) ?_
                refine lv_iconst (v := 0) hx hb_w dL_step_515 (by decide) ?_
                refine lv_dup2_11 hx hb_w dL_step_516 rfl rfl ?_
                refine arC (j := 0) (h := ccG g_w) hx hb_w hK_w hP 7 rfl rfl (by decide) (by decide) dL_step_517 ?_
                refine top_eq (z := g_w 0) rfl ?_
                refine lv_iload hx hb_w dL_step_518 (lv_at hl 0 rfl) ?_
                refine lv_iadd hx hb_w dL_step_520 ?_
                refine asC (j := 0) (h := ccG g_w) (v := (g_w 0) + (nI (1 + X_w % md))) (wD a_w cI cZ g_w f_w cd tc_w ++ [cC (a_w 7) cI (upd (ccG g_w) 0 ((g_w 0) + (nI (1 + X_w % md)))), cT (a_w 8) cI tt, cG (a_w 9) cL gg]) hx hb_w hK_w hP (DD_D (ws := (wD a_w cI cZ g_w f_w cd tc_w ++ [cC (a_w 7) cI (ccG g_w), cT (a_w 8) cI tt, cG (a_w 9) cL gg])) hDD) hS_w 7 rfl rfl (by decide) (by decide) rfl dL_step_521 (fun H locs_w hP hS_w => ?_)
                refine lv_aload_n hx hb_w dL_step_522 rfl (lv_at hl 3 rfl) ?_
                refine lv_iload hx hb_w dL_step_523 (lv_at hl 0 rfl) ?_
                have hmd := Nat.mod_lt X_w (show md > 0 by omega)
                obtain ⟨hA1, hA2, hA3⟩ := ad_ok (g := g_w) (P := 1 + X_w % md) hn hW.2.1 (by omega) (by omega)
                have hW2 := LW_ad hW hA1 hA2 hA3
                obtain ⟨hAF, hGq, -⟩ := AF_lk (by omega) hW2.1.1 hN_w hN2 (fun k_w hk => (hz k_w hk).2)
                have hcc := cc_ad (g := g_w) hGq
                refine lD_i (x := (g_w, f_w, cd, tc_w)) (ex := [cC (a_w 7) cI (upd (ccG g_w) 0 ((g_w 0) + (nI (1 + X_w % md)))), cT (a_w 8) cI tt, cG (a_w 9) cL gg]) (As := [.int (nI (1 + X_w % md))]) (rest := []) ⟨hx, hb_w, hml, hown, hts⟩ (kX1_advance_n l G_w a_w cI cZ g_w f_w cd tc_w (DD_ap hDD) H.size (nI (1 + X_w % md)) n_w (by omega) hI hA1 hA2) (cwV 1 hts gL_step_X1_advance rfl rfl rfl (by decide +kernel) ⟨Nat.le_of_ble_eq_true rfl, Nat.le_of_ble_eq_true rfl⟩) hDD hA hP hK_w hS_w rfl hl.1 rfl (Nat.le_of_ble_eq_true rfl) dL_step_525  ⟨Nat.le_of_ble_eq_true rfl, Nat.le_of_ble_eq_true rfl⟩ (fun r525 u525 H locs_w h525 hP hS_w => ?_)
                obtain ⟨h525, h525u⟩ := h525
                subst h525
                subst h525u
                rw [hcc] at hP
                have hP : va_P G_w vwCl (wD a_w cI cZ ((lkS (upd g_w 0 (g_w 0 + (nI (1 + X_w % md)))) f_w).1) ((lkS (upd g_w 0 (g_w 0 + (nI (1 + X_w % md)))) f_w).2) cd tc_w ++ [cC (a_w 7) cI (ccG ((lkS (upd g_w 0 (g_w 0 + (nI (1 + X_w % md)))) f_w).1)), cT (a_w 8) cI tt, cG (a_w 9) cL gg]) H := hP
                refine lv_aload hx hb_w dL_step_528 (lv_at hl 7 rfl) ?_
                refine lv_iconst (v := 0) hx hb_w dL_step_530 (by decide) ?_
                refine arC (j := 0) (h := ccG ((lkS (upd g_w 0 (g_w 0 + (nI (1 + X_w % md)))) f_w).1)) hx hb_w hK_w hP 7 rfl rfl (by decide) (by decide) dL_step_531 ?_
                refine top_eq (z := ((lkS (upd g_w 0 (g_w 0 + (nI (1 + X_w % md)))) f_w).1) 0) rfl ?_
                refine lv_icmp_ne (tgt := 553) hx hb_w dL_step_532 (by decide) (fun c532 => ?_) (fun c532 => ?_)
                · exact absurd rfl c532
                refine lv_aload_n hx hb_w dL_step_535 rfl (lv_at hl 3 rfl) ?_
                refine lv_aload hx hb_w dL_step_536 (lv_at hl 7 rfl) ?_
                refine lv_iload hx hb_w dL_step_538 (lv_at hl 2 rfl) ?_
                refine lv_iload hx hb_w dL_step_540 (lv_at hl 1 rfl) ?_
                refine lv_iconst (v := 0) hx hb_w dL_step_542 (by decide) ?_
                refine rdr_S (As := [.ref (a_w 0), .ref (a_w 7), .int (nI N_w), .int (g_w 8), .int 0]) (rest := []) ⟨hx, hb_w, hml, hown, hts⟩ (kL_areForetold l G_w a_w cI cZ cL ((lkS (upd g_w 0 (g_w 0 + (nI (1 + X_w % md)))) f_w).1) ((lkS (upd g_w 0 (g_w 0 + (nI (1 + X_w % md)))) f_w).2) cd tc_w N_w (g_w 8) hAF) (va_cwS 5 hts gL_step_L_areForetold rfl rfl rfl (by decide +kernel) ⟨Nat.le_of_ble_eq_true rfl, Nat.le_of_ble_eq_true rfl⟩) (hP.sub [0, 1, 2, 3, 4, 5, 6, 7] rfl) hK_w rfl hl.1 rfl (Nat.le_of_ble_eq_true rfl) dL_step_543  ⟨Nat.le_of_ble_eq_true rfl, Nat.le_of_ble_eq_true rfl⟩ (fun r543 h543 => ?_)
                replace h543 : r543 = 1 := h543
                subst h543
                refine lv_if_eq (tgt := 553) hx hb_w dL_step_546 (by decide) (fun c546 => ?_) (fun c546 => ?_)
                · exact absurd c546 (by decide)
                refine lv_iconst (v := 1) hx hb_w dL_step_549 (by decide) ?_
                refine lv_goto (tgt := 554) hx hb_w dL_step_550 (by decide) ?_
                exact hret 1 (((lkS (upd g_w 0 (g_w 0 + (nI (1 + X_w % md)))) f_w).1, (lkS (upd g_w 0 (g_w 0 + (nI (1 + X_w % md)))) f_w).2, cd, tc_w), tt, gg) 554 _ _ _ _ _ (Nat.le_of_ble_eq_true rfl) (Nat.le_of_ble_eq_true rfl) dL_step_554 rfl hP hS_w ⟨rfl, LW_lk (by omega) hW2⟩
              refine lv_iload_n hx hb_w dL_step_496 rfl (lv_at hl 5 rfl) ?_
              refine lv_iconst (v := 3) hx hb_w dL_step_497 (by decide) ?_
              refine lv_irem hx hb_w dL_step_498 (by decide) ?_
              refine top_eq (z := nI (Y % 3)) (pk_rem (a := Y) (d := 3) (by omega) (by decide) (by decide)) ?_
              refine lv_if_ne (tgt := 507) hx hb_w dL_step_499 (by decide) (fun c499 => ?_) (fun c499 => ?_)
              · refine lv_bipush (v := 20) hx hb_w dL_step_507 (by decide) ?_
                exact j509 20 (by omega) (by omega)
              refine lv_bipush (v := 60) hx hb_w dL_step_502 (by decide) ?_
              refine lv_goto (tgt := 509) hx hb_w dL_step_504 (by decide) ?_
              exact j509 60 (by omega) (by omega)
            obtain ⟨F9, eF9⟩ : ∃ F9, F9 = X_w % 80 := ⟨_, rfl⟩
            obtain ⟨L9, eL9⟩ : ∃ L9, L9 = F9 + Y % 10 := ⟨_, rfl⟩
            refine lv_iload_n hx hb_w dL_step_384 rfl (lv_at hl 4 rfl) ?_
            refine lv_bipush (v := 80) hx hb_w dL_step_385 (by decide) ?_
            refine lv_irem hx hb_w dL_step_387 (by decide) ?_
            refine top_eq (z := nI F9) ((pk_rem (a := X_w) (d := 80) (by omega) (by decide) (by decide)).trans (congrArg nI eF9.symm)) ?_
            refine lv_istore (lv' := [(9, .int (nI F9)), (8, .int (g_w 8)), (7, .int (nI N_w)), (0, .ref (a_w 0)), (1, .int (nI W9)), (2, .int (nI X_w)), (3, .int (nI Y)), (4, .ref (a_w 7)), (5, .ref (a_w 8)), (6, .ref (a_w 9))]) hx hb_w dL_step_388 hl (by decide) rfl (fun ls hl => ?_)
            refine lv_iload hx hb_w dL_step_390 (lv_at hl 0 rfl) ?_
            refine lv_iload_n hx hb_w dL_step_392 rfl (lv_at hl 6 rfl) ?_
            refine lv_bipush (v := 10) hx hb_w dL_step_393 (by decide) ?_
            refine lv_irem hx hb_w dL_step_395 (by decide) ?_
            refine top_eq (z := nI (Y % 10)) (pk_rem (a := Y) (d := 10) (by omega) (by decide) (by decide)) ?_
            refine lv_iadd hx hb_w dL_step_396 ?_
            refine top_eq (z := nI L9) ((nI_add _ _).trans (congrArg nI eL9.symm)) ?_
            refine lv_istore (lv' := [(10, .int (nI L9)), (9, .int (nI F9)), (8, .int (g_w 8)), (7, .int (nI N_w)), (0, .ref (a_w 0)), (1, .int (nI W9)), (2, .int (nI X_w)), (3, .int (nI Y)), (4, .ref (a_w 7)), (5, .ref (a_w 8)), (6, .ref (a_w 9))]) hx hb_w dL_step_397 hl (by decide) rfl (fun ls hl => ?_)
            refine lv_iconst (v := 0) hx hb_w dL_step_399 (by decide) ?_
            refine lv_istore (lv' := [(11, .int 0), (10, .int (nI L9)), (9, .int (nI F9)), (8, .int (g_w 8)), (7, .int (nI N_w)), (0, .ref (a_w 0)), (1, .int (nI W9)), (2, .int (nI X_w)), (3, .int (nI Y)), (4, .ref (a_w 7)), (5, .ref (a_w 8)), (6, .ref (a_w 9))]) hx hb_w dL_step_400 hl (by decide) rfl (fun ls hl => ?_)
            refine lv_iconst (v := 0) hx hb_w dL_step_402 (by decide) ?_
            refine lv_istore (lv' := [(12, .int 0), (11, .int 0), (10, .int (nI L9)), (9, .int (nI F9)), (8, .int (g_w 8)), (7, .int (nI N_w)), (0, .ref (a_w 0)), (1, .int (nI W9)), (2, .int (nI X_w)), (3, .int (nI Y)), (4, .ref (a_w 7)), (5, .ref (a_w 8)), (6, .ref (a_w 9))]) hx hb_w dL_step_403 hl (by decide) rfl (fun ls hl => ?_)
            have loop405 : ∀ (n9 : Nat) (k_w : Nat) (gq : Nat → Int64), k_w ≤ 200 → 200 - k_w < n9 → (∀ j_w, j_w < 200 → isT gq j_w = if j_w < k_w then thB (gvU (f_w 4) F9 L9) j_w else thB (f_w 4) j_w) → ∀ (H : Heap) (locs_w : List Loc), va_P G_w vwCl (wD a_w cI cZ g_w f_w cd tc_w ++ [cC (a_w 7) cI (ccG g_w), cT (a_w 8) cI tt, cG (a_w 9) cL gq]) H → va_S (aS a_w 10 s_w.heap.size) s_w.heap H locs_w → ∀ (ls : Array Slot), lv_has ls 13 [(0, .ref (a_w 0)), (6, .ref (a_w 9)), (9, .int (nI F9)), (10, .int (nI L9)), (11, .int (nI (cnt (thB (gvU (f_w 4) F9 L9)) k_w))), (12, .int (nI k_w))] → W p_w l e_w { frames := 10, cells := 2, slots := 120, locals := 191 } s_w m_w args_w below meth_w c_w H locs_w 0 0 Q (F0 m_w 405 ls []) := by
              intro n9
              induction n9 with
              | zero => intro k_w gq hk hn9 hg; intros; exact absurd hn9 (Nat.not_lt_zero _)
              | succ n9 ih405 =>
                intro k_w gq hk hn9 hg H locs_w hP hS_w ls hl
                refine lv_iload hx hb_w dL_step_405 (lv_at hl 5 rfl) ?_
                refine lv_sipush (v := 200) hx hb_w dL_step_407 (by decide) ?_
                refine lv_icmp_ge (tgt := 475) hx hb_w dL_step_410 (by decide) (fun c410 => ?_) (fun c410 => ?_)
                · have ek : k_w = 200 := ge_200 c410 hk
                  rw [ek] at hg
                  have hg9 : ∀ j_w, j_w < 200 → isT gq j_w = thB (gvU (f_w 4) F9 L9) j_w := fun j_w hj => by rw [hg j_w hj, if_pos hj]
                  refine lv_aload_n hx hb_w dL_step_475 rfl (lv_at hl 0 rfl) ?_
                  refine lv_iload hx hb_w dL_step_476 (lv_at hl 2 rfl) ?_
                  refine lv_iload hx hb_w dL_step_478 (lv_at hl 3 rfl) ?_
                  refine lD_i (x := (g_w, f_w, cd, tc_w)) (ex := [cC (a_w 7) cI (ccG g_w), cT (a_w 8) cI tt, cG (a_w 9) cL gq]) (As := [.int (nI F9), .int (nI L9)]) (rest := []) ⟨hx, hb_w, hml, hown, hts⟩ (kX1_give_n l G_w a_w cI cZ g_w f_w cd tc_w (DD_ap hDD) H.size F9 L9 (by omega) (by omega) h01 htc) (cwV 2 hts gL_step_X1_give rfl rfl rfl (by decide +kernel) ⟨Nat.le_of_ble_eq_true rfl, Nat.le_of_ble_eq_true rfl⟩) hDD hA hP hK_w hS_w rfl hl.1 rfl (Nat.le_of_ble_eq_true rfl) dL_step_480  ⟨Nat.le_of_ble_eq_true rfl, Nat.le_of_ble_eq_true rfl⟩ (fun r480 u480 H locs_w h480 hP hS_w => ?_)
                  obtain ⟨h480, h480u⟩ := h480
                  subst h480
                  subst h480u
                  have hP : va_P G_w vwCl (wD a_w cI cZ g_w (up2 f_w 4 (gvU (f_w 4) F9 L9)) cd (nI (cnt (thB (gvU (f_w 4) F9 L9)) 200)) ++ [cC (a_w 7) cI (ccG g_w), cT (a_w 8) cI tt, cG (a_w 9) cL gq]) H := hP
                  refine lv_iload hx hb_w dL_step_483 (lv_at hl 4 rfl) ?_
                  refine lv_icmp_ne (tgt := 492) hx hb_w dL_step_485 (by decide) (fun c485 => ?_) (fun c485 => ?_)
                  · exact absurd (by rw [ek]) c485
                  refine lv_iconst (v := 1) hx hb_w dL_step_488 (by decide) ?_
                  refine lv_goto (tgt := 493) hx hb_w dL_step_489 (by decide) ?_
                  exact hret 1 ((g_w, up2 f_w 4 (gvU (f_w 4) F9 L9), cd, nI (cnt (thB (gvU (f_w 4) F9 L9)) 200)), tt, gq) 493 _ _ _ _ _ (Nat.le_of_ble_eq_true rfl) (Nat.le_of_ble_eq_true rfl) dL_step_493 rfl hP hS_w ⟨rfl, LW_gv hW hg9⟩
                have hk2 : k_w < 200 := nge_200 c410 hk
                refine lv_aload hx hb_w dL_step_413 (lv_at hl 1 rfl) ?_
                refine lv_iload hx hb_w dL_step_415 (lv_at hl 5 rfl) ?_
                refine lv_bipush (v := 50) hx hb_w dL_step_417 (by decide) ?_
                refine lv_idiv hx hb_w dL_step_419 (by decide) ?_
                refine top_eq (z := nI (k_w / 50)) (pk_div (a := k_w) (d := 50) (by omega) (by decide) (by decide)) ?_
                refine lv_dup2_11 hx hb_w dL_step_420 rfl rfl ?_
                refine va_lald (f := gq) hx hb_w hK_w hP 9 2 rfl rfl (vp_in_nI (by omega) (by decide)) dL_step_421 ?_
                rw [nI_clamp (show (k_w / 50) < 2 ^ 31 by omega)]
                refine lv_iload hx hb_w dL_step_422 (lv_at hl 5 rfl) ?_
                refine lv_iload hx hb_w dL_step_424 (lv_at hl 2 rfl) ?_
                refine lv_icmp_lt (tgt := 446) hx hb_w dL_step_426 (by decide) (fun c426 => ?_) (fun c426 => ?_)
                · have ho : ¬ (F9 ≤ k_w ∧ k_w ≤ L9) := fun y_w => by have := lt_nI (a := k_w) (b := F9) (by omega) (by omega) c426; omega
                  refine lv_lconst (v := 0) hx hb_w dL_step_446 rfl ?_
                  refine lv_lor hx hb_w dL_step_447 ?_
                  refine va_last (cA := cL) (n := 4) (f := gq) hx hb_w hK_w hP (DD_D (ws := (wD a_w cI cZ g_w f_w cd tc_w ++ [cC (a_w 7) cI (ccG g_w), cT (a_w 8) cI tt, cG (a_w 9) cL gq])) hDD) hS_w 9 2 rfl rfl (vp_in_nI (by omega) (by decide)) dL_step_448 (fun H locs_w hP _ hS_w => ?_)
                  rw [nI_clamp (show (k_w / 50) < 2 ^ 31 by omega)] at hP
                  have hP : va_P G_w vwCl (wD a_w cI cZ g_w f_w cd tc_w ++ [cC (a_w 7) cI (ccG g_w), cT (a_w 8) cI tt, cG (a_w 9) cL (vp_updL gq (k_w / 50) (gq (k_w / 50) ||| 0))]) H := hP
                  have hg2 : ∀ j_w, j_w < 200 → isT (vp_updL gq (k_w / 50) (gq (k_w / 50) ||| 0)) j_w = if j_w < k_w + 1 then thB (gvU (f_w 4) F9 L9) j_w else thB (f_w 4) j_w := fun j_w hj => gv_out hg hk2 hj ho
                  refine lv_iload hx hb_w dL_step_449 (lv_at hl 4 rfl) ?_
                  refine lv_aload hx hb_w dL_step_451 (lv_at hl 1 rfl) ?_
                  refine lv_iload hx hb_w dL_step_453 (lv_at hl 5 rfl) ?_
                  refine rdr_S (As := [.ref (a_w 9), .int (nI k_w)]) (rest := [.int (nI (cnt (thB (gvU (f_w 4) F9 L9)) k_w))]) ⟨hx, hb_w, hml, hown, hts⟩ (kL_isThere l G_w cI cZ cL (a_w 9) (vp_updL gq (k_w / 50) (gq (k_w / 50) ||| 0)) k_w (by omega)) (va_cwS 2 hts gL_step_L_isThere rfl rfl rfl (by decide +kernel) ⟨Nat.le_of_ble_eq_true rfl, Nat.le_of_ble_eq_true rfl⟩) (hP.sub [9] rfl) hK_w rfl hl.1 rfl (Nat.le_of_ble_eq_true rfl) dL_step_455  ⟨Nat.le_of_ble_eq_true rfl, Nat.le_of_ble_eq_true rfl⟩ (fun r455 h455 => ?_)
                  replace h455 : r455 = bI (isT (vp_updL gq (k_w / 50) (gq (k_w / 50) ||| 0)) k_w) := h455
                  subst h455
                  refine top_eq (z := bI (thB (gvU (f_w 4) F9 L9) k_w)) (by rw [hg2 k_w hk2, if_pos (Nat.lt_succ_self k_w)]) ?_
                  refine lv_if_eq (tgt := 465) hx hb_w dL_step_458 (by decide) (fun c458 => ?_) (fun c458 => ?_)
                  · replace c458 := bI0 c458
                    refine lv_iconst (v := 0) hx hb_w dL_step_465 (by decide) ?_
                    refine lv_iadd hx hb_w dL_step_466 ?_
                    refine top_eq (z := nI (cnt (thB (gvU (f_w 4) F9 L9)) (k_w + 1))) (by rw [cnt_f c458]; exact Int32.add_zero _) ?_
                    refine lv_istore (lv' := [(11, .int (nI (cnt (thB (gvU (f_w 4) F9 L9)) (k_w + 1)))), (0, .ref (a_w 0)), (6, .ref (a_w 9)), (9, .int (nI F9)), (10, .int (nI L9)), (12, .int (nI k_w))]) hx hb_w dL_step_467 hl (by decide) rfl (fun ls hl => ?_)
                    refine lv_iinc (v := nI (k_w + 1)) (lv' := [(12, .int (nI (k_w + 1))), (11, .int (nI (cnt (thB (gvU (f_w 4) F9 L9)) (k_w + 1)))), (0, .ref (a_w 0)), (6, .ref (a_w 9)), (9, .int (nI F9)), (10, .int (nI L9))]) hx hb_w dL_step_469 hl (k := 5) rfl (nI_1 _) (by decide) rfl (fun ls hl => ?_)
                    refine lv_goto (tgt := 405) hx hb_w dL_step_472 (by decide) ?_
                    exact ih405 (k_w + 1) (vp_updL gq (k_w / 50) (gq (k_w / 50) ||| 0)) (by omega) (by omega) hg2 _ _ hP hS_w _ (lv_sub hl [2, 3, 4, 5, 1, 0] rfl)
                  replace c458 := bIn c458
                  refine lv_iconst (v := 1) hx hb_w dL_step_461 (by decide) ?_
                  refine lv_goto (tgt := 466) hx hb_w dL_step_462 (by decide) ?_
                  refine lv_iadd hx hb_w dL_step_466 ?_
                  refine top_eq (z := nI (cnt (thB (gvU (f_w 4) F9 L9)) (k_w + 1))) (by rw [cnt_t c458]; exact nI_1 _) ?_
                  refine lv_istore (lv' := [(11, .int (nI (cnt (thB (gvU (f_w 4) F9 L9)) (k_w + 1)))), (0, .ref (a_w 0)), (6, .ref (a_w 9)), (9, .int (nI F9)), (10, .int (nI L9)), (12, .int (nI k_w))]) hx hb_w dL_step_467 hl (by decide) rfl (fun ls hl => ?_)
                  refine lv_iinc (v := nI (k_w + 1)) (lv' := [(12, .int (nI (k_w + 1))), (11, .int (nI (cnt (thB (gvU (f_w 4) F9 L9)) (k_w + 1)))), (0, .ref (a_w 0)), (6, .ref (a_w 9)), (9, .int (nI F9)), (10, .int (nI L9))]) hx hb_w dL_step_469 hl (k := 5) rfl (nI_1 _) (by decide) rfl (fun ls hl => ?_)
                  refine lv_goto (tgt := 405) hx hb_w dL_step_472 (by decide) ?_
                  exact ih405 (k_w + 1) (vp_updL gq (k_w / 50) (gq (k_w / 50) ||| 0)) (by omega) (by omega) hg2 _ _ hP hS_w _ (lv_sub hl [2, 3, 4, 5, 1, 0] rfl)
                refine lv_iload hx hb_w dL_step_429 (lv_at hl 5 rfl) ?_
                refine lv_iload hx hb_w dL_step_431 (lv_at hl 3 rfl) ?_
                refine lv_icmp_gt (tgt := 446) hx hb_w dL_step_433 (by decide) (fun c433 => ?_) (fun c433 => ?_)
                · have ho : ¬ (F9 ≤ k_w ∧ k_w ≤ L9) := fun y_w => by have := lt_nI (a := L9) (b := k_w) (by omega) (by omega) c433; omega
                  refine lv_lconst (v := 0) hx hb_w dL_step_446 rfl ?_
                  refine lv_lor hx hb_w dL_step_447 ?_
                  refine va_last (cA := cL) (n := 4) (f := gq) hx hb_w hK_w hP (DD_D (ws := (wD a_w cI cZ g_w f_w cd tc_w ++ [cC (a_w 7) cI (ccG g_w), cT (a_w 8) cI tt, cG (a_w 9) cL gq])) hDD) hS_w 9 2 rfl rfl (vp_in_nI (by omega) (by decide)) dL_step_448 (fun H locs_w hP _ hS_w => ?_)
                  rw [nI_clamp (show (k_w / 50) < 2 ^ 31 by omega)] at hP
                  have hP : va_P G_w vwCl (wD a_w cI cZ g_w f_w cd tc_w ++ [cC (a_w 7) cI (ccG g_w), cT (a_w 8) cI tt, cG (a_w 9) cL (vp_updL gq (k_w / 50) (gq (k_w / 50) ||| 0))]) H := hP
                  have hg2 : ∀ j_w, j_w < 200 → isT (vp_updL gq (k_w / 50) (gq (k_w / 50) ||| 0)) j_w = if j_w < k_w + 1 then thB (gvU (f_w 4) F9 L9) j_w else thB (f_w 4) j_w := fun j_w hj => gv_out hg hk2 hj ho
                  refine lv_iload hx hb_w dL_step_449 (lv_at hl 4 rfl) ?_
                  refine lv_aload hx hb_w dL_step_451 (lv_at hl 1 rfl) ?_
                  refine lv_iload hx hb_w dL_step_453 (lv_at hl 5 rfl) ?_
                  refine rdr_S (As := [.ref (a_w 9), .int (nI k_w)]) (rest := [.int (nI (cnt (thB (gvU (f_w 4) F9 L9)) k_w))]) ⟨hx, hb_w, hml, hown, hts⟩ (kL_isThere l G_w cI cZ cL (a_w 9) (vp_updL gq (k_w / 50) (gq (k_w / 50) ||| 0)) k_w (by omega)) (va_cwS 2 hts gL_step_L_isThere rfl rfl rfl (by decide +kernel) ⟨Nat.le_of_ble_eq_true rfl, Nat.le_of_ble_eq_true rfl⟩) (hP.sub [9] rfl) hK_w rfl hl.1 rfl (Nat.le_of_ble_eq_true rfl) dL_step_455  ⟨Nat.le_of_ble_eq_true rfl, Nat.le_of_ble_eq_true rfl⟩ (fun r455 h455 => ?_)
                  replace h455 : r455 = bI (isT (vp_updL gq (k_w / 50) (gq (k_w / 50) ||| 0)) k_w) := h455
                  subst h455
                  refine top_eq (z := bI (thB (gvU (f_w 4) F9 L9) k_w)) (by rw [hg2 k_w hk2, if_pos (Nat.lt_succ_self k_w)]) ?_
                  refine lv_if_eq (tgt := 465) hx hb_w dL_step_458 (by decide) (fun c458 => ?_) (fun c458 => ?_)
                  · replace c458 := bI0 c458
                    refine lv_iconst (v := 0) hx hb_w dL_step_465 (by decide) ?_
                    refine lv_iadd hx hb_w dL_step_466 ?_
                    refine top_eq (z := nI (cnt (thB (gvU (f_w 4) F9 L9)) (k_w + 1))) (by rw [cnt_f c458]; exact Int32.add_zero _) ?_
                    refine lv_istore (lv' := [(11, .int (nI (cnt (thB (gvU (f_w 4) F9 L9)) (k_w + 1)))), (0, .ref (a_w 0)), (6, .ref (a_w 9)), (9, .int (nI F9)), (10, .int (nI L9)), (12, .int (nI k_w))]) hx hb_w dL_step_467 hl (by decide) rfl (fun ls hl => ?_)
                    refine lv_iinc (v := nI (k_w + 1)) (lv' := [(12, .int (nI (k_w + 1))), (11, .int (nI (cnt (thB (gvU (f_w 4) F9 L9)) (k_w + 1)))), (0, .ref (a_w 0)), (6, .ref (a_w 9)), (9, .int (nI F9)), (10, .int (nI L9))]) hx hb_w dL_step_469 hl (k := 5) rfl (nI_1 _) (by decide) rfl (fun ls hl => ?_)
                    refine lv_goto (tgt := 405) hx hb_w dL_step_472 (by decide) ?_
                    exact ih405 (k_w + 1) (vp_updL gq (k_w / 50) (gq (k_w / 50) ||| 0)) (by omega) (by omega) hg2 _ _ hP hS_w _ (lv_sub hl [2, 3, 4, 5, 1, 0] rfl)
                  replace c458 := bIn c458
                  refine lv_iconst (v := 1) hx hb_w dL_step_461 (by decide) ?_
                  refine lv_goto (tgt := 466) hx hb_w dL_step_462 (by decide) ?_
                  refine lv_iadd hx hb_w dL_step_466 ?_
                  refine top_eq (z := nI (cnt (thB (gvU (f_w 4) F9 L9)) (k_w + 1))) (by rw [cnt_t c458]; exact nI_1 _) ?_
                  refine lv_istore (lv' := [(11, .int (nI (cnt (thB (gvU (f_w 4) F9 L9)) (k_w + 1)))), (0, .ref (a_w 0)), (6, .ref (a_w 9)), (9, .int (nI F9)), (10, .int (nI L9)), (12, .int (nI k_w))]) hx hb_w dL_step_467 hl (by decide) rfl (fun ls hl => ?_)
                  refine lv_iinc (v := nI (k_w + 1)) (lv' := [(12, .int (nI (k_w + 1))), (11, .int (nI (cnt (thB (gvU (f_w 4) F9 L9)) (k_w + 1)))), (0, .ref (a_w 0)), (6, .ref (a_w 9)), (9, .int (nI F9)), (10, .int (nI L9))]) hx hb_w dL_step_469 hl (k := 5) rfl (nI_1 _) (by decide) rfl (fun ls hl => ?_)
                  refine lv_goto (tgt := 405) hx hb_w dL_step_472 (by decide) ?_
                  exact ih405 (k_w + 1) (vp_updL gq (k_w / 50) (gq (k_w / 50) ||| 0)) (by omega) (by omega) hg2 _ _ hP hS_w _ (lv_sub hl [2, 3, 4, 5, 1, 0] rfl)
                have ho : F9 ≤ k_w ∧ k_w ≤ L9 := ⟨nlt_nI (by omega) (by omega) c426, nlt_nI (by omega) (by omega) c433⟩
                refine lv_lconst (v := 1) hx hb_w dL_step_436 rfl ?_
                refine lv_iload hx hb_w dL_step_437 (lv_at hl 5 rfl) ?_
                refine lv_bipush (v := 50) hx hb_w dL_step_439 (by decide) ?_
                refine lv_irem hx hb_w dL_step_441 (by decide) ?_
                refine top_eq (z := nI (k_w % 50)) (pk_rem (a := k_w) (d := 50) (by omega) (by decide) (by decide)) ?_
                refine lv_lshl hx hb_w dL_step_442 rfl ?_
                refine lv_goto (tgt := 447) hx hb_w dL_step_443 (by decide) ?_
                refine lv_lor hx hb_w dL_step_447 ?_
                refine va_last (cA := cL) (n := 4) (f := gq) hx hb_w hK_w hP (DD_D (ws := (wD a_w cI cZ g_w f_w cd tc_w ++ [cC (a_w 7) cI (ccG g_w), cT (a_w 8) cI tt, cG (a_w 9) cL gq])) hDD) hS_w 9 2 rfl rfl (vp_in_nI (by omega) (by decide)) dL_step_448 (fun H locs_w hP _ hS_w => ?_)
                rw [nI_clamp (show (k_w / 50) < 2 ^ 31 by omega)] at hP
                have hP : va_P G_w vwCl (wD a_w cI cZ g_w f_w cd tc_w ++ [cC (a_w 7) cI (ccG g_w), cT (a_w 8) cI tt, cG (a_w 9) cL (vp_updL gq (k_w / 50) (gq (k_w / 50) ||| ((1 : Int64) <<< ((nI (k_w % 50)).toInt64 &&& 63))))]) H := hP
                have hg2 : ∀ j_w, j_w < 200 → isT (vp_updL gq (k_w / 50) (gq (k_w / 50) ||| ((1 : Int64) <<< ((nI (k_w % 50)).toInt64 &&& 63)))) j_w = if j_w < k_w + 1 then thB (gvU (f_w 4) F9 L9) j_w else thB (f_w 4) j_w := fun j_w hj => gv_in hg hk2 hj ho
                refine lv_iload hx hb_w dL_step_449 (lv_at hl 4 rfl) ?_
                refine lv_aload hx hb_w dL_step_451 (lv_at hl 1 rfl) ?_
                refine lv_iload hx hb_w dL_step_453 (lv_at hl 5 rfl) ?_
                refine rdr_S (As := [.ref (a_w 9), .int (nI k_w)]) (rest := [.int (nI (cnt (thB (gvU (f_w 4) F9 L9)) k_w))]) ⟨hx, hb_w, hml, hown, hts⟩ (kL_isThere l G_w cI cZ cL (a_w 9) (vp_updL gq (k_w / 50) (gq (k_w / 50) ||| ((1 : Int64) <<< ((nI (k_w % 50)).toInt64 &&& 63)))) k_w (by omega)) (va_cwS 2 hts gL_step_L_isThere rfl rfl rfl (by decide +kernel) ⟨Nat.le_of_ble_eq_true rfl, Nat.le_of_ble_eq_true rfl⟩) (hP.sub [9] rfl) hK_w rfl hl.1 rfl (Nat.le_of_ble_eq_true rfl) dL_step_455  ⟨Nat.le_of_ble_eq_true rfl, Nat.le_of_ble_eq_true rfl⟩ (fun r455 h455 => ?_)
                replace h455 : r455 = bI (isT (vp_updL gq (k_w / 50) (gq (k_w / 50) ||| ((1 : Int64) <<< ((nI (k_w % 50)).toInt64 &&& 63)))) k_w) := h455
                subst h455
                refine top_eq (z := bI (thB (gvU (f_w 4) F9 L9) k_w)) (by rw [hg2 k_w hk2, if_pos (Nat.lt_succ_self k_w)]) ?_
                refine lv_if_eq (tgt := 465) hx hb_w dL_step_458 (by decide) (fun c458 => ?_) (fun c458 => ?_)
                · replace c458 := bI0 c458
                  refine lv_iconst (v := 0) hx hb_w dL_step_465 (by decide) ?_
                  refine lv_iadd hx hb_w dL_step_466 ?_
                  refine top_eq (z := nI (cnt (thB (gvU (f_w 4) F9 L9)) (k_w + 1))) (by rw [cnt_f c458]; exact Int32.add_zero _) ?_
                  refine lv_istore (lv' := [(11, .int (nI (cnt (thB (gvU (f_w 4) F9 L9)) (k_w + 1)))), (0, .ref (a_w 0)), (6, .ref (a_w 9)), (9, .int (nI F9)), (10, .int (nI L9)), (12, .int (nI k_w))]) hx hb_w dL_step_467 hl (by decide) rfl (fun ls hl => ?_)
                  refine lv_iinc (v := nI (k_w + 1)) (lv' := [(12, .int (nI (k_w + 1))), (11, .int (nI (cnt (thB (gvU (f_w 4) F9 L9)) (k_w + 1)))), (0, .ref (a_w 0)), (6, .ref (a_w 9)), (9, .int (nI F9)), (10, .int (nI L9))]) hx hb_w dL_step_469 hl (k := 5) rfl (nI_1 _) (by decide) rfl (fun ls hl => ?_)
                  refine lv_goto (tgt := 405) hx hb_w dL_step_472 (by decide) ?_
                  exact ih405 (k_w + 1) (vp_updL gq (k_w / 50) (gq (k_w / 50) ||| ((1 : Int64) <<< ((nI (k_w % 50)).toInt64 &&& 63)))) (by omega) (by omega) hg2 _ _ hP hS_w _ (lv_sub hl [2, 3, 4, 5, 1, 0] rfl)
                replace c458 := bIn c458
                refine lv_iconst (v := 1) hx hb_w dL_step_461 (by decide) ?_
                refine lv_goto (tgt := 466) hx hb_w dL_step_462 (by decide) ?_
                refine lv_iadd hx hb_w dL_step_466 ?_
                refine top_eq (z := nI (cnt (thB (gvU (f_w 4) F9 L9)) (k_w + 1))) (by rw [cnt_t c458]; exact nI_1 _) ?_
                refine lv_istore (lv' := [(11, .int (nI (cnt (thB (gvU (f_w 4) F9 L9)) (k_w + 1)))), (0, .ref (a_w 0)), (6, .ref (a_w 9)), (9, .int (nI F9)), (10, .int (nI L9)), (12, .int (nI k_w))]) hx hb_w dL_step_467 hl (by decide) rfl (fun ls hl => ?_)
                refine lv_iinc (v := nI (k_w + 1)) (lv' := [(12, .int (nI (k_w + 1))), (11, .int (nI (cnt (thB (gvU (f_w 4) F9 L9)) (k_w + 1)))), (0, .ref (a_w 0)), (6, .ref (a_w 9)), (9, .int (nI F9)), (10, .int (nI L9))]) hx hb_w dL_step_469 hl (k := 5) rfl (nI_1 _) (by decide) rfl (fun ls hl => ?_)
                refine lv_goto (tgt := 405) hx hb_w dL_step_472 (by decide) ?_
                exact ih405 (k_w + 1) (vp_updL gq (k_w / 50) (gq (k_w / 50) ||| ((1 : Int64) <<< ((nI (k_w % 50)).toInt64 &&& 63)))) (by omega) (by omega) hg2 _ _ hP hS_w _ (lv_sub hl [2, 3, 4, 5, 1, 0] rfl)
            exact loop405 201 0 gg (by omega) (by omega) (fun j_w hj => by rw [if_neg (by omega)]; exact hbit j_w hj) _ _ hP hS_w _ (lv_sub hl [6, 12, 3, 2, 1, 0] rfl)
          refine lv_aload hx hb_w dL_step_281 (lv_at hl 6 rfl) ?_
          refine lv_iconst (v := 1) hx hb_w dL_step_283 (by decide) ?_
          refine lv_bipush (v := 20) hx hb_w dL_step_284 (by decide) ?_
          refine lv_iload_n hx hb_w dL_step_286 rfl (lv_at hl 4 rfl) ?_
          refine lv_bipush (v := 71) hx hb_w dL_step_287 (by decide) ?_
          refine lv_irem hx hb_w dL_step_289 (by decide) ?_
          refine top_eq (z := nI (X_w % 71)) (pk_rem (a := X_w) (d := 71) (by omega) (by decide) (by decide)) ?_
          refine lv_iadd hx hb_w dL_step_290 ?_
          refine top_eq (z := nI (20 + X_w % 71)) (nI_add 20 _) ?_
          refine asC (j := 1) (h := ccG g_w) (v := nI (20 + X_w % 71)) (wD a_w cI cZ g_w f_w cd tc_w ++ [cC (a_w 7) cI (upd (ccG g_w) 1 (nI (20 + X_w % 71))), cT (a_w 8) cI tt, cG (a_w 9) cL gg]) hx hb_w hK_w hP (DD_D (ws := (wD a_w cI cZ g_w f_w cd tc_w ++ [cC (a_w 7) cI (ccG g_w), cT (a_w 8) cI tt, cG (a_w 9) cL gg])) hDD) hS_w 7 rfl rfl (by decide) (by decide) rfl dL_step_291 (fun H locs_w hP hS_w => ?_)
          refine lv_aload hx hb_w dL_step_292 (lv_at hl 6 rfl) ?_
          refine lv_iconst (v := 2) hx hb_w dL_step_294 (by decide) ?_
          refine lv_iconst (v := 1) hx hb_w dL_step_295 (by decide) ?_
          refine lv_iload_n hx hb_w dL_step_296 rfl (lv_at hl 5 rfl) ?_
          refine lv_bipush (v := 20) hx hb_w dL_step_297 (by decide) ?_
          refine lv_irem hx hb_w dL_step_299 (by decide) ?_
          refine top_eq (z := nI (Y % 20)) (pk_rem (a := Y) (d := 20) (by omega) (by decide) (by decide)) ?_
          refine lv_iadd hx hb_w dL_step_300 ?_
          refine top_eq (z := nI (1 + Y % 20)) (nI_add 1 _) ?_
          refine asC (j := 2) (h := (upd (ccG g_w) 1 (nI (20 + X_w % 71)))) (v := nI (1 + Y % 20)) (wD a_w cI cZ g_w f_w cd tc_w ++ [cC (a_w 7) cI (upd (upd (ccG g_w) 1 (nI (20 + X_w % 71))) 2 (nI (1 + Y % 20))), cT (a_w 8) cI tt, cG (a_w 9) cL gg]) hx hb_w hK_w hP (DD_D (ws := (wD a_w cI cZ g_w f_w cd tc_w ++ [cC (a_w 7) cI (upd (ccG g_w) 1 (nI (20 + X_w % 71))), cT (a_w 8) cI tt, cG (a_w 9) cL gg])) hDD) hS_w 7 rfl rfl (by decide) (by decide) rfl dL_step_301 (fun H locs_w hP hS_w => ?_)
          refine lv_aload hx hb_w dL_step_302 (lv_at hl 6 rfl) ?_
          refine lv_iconst (v := 3) hx hb_w dL_step_304 (by decide) ?_
          refine lv_iload_n hx hb_w dL_step_305 rfl (lv_at hl 4 rfl) ?_
          refine lv_bipush (v := 71) hx hb_w dL_step_306 (by decide) ?_
          refine lv_idiv hx hb_w dL_step_308 (by decide) ?_
          refine top_eq (z := nI (X_w / 71)) (pk_div (a := X_w) (d := 71) (by omega) (by decide) (by decide)) ?_
          refine lv_iconst (v := 2) hx hb_w dL_step_309 (by decide) ?_
          refine lv_irem hx hb_w dL_step_310 (by decide) ?_
          refine top_eq (z := nI (X_w / 71 % 2)) (pk_rem (a := X_w / 71) (d := 2) (by omega) (by decide) (by decide)) ?_
          refine asC (j := 3) (h := (upd (upd (ccG g_w) 1 (nI (20 + X_w % 71))) 2 (nI (1 + Y % 20)))) (v := nI (X_w / 71 % 2)) (wD a_w cI cZ g_w f_w cd tc_w ++ [cC (a_w 7) cI (upd (upd (upd (ccG g_w) 1 (nI (20 + X_w % 71))) 2 (nI (1 + Y % 20))) 3 (nI (X_w / 71 % 2))), cT (a_w 8) cI tt, cG (a_w 9) cL gg]) hx hb_w hK_w hP (DD_D (ws := (wD a_w cI cZ g_w f_w cd tc_w ++ [cC (a_w 7) cI (upd (upd (ccG g_w) 1 (nI (20 + X_w % 71))) 2 (nI (1 + Y % 20))), cT (a_w 8) cI tt, cG (a_w 9) cL gg])) hDD) hS_w 7 rfl rfl (by decide) (by decide) rfl dL_step_311 (fun H locs_w hP hS_w => ?_)
          refine lv_aload hx hb_w dL_step_312 (lv_at hl 6 rfl) ?_
          refine lv_iconst (v := 4) hx hb_w dL_step_314 (by decide) ?_
          have j336 : ∀ kS : Nat, (kS ≤ 4094) → W p_w l e_w { frames := 10, cells := 2, slots := 120, locals := 191 } s_w m_w args_w below meth_w c_w H locs_w 0 0 Q (F0 m_w 336 ls [.int (nI kS), .int 4, .ref (a_w 7)]) := by
            intro kS hkS
            refine asC (j := 4) (h := (upd (upd (upd (ccG g_w) 1 (nI (20 + X_w % 71))) 2 (nI (1 + Y % 20))) 3 (nI (X_w / 71 % 2)))) (v := nI kS) (wD a_w cI cZ g_w f_w cd tc_w ++ [cC (a_w 7) cI (upd (upd (upd (upd (ccG g_w) 1 (nI (20 + X_w % 71))) 2 (nI (1 + Y % 20))) 3 (nI (X_w / 71 % 2))) 4 (nI kS)), cT (a_w 8) cI tt, cG (a_w 9) cL gg]) hx hb_w hK_w hP (DD_D (ws := (wD a_w cI cZ g_w f_w cd tc_w ++ [cC (a_w 7) cI (upd (upd (upd (ccG g_w) 1 (nI (20 + X_w % 71))) 2 (nI (1 + Y % 20))) 3 (nI (X_w / 71 % 2))), cT (a_w 8) cI tt, cG (a_w 9) cL gg])) hDD) hS_w 7 rfl rfl (by decide) (by decide) rfl dL_step_336 (fun H locs_w hP hS_w => ?_)
            refine lv_aload_n hx hb_w dL_step_337 rfl (lv_at hl 2 rfl) ?_
            refine lv_aload hx hb_w dL_step_338 (lv_at hl 6 rfl) ?_
            refine lv_iconst (v := 1) hx hb_w dL_step_340 (by decide) ?_
            refine arC (j := 1) (h := (upd (upd (upd (upd (ccG g_w) 1 (nI (20 + X_w % 71))) 2 (nI (1 + Y % 20))) 3 (nI (X_w / 71 % 2))) 4 (nI kS))) hx hb_w hK_w hP 7 rfl rfl (by decide) (by decide) dL_step_341 ?_
            refine top_eq (z := nI (20 + X_w % 71)) rfl ?_
            refine lv_aload hx hb_w dL_step_342 (lv_at hl 6 rfl) ?_
            refine lv_iconst (v := 2) hx hb_w dL_step_344 (by decide) ?_
            refine arC (j := 2) (h := (upd (upd (upd (upd (ccG g_w) 1 (nI (20 + X_w % 71))) 2 (nI (1 + Y % 20))) 3 (nI (X_w / 71 % 2))) 4 (nI kS))) hx hb_w hK_w hP 7 rfl rfl (by decide) (by decide) dL_step_345 ?_
            refine top_eq (z := nI (1 + Y % 20)) rfl ?_
            have j359 : W p_w l e_w { frames := 10, cells := 2, slots := 120, locals := 191 } s_w m_w args_w below meth_w c_w H locs_w 0 0 Q (F0 m_w 359 ls [.int (nI (X_w / 71 % 2)), .int (nI (1 + Y % 20)), .int (nI (20 + X_w % 71)), .ref (a_w 0)]) := by
              refine lv_aload hx hb_w dL_step_359 (lv_at hl 6 rfl) ?_
              refine lv_iconst (v := 4) hx hb_w dL_step_361 (by decide) ?_
              refine arC (j := 4) (h := (upd (upd (upd (upd (ccG g_w) 1 (nI (20 + X_w % 71))) 2 (nI (1 + Y % 20))) 3 (nI (X_w / 71 % 2))) 4 (nI kS))) hx hb_w hK_w hP 7 rfl rfl (by decide) (by decide) dL_step_362 ?_
              refine top_eq (z := nI kS) rfl ?_
              have hok := ok_SP (p := 20 + X_w % 71) (q := 1 + Y % 20) (k := kS) (by omega) (by omega) (by omega) (by omega) hkS
              have hW2 := LW_sp (p2 := (nI (X_w / 71 % 2))) hW hok (b01 _)
              obtain ⟨hAF, hGq, -⟩ := AF_lk (by omega) hW2.1.1 hN_w hN2 (fun k_w hk => (hz k_w hk).2)
              have hcc := cc_sp (g := g_w) hGq
              refine lD_v (x := (g_w, f_w, cd, tc_w)) (ex := [cC (a_w 7) cI (upd (upd (upd (upd (ccG g_w) 1 (nI (20 + X_w % 71))) 2 (nI (1 + Y % 20))) 3 (nI (X_w / 71 % 2))) 4 (nI kS)), cT (a_w 8) cI tt, cG (a_w 9) cL gg]) (As := [.int (nI (20 + X_w % 71)), .int (nI (1 + Y % 20)), .int (nI (X_w / 71 % 2)), .int (nI kS)]) (rest := []) ⟨hx, hb_w, hml, hown, hts⟩ (kX1_setPattern_n l G_w a_w cI cZ g_w f_w cd tc_w (DD_ap hDD) H.size (nI (20 + X_w % 71)) (nI (1 + Y % 20)) (nI (X_w / 71 % 2)) (nI kS) n_w (by omega) hI (b01 _) hok) (cwV 4 hts gL_step_X1_setPattern rfl rfl rfl (by decide +kernel) ⟨Nat.le_of_ble_eq_true rfl, Nat.le_of_ble_eq_true rfl⟩) hDD hA hP hK_w hS_w rfl hl.1 rfl (Nat.le_of_ble_eq_true rfl) dL_step_363  ⟨Nat.le_of_ble_eq_true rfl, Nat.le_of_ble_eq_true rfl⟩ (fun u363 H locs_w h363 hP hS_w => ?_)
              subst h363
              rw [hcc] at hP
              have hP : va_P G_w vwCl (wD a_w cI cZ ((lkS (gSP g_w (nI (20 + X_w % 71)) (nI (1 + Y % 20)) (nI (X_w / 71 % 2)) (nI kS)) f_w).1) ((lkS (gSP g_w (nI (20 + X_w % 71)) (nI (1 + Y % 20)) (nI (X_w / 71 % 2)) (nI kS)) f_w).2) cd tc_w ++ [cC (a_w 7) cI (ccG ((lkS (gSP g_w (nI (20 + X_w % 71)) (nI (1 + Y % 20)) (nI (X_w / 71 % 2)) (nI kS)) f_w).1)), cT (a_w 8) cI tt, cG (a_w 9) cL gg]) H := hP
              refine lv_aload_n hx hb_w dL_step_366 rfl (lv_at hl 2 rfl) ?_
              refine lv_aload hx hb_w dL_step_367 (lv_at hl 6 rfl) ?_
              refine lv_iload hx hb_w dL_step_369 (lv_at hl 1 rfl) ?_
              refine lv_iload hx hb_w dL_step_371 (lv_at hl 0 rfl) ?_
              refine lv_iconst (v := 0) hx hb_w dL_step_373 (by decide) ?_
              refine rdr_S (As := [.ref (a_w 0), .ref (a_w 7), .int (nI N_w), .int (g_w 8), .int 0]) (rest := []) ⟨hx, hb_w, hml, hown, hts⟩ (kL_areForetold l G_w a_w cI cZ cL ((lkS (gSP g_w (nI (20 + X_w % 71)) (nI (1 + Y % 20)) (nI (X_w / 71 % 2)) (nI kS)) f_w).1) ((lkS (gSP g_w (nI (20 + X_w % 71)) (nI (1 + Y % 20)) (nI (X_w / 71 % 2)) (nI kS)) f_w).2) cd tc_w N_w (g_w 8) hAF) (va_cwS 5 hts gL_step_L_areForetold rfl rfl rfl (by decide +kernel) ⟨Nat.le_of_ble_eq_true rfl, Nat.le_of_ble_eq_true rfl⟩) (hP.sub [0, 1, 2, 3, 4, 5, 6, 7] rfl) hK_w rfl hl.1 rfl (Nat.le_of_ble_eq_true rfl) dL_step_374  ⟨Nat.le_of_ble_eq_true rfl, Nat.le_of_ble_eq_true rfl⟩ (fun r374 h374 => ?_)
              replace h374 : r374 = 1 := h374
              subst h374
              exact hret 1 (((lkS (gSP g_w (nI (20 + X_w % 71)) (nI (1 + Y % 20)) (nI (X_w / 71 % 2)) (nI kS)) f_w).1, (lkS (gSP g_w (nI (20 + X_w % 71)) (nI (1 + Y % 20)) (nI (X_w / 71 % 2)) (nI kS)) f_w).2, cd, tc_w), tt, gg) 377 _ _ _ _ _ (Nat.le_of_ble_eq_true rfl) (Nat.le_of_ble_eq_true rfl) dL_step_377 rfl hP hS_w ⟨rfl, LW_lk (by omega) hW2⟩
            refine lv_aload hx hb_w dL_step_346 (lv_at hl 6 rfl) ?_
            refine lv_iconst (v := 3) hx hb_w dL_step_348 (by decide) ?_
            refine arC (j := 3) (h := (upd (upd (upd (upd (ccG g_w) 1 (nI (20 + X_w % 71))) 2 (nI (1 + Y % 20))) 3 (nI (X_w / 71 % 2))) 4 (nI kS))) hx hb_w hK_w hP 7 rfl rfl (by decide) (by decide) dL_step_349 ?_
            refine top_eq (z := nI (X_w / 71 % 2)) rfl ?_
            refine lv_iconst (v := 1) hx hb_w dL_step_350 (by decide) ?_
            refine lv_icmp_ne (tgt := 358) hx hb_w dL_step_351 (by decide) (fun c351 => ?_) (fun c351 => ?_)
            · refine lv_iconst (v := 0) hx hb_w dL_step_358 (by decide) ?_
              refine top_eq (z := nI (X_w / 71 % 2)) ((b01 (X_w / 71)).resolve_right c351).symm ?_
              exact j359
            refine lv_iconst (v := 1) hx hb_w dL_step_354 (by decide) ?_
            refine lv_goto (tgt := 359) hx hb_w dL_step_355 (by decide) ?_
            refine top_eq (z := nI (X_w / 71 % 2)) c351.symm ?_
            exact j359
          refine lv_iload_n hx hb_w dL_step_315 rfl (lv_at hl 5 rfl) ?_
          refine lv_bipush (v := 20) hx hb_w dL_step_316 (by decide) ?_
          refine lv_idiv hx hb_w dL_step_318 (by decide) ?_
          refine top_eq (z := nI (Y / 20)) (pk_div (a := Y) (d := 20) (by omega) (by decide) (by decide)) ?_
          refine lv_iconst (v := 3) hx hb_w dL_step_319 (by decide) ?_
          refine lv_irem hx hb_w dL_step_320 (by decide) ?_
          refine top_eq (z := nI (Y / 20 % 3)) (pk_rem (a := Y / 20) (d := 3) (by omega) (by decide) (by decide)) ?_
          refine lv_if_ne (tgt := 328) hx hb_w dL_step_321 (by decide) (fun c321 => ?_) (fun c321 => ?_)
          · refine lv_iload_n hx hb_w dL_step_328 rfl (lv_at hl 5 rfl) ?_
            refine lv_bipush (v := 60) hx hb_w dL_step_329 (by decide) ?_
            refine lv_idiv hx hb_w dL_step_331 (by decide) ?_
            refine top_eq (z := nI (Y / 60)) (pk_div (a := Y) (d := 60) (by omega) (by decide) (by decide)) ?_
            refine lv_sipush (v := 4095) hx hb_w dL_step_332 (by decide) ?_
            refine lv_irem hx hb_w dL_step_335 (by decide) ?_
            refine top_eq (z := nI (Y / 60 % 4095)) (pk_rem (a := Y / 60) (d := 4095) (by omega) (by decide) (by decide)) ?_
            exact j336 (Y / 60 % 4095) (by omega)
          refine lv_iconst (v := 0) hx hb_w dL_step_324 (by decide) ?_
          refine lv_goto (tgt := 336) hx hb_w dL_step_325 (by decide) ?_
          exact j336 0 (by omega)
        refine lv_aload hx hb_w dL_step_228 (lv_at hl 6 rfl) ?_
        refine lv_iconst (v := 5) hx hb_w dL_step_230 (by decide) ?_
        refine lv_iload_n hx hb_w dL_step_231 rfl (lv_at hl 5 rfl) ?_
        refine lv_bipush (v := 20) hx hb_w dL_step_232 (by decide) ?_
        refine lv_irem hx hb_w dL_step_234 (by decide) ?_
        refine top_eq (z := nI (Y % 20)) (pk_rem (a := Y) (d := 20) (by omega) (by decide) (by decide)) ?_
        refine asC (j := 5) (h := ccG g_w) (v := nI (Y % 20)) (wD a_w cI cZ g_w f_w cd tc_w ++ [cC (a_w 7) cI (upd (ccG g_w) 5 (nI (Y % 20))), cT (a_w 8) cI tt, cG (a_w 9) cL gg]) hx hb_w hK_w hP (DD_D (ws := (wD a_w cI cZ g_w f_w cd tc_w ++ [cC (a_w 7) cI (ccG g_w), cT (a_w 8) cI tt, cG (a_w 9) cL gg])) hDD) hS_w 7 rfl rfl (by decide) (by decide) rfl dL_step_235 (fun H locs_w hP hS_w => ?_)
        refine lv_aload hx hb_w dL_step_236 (lv_at hl 6 rfl) ?_
        refine lv_bipush (v := 6) hx hb_w dL_step_238 (by decide) ?_
        refine lv_iconst (v := 1) hx hb_w dL_step_240 (by decide) ?_
        refine lv_iload_n hx hb_w dL_step_241 rfl (lv_at hl 4 rfl) ?_
        refine lv_bipush (v := 40) hx hb_w dL_step_242 (by decide) ?_
        refine lv_irem hx hb_w dL_step_244 (by decide) ?_
        refine top_eq (z := nI (X_w % 40)) (pk_rem (a := X_w) (d := 40) (by omega) (by decide) (by decide)) ?_
        refine lv_iadd hx hb_w dL_step_245 ?_
        refine top_eq (z := nI (1 + X_w % 40)) (nI_add 1 _) ?_
        refine asC (j := 6) (h := (upd (ccG g_w) 5 (nI (Y % 20)))) (v := nI (1 + X_w % 40)) (wD a_w cI cZ g_w f_w cd tc_w ++ [cC (a_w 7) cI (upd (upd (ccG g_w) 5 (nI (Y % 20))) 6 (nI (1 + X_w % 40))), cT (a_w 8) cI tt, cG (a_w 9) cL gg]) hx hb_w hK_w hP (DD_D (ws := (wD a_w cI cZ g_w f_w cd tc_w ++ [cC (a_w 7) cI (upd (ccG g_w) 5 (nI (Y % 20))), cT (a_w 8) cI tt, cG (a_w 9) cL gg])) hDD) hS_w 7 rfl rfl (by decide) (by decide) rfl dL_step_246 (fun H locs_w hP hS_w => ?_)
        refine lv_aload_n hx hb_w dL_step_247 rfl (lv_at hl 2 rfl) ?_
        refine lv_aload hx hb_w dL_step_248 (lv_at hl 6 rfl) ?_
        refine lv_iconst (v := 5) hx hb_w dL_step_250 (by decide) ?_
        refine arC (j := 5) (h := (upd (upd (ccG g_w) 5 (nI (Y % 20))) 6 (nI (1 + X_w % 40)))) hx hb_w hK_w hP 7 rfl rfl (by decide) (by decide) dL_step_251 ?_
        refine top_eq (z := nI (Y % 20)) rfl ?_
        refine lv_aload hx hb_w dL_step_252 (lv_at hl 6 rfl) ?_
        refine lv_bipush (v := 6) hx hb_w dL_step_254 (by decide) ?_
        refine arC (j := 6) (h := (upd (upd (ccG g_w) 5 (nI (Y % 20))) 6 (nI (1 + X_w % 40)))) hx hb_w hK_w hP 7 rfl rfl (by decide) (by decide) dL_step_256 ?_
        refine top_eq (z := nI (1 + X_w % 40)) rfl ?_
        refine lD_v (x := (g_w, f_w, cd, tc_w)) (ex := [cC (a_w 7) cI (upd (upd (ccG g_w) 5 (nI (Y % 20))) 6 (nI (1 + X_w % 40))), cT (a_w 8) cI tt, cG (a_w 9) cL gg]) (As := [.int (nI (Y % 20)), .int (nI (1 + X_w % 40))]) (rest := []) ⟨hx, hb_w, hml, hown, hts⟩ (kX1_setClaims_n l G_w a_w cI cZ g_w f_w cd tc_w (DD_ap hDD) H.size (nI (Y % 20)) (nI (1 + X_w % 40)) (ok_SC (by omega) (by omega) (by omega))) (cwV 2 hts gL_step_X1_setClaims rfl rfl rfl (by decide +kernel) ⟨Nat.le_of_ble_eq_true rfl, Nat.le_of_ble_eq_true rfl⟩) hDD hA hP hK_w hS_w rfl hl.1 rfl (Nat.le_of_ble_eq_true rfl) dL_step_257  ⟨Nat.le_of_ble_eq_true rfl, Nat.le_of_ble_eq_true rfl⟩ (fun u257 H locs_w h257 hP hS_w => ?_)
        subst h257
        have hP : va_P G_w vwCl (wD a_w cI cZ (upd (upd g_w 5 (nI (Y % 20))) 6 (nI (1 + X_w % 40))) f_w cd tc_w ++ [cC (a_w 7) cI (upd (upd (ccG g_w) 5 (nI (Y % 20))) 6 (nI (1 + X_w % 40))), cT (a_w 8) cI tt, cG (a_w 9) cL gg]) H := hP
        refine lv_aload_n hx hb_w dL_step_260 rfl (lv_at hl 2 rfl) ?_
        refine rdr_V (As := []) (rest := []) ⟨hx, hb_w, hml, hown, hts⟩ (kX1_foretold l G_w a_w cI cZ (upd (upd g_w 5 (nI (Y % 20))) 6 (nI (1 + X_w % 40))) f_w cd tc_w) (cwV 0 hts gL_step_X1_foretold rfl rfl rfl (by decide +kernel) ⟨Nat.le_of_ble_eq_true rfl, Nat.le_of_ble_eq_true rfl⟩) (va_recv hK_w hP (ci := 1) (q0 := 0) rfl rfl) (hP.sub [0, 1, 2, 3, 4, 5, 6] rfl) (hK_w.sub (tys' := tyIZ cI cZ) [0, 1] rfl) rfl hl.1 rfl (Nat.le_of_ble_eq_true rfl) dL_step_261  ⟨Nat.le_of_ble_eq_true rfl, Nat.le_of_ble_eq_true rfl⟩ (fun r261 h261 => ?_)
        replace h261 : r261 = g_w 7 := h261
        subst h261
        refine top_eq (z := nI N_w) hN_w ?_
        refine lv_iload hx hb_w dL_step_264 (lv_at hl 1 rfl) ?_
        refine lv_icmp_ne (tgt := 273) hx hb_w dL_step_266 (by decide) (fun c266 => ?_) (fun c266 => ?_)
        · exact absurd rfl c266
        refine lv_iconst (v := 1) hx hb_w dL_step_269 (by decide) ?_
        refine lv_goto (tgt := 274) hx hb_w dL_step_270 (by decide) ?_
        rw [cc_sc] at hP
        exact hret 1 ((upd (upd g_w 5 (nI (Y % 20))) 6 (nI (1 + X_w % 40)), f_w, cd, tc_w), tt, gg) 274 _ _ _ _ _ (Nat.le_of_ble_eq_true rfl) (Nat.le_of_ble_eq_true rfl) dL_step_274 rfl hP hS_w ⟨rfl, LW_sc hW (i_lt (a := 0) (by omega) (by omega))⟩
      refine lv_aload_n hx hb_w dL_step_213 rfl (lv_at hl 2 rfl) ?_
      refine lv_aload hx hb_w dL_step_214 (lv_at hl 6 rfl) ?_
      refine lv_aload hx hb_w dL_step_216 (lv_at hl 7 rfl) ?_
      refine lW_i (As := [.ref (a_w 0), .ref (a_w 7), .ref (a_w 8)]) (rest := []) ⟨hx, hb_w, hml, hown, hts⟩ (kL_rounds l hst G_w a_w cI cZ cL g_w f_w cd tc_w hap H.size tt gg N_w hN_w hN2 hCD hT_w h6 hc3) (va_cwS 3 hts gL_step_L_rounds rfl rfl rfl (by decide +kernel) ⟨Nat.le_of_ble_eq_true rfl, Nat.le_of_ble_eq_true rfl⟩) (aS_up hS_w) hP hK_w ht hS_w rfl hl.1 rfl (Nat.le_of_ble_eq_true rfl) dL_step_218  ⟨Nat.le_of_ble_eq_true rfl, Nat.le_of_ble_eq_true rfl⟩ (fun r218 u218 H locs_w h218 hP _ hS_w => ?_)
      obtain ⟨h218, hu96⟩ := h218
      subst h218
      subst hu96
      have hP : va_P G_w vwCl (wD a_w cI cZ g_w (rdF g_w f_w 200) (rdc g_w f_w cd 200) tc_w ++ [cC (a_w 7) cI (ccG g_w), cT (a_w 8) cI (ttR g_w f_w tt (min N_w 60)), cG (a_w 9) cL gg]) H := hP
      exact hret 1 ((g_w, rdF g_w f_w 200, rdc g_w f_w cd 200, tc_w), ttR g_w f_w tt (min N_w 60), gg) 221 _ _ _ _ _ (Nat.le_of_ble_eq_true rfl) (Nat.le_of_ble_eq_true rfl) dL_step_221 rfl hP hS_w ⟨rfl, LW_rd hW hN_w hN2⟩
    refine lv_iload_n hx hb_w dL_step_113 rfl (lv_at hl 4 rfl) ?_
    refine lv_iload hx hb_w dL_step_114 (lv_at hl 1 rfl) ?_
    refine lv_iconst (v := 1) hx hb_w dL_step_116 (by decide) ?_
    refine lv_iadd hx hb_w dL_step_117 ?_
    refine top_eq (z := nI (N_w + 1)) (nI_1 _) ?_
    refine lv_irem hx hb_w dL_step_118 (nI_ne0 (by omega) (by omega)) ?_
    refine top_eq (z := nI i5_w) ((pk_rem (a := X_w) (d := N_w + 1) (by omega) (by omega) (by omega)).trans (congrArg nI e5_w.symm)) ?_
    refine lv_istore (lv' := [(9, .int (nI i5_w)), (8, .int (g_w 8)), (7, .int (nI N_w)), (0, .ref (a_w 0)), (1, .int (nI W9)), (2, .int (nI X_w)), (3, .int (nI Y)), (4, .ref (a_w 7)), (5, .ref (a_w 8)), (6, .ref (a_w 9))]) hx hb_w dL_step_119 hl (by decide) rfl (fun ls hl => ?_)
    refine lv_iload hx hb_w dL_step_121 (lv_at hl 0 rfl) ?_
    refine lv_iload hx hb_w dL_step_123 (lv_at hl 2 rfl) ?_
    refine lv_icmp_ge (tgt := 137) hx hb_w dL_step_125 (by decide) (fun c125 => ?_) (fun c125 => ?_)
    · have hn5 : ¬ i5_w < N_w := by have := le_nI (a := N_w) (b := i5_w) (by omega) (by omega) c125; omega
      refine lv_iconst (v := (-1)) hx hb_w dL_step_137 (by decide) ?_
      refine lv_istore (lv' := [(10, .int (-1)), (9, .int (nI i5_w)), (8, .int (g_w 8)), (7, .int (nI N_w)), (0, .ref (a_w 0)), (1, .int (nI W9)), (2, .int (nI X_w)), (3, .int (nI Y)), (4, .ref (a_w 7)), (5, .ref (a_w 8)), (6, .ref (a_w 9))]) hx hb_w dL_step_138 hl (by decide) rfl (fun ls hl => ?_)
      refine lv_aload_n hx hb_w dL_step_140 rfl (lv_at hl 4 rfl) ?_
      refine lv_iconst (v := 1) hx hb_w dL_step_141 (by decide) ?_
      refine lv_iload hx hb_w dL_step_142 (lv_at hl 1 rfl) ?_
      refine lv_iconst (v := 0) hx hb_w dL_step_144 (by decide) ?_
      refine lA_i (x := (g_w, f_w, cd, tc_w)) (ex := [cC (a_w 7) cI (ccG g_w), cT (a_w 8) cI tt, cG (a_w 9) cL gg]) (As := [.ref (a_w 0), .int 1, .int (nI i5_w), .int 0]) (rest := []) ⟨hx, hb_w, hml, hown, hts⟩ (kL_asks1 l hst G_w a_w cI cZ cL (g_w, f_w, cd, tc_w) (DD_ap hDD) H.size (nI i5_w) 0 ) (vx_cwSW (hh := hhA) 4 hts gL_step_L_asks rfl rfl rfl (by decide +kernel) ⟨Nat.le_of_ble_eq_true rfl, Nat.le_of_ble_eq_true rfl⟩) hDD hA hP hK_w ht hS_w rfl hl.1 rfl (Nat.le_of_ble_eq_true rfl) dL_step_145  ⟨Nat.le_of_ble_eq_true rfl, Nat.le_of_ble_eq_true rfl⟩ (fun r145 u145 H locs_w h145 hP hS_w => ?_)
      rw [nI_clamp (show i5_w < 2 ^ 31 by omega)] at h145
      replace h145 : (skT g_w f_w (nI i5_w) = 0 ∧ r145 = 0 ∧ u145 = (g_w, up2 f_w 1 (upd (f_w 1) i5_w 3), cd, tc_w)) ∨ (skT g_w f_w (nI i5_w) = 1 ∧ r145 = -7 ∧ u145 = (g_w, f_w, cd, tc_w)) ∨ (skT g_w f_w (nI i5_w) = 2 ∧ r145 = -8 ∧ u145 = (g_w, f_w, cd, tc_w)) := h145
      rcases h145 with ⟨h9, hr9, hu9⟩ | ⟨h9, hr9, hu9⟩ | ⟨h9, hr9, hu9⟩
      · rw [hsv, if_neg hn5] at h9; exact absurd h9 (by decide)
      · subst hr9
        subst hu9
        have hP : va_P G_w vwCl (wD a_w cI cZ g_w f_w cd tc_w ++ [cC (a_w 7) cI (ccG g_w), cT (a_w 8) cI tt, cG (a_w 9) cL gg]) H := hP
        refine lv_istore (lv' := [(11, .int (-7)), (10, .int (-1)), (9, .int (nI i5_w)), (8, .int (g_w 8)), (7, .int (nI N_w)), (0, .ref (a_w 0)), (1, .int (nI W9)), (2, .int (nI X_w)), (3, .int (nI Y)), (4, .ref (a_w 7)), (5, .ref (a_w 8)), (6, .ref (a_w 9))]) hx hb_w dL_step_148 hl (by decide) rfl (fun ls hl => ?_)
        refine lv_iload hx hb_w dL_step_150 (lv_at hl 0 rfl) ?_
        refine lv_iload hx hb_w dL_step_152 (lv_at hl 1 rfl) ?_
        refine lv_iconst (v := (-1)) hx hb_w dL_step_154 (by decide) ?_
        refine lv_icmp_ne (tgt := 163) hx hb_w dL_step_155 (by decide) (fun c155 => ?_) (fun c155 => ?_)
        · exact absurd rfl c155
        refine lv_bipush (v := (-7)) hx hb_w dL_step_158 (by decide) ?_
        refine lv_goto (tgt := 174) hx hb_w dL_step_160 (by decide) ?_
        refine lv_icmp_ne (tgt := 205) hx hb_w dL_step_174 (by decide) (fun c174 => ?_) (fun c174 => ?_)
        · exact absurd rfl c174
        refine lv_iload hx hb_w dL_step_177 (lv_at hl 1 rfl) ?_
        refine lv_if_ne (tgt := 192) hx hb_w dL_step_179 (by decide) (fun c179 => ?_) (fun c179 => ?_)
        · refine lv_aload_n hx hb_w dL_step_192 rfl (lv_at hl 5 rfl) ?_
          refine rdr_V (As := []) (rest := []) ⟨hx, hb_w, hml, hown, hts⟩ (kX1_foretold l G_w a_w cI cZ g_w f_w cd tc_w) (cwV 0 hts gL_step_X1_foretold rfl rfl rfl (by decide +kernel) ⟨Nat.le_of_ble_eq_true rfl, Nat.le_of_ble_eq_true rfl⟩) (va_recv hK_w hP (ci := 1) (q0 := 0) rfl rfl) (hP.sub [0, 1, 2, 3, 4, 5, 6] rfl) (hK_w.sub (tys' := tyIZ cI cZ) [0, 1] rfl) rfl hl.1 rfl (Nat.le_of_ble_eq_true rfl) dL_step_193  ⟨Nat.le_of_ble_eq_true rfl, Nat.le_of_ble_eq_true rfl⟩ (fun r193 h193 => ?_)
          replace h193 : r193 = g_w 7 := h193
          subst h193
          refine top_eq (z := nI N_w) hN_w ?_
          refine lv_iload hx hb_w dL_step_196 (lv_at hl 4 rfl) ?_
          refine lv_icmp_ne (tgt := 205) hx hb_w dL_step_198 (by decide) (fun c198 => ?_) (fun c198 => ?_)
          · exact absurd rfl c198
          refine lv_iconst (v := 1) hx hb_w dL_step_201 (by decide) ?_
          refine lv_goto (tgt := 206) hx hb_w dL_step_202 (by decide) ?_
          exact hret 1 ((g_w, f_w, cd, tc_w), tt, gg) 206 _ _ _ _ _ (Nat.le_of_ble_eq_true rfl) (Nat.le_of_ble_eq_true rfl) dL_step_206 rfl hP hS_w ⟨rfl, LW_id hW⟩
        exact absurd c179 (by decide)
      · rw [hsv, if_neg hn5] at h9; exact absurd h9 (by decide)
    have hk5 : i5_w < N_w := nle_nI (by omega) (by omega) c125
    refine lv_aload_n hx hb_w dL_step_128 rfl (lv_at hl 3 rfl) ?_
    refine lv_iload hx hb_w dL_step_129 (lv_at hl 0 rfl) ?_
    refine rdr_V (As := [.int (nI i5_w)]) (rest := []) ⟨hx, hb_w, hml, hown, hts⟩ (kX1_stateOf_n l G_w a_w cI cZ g_w f_w cd tc_w i5_w N_w hN_w hk5 hN2) (cwV 1 hts gL_step_X1_stateOf rfl rfl rfl (by decide +kernel) ⟨Nat.le_of_ble_eq_true rfl, Nat.le_of_ble_eq_true rfl⟩) (va_recv hK_w hP (ci := 1) (q0 := 0) rfl rfl) (hP.sub [0, 1, 2, 3, 4, 5, 6] rfl) (hK_w.sub (tys' := tyIZ cI cZ) [0, 1] rfl) rfl hl.1 rfl (Nat.le_of_ble_eq_true rfl) dL_step_131  ⟨Nat.le_of_ble_eq_true rfl, Nat.le_of_ble_eq_true rfl⟩ (fun r131 h131 => ?_)
    replace h131 : r131 = (f_w 1) i5_w := h131
    subst h131
    refine lv_goto (tgt := 138) hx hb_w dL_step_134 (by decide) ?_
    refine lv_istore (lv' := [(10, .int ((f_w 1) i5_w)), (9, .int (nI i5_w)), (8, .int (g_w 8)), (7, .int (nI N_w)), (0, .ref (a_w 0)), (1, .int (nI W9)), (2, .int (nI X_w)), (3, .int (nI Y)), (4, .ref (a_w 7)), (5, .ref (a_w 8)), (6, .ref (a_w 9))]) hx hb_w dL_step_138 hl (by decide) rfl (fun ls hl => ?_)
    refine lv_aload_n hx hb_w dL_step_140 rfl (lv_at hl 4 rfl) ?_
    refine lv_iconst (v := 1) hx hb_w dL_step_141 (by decide) ?_
    refine lv_iload hx hb_w dL_step_142 (lv_at hl 1 rfl) ?_
    refine lv_iconst (v := 0) hx hb_w dL_step_144 (by decide) ?_
    refine lA_i (x := (g_w, f_w, cd, tc_w)) (ex := [cC (a_w 7) cI (ccG g_w), cT (a_w 8) cI tt, cG (a_w 9) cL gg]) (As := [.ref (a_w 0), .int 1, .int (nI i5_w), .int 0]) (rest := []) ⟨hx, hb_w, hml, hown, hts⟩ (kL_asks1 l hst G_w a_w cI cZ cL (g_w, f_w, cd, tc_w) (DD_ap hDD) H.size (nI i5_w) 0 ) (vx_cwSW (hh := hhA) 4 hts gL_step_L_asks rfl rfl rfl (by decide +kernel) ⟨Nat.le_of_ble_eq_true rfl, Nat.le_of_ble_eq_true rfl⟩) hDD hA hP hK_w ht hS_w rfl hl.1 rfl (Nat.le_of_ble_eq_true rfl) dL_step_145  ⟨Nat.le_of_ble_eq_true rfl, Nat.le_of_ble_eq_true rfl⟩ (fun r145 u145 H locs_w h145 hP hS_w => ?_)
    rw [nI_clamp (show i5_w < 2 ^ 31 by omega)] at h145
    replace h145 : (skT g_w f_w (nI i5_w) = 0 ∧ r145 = 0 ∧ u145 = (g_w, up2 f_w 1 (upd (f_w 1) i5_w 3), cd, tc_w)) ∨ (skT g_w f_w (nI i5_w) = 1 ∧ r145 = -7 ∧ u145 = (g_w, f_w, cd, tc_w)) ∨ (skT g_w f_w (nI i5_w) = 2 ∧ r145 = -8 ∧ u145 = (g_w, f_w, cd, tc_w)) := h145
    rcases h145 with ⟨h9, hr9, hu9⟩ | ⟨h9, hr9, hu9⟩ | ⟨h9, hr9, hu9⟩
    · have h0 : f_w 1 i5_w = 0 := by rw [hsv, if_pos hk5] at h9; by_cases z_w : f_w 1 i5_w = 0; exact z_w; rw [if_neg z_w] at h9; exact absurd h9 (by decide)
      subst hr9
      subst hu9
      have hP : va_P G_w vwCl (wD a_w cI cZ g_w (up2 f_w 1 (upd (f_w 1) i5_w 3)) cd tc_w ++ [cC (a_w 7) cI (ccG g_w), cT (a_w 8) cI tt, cG (a_w 9) cL gg]) H := hP
      refine lv_istore (lv' := [(11, .int 0), (10, .int ((f_w 1) i5_w)), (9, .int (nI i5_w)), (8, .int (g_w 8)), (7, .int (nI N_w)), (0, .ref (a_w 0)), (1, .int (nI W9)), (2, .int (nI X_w)), (3, .int (nI Y)), (4, .ref (a_w 7)), (5, .ref (a_w 8)), (6, .ref (a_w 9))]) hx hb_w dL_step_148 hl (by decide) rfl (fun ls hl => ?_)
      refine lv_iload hx hb_w dL_step_150 (lv_at hl 0 rfl) ?_
      refine lv_iload hx hb_w dL_step_152 (lv_at hl 1 rfl) ?_
      refine lv_iconst (v := (-1)) hx hb_w dL_step_154 (by decide) ?_
      refine lv_icmp_ne (tgt := 163) hx hb_w dL_step_155 (by decide) (fun c155 => ?_) (fun c155 => ?_)
      · refine lv_iload hx hb_w dL_step_163 (lv_at hl 1 rfl) ?_
        refine lv_if_ne (tgt := 172) hx hb_w dL_step_165 (by decide) (fun c165 => ?_) (fun c165 => ?_)
        · exact absurd h0 c165
        refine lv_iconst (v := 0) hx hb_w dL_step_168 (by decide) ?_
        refine lv_goto (tgt := 174) hx hb_w dL_step_169 (by decide) ?_
        refine lv_icmp_ne (tgt := 205) hx hb_w dL_step_174 (by decide) (fun c174 => ?_) (fun c174 => ?_)
        · exact absurd rfl c174
        refine lv_iload hx hb_w dL_step_177 (lv_at hl 1 rfl) ?_
        refine lv_if_ne (tgt := 192) hx hb_w dL_step_179 (by decide) (fun c179 => ?_) (fun c179 => ?_)
        · exact absurd h0 c179
        refine lv_aload_n hx hb_w dL_step_182 rfl (lv_at hl 5 rfl) ?_
        refine lv_iload hx hb_w dL_step_183 (lv_at hl 2 rfl) ?_
        refine rdr_V (As := [.int (nI i5_w)]) (rest := []) ⟨hx, hb_w, hml, hown, hts⟩ (kX1_stateOf_n l G_w a_w cI cZ g_w (up2 f_w 1 (upd (f_w 1) i5_w 3)) cd tc_w i5_w N_w hN_w hk5 hN2) (cwV 1 hts gL_step_X1_stateOf rfl rfl rfl (by decide +kernel) ⟨Nat.le_of_ble_eq_true rfl, Nat.le_of_ble_eq_true rfl⟩) (va_recv hK_w hP (ci := 1) (q0 := 0) rfl rfl) (hP.sub [0, 1, 2, 3, 4, 5, 6] rfl) (hK_w.sub (tys' := tyIZ cI cZ) [0, 1] rfl) rfl hl.1 rfl (Nat.le_of_ble_eq_true rfl) dL_step_185  ⟨Nat.le_of_ble_eq_true rfl, Nat.le_of_ble_eq_true rfl⟩ (fun r185 h185 => ?_)
        replace h185 : r185 = ((up2 f_w 1 (upd (f_w 1) i5_w 3)) 1) i5_w := h185
        subst h185
        refine top_eq (z := 3) (show upd (f_w 1) i5_w 3 i5_w = 3 from pk_us) ?_
        refine lv_iconst (v := 3) hx hb_w dL_step_188 (by decide) ?_
        refine lv_icmp_ne (tgt := 205) hx hb_w dL_step_189 (by decide) (fun c189 => ?_) (fun c189 => ?_)
        · exact absurd rfl c189
        refine lv_aload_n hx hb_w dL_step_192 rfl (lv_at hl 5 rfl) ?_
        refine rdr_V (As := []) (rest := []) ⟨hx, hb_w, hml, hown, hts⟩ (kX1_foretold l G_w a_w cI cZ g_w (up2 f_w 1 (upd (f_w 1) i5_w 3)) cd tc_w) (cwV 0 hts gL_step_X1_foretold rfl rfl rfl (by decide +kernel) ⟨Nat.le_of_ble_eq_true rfl, Nat.le_of_ble_eq_true rfl⟩) (va_recv hK_w hP (ci := 1) (q0 := 0) rfl rfl) (hP.sub [0, 1, 2, 3, 4, 5, 6] rfl) (hK_w.sub (tys' := tyIZ cI cZ) [0, 1] rfl) rfl hl.1 rfl (Nat.le_of_ble_eq_true rfl) dL_step_193  ⟨Nat.le_of_ble_eq_true rfl, Nat.le_of_ble_eq_true rfl⟩ (fun r193 h193 => ?_)
        replace h193 : r193 = g_w 7 := h193
        subst h193
        refine top_eq (z := nI N_w) hN_w ?_
        refine lv_iload hx hb_w dL_step_196 (lv_at hl 4 rfl) ?_
        refine lv_icmp_ne (tgt := 205) hx hb_w dL_step_198 (by decide) (fun c198 => ?_) (fun c198 => ?_)
        · exact absurd rfl c198
        refine lv_iconst (v := 1) hx hb_w dL_step_201 (by decide) ?_
        refine lv_goto (tgt := 206) hx hb_w dL_step_202 (by decide) ?_
        exact hret 1 ((g_w, up2 f_w 1 (upd (f_w 1) i5_w 3), cd, tc_w), tt, gg) 206 _ _ _ _ _ (Nat.le_of_ble_eq_true rfl) (Nat.le_of_ble_eq_true rfl) dL_step_206 rfl hP hS_w ⟨rfl, LW_sk hW hN_w hN2 hk5⟩
      exact absurd c155 (st_m1 (hs03 i5_w (by omega)))
    · rw [hsv, if_pos hk5] at h9; split at h9; exact absurd h9 (by decide); exact absurd h9 (by decide)
    · have h0 : ¬ f_w 1 i5_w = 0 := fun z_w => by rw [hsv, if_pos hk5, if_pos z_w] at h9; exact absurd h9 (by decide)
      subst hr9
      subst hu9
      have hP : va_P G_w vwCl (wD a_w cI cZ g_w f_w cd tc_w ++ [cC (a_w 7) cI (ccG g_w), cT (a_w 8) cI tt, cG (a_w 9) cL gg]) H := hP
      refine lv_istore (lv' := [(11, .int (-8)), (10, .int ((f_w 1) i5_w)), (9, .int (nI i5_w)), (8, .int (g_w 8)), (7, .int (nI N_w)), (0, .ref (a_w 0)), (1, .int (nI W9)), (2, .int (nI X_w)), (3, .int (nI Y)), (4, .ref (a_w 7)), (5, .ref (a_w 8)), (6, .ref (a_w 9))]) hx hb_w dL_step_148 hl (by decide) rfl (fun ls hl => ?_)
      refine lv_iload hx hb_w dL_step_150 (lv_at hl 0 rfl) ?_
      refine lv_iload hx hb_w dL_step_152 (lv_at hl 1 rfl) ?_
      refine lv_iconst (v := (-1)) hx hb_w dL_step_154 (by decide) ?_
      refine lv_icmp_ne (tgt := 163) hx hb_w dL_step_155 (by decide) (fun c155 => ?_) (fun c155 => ?_)
      · refine lv_iload hx hb_w dL_step_163 (lv_at hl 1 rfl) ?_
        refine lv_if_ne (tgt := 172) hx hb_w dL_step_165 (by decide) (fun c165 => ?_) (fun c165 => ?_)
        · refine lv_bipush (v := (-8)) hx hb_w dL_step_172 (by decide) ?_
          refine lv_icmp_ne (tgt := 205) hx hb_w dL_step_174 (by decide) (fun c174 => ?_) (fun c174 => ?_)
          · exact absurd rfl c174
          refine lv_iload hx hb_w dL_step_177 (lv_at hl 1 rfl) ?_
          refine lv_if_ne (tgt := 192) hx hb_w dL_step_179 (by decide) (fun c179 => ?_) (fun c179 => ?_)
          · refine lv_aload_n hx hb_w dL_step_192 rfl (lv_at hl 5 rfl) ?_
            refine rdr_V (As := []) (rest := []) ⟨hx, hb_w, hml, hown, hts⟩ (kX1_foretold l G_w a_w cI cZ g_w f_w cd tc_w) (cwV 0 hts gL_step_X1_foretold rfl rfl rfl (by decide +kernel) ⟨Nat.le_of_ble_eq_true rfl, Nat.le_of_ble_eq_true rfl⟩) (va_recv hK_w hP (ci := 1) (q0 := 0) rfl rfl) (hP.sub [0, 1, 2, 3, 4, 5, 6] rfl) (hK_w.sub (tys' := tyIZ cI cZ) [0, 1] rfl) rfl hl.1 rfl (Nat.le_of_ble_eq_true rfl) dL_step_193  ⟨Nat.le_of_ble_eq_true rfl, Nat.le_of_ble_eq_true rfl⟩ (fun r193 h193 => ?_)
            replace h193 : r193 = g_w 7 := h193
            subst h193
            refine top_eq (z := nI N_w) hN_w ?_
            refine lv_iload hx hb_w dL_step_196 (lv_at hl 4 rfl) ?_
            refine lv_icmp_ne (tgt := 205) hx hb_w dL_step_198 (by decide) (fun c198 => ?_) (fun c198 => ?_)
            · exact absurd rfl c198
            refine lv_iconst (v := 1) hx hb_w dL_step_201 (by decide) ?_
            refine lv_goto (tgt := 206) hx hb_w dL_step_202 (by decide) ?_
            exact hret 1 ((g_w, f_w, cd, tc_w), tt, gg) 206 _ _ _ _ _ (Nat.le_of_ble_eq_true rfl) (Nat.le_of_ble_eq_true rfl) dL_step_206 rfl hP hS_w ⟨rfl, LW_id hW⟩
          exact absurd c179 h0
        exact absurd c165 h0
      exact absurd c155 (st_m1 (hs03 i5_w (by omega)))
  refine lv_iconst (v := 0) hx hb_w dL_step_17 (by decide) ?_
  refine lv_istore (lv' := [(9, .int 0), (8, .int (g_w 8)), (7, .int (nI N_w)), (0, .ref (a_w 0)), (1, .int (nI W9)), (2, .int (nI X_w)), (3, .int (nI Y)), (4, .ref (a_w 7)), (5, .ref (a_w 8)), (6, .ref (a_w 9))]) hx hb_w dL_step_18 hl (by decide) rfl (fun ls hl => ?_)
  have loop20 : ∀ (n9 : Nat) (k_w : Nat), k_w ≤ N_w → N_w - k_w < n9 → ∀ (H : Heap) (locs_w : List Loc), va_P G_w vwCl (wD a_w cI cZ g_w f_w cd tc_w ++ [cC (a_w 7) cI (ccG g_w), cT (a_w 8) cI tt, cG (a_w 9) cL gg]) H → va_S (aS a_w 10 s_w.heap.size) s_w.heap H locs_w → ∀ (ls : Array Slot), lv_has ls 13 [(0, .ref (a_w 0)), (1, .int (nI W9)), (2, .int (nI X_w)), (3, .int (nI Y)), (4, .ref (a_w 7)), (5, .ref (a_w 8)), (6, .ref (a_w 9)), (7, .int (nI N_w)), (8, .int (g_w 8)), (9, .int (nI k_w))] → W p_w l e_w { frames := 10, cells := 2, slots := 120, locals := 191 } s_w m_w args_w below meth_w c_w H locs_w 0 0 Q (F0 m_w 20 ls []) := by
    intro n9
    induction n9 with
    | zero => intro k_w hk hn9; intros; exact absurd hn9 (Nat.not_lt_zero _)
    | succ n9 ih20 =>
      intro k_w hk hn9 H locs_w hP hS_w ls hl
      have j42 : W p_w l e_w { frames := 10, cells := 2, slots := 120, locals := 191 } s_w m_w args_w below meth_w c_w H locs_w 0 0 Q (F0 m_w 42 ls []) := by
        have j60 : ∀ iS : Nat, (iS ≤ 300) → W p_w l e_w { frames := 10, cells := 2, slots := 120, locals := 191 } s_w m_w args_w below meth_w c_w H locs_w 0 0 Q (F0 m_w 60 ls [.int (nI iS)]) := by
          intro iS hiS
          refine lv_istore (lv' := [(9, .int (nI iS)), (0, .ref (a_w 0)), (1, .int (nI W9)), (2, .int (nI X_w)), (3, .int (nI Y)), (4, .ref (a_w 7)), (5, .ref (a_w 8)), (6, .ref (a_w 9)), (7, .int (nI N_w)), (8, .int (g_w 8))]) hx hb_w dL_step_60 hl (by decide) rfl (fun ls hl => ?_)
          have j77 : ∀ bo : Nat, (bo ≤ 2) → W p_w l e_w { frames := 10, cells := 2, slots := 120, locals := 191 } s_w m_w args_w below meth_w c_w H locs_w 0 0 Q (F0 m_w 77 ls [.int (nI bo)]) := by
            intro bo hbo
            refine lv_istore (lv' := [(10, .int (nI bo)), (9, .int (nI iS)), (0, .ref (a_w 0)), (1, .int (nI W9)), (2, .int (nI X_w)), (3, .int (nI Y)), (4, .ref (a_w 7)), (5, .ref (a_w 8)), (6, .ref (a_w 9)), (7, .int (nI N_w)), (8, .int (g_w 8))]) hx hb_w dL_step_77 hl (by decide) rfl (fun ls hl => ?_)
            refine lv_iload hx hb_w dL_step_79 (lv_at hl 1 rfl) ?_
            refine lv_iload hx hb_w dL_step_81 (lv_at hl 0 rfl) ?_
            refine lv_iadd hx hb_w dL_step_83 ?_
            refine top_eq (z := nI (iS + bo)) (nI_add _ _) ?_
            refine lv_bipush (v := 57) hx hb_w dL_step_84 (by decide) ?_
            refine lv_icmp_gt (tgt := 102) hx hb_w dL_step_86 (by decide) (fun c86 => ?_) (fun c86 => ?_)
            · refine lv_iconst (v := 1) hx hb_w dL_step_102 (by decide) ?_
              refine lv_goto (tgt := 107) hx hb_w dL_step_103 (by decide) ?_
              exact hret 1 ((g_w, f_w, cd, tc_w), tt, gg) 107 _ _ _ _ _ (Nat.le_of_ble_eq_true rfl) (Nat.le_of_ble_eq_true rfl) dL_step_107 rfl hP hS_w ⟨rfl, LW_id hW⟩
            have hib : iS + bo ≤ 57 := nlt_nI (a := 57) (by omega) (by omega) c86
            refine lv_aload_n hx hb_w dL_step_89 rfl (lv_at hl 2 rfl) ?_
            refine lv_iload hx hb_w dL_step_90 (lv_at hl 1 rfl) ?_
            refine lv_iload hx hb_w dL_step_92 (lv_at hl 0 rfl) ?_
            refine lv_aload hx hb_w dL_step_94 (lv_at hl 6 rfl) ?_
            refine lW_i (As := [.ref (a_w 0), .int (nI iS), .int (nI bo), .ref (a_w 7)]) (rest := []) ⟨hx, hb_w, hml, hown, hts⟩ (kL_checks l hst G_w a_w cI cZ cL g_w f_w cd tc_w hap H.size tt gg iS bo N_w n_w _ _ rfl rfl hib (by omega) hN_w hN2 (by omega) hI hs03 (fun k_w hk => (hz k_w hk).1)) (va_cwS 4 hts gL_step_L_checks rfl rfl rfl (by decide +kernel) ⟨Nat.le_of_ble_eq_true rfl, Nat.le_of_ble_eq_true rfl⟩) (aS_up hS_w) hP hK_w ht hS_w rfl hl.1 rfl (Nat.le_of_ble_eq_true rfl) dL_step_96  ⟨Nat.le_of_ble_eq_true rfl, Nat.le_of_ble_eq_true rfl⟩ (fun r96 u96 H locs_w h96 hP _ hS_w => ?_)
            obtain ⟨h96, hu96⟩ := h96
            subst h96
            refine lv_if_eq (tgt := 106) hx hb_w dL_step_99 (by decide) (fun c99 => ?_) (fun c99 => ?_)
            · exact absurd c99 (by decide)
            refine lv_iconst (v := 1) hx hb_w dL_step_102 (by decide) ?_
            refine lv_goto (tgt := 107) hx hb_w dL_step_103 (by decide) ?_
            exact hret 1 (u96, tt, gg) 107 _ _ _ _ _ (Nat.le_of_ble_eq_true rfl) (Nat.le_of_ble_eq_true rfl) dL_step_107 rfl hP hS_w ⟨rfl, by rw [hu96]; split; exact LW_ci (by omega) hW hib; exact LW_id hW⟩
          refine lv_iload_n hx hb_w dL_step_62 rfl (lv_at hl 3 rfl) ?_
          refine lv_iconst (v := 4) hx hb_w dL_step_63 (by decide) ?_
          refine lv_irem hx hb_w dL_step_64 (by decide) ?_
          refine top_eq (z := nI (X_w % 4)) (pk_rem (a := X_w) (d := 4) (by omega) (by decide) (by decide)) ?_
          refine lv_if_ne (tgt := 76) hx hb_w dL_step_65 (by decide) (fun c65 => ?_) (fun c65 => ?_)
          · refine lv_iconst (v := 0) hx hb_w dL_step_76 (by decide) ?_
            exact j77 0 (by omega)
          refine lv_iload_n hx hb_w dL_step_68 rfl (lv_at hl 3 rfl) ?_
          refine lv_iconst (v := 4) hx hb_w dL_step_69 (by decide) ?_
          refine lv_idiv hx hb_w dL_step_70 (by decide) ?_
          refine top_eq (z := nI (X_w / 4)) (pk_div (a := X_w) (d := 4) (by omega) (by decide) (by decide)) ?_
          refine lv_iconst (v := 3) hx hb_w dL_step_71 (by decide) ?_
          refine lv_irem hx hb_w dL_step_72 (by decide) ?_
          refine top_eq (z := nI (X_w / 4 % 3)) (pk_rem (a := X_w / 4) (d := 3) (by omega) (by decide) (by decide)) ?_
          refine lv_goto (tgt := 77) hx hb_w dL_step_73 (by decide) ?_
          exact j77 (X_w / 4 % 3) (by omega)
        refine lv_iload_n hx hb_w dL_step_42 rfl (lv_at hl 3 rfl) ?_
        refine lv_bipush (v := 6) hx hb_w dL_step_43 (by decide) ?_
        refine lv_irem hx hb_w dL_step_45 (by decide) ?_
        refine top_eq (z := nI (Y % 6)) (pk_rem (a := Y) (d := 6) (by omega) (by decide) (by decide)) ?_
        refine lv_if_ne (tgt := 58) hx hb_w dL_step_46 (by decide) (fun c46_w => ?_) (fun c46_w => ?_)
        · refine lv_iload hx hb_w dL_step_58 (lv_at hl 9 rfl) ?_
          exact j60 k_w (by omega)
        refine lv_iload_n hx hb_w dL_step_49 rfl (lv_at hl 2 rfl) ?_
        refine lv_iload hx hb_w dL_step_50 (lv_at hl 7 rfl) ?_
        refine lv_iconst (v := 3) hx hb_w dL_step_52 (by decide) ?_
        refine lv_iadd hx hb_w dL_step_53 ?_
        refine top_eq (z := nI (N_w + 3)) (nI_add N_w 3) ?_
        refine lv_irem hx hb_w dL_step_54 (nI_ne0 (by omega) (by omega)) ?_
        refine top_eq (z := nI (X_w % (N_w + 3))) (pk_rem (a := X_w) (d := N_w + 3) (by omega) (by omega) (by omega)) ?_
        refine lv_goto (tgt := 60) hx hb_w dL_step_55 (by decide) ?_
        exact j60 (X_w % (N_w + 3)) (by omega)
      refine lv_iload hx hb_w dL_step_20 (lv_at hl 9 rfl) ?_
      refine lv_iload hx hb_w dL_step_22 (lv_at hl 7 rfl) ?_
      refine lv_icmp_ge (tgt := 42) hx hb_w dL_step_24 (by decide) (fun c24_w => ?_) (fun c24_w => ?_)
      · exact j42
      have hkN : k_w < N_w := nle_nI (by omega) (by omega) c24_w
      refine lv_aload_n hx hb_w dL_step_27 rfl (lv_at hl 0 rfl) ?_
      refine lv_iload hx hb_w dL_step_28 (lv_at hl 9 rfl) ?_
      refine rdr_V (As := [.int (nI k_w)]) (rest := []) ⟨hx, hb_w, hml, hown, hts⟩ (kX1_stateOf_n l G_w a_w cI cZ g_w f_w cd tc_w k_w N_w hN_w hkN hN2) (cwV 1 hts gL_step_X1_stateOf rfl rfl rfl (by decide +kernel) ⟨Nat.le_of_ble_eq_true rfl, Nat.le_of_ble_eq_true rfl⟩) (va_recv hK_w hP (ci := 1) (q0 := 0) rfl rfl) (hP.sub [0, 1, 2, 3, 4, 5, 6] rfl) (hK_w.sub (tys' := tyIZ cI cZ) [0, 1] rfl) rfl hl.1 rfl (Nat.le_of_ble_eq_true rfl) dL_step_30  ⟨Nat.le_of_ble_eq_true rfl, Nat.le_of_ble_eq_true rfl⟩ (fun r30 h30 => ?_)
      replace h30 : r30 = (f_w 1) k_w := h30
      subst h30
      refine lv_if_eq (tgt := 42) hx hb_w dL_step_33 (by decide) (fun c33_w => ?_) (fun c33_w => ?_)
      · exact j42
      refine lv_iinc (v := nI (k_w + 1)) (lv' := [(9, .int (nI (k_w + 1))), (0, .ref (a_w 0)), (1, .int (nI W9)), (2, .int (nI X_w)), (3, .int (nI Y)), (4, .ref (a_w 7)), (5, .ref (a_w 8)), (6, .ref (a_w 9)), (7, .int (nI N_w)), (8, .int (g_w 8))]) hx hb_w dL_step_36 hl (k := 9) rfl (nI_1 _) (by decide) rfl (fun ls hl => ?_)
      refine lv_goto (tgt := 20) hx hb_w dL_step_39 (by decide) ?_
      exact ih20 (k_w + 1) (by omega) (by omega) _ _ hP hS_w _ (lv_sub hl [1, 2, 3, 4, 5, 6, 7, 8, 9, 0] rfl)
  exact loop20 (N_w + 1) 0 (by omega) (by omega) _ _ hP hS_w _ (lv_sub hl [3, 4, 5, 6, 7, 8, 9, 2, 1, 0] rfl)
