set_option maxHeartbeats 4000000 in
set_option maxRecDepth 100000 in
theorem kL_areHeld (l : Launch) (hst : l.stackTraces = false) (G_w : va_G) (a_w : Nat → Nat) (cI cZ cL : ClassId) (g_w : Nat → Int32) (f_w : Nat → Nat → Int32) (cd : Nat → Int32) (tc_w : Int32) (hap : apart a_w 10) (sz_w : Nat) (tt : Nat → Int32) (gg : Nat → Int64) (N_w : Nat) (hN_w : g_w 7 = nI N_w) (hN2 : N_w ≤ 200) (h01 : ∀ k_w, f_w 4 k_w = 0 ∨ f_w 4 k_w = 1) (hbit : ∀ k_w, k_w < 200 → isT gg k_w = thB (f_w 4) k_w): lwc l yL_areHeld wsL_areHeld { frames := 9, cells := 1, slots := 6, locals := 156 } G_w (wD a_w cI cZ g_w f_w cd tc_w ++ [cC (a_w 7) cI (ccG g_w), cT (a_w 8) cI tt, cG (a_w 9) cL gg]) (tyL cI cZ cL) (aS a_w 10 sz_w) sz_w [.ref (a_w 0), .ref (a_w 9)] (fun r_w _ => r_w = 1) (fun _ : Unit => (wD a_w cI cZ g_w f_w cd tc_w ++ [cC (a_w 7) cI (ccG g_w), cT (a_w 8) cI tt, cG (a_w 9) cL gg])) 1 6 := by
  refine lwc_of (cc := cL_areHeld) (nL := 11) (ty := .boolean) rfl (Nat.le_of_ble_eq_true rfl) ?_
  intro p_w e_w s_w m_w args_w below meth_w c_w H locs_w ls Q hx hb_w hml hown hts hP hK_w ht hS_w hret hl
  have hA : ∀ q_w, s_w.heap.size ≤ q_w → aS a_w 10 s_w.heap.size q_w := fun q_w h_w => Or.inr h_w
  have hl : lv_has ls 11 [(0, .ref (a_w 0)), (1, .ref (a_w 9))] := hl
  have hDD : DD (aS a_w 10 s_w.heap.size) (adD a_w ++ [a_w 7, a_w 8, a_w 9]) := DD_10 hap _
  refine lv_aload_n hx hb_w dL_areHeld_0 rfl (lv_at hl 0 rfl) ?_
  refine rdr_V (As := []) (rest := []) ⟨hx, hb_w, hml, hown, hts⟩ (kX1_ranges l G_w a_w cI cZ g_w f_w cd tc_w) (cwV 0 hts gL_areHeld_X1_ranges rfl rfl rfl (by decide +kernel) ⟨Nat.le_of_ble_eq_true rfl, Nat.le_of_ble_eq_true rfl⟩) (va_recv hK_w hP (ci := 1) (q0 := 0) rfl rfl) (hP.sub [0, 1, 2, 3, 4, 5, 6] rfl) (hK_w.sub (tys' := tyIZ cI cZ) [0, 1] rfl) rfl hl.1 rfl (Nat.le_of_ble_eq_true rfl) dL_areHeld_1  ⟨Nat.le_of_ble_eq_true rfl, Nat.le_of_ble_eq_true rfl⟩ (fun r1_w h1 => ?_)
  replace h1 : r1_w = nI (cnt (rsB g_w f_w) 200) := h1
  subst h1
  refine lv_istore_n (lv' := [(2, .int (nI (cnt (rsB g_w f_w) 200))), (0, .ref (a_w 0)), (1, .ref (a_w 9))]) hx hb_w dL_areHeld_4 rfl hl (by decide) rfl (fun ls hl => ?_)
  refine lv_bipush (v := (-2)) hx hb_w dL_areHeld_5 (by decide) ?_
  refine lv_istore_n (lv' := [(3, .int (-2)), (2, .int (nI (cnt (rsB g_w f_w) 200))), (0, .ref (a_w 0)), (1, .ref (a_w 9))]) hx hb_w dL_areHeld_7 rfl hl (by decide) rfl (fun ls hl => ?_)
  refine lv_iconst (v := 0) hx hb_w dL_areHeld_8 (by decide) ?_
  refine lv_istore (lv' := [(4, .int 0), (3, .int (-2)), (2, .int (nI (cnt (rsB g_w f_w) 200))), (0, .ref (a_w 0)), (1, .ref (a_w 9))]) hx hb_w dL_areHeld_9 hl (by decide) rfl (fun ls hl => ?_)
  refine lv_iload_n hx hb_w dL_areHeld_11 rfl (lv_at hl 2 rfl) ?_
  refine lv_if_lt (tgt := 31) hx hb_w dL_areHeld_12 (by decide) (fun c12_w => ?_) (fun c12_w => ?_)
  · exact absurd c12_w (nI_pos (by have := cnt_le (rsB g_w f_w) 200; omega))
  refine lv_aload_n hx hb_w dL_areHeld_15 rfl (lv_at hl 3 rfl) ?_
  refine lv_iconst (v := 2) hx hb_w dL_areHeld_16 (by decide) ?_
  refine lv_iload_n hx hb_w dL_areHeld_17 rfl (lv_at hl 2 rfl) ?_
  refine lv_iconst (v := 0) hx hb_w dL_areHeld_18 (by decide) ?_
  refine lA_i (x := (g_w, f_w, cd, tc_w)) (ex := [cC (a_w 7) cI (ccG g_w), cT (a_w 8) cI tt, cG (a_w 9) cL gg]) (As := [.ref (a_w 0), .int 2, .int (nI (cnt (rsB g_w f_w) 200)), .int 0]) (rest := []) ⟨hx, hb_w, hml, hown, hts⟩ (kL_asks2 l hst G_w a_w cI cZ cL (g_w, f_w, cd, tc_w) (DD_ap hDD) H.size (nI (cnt (rsB g_w f_w) 200)) 0 (by unfold rgT rgK; rw [scan_none]; rfl)) (vx_cwSW (hh := hhA) 4 hts gL_areHeld_L_asks rfl rfl rfl (by decide +kernel) ⟨Nat.le_of_ble_eq_true rfl, Nat.le_of_ble_eq_true rfl⟩) hDD hA hP hK_w ht hS_w rfl hl.1 rfl (Nat.le_of_ble_eq_true rfl) dL_areHeld_19  ⟨Nat.le_of_ble_eq_true rfl, Nat.le_of_ble_eq_true rfl⟩ (fun r19 u19 H locs_w h19 hP hS_w => ?_)
  obtain ⟨h19, rfl⟩ := h19
  subst h19
  have hP : va_P G_w vwCl (wD a_w cI cZ g_w f_w cd tc_w ++ [cC (a_w 7) cI (ccG g_w), cT (a_w 8) cI tt, cG (a_w 9) cL gg]) H := hP
  refine lv_bipush (v := (-7)) hx hb_w dL_areHeld_22 (by decide) ?_
  refine lv_icmp_ne (tgt := 31) hx hb_w dL_areHeld_24 (by decide) (fun c24_w => ?_) (fun c24_w => ?_)
  · exact absurd rfl c24_w
  refine lv_iconst (v := 1) hx hb_w dL_areHeld_27 (by decide) ?_
  refine lv_goto (tgt := 32) hx hb_w dL_areHeld_28 (by decide) ?_
  refine lv_istore (lv' := [(5, .int 1), (4, .int 0), (3, .int (-2)), (2, .int (nI (cnt (rsB g_w f_w) 200))), (0, .ref (a_w 0)), (1, .ref (a_w 9))]) hx hb_w dL_areHeld_32 hl (by decide) rfl (fun ls hl => ?_)
  refine lv_iconst (v := 0) hx hb_w dL_areHeld_34 (by decide) ?_
  refine lv_istore (lv' := [(6, .int 0), (5, .int 1), (4, .int 0), (3, .int (-2)), (2, .int (nI (cnt (rsB g_w f_w) 200))), (0, .ref (a_w 0)), (1, .ref (a_w 9))]) hx hb_w dL_areHeld_35 hl (by decide) rfl (fun ls hl => ?_)
  have loop37 : ∀ (n_w : Nat) (kk L_w : Nat) (y_w x : Int32), kk ≤ (cnt (rsB g_w f_w) 200) → (cnt (rsB g_w f_w) 200) - kk < n_w → L_w ≤ 200 → (L_w = 0 ∨ hereB g_w f_w L_w = false) → cnt (rsB g_w f_w) L_w = kk → (y_w = -2 ∧ L_w = 0 ∨ y_w + 1 = nI L_w ∧ 1 ≤ L_w) → x = nI (cnt (hereB g_w f_w) L_w) → ∀ (H : Heap) (locs_w : List Loc), va_P G_w vwCl (wD a_w cI cZ g_w f_w cd tc_w ++ [cC (a_w 7) cI (ccG g_w), cT (a_w 8) cI tt, cG (a_w 9) cL gg]) H → va_S (aS a_w 10 s_w.heap.size) s_w.heap H locs_w → ∀ (ls : Array Slot), lv_has ls 11 [(0, .ref (a_w 0)), (1, .ref (a_w 9)), (2, .int (nI (cnt (rsB g_w f_w) 200))), (3, .int y_w), (4, .int x), (5, .int 1), (6, .int (nI kk))] → W p_w l e_w { frames := 9, cells := 1, slots := 6, locals := 156 } s_w m_w args_w below meth_w c_w H locs_w 1 6 Q (F0 m_w 37 ls []) := by
    intro n_w
    induction n_w with
    | zero => intro kk L_w y_w x hkk hn hLl hL hcL hy ehd; intros; exact absurd hn (Nat.not_lt_zero _)
    | succ n_w ih37 =>
      intro kk L_w y_w x hkk hn hLl hL hcL hy ehd H locs_w hP hS_w ls hl
      have hRb := cnt_le (rsB g_w f_w) 200
      refine lv_iload hx hb_w dL_areHeld_37 (lv_at hl 6 rfl) ?_
      refine lv_iload_n hx hb_w dL_areHeld_39 rfl (lv_at hl 2 rfl) ?_
      refine lv_icmp_ge (tgt := 136) hx hb_w dL_areHeld_40 (by decide) (fun c40_w => ?_) (fun c40_w => ?_)
      · have eR : kk = cnt (rsB g_w f_w) 200 := by have := le_nI (a := cnt (rsB g_w f_w) 200) (b := kk) (by omega) (by omega) c40_w; omega
        refine lv_iconst (v := 0) hx hb_w dL_areHeld_136 (by decide) ?_
        refine lv_istore (lv' := [(6, .int 0), (0, .ref (a_w 0)), (1, .ref (a_w 9)), (2, .int (nI (cnt (rsB g_w f_w) 200))), (3, .int y_w), (4, .int x), (5, .int 1)]) hx hb_w dL_areHeld_137 hl (by decide) rfl (fun ls hl => ?_)
        refine lv_iconst (v := 0) hx hb_w dL_areHeld_139 (by decide) ?_
        refine lv_istore (lv' := [(7, .int 0), (6, .int 0), (0, .ref (a_w 0)), (1, .ref (a_w 9)), (2, .int (nI (cnt (rsB g_w f_w) 200))), (3, .int y_w), (4, .int x), (5, .int 1)]) hx hb_w dL_areHeld_140 hl (by decide) rfl (fun ls hl => ?_)
        refine lv_iconst (v := 0) hx hb_w dL_areHeld_142 (by decide) ?_
        refine lv_istore (lv' := [(8, .int 0), (7, .int 0), (6, .int 0), (0, .ref (a_w 0)), (1, .ref (a_w 9)), (2, .int (nI (cnt (rsB g_w f_w) 200))), (3, .int y_w), (4, .int x), (5, .int 1)]) hx hb_w dL_areHeld_143 hl (by decide) rfl (fun ls hl => ?_)
        refine lv_iconst (v := 0) hx hb_w dL_areHeld_145 (by decide) ?_
        refine lv_istore (lv' := [(9, .int 0), (8, .int 0), (7, .int 0), (6, .int 0), (0, .ref (a_w 0)), (1, .ref (a_w 9)), (2, .int (nI (cnt (rsB g_w f_w) 200))), (3, .int y_w), (4, .int x), (5, .int 1)]) hx hb_w dL_areHeld_146 hl (by decide) rfl (fun ls hl => ?_)
        have loop148 : ∀ (n_w : Nat) (k_w : Nat), k_w ≤ 200 → 200 - k_w < n_w → ∀ (H : Heap) (locs_w : List Loc), va_P G_w vwCl (wD a_w cI cZ g_w f_w cd tc_w ++ [cC (a_w 7) cI (ccG g_w), cT (a_w 8) cI tt, cG (a_w 9) cL gg]) H → va_S (aS a_w 10 s_w.heap.size) s_w.heap H locs_w → ∀ (ls : Array Slot), lv_has ls 11 [(0, .ref (a_w 0)), (1, .ref (a_w 9)), (2, .int (nI (cnt (rsB g_w f_w) 200))), (3, .int y_w), (4, .int x), (5, .int 1), (6, .int (nI (cnt (hereB g_w f_w) k_w))), (7, .int (nI (cnt (onB g_w f_w 1) k_w))), (8, .int (nI (cnt (onB g_w f_w 0) k_w))), (9, .int (nI k_w))] → W p_w l e_w { frames := 9, cells := 1, slots := 6, locals := 156 } s_w m_w args_w below meth_w c_w H locs_w 1 6 Q (F0 m_w 148 ls []) := by
          intro n_w
          induction n_w with
          | zero => intro k_w hk hn; intros; exact absurd hn (Nat.not_lt_zero _)
          | succ n_w ih148 =>
            intro k_w hk hn H locs_w hP hS_w ls hl
            have hb6 := cnt_le (hereB g_w f_w) k_w
            have hb7 := cnt_le (onB g_w f_w 1) k_w
            have hb8 := cnt_le (onB g_w f_w 0) k_w
            refine lv_iload hx hb_w dL_areHeld_148 (lv_at hl 9 rfl) ?_
            refine lv_sipush (v := 200) hx hb_w dL_areHeld_150 (by decide) ?_
            refine lv_icmp_ge (tgt := 336) hx hb_w dL_areHeld_153 (by decide) (fun c153 => ?_) (fun c153 => ?_)
            · have ek : k_w = 200 := ge_200 c153 hk
              refine lv_iload hx hb_w dL_areHeld_336 (lv_at hl 5 rfl) ?_
              refine lv_if_eq (tgt := 392) hx hb_w dL_areHeld_338 (by decide) (fun c338 => ?_) (fun c338 => ?_)
              · exact absurd c338 (by decide)
              refine lv_iload hx hb_w dL_areHeld_341 (lv_at hl 4 rfl) ?_
              refine lv_iload hx hb_w dL_areHeld_343 (lv_at hl 6 rfl) ?_
              refine lv_icmp_ne (tgt := 392) hx hb_w dL_areHeld_345 (by decide) (fun c345 => ?_) (fun c345 => ?_)
              · exact absurd (by rw [ehd, ek, rg_last hL hLl (by omega)]) c345
              refine lv_aload_n hx hb_w dL_areHeld_348 rfl (lv_at hl 0 rfl) ?_
              refine lv_iconst (v := 1) hx hb_w dL_areHeld_349 (by decide) ?_
              refine lv_iload hx hb_w dL_areHeld_350 (lv_at hl 7 rfl) ?_
              refine rdr_V (As := [.int 1, .int (nI (cnt (onB g_w f_w 1) k_w))]) (rest := []) ⟨hx, hb_w, hml, hown, hts⟩ (kX1_only_n l G_w a_w cI cZ g_w f_w cd tc_w 1 (cnt (onB g_w f_w 1) k_w) (by omega) (Or.inr rfl) h01) (cwV 2 hts gL_areHeld_X1_only rfl rfl rfl (by decide +kernel) ⟨Nat.le_of_ble_eq_true rfl, Nat.le_of_ble_eq_true rfl⟩) (va_recv hK_w hP (ci := 1) (q0 := 0) rfl rfl) (hP.sub [0, 1, 2, 3, 4, 5, 6] rfl) (hK_w.sub (tys' := tyIZ cI cZ) [0, 1] rfl) rfl hl.1 rfl (Nat.le_of_ble_eq_true rfl) dL_areHeld_352  ⟨Nat.le_of_ble_eq_true rfl, Nat.le_of_ble_eq_true rfl⟩ (fun r352 h352 => ?_)
              replace h352 : r352 = scan (onB g_w f_w 1) (nI (cnt (onB g_w f_w 1) k_w)) 0 200 0 := h352
              subst h352
              refine lv_iconst (v := (-1)) hx hb_w dL_areHeld_355 (by decide) ?_
              refine lv_icmp_ne (tgt := 392) hx hb_w dL_areHeld_356 (by decide) (fun c356 => ?_) (fun c356 => ?_)
              · exact absurd (by rw [ek]; exact scan_none _) c356
              refine lv_aload_n hx hb_w dL_areHeld_359 rfl (lv_at hl 0 rfl) ?_
              refine lv_iconst (v := 0) hx hb_w dL_areHeld_360 (by decide) ?_
              refine lv_iload hx hb_w dL_areHeld_361 (lv_at hl 8 rfl) ?_
              refine rdr_V (As := [.int 0, .int (nI (cnt (onB g_w f_w 0) k_w))]) (rest := []) ⟨hx, hb_w, hml, hown, hts⟩ (kX1_only_n l G_w a_w cI cZ g_w f_w cd tc_w 0 (cnt (onB g_w f_w 0) k_w) (by omega) (Or.inl rfl) h01) (cwV 2 hts gL_areHeld_X1_only rfl rfl rfl (by decide +kernel) ⟨Nat.le_of_ble_eq_true rfl, Nat.le_of_ble_eq_true rfl⟩) (va_recv hK_w hP (ci := 1) (q0 := 0) rfl rfl) (hP.sub [0, 1, 2, 3, 4, 5, 6] rfl) (hK_w.sub (tys' := tyIZ cI cZ) [0, 1] rfl) rfl hl.1 rfl (Nat.le_of_ble_eq_true rfl) dL_areHeld_363  ⟨Nat.le_of_ble_eq_true rfl, Nat.le_of_ble_eq_true rfl⟩ (fun r363 h363 => ?_)
              replace h363 : r363 = scan (onB g_w f_w 0) (nI (cnt (onB g_w f_w 0) k_w)) 0 200 0 := h363
              subst h363
              refine lv_iconst (v := (-1)) hx hb_w dL_areHeld_366 (by decide) ?_
              refine lv_icmp_ne (tgt := 392) hx hb_w dL_areHeld_367 (by decide) (fun c367 => ?_) (fun c367 => ?_)
              · exact absurd (by rw [ek]; exact scan_none _) c367
              refine lv_aload_n hx hb_w dL_areHeld_370 rfl (lv_at hl 0 rfl) ?_
              refine lv_iconst (v := (-1)) hx hb_w dL_areHeld_371 (by decide) ?_
              refine rdr_V (As := [.int (-1)]) (rest := []) ⟨hx, hb_w, hml, hown, hts⟩ (kX1_isHeld l G_w a_w cI cZ g_w f_w cd tc_w (-1)) (cwV 1 hts gL_areHeld_X1_isHeld rfl rfl rfl (by decide +kernel) ⟨Nat.le_of_ble_eq_true rfl, Nat.le_of_ble_eq_true rfl⟩) (va_recv hK_w hP (ci := 1) (q0 := 0) rfl rfl) (hP.sub [0, 1, 2, 3, 4, 5, 6] rfl) (hK_w.sub (tys' := tyIZ cI cZ) [0, 1] rfl) rfl hl.1 rfl (Nat.le_of_ble_eq_true rfl) dL_areHeld_372  ⟨Nat.le_of_ble_eq_true rfl, Nat.le_of_ble_eq_true rfl⟩ (fun r372 h372 => ?_)
              replace h372 : r372 = bI (anyR (hdB g_w f_w (-1)) 0 200) := h372
              subst h372
              refine top_eq (z := 0) (by rw [held_m1]; rfl) ?_
              refine lv_if_ne (tgt := 392) hx hb_w dL_areHeld_375 (by decide) (fun c375 => ?_) (fun c375 => ?_)
              · exact absurd rfl c375
              refine lv_aload_n hx hb_w dL_areHeld_378 rfl (lv_at hl 0 rfl) ?_
              refine lv_sipush (v := 200) hx hb_w dL_areHeld_379 (by decide) ?_
              refine rdr_V (As := [.int 200]) (rest := []) ⟨hx, hb_w, hml, hown, hts⟩ (kX1_isHeld l G_w a_w cI cZ g_w f_w cd tc_w 200) (cwV 1 hts gL_areHeld_X1_isHeld rfl rfl rfl (by decide +kernel) ⟨Nat.le_of_ble_eq_true rfl, Nat.le_of_ble_eq_true rfl⟩) (va_recv hK_w hP (ci := 1) (q0 := 0) rfl rfl) (hP.sub [0, 1, 2, 3, 4, 5, 6] rfl) (hK_w.sub (tys' := tyIZ cI cZ) [0, 1] rfl) rfl hl.1 rfl (Nat.le_of_ble_eq_true rfl) dL_areHeld_382  ⟨Nat.le_of_ble_eq_true rfl, Nat.le_of_ble_eq_true rfl⟩ (fun r382 h382 => ?_)
              replace h382 : r382 = bI (anyR (hdB g_w f_w 200) 0 200) := h382
              subst h382
              refine top_eq (z := 0) (by rw [held_200]; rfl) ?_
              refine lv_if_ne (tgt := 392) hx hb_w dL_areHeld_385 (by decide) (fun c385 => ?_) (fun c385 => ?_)
              · exact absurd rfl c385
              refine lv_iconst (v := 1) hx hb_w dL_areHeld_388 (by decide) ?_
              refine lv_goto (tgt := 393) hx hb_w dL_areHeld_389 (by decide) ?_
              exact hret 1 () 393 _ _ _ _ _ (Nat.le_of_ble_eq_true rfl) (Nat.le_of_ble_eq_true rfl) dL_areHeld_393 rfl hP hS_w rfl
            have hk2 : k_w < 200 := nge_200 c153 hk
            refine lv_iload hx hb_w dL_areHeld_156 (lv_at hl 5 rfl) ?_
            refine lv_if_eq (tgt := 336) hx hb_w dL_areHeld_158 (by decide) (fun c158 => ?_) (fun c158 => ?_)
            · exact absurd c158 (by decide)
            have j195 : W p_w l e_w { frames := 9, cells := 1, slots := 6, locals := 156 } s_w m_w args_w below meth_w c_w H locs_w 1 6 Q (F0 m_w 195 ls [.int (bI (hereB g_w f_w k_w))]) := by
              refine lv_istore (lv' := [(10, .int (bI (hereB g_w f_w k_w))), (0, .ref (a_w 0)), (1, .ref (a_w 9)), (2, .int (nI (cnt (rsB g_w f_w) 200))), (3, .int y_w), (4, .int x), (5, .int 1), (6, .int (nI (cnt (hereB g_w f_w) k_w))), (7, .int (nI (cnt (onB g_w f_w 1) k_w))), (8, .int (nI (cnt (onB g_w f_w 0) k_w))), (9, .int (nI k_w))]) hx hb_w dL_areHeld_195 hl (by decide) rfl (fun ls hl => ?_)
              refine lv_iload hx hb_w dL_areHeld_197 (lv_at hl 7 rfl) ?_
              refine lv_iload hx hb_w dL_areHeld_199 (lv_at hl 0 rfl) ?_
              refine lv_if_eq (tgt := 208) hx hb_w dL_areHeld_201 (by decide) (fun c201 => ?_) (fun c201 => ?_)
              · replace c201 := bI0 c201
                refine lv_iconst (v := 0) hx hb_w dL_areHeld_208 (by decide) ?_
                refine lv_iadd hx hb_w dL_areHeld_209 ?_
                refine top_eq (z := nI (cnt (hereB g_w f_w) (k_w + 1))) (by rw [cnt_f c201]; exact Int32.add_zero _) ?_
                refine lv_istore (lv' := [(6, .int (nI (cnt (hereB g_w f_w) (k_w + 1)))), (10, .int (bI (hereB g_w f_w k_w))), (0, .ref (a_w 0)), (1, .ref (a_w 9)), (2, .int (nI (cnt (rsB g_w f_w) 200))), (3, .int y_w), (4, .int x), (5, .int 1), (7, .int (nI (cnt (onB g_w f_w 1) k_w))), (8, .int (nI (cnt (onB g_w f_w 0) k_w))), (9, .int (nI k_w))]) hx hb_w dL_areHeld_210 hl (by decide) rfl (fun ls hl => ?_)
                refine lv_aload_n hx hb_w dL_areHeld_212 rfl (lv_at hl 2 rfl) ?_
                refine lv_iload hx hb_w dL_areHeld_213 (lv_at hl 10 rfl) ?_
                refine rdr_V (As := [.int (nI k_w)]) (rest := []) ⟨hx, hb_w, hml, hown, hts⟩ (kX1_isHeld l G_w a_w cI cZ g_w f_w cd tc_w (nI k_w)) (cwV 1 hts gL_areHeld_X1_isHeld rfl rfl rfl (by decide +kernel) ⟨Nat.le_of_ble_eq_true rfl, Nat.le_of_ble_eq_true rfl⟩) (va_recv hK_w hP (ci := 1) (q0 := 0) rfl rfl) (hP.sub [0, 1, 2, 3, 4, 5, 6] rfl) (hK_w.sub (tys' := tyIZ cI cZ) [0, 1] rfl) rfl hl.1 rfl (Nat.le_of_ble_eq_true rfl) dL_areHeld_215  ⟨Nat.le_of_ble_eq_true rfl, Nat.le_of_ble_eq_true rfl⟩ (fun r215 h215 => ?_)
                replace h215 : r215 = bI (anyR (hdB g_w f_w (nI k_w)) 0 200) := h215
                subst h215
                refine top_eq (z := bI (hereB g_w f_w k_w)) (by rw [held_eq, hereI_nI hk2]) ?_
                refine lv_iload hx hb_w dL_areHeld_218 (lv_at hl 1 rfl) ?_
                refine lv_icmp_ne (tgt := 279) hx hb_w dL_areHeld_220 (by decide) (fun c220 => ?_) (fun c220 => ?_)
                · exact absurd rfl c220
                refine lv_iload hx hb_w dL_areHeld_223 (lv_at hl 1 rfl) ?_
                refine lv_if_eq (tgt := 249) hx hb_w dL_areHeld_225 (by decide) (fun c225 => ?_) (fun c225 => ?_)
                · replace c225 := bI0 c225
                  refine lv_iload hx hb_w dL_areHeld_249 (lv_at hl 1 rfl) ?_
                  refine lv_if_ne (tgt := 275) hx hb_w dL_areHeld_251 (by decide) (fun c251 => ?_) (fun c251 => ?_)
                  · replace c251 := bIn c251
                    exact ((by rw [c201] at c251; exact absurd c251 (by decide)) : False).elim
                  replace c251 := bI0 c251
                  refine lv_aload_n hx hb_w dL_areHeld_254 rfl (lv_at hl 3 rfl) ?_
                  refine lv_iload hx hb_w dL_areHeld_255 (lv_at hl 10 rfl) ?_
                  refine rdr_S (As := [.ref (a_w 9), .int (nI k_w)]) (rest := []) ⟨hx, hb_w, hml, hown, hts⟩ (kL_isThere l G_w cI cZ cL (a_w 9) gg k_w (by omega)) (va_cwS 2 hts gL_areHeld_L_isThere rfl rfl rfl (by decide +kernel) ⟨Nat.le_of_ble_eq_true rfl, Nat.le_of_ble_eq_true rfl⟩) (hP.sub [9] rfl) hK_w rfl hl.1 rfl (Nat.le_of_ble_eq_true rfl) dL_areHeld_257  ⟨Nat.le_of_ble_eq_true rfl, Nat.le_of_ble_eq_true rfl⟩ (fun r257 h257 => ?_)
                  replace h257 : r257 = bI (isT gg k_w) := h257
                  subst h257
                  refine top_eq (z := bI (thB (f_w 4) k_w)) (by rw [hbit k_w hk2]) ?_
                  refine lv_if_eq (tgt := 275) hx hb_w dL_areHeld_260 (by decide) (fun c260 => ?_) (fun c260 => ?_)
                  · replace c260 := bI0 c260
                    refine lv_iconst (v := 1) hx hb_w dL_areHeld_275 (by decide) ?_
                    refine lv_goto (tgt := 280) hx hb_w dL_areHeld_276 (by decide) ?_
                    refine lv_istore (lv' := [(5, .int 1), (6, .int (nI (cnt (hereB g_w f_w) (k_w + 1)))), (10, .int (bI (hereB g_w f_w k_w))), (0, .ref (a_w 0)), (1, .ref (a_w 9)), (2, .int (nI (cnt (rsB g_w f_w) 200))), (3, .int y_w), (4, .int x), (7, .int (nI (cnt (onB g_w f_w 1) k_w))), (8, .int (nI (cnt (onB g_w f_w 0) k_w))), (9, .int (nI k_w))]) hx hb_w dL_areHeld_280 hl (by decide) rfl (fun ls hl => ?_)
                    refine lv_iload hx hb_w dL_areHeld_282 (lv_at hl 8 rfl) ?_
                    refine lv_iload hx hb_w dL_areHeld_284 (lv_at hl 2 rfl) ?_
                    refine lv_if_eq (tgt := 302) hx hb_w dL_areHeld_286 (by decide) (fun c286 => ?_) (fun c286 => ?_)
                    · replace c286 := bI0 c286
                      refine lv_iconst (v := 0) hx hb_w dL_areHeld_302 (by decide) ?_
                      refine lv_iadd hx hb_w dL_areHeld_303 ?_
                      refine top_eq (z := nI (cnt (onB g_w f_w 1) (k_w + 1))) (by rw [cnt_f (show onB g_w f_w 1 k_w = false from by rw [on_1, c201, c260]; rfl)]; exact Int32.add_zero _) ?_
                      refine lv_istore (lv' := [(7, .int (nI (cnt (onB g_w f_w 1) (k_w + 1)))), (5, .int 1), (6, .int (nI (cnt (hereB g_w f_w) (k_w + 1)))), (10, .int (bI (hereB g_w f_w k_w))), (0, .ref (a_w 0)), (1, .ref (a_w 9)), (2, .int (nI (cnt (rsB g_w f_w) 200))), (3, .int y_w), (4, .int x), (8, .int (nI (cnt (onB g_w f_w 0) k_w))), (9, .int (nI k_w))]) hx hb_w dL_areHeld_304 hl (by decide) rfl (fun ls hl => ?_)
                      refine lv_iload hx hb_w dL_areHeld_306 (lv_at hl 9 rfl) ?_
                      refine lv_iload hx hb_w dL_areHeld_308 (lv_at hl 3 rfl) ?_
                      refine lv_if_ne (tgt := 326) hx hb_w dL_areHeld_310 (by decide) (fun c310 => ?_) (fun c310 => ?_)
                      · replace c310 := bIn c310
                        exact ((by rw [c201] at c310; exact absurd c310 (by decide)) : False).elim
                      replace c310 := bI0 c310
                      refine lv_aload_n hx hb_w dL_areHeld_313 rfl (lv_at hl 5 rfl) ?_
                      refine lv_iload hx hb_w dL_areHeld_314 (lv_at hl 10 rfl) ?_
                      refine rdr_S (As := [.ref (a_w 9), .int (nI k_w)]) (rest := [.int (nI (cnt (onB g_w f_w 0) k_w))]) ⟨hx, hb_w, hml, hown, hts⟩ (kL_isThere l G_w cI cZ cL (a_w 9) gg k_w (by omega)) (va_cwS 2 hts gL_areHeld_L_isThere rfl rfl rfl (by decide +kernel) ⟨Nat.le_of_ble_eq_true rfl, Nat.le_of_ble_eq_true rfl⟩) (hP.sub [9] rfl) hK_w rfl hl.1 rfl (Nat.le_of_ble_eq_true rfl) dL_areHeld_316  ⟨Nat.le_of_ble_eq_true rfl, Nat.le_of_ble_eq_true rfl⟩ (fun r316 h316 => ?_)
                      replace h316 : r316 = bI (isT gg k_w) := h316
                      subst h316
                      refine top_eq (z := bI (thB (f_w 4) k_w)) (by rw [hbit k_w hk2]) ?_
                      refine lv_if_eq (tgt := 326) hx hb_w dL_areHeld_319 (by decide) (fun c319 => ?_) (fun c319 => ?_)
                      · replace c319 := bI0 c319
                        refine lv_iconst (v := 0) hx hb_w dL_areHeld_326 (by decide) ?_
                        refine lv_iadd hx hb_w dL_areHeld_327 ?_
                        refine top_eq (z := nI (cnt (onB g_w f_w 0) (k_w + 1))) (by rw [cnt_f (show onB g_w f_w 0 k_w = false from by rw [on_0, c201, c260]; rfl)]; exact Int32.add_zero _) ?_
                        refine lv_istore (lv' := [(8, .int (nI (cnt (onB g_w f_w 0) (k_w + 1)))), (7, .int (nI (cnt (onB g_w f_w 1) (k_w + 1)))), (5, .int 1), (6, .int (nI (cnt (hereB g_w f_w) (k_w + 1)))), (10, .int (bI (hereB g_w f_w k_w))), (0, .ref (a_w 0)), (1, .ref (a_w 9)), (2, .int (nI (cnt (rsB g_w f_w) 200))), (3, .int y_w), (4, .int x), (9, .int (nI k_w))]) hx hb_w dL_areHeld_328 hl (by decide) rfl (fun ls hl => ?_)
                        refine lv_iinc (v := nI (k_w + 1)) (lv' := [(9, .int (nI (k_w + 1))), (8, .int (nI (cnt (onB g_w f_w 0) (k_w + 1)))), (7, .int (nI (cnt (onB g_w f_w 1) (k_w + 1)))), (5, .int 1), (6, .int (nI (cnt (hereB g_w f_w) (k_w + 1)))), (10, .int (bI (hereB g_w f_w k_w))), (0, .ref (a_w 0)), (1, .ref (a_w 9)), (2, .int (nI (cnt (rsB g_w f_w) 200))), (3, .int y_w), (4, .int x)]) hx hb_w dL_areHeld_330 hl (k := 10) rfl (nI_1 _) (by decide) rfl (fun ls hl => ?_)
                        refine lv_goto (tgt := 148) hx hb_w dL_areHeld_333 (by decide) ?_
                        exact ih148 (k_w + 1) (by omega) (by omega) _ _ hP hS_w _ (lv_sub hl [6, 7, 8, 9, 10, 3, 4, 2, 1, 0] rfl)
                      replace c319 := bIn c319
                      exact ((by rw [c260] at c319; exact absurd c319 (by decide)) : False).elim
                    replace c286 := bIn c286
                    exact ((by rw [c201] at c286; exact absurd c286 (by decide)) : False).elim
                  replace c260 := bIn c260
                  refine lv_aload_n hx hb_w dL_areHeld_263 rfl (lv_at hl 2 rfl) ?_
                  refine lv_iconst (v := 0) hx hb_w dL_areHeld_264 (by decide) ?_
                  refine lv_iload hx hb_w dL_areHeld_265 (lv_at hl 9 rfl) ?_
                  refine rdr_V (As := [.int 0, .int (nI (cnt (onB g_w f_w 0) k_w))]) (rest := []) ⟨hx, hb_w, hml, hown, hts⟩ (kX1_only_n l G_w a_w cI cZ g_w f_w cd tc_w 0 (cnt (onB g_w f_w 0) k_w) (by omega) (Or.inl rfl) h01) (cwV 2 hts gL_areHeld_X1_only rfl rfl rfl (by decide +kernel) ⟨Nat.le_of_ble_eq_true rfl, Nat.le_of_ble_eq_true rfl⟩) (va_recv hK_w hP (ci := 1) (q0 := 0) rfl rfl) (hP.sub [0, 1, 2, 3, 4, 5, 6] rfl) (hK_w.sub (tys' := tyIZ cI cZ) [0, 1] rfl) rfl hl.1 rfl (Nat.le_of_ble_eq_true rfl) dL_areHeld_267  ⟨Nat.le_of_ble_eq_true rfl, Nat.le_of_ble_eq_true rfl⟩ (fun r267 h267 => ?_)
                  replace h267 : r267 = scan (onB g_w f_w 0) (nI (cnt (onB g_w f_w 0) k_w)) 0 200 0 := h267
                  subst h267
                  refine lv_iload hx hb_w dL_areHeld_270 (lv_at hl 10 rfl) ?_
                  refine lv_icmp_ne (tgt := 279) hx hb_w dL_areHeld_272 (by decide) (fun c272 => ?_) (fun c272 => ?_)
                  · exact absurd (scan_at hk2 (show onB g_w f_w 0 k_w = true from by rw [on_0, c201, c260]; rfl)) c272
                  refine lv_iconst (v := 1) hx hb_w dL_areHeld_275 (by decide) ?_
                  refine lv_goto (tgt := 280) hx hb_w dL_areHeld_276 (by decide) ?_
                  refine lv_istore (lv' := [(5, .int 1), (6, .int (nI (cnt (hereB g_w f_w) (k_w + 1)))), (10, .int (bI (hereB g_w f_w k_w))), (0, .ref (a_w 0)), (1, .ref (a_w 9)), (2, .int (nI (cnt (rsB g_w f_w) 200))), (3, .int y_w), (4, .int x), (7, .int (nI (cnt (onB g_w f_w 1) k_w))), (8, .int (nI (cnt (onB g_w f_w 0) k_w))), (9, .int (nI k_w))]) hx hb_w dL_areHeld_280 hl (by decide) rfl (fun ls hl => ?_)
                  refine lv_iload hx hb_w dL_areHeld_282 (lv_at hl 8 rfl) ?_
                  refine lv_iload hx hb_w dL_areHeld_284 (lv_at hl 2 rfl) ?_
                  refine lv_if_eq (tgt := 302) hx hb_w dL_areHeld_286 (by decide) (fun c286 => ?_) (fun c286 => ?_)
                  · replace c286 := bI0 c286
                    refine lv_iconst (v := 0) hx hb_w dL_areHeld_302 (by decide) ?_
                    refine lv_iadd hx hb_w dL_areHeld_303 ?_
                    refine top_eq (z := nI (cnt (onB g_w f_w 1) (k_w + 1))) (by rw [cnt_f (show onB g_w f_w 1 k_w = false from by rw [on_1, c201, c260]; rfl)]; exact Int32.add_zero _) ?_
                    refine lv_istore (lv' := [(7, .int (nI (cnt (onB g_w f_w 1) (k_w + 1)))), (5, .int 1), (6, .int (nI (cnt (hereB g_w f_w) (k_w + 1)))), (10, .int (bI (hereB g_w f_w k_w))), (0, .ref (a_w 0)), (1, .ref (a_w 9)), (2, .int (nI (cnt (rsB g_w f_w) 200))), (3, .int y_w), (4, .int x), (8, .int (nI (cnt (onB g_w f_w 0) k_w))), (9, .int (nI k_w))]) hx hb_w dL_areHeld_304 hl (by decide) rfl (fun ls hl => ?_)
                    refine lv_iload hx hb_w dL_areHeld_306 (lv_at hl 9 rfl) ?_
                    refine lv_iload hx hb_w dL_areHeld_308 (lv_at hl 3 rfl) ?_
                    refine lv_if_ne (tgt := 326) hx hb_w dL_areHeld_310 (by decide) (fun c310 => ?_) (fun c310 => ?_)
                    · replace c310 := bIn c310
                      exact ((by rw [c201] at c310; exact absurd c310 (by decide)) : False).elim
                    replace c310 := bI0 c310
                    refine lv_aload_n hx hb_w dL_areHeld_313 rfl (lv_at hl 5 rfl) ?_
                    refine lv_iload hx hb_w dL_areHeld_314 (lv_at hl 10 rfl) ?_
                    refine rdr_S (As := [.ref (a_w 9), .int (nI k_w)]) (rest := [.int (nI (cnt (onB g_w f_w 0) k_w))]) ⟨hx, hb_w, hml, hown, hts⟩ (kL_isThere l G_w cI cZ cL (a_w 9) gg k_w (by omega)) (va_cwS 2 hts gL_areHeld_L_isThere rfl rfl rfl (by decide +kernel) ⟨Nat.le_of_ble_eq_true rfl, Nat.le_of_ble_eq_true rfl⟩) (hP.sub [9] rfl) hK_w rfl hl.1 rfl (Nat.le_of_ble_eq_true rfl) dL_areHeld_316  ⟨Nat.le_of_ble_eq_true rfl, Nat.le_of_ble_eq_true rfl⟩ (fun r316 h316 => ?_)
                    replace h316 : r316 = bI (isT gg k_w) := h316
                    subst h316
                    refine top_eq (z := bI (thB (f_w 4) k_w)) (by rw [hbit k_w hk2]) ?_
                    refine lv_if_eq (tgt := 326) hx hb_w dL_areHeld_319 (by decide) (fun c319 => ?_) (fun c319 => ?_)
                    · replace c319 := bI0 c319
                      exact ((by rw [c260] at c319; exact absurd c319 (by decide)) : False).elim
                    replace c319 := bIn c319
                    refine lv_iconst (v := 1) hx hb_w dL_areHeld_322 (by decide) ?_
                    refine lv_goto (tgt := 327) hx hb_w dL_areHeld_323 (by decide) ?_
                    refine lv_iadd hx hb_w dL_areHeld_327 ?_
                    refine top_eq (z := nI (cnt (onB g_w f_w 0) (k_w + 1))) (by rw [cnt_t (show onB g_w f_w 0 k_w = true from by rw [on_0, c201, c260]; rfl)]; exact nI_1 _) ?_
                    refine lv_istore (lv' := [(8, .int (nI (cnt (onB g_w f_w 0) (k_w + 1)))), (7, .int (nI (cnt (onB g_w f_w 1) (k_w + 1)))), (5, .int 1), (6, .int (nI (cnt (hereB g_w f_w) (k_w + 1)))), (10, .int (bI (hereB g_w f_w k_w))), (0, .ref (a_w 0)), (1, .ref (a_w 9)), (2, .int (nI (cnt (rsB g_w f_w) 200))), (3, .int y_w), (4, .int x), (9, .int (nI k_w))]) hx hb_w dL_areHeld_328 hl (by decide) rfl (fun ls hl => ?_)
                    refine lv_iinc (v := nI (k_w + 1)) (lv' := [(9, .int (nI (k_w + 1))), (8, .int (nI (cnt (onB g_w f_w 0) (k_w + 1)))), (7, .int (nI (cnt (onB g_w f_w 1) (k_w + 1)))), (5, .int 1), (6, .int (nI (cnt (hereB g_w f_w) (k_w + 1)))), (10, .int (bI (hereB g_w f_w k_w))), (0, .ref (a_w 0)), (1, .ref (a_w 9)), (2, .int (nI (cnt (rsB g_w f_w) 200))), (3, .int y_w), (4, .int x)]) hx hb_w dL_areHeld_330 hl (k := 10) rfl (nI_1 _) (by decide) rfl (fun ls hl => ?_)
                    refine lv_goto (tgt := 148) hx hb_w dL_areHeld_333 (by decide) ?_
                    exact ih148 (k_w + 1) (by omega) (by omega) _ _ hP hS_w _ (lv_sub hl [6, 7, 8, 9, 10, 3, 4, 2, 1, 0] rfl)
                  replace c286 := bIn c286
                  exact ((by rw [c201] at c286; exact absurd c286 (by decide)) : False).elim
                replace c225 := bIn c225
                exact ((by rw [c201] at c225; exact absurd c225 (by decide)) : False).elim
              replace c201 := bIn c201
              refine lv_iconst (v := 1) hx hb_w dL_areHeld_204 (by decide) ?_
              refine lv_goto (tgt := 209) hx hb_w dL_areHeld_205 (by decide) ?_
              refine lv_iadd hx hb_w dL_areHeld_209 ?_
              refine top_eq (z := nI (cnt (hereB g_w f_w) (k_w + 1))) (by rw [cnt_t c201]; exact nI_1 _) ?_
              refine lv_istore (lv' := [(6, .int (nI (cnt (hereB g_w f_w) (k_w + 1)))), (10, .int (bI (hereB g_w f_w k_w))), (0, .ref (a_w 0)), (1, .ref (a_w 9)), (2, .int (nI (cnt (rsB g_w f_w) 200))), (3, .int y_w), (4, .int x), (5, .int 1), (7, .int (nI (cnt (onB g_w f_w 1) k_w))), (8, .int (nI (cnt (onB g_w f_w 0) k_w))), (9, .int (nI k_w))]) hx hb_w dL_areHeld_210 hl (by decide) rfl (fun ls hl => ?_)
              refine lv_aload_n hx hb_w dL_areHeld_212 rfl (lv_at hl 2 rfl) ?_
              refine lv_iload hx hb_w dL_areHeld_213 (lv_at hl 10 rfl) ?_
              refine rdr_V (As := [.int (nI k_w)]) (rest := []) ⟨hx, hb_w, hml, hown, hts⟩ (kX1_isHeld l G_w a_w cI cZ g_w f_w cd tc_w (nI k_w)) (cwV 1 hts gL_areHeld_X1_isHeld rfl rfl rfl (by decide +kernel) ⟨Nat.le_of_ble_eq_true rfl, Nat.le_of_ble_eq_true rfl⟩) (va_recv hK_w hP (ci := 1) (q0 := 0) rfl rfl) (hP.sub [0, 1, 2, 3, 4, 5, 6] rfl) (hK_w.sub (tys' := tyIZ cI cZ) [0, 1] rfl) rfl hl.1 rfl (Nat.le_of_ble_eq_true rfl) dL_areHeld_215  ⟨Nat.le_of_ble_eq_true rfl, Nat.le_of_ble_eq_true rfl⟩ (fun r215 h215 => ?_)
              replace h215 : r215 = bI (anyR (hdB g_w f_w (nI k_w)) 0 200) := h215
              subst h215
              refine top_eq (z := bI (hereB g_w f_w k_w)) (by rw [held_eq, hereI_nI hk2]) ?_
              refine lv_iload hx hb_w dL_areHeld_218 (lv_at hl 1 rfl) ?_
              refine lv_icmp_ne (tgt := 279) hx hb_w dL_areHeld_220 (by decide) (fun c220 => ?_) (fun c220 => ?_)
              · exact absurd rfl c220
              refine lv_iload hx hb_w dL_areHeld_223 (lv_at hl 1 rfl) ?_
              refine lv_if_eq (tgt := 249) hx hb_w dL_areHeld_225 (by decide) (fun c225 => ?_) (fun c225 => ?_)
              · replace c225 := bI0 c225
                exact ((by rw [c201] at c225; exact absurd c225 (by decide)) : False).elim
              replace c225 := bIn c225
              refine lv_aload_n hx hb_w dL_areHeld_228 rfl (lv_at hl 3 rfl) ?_
              refine lv_iload hx hb_w dL_areHeld_229 (lv_at hl 10 rfl) ?_
              refine rdr_S (As := [.ref (a_w 9), .int (nI k_w)]) (rest := []) ⟨hx, hb_w, hml, hown, hts⟩ (kL_isThere l G_w cI cZ cL (a_w 9) gg k_w (by omega)) (va_cwS 2 hts gL_areHeld_L_isThere rfl rfl rfl (by decide +kernel) ⟨Nat.le_of_ble_eq_true rfl, Nat.le_of_ble_eq_true rfl⟩) (hP.sub [9] rfl) hK_w rfl hl.1 rfl (Nat.le_of_ble_eq_true rfl) dL_areHeld_231  ⟨Nat.le_of_ble_eq_true rfl, Nat.le_of_ble_eq_true rfl⟩ (fun r231 h231 => ?_)
              replace h231 : r231 = bI (isT gg k_w) := h231
              subst h231
              refine top_eq (z := bI (thB (f_w 4) k_w)) (by rw [hbit k_w hk2]) ?_
              refine lv_if_ne (tgt := 249) hx hb_w dL_areHeld_234 (by decide) (fun c234 => ?_) (fun c234 => ?_)
              · replace c234 := bIn c234
                refine lv_iload hx hb_w dL_areHeld_249 (lv_at hl 1 rfl) ?_
                refine lv_if_ne (tgt := 275) hx hb_w dL_areHeld_251 (by decide) (fun c251 => ?_) (fun c251 => ?_)
                · replace c251 := bIn c251
                  refine lv_iconst (v := 1) hx hb_w dL_areHeld_275 (by decide) ?_
                  refine lv_goto (tgt := 280) hx hb_w dL_areHeld_276 (by decide) ?_
                  refine lv_istore (lv' := [(5, .int 1), (6, .int (nI (cnt (hereB g_w f_w) (k_w + 1)))), (10, .int (bI (hereB g_w f_w k_w))), (0, .ref (a_w 0)), (1, .ref (a_w 9)), (2, .int (nI (cnt (rsB g_w f_w) 200))), (3, .int y_w), (4, .int x), (7, .int (nI (cnt (onB g_w f_w 1) k_w))), (8, .int (nI (cnt (onB g_w f_w 0) k_w))), (9, .int (nI k_w))]) hx hb_w dL_areHeld_280 hl (by decide) rfl (fun ls hl => ?_)
                  refine lv_iload hx hb_w dL_areHeld_282 (lv_at hl 8 rfl) ?_
                  refine lv_iload hx hb_w dL_areHeld_284 (lv_at hl 2 rfl) ?_
                  refine lv_if_eq (tgt := 302) hx hb_w dL_areHeld_286 (by decide) (fun c286 => ?_) (fun c286 => ?_)
                  · replace c286 := bI0 c286
                    exact ((by rw [c201] at c286; exact absurd c286 (by decide)) : False).elim
                  replace c286 := bIn c286
                  refine lv_aload_n hx hb_w dL_areHeld_289 rfl (lv_at hl 4 rfl) ?_
                  refine lv_iload hx hb_w dL_areHeld_290 (lv_at hl 10 rfl) ?_
                  refine rdr_S (As := [.ref (a_w 9), .int (nI k_w)]) (rest := [.int (nI (cnt (onB g_w f_w 1) k_w))]) ⟨hx, hb_w, hml, hown, hts⟩ (kL_isThere l G_w cI cZ cL (a_w 9) gg k_w (by omega)) (va_cwS 2 hts gL_areHeld_L_isThere rfl rfl rfl (by decide +kernel) ⟨Nat.le_of_ble_eq_true rfl, Nat.le_of_ble_eq_true rfl⟩) (hP.sub [9] rfl) hK_w rfl hl.1 rfl (Nat.le_of_ble_eq_true rfl) dL_areHeld_292  ⟨Nat.le_of_ble_eq_true rfl, Nat.le_of_ble_eq_true rfl⟩ (fun r292 h292 => ?_)
                  replace h292 : r292 = bI (isT gg k_w) := h292
                  subst h292
                  refine top_eq (z := bI (thB (f_w 4) k_w)) (by rw [hbit k_w hk2]) ?_
                  refine lv_if_ne (tgt := 302) hx hb_w dL_areHeld_295 (by decide) (fun c295 => ?_) (fun c295 => ?_)
                  · replace c295 := bIn c295
                    refine lv_iconst (v := 0) hx hb_w dL_areHeld_302 (by decide) ?_
                    refine lv_iadd hx hb_w dL_areHeld_303 ?_
                    refine top_eq (z := nI (cnt (onB g_w f_w 1) (k_w + 1))) (by rw [cnt_f (show onB g_w f_w 1 k_w = false from by rw [on_1, c201, c234]; rfl)]; exact Int32.add_zero _) ?_
                    refine lv_istore (lv' := [(7, .int (nI (cnt (onB g_w f_w 1) (k_w + 1)))), (5, .int 1), (6, .int (nI (cnt (hereB g_w f_w) (k_w + 1)))), (10, .int (bI (hereB g_w f_w k_w))), (0, .ref (a_w 0)), (1, .ref (a_w 9)), (2, .int (nI (cnt (rsB g_w f_w) 200))), (3, .int y_w), (4, .int x), (8, .int (nI (cnt (onB g_w f_w 0) k_w))), (9, .int (nI k_w))]) hx hb_w dL_areHeld_304 hl (by decide) rfl (fun ls hl => ?_)
                    refine lv_iload hx hb_w dL_areHeld_306 (lv_at hl 9 rfl) ?_
                    refine lv_iload hx hb_w dL_areHeld_308 (lv_at hl 3 rfl) ?_
                    refine lv_if_ne (tgt := 326) hx hb_w dL_areHeld_310 (by decide) (fun c310 => ?_) (fun c310 => ?_)
                    · replace c310 := bIn c310
                      refine lv_iconst (v := 0) hx hb_w dL_areHeld_326 (by decide) ?_
                      refine lv_iadd hx hb_w dL_areHeld_327 ?_
                      refine top_eq (z := nI (cnt (onB g_w f_w 0) (k_w + 1))) (by rw [cnt_f (show onB g_w f_w 0 k_w = false from by rw [on_0, c201, c234]; rfl)]; exact Int32.add_zero _) ?_
                      refine lv_istore (lv' := [(8, .int (nI (cnt (onB g_w f_w 0) (k_w + 1)))), (7, .int (nI (cnt (onB g_w f_w 1) (k_w + 1)))), (5, .int 1), (6, .int (nI (cnt (hereB g_w f_w) (k_w + 1)))), (10, .int (bI (hereB g_w f_w k_w))), (0, .ref (a_w 0)), (1, .ref (a_w 9)), (2, .int (nI (cnt (rsB g_w f_w) 200))), (3, .int y_w), (4, .int x), (9, .int (nI k_w))]) hx hb_w dL_areHeld_328 hl (by decide) rfl (fun ls hl => ?_)
                      refine lv_iinc (v := nI (k_w + 1)) (lv' := [(9, .int (nI (k_w + 1))), (8, .int (nI (cnt (onB g_w f_w 0) (k_w + 1)))), (7, .int (nI (cnt (onB g_w f_w 1) (k_w + 1)))), (5, .int 1), (6, .int (nI (cnt (hereB g_w f_w) (k_w + 1)))), (10, .int (bI (hereB g_w f_w k_w))), (0, .ref (a_w 0)), (1, .ref (a_w 9)), (2, .int (nI (cnt (rsB g_w f_w) 200))), (3, .int y_w), (4, .int x)]) hx hb_w dL_areHeld_330 hl (k := 10) rfl (nI_1 _) (by decide) rfl (fun ls hl => ?_)
                      refine lv_goto (tgt := 148) hx hb_w dL_areHeld_333 (by decide) ?_
                      exact ih148 (k_w + 1) (by omega) (by omega) _ _ hP hS_w _ (lv_sub hl [6, 7, 8, 9, 10, 3, 4, 2, 1, 0] rfl)
                    replace c310 := bI0 c310
                    exact ((by rw [c201] at c310; exact absurd c310 (by decide)) : False).elim
                  replace c295 := bI0 c295
                  exact ((by rw [c234] at c295; exact absurd c295 (by decide)) : False).elim
                replace c251 := bI0 c251
                exact ((by rw [c201] at c251; exact absurd c251 (by decide)) : False).elim
              replace c234 := bI0 c234
              refine lv_aload_n hx hb_w dL_areHeld_237 rfl (lv_at hl 2 rfl) ?_
              refine lv_iconst (v := 1) hx hb_w dL_areHeld_238 (by decide) ?_
              refine lv_iload hx hb_w dL_areHeld_239 (lv_at hl 8 rfl) ?_
              refine rdr_V (As := [.int 1, .int (nI (cnt (onB g_w f_w 1) k_w))]) (rest := []) ⟨hx, hb_w, hml, hown, hts⟩ (kX1_only_n l G_w a_w cI cZ g_w f_w cd tc_w 1 (cnt (onB g_w f_w 1) k_w) (by omega) (Or.inr rfl) h01) (cwV 2 hts gL_areHeld_X1_only rfl rfl rfl (by decide +kernel) ⟨Nat.le_of_ble_eq_true rfl, Nat.le_of_ble_eq_true rfl⟩) (va_recv hK_w hP (ci := 1) (q0 := 0) rfl rfl) (hP.sub [0, 1, 2, 3, 4, 5, 6] rfl) (hK_w.sub (tys' := tyIZ cI cZ) [0, 1] rfl) rfl hl.1 rfl (Nat.le_of_ble_eq_true rfl) dL_areHeld_241  ⟨Nat.le_of_ble_eq_true rfl, Nat.le_of_ble_eq_true rfl⟩ (fun r241 h241 => ?_)
              replace h241 : r241 = scan (onB g_w f_w 1) (nI (cnt (onB g_w f_w 1) k_w)) 0 200 0 := h241
              subst h241
              refine lv_iload hx hb_w dL_areHeld_244 (lv_at hl 10 rfl) ?_
              refine lv_icmp_ne (tgt := 279) hx hb_w dL_areHeld_246 (by decide) (fun c246 => ?_) (fun c246 => ?_)
              · exact absurd (scan_at hk2 (show onB g_w f_w 1 k_w = true from by rw [on_1, c201, c234]; rfl)) c246
              refine lv_iload hx hb_w dL_areHeld_249 (lv_at hl 1 rfl) ?_
              refine lv_if_ne (tgt := 275) hx hb_w dL_areHeld_251 (by decide) (fun c251 => ?_) (fun c251 => ?_)
              · replace c251 := bIn c251
                refine lv_iconst (v := 1) hx hb_w dL_areHeld_275 (by decide) ?_
                refine lv_goto (tgt := 280) hx hb_w dL_areHeld_276 (by decide) ?_
                refine lv_istore (lv' := [(5, .int 1), (6, .int (nI (cnt (hereB g_w f_w) (k_w + 1)))), (10, .int (bI (hereB g_w f_w k_w))), (0, .ref (a_w 0)), (1, .ref (a_w 9)), (2, .int (nI (cnt (rsB g_w f_w) 200))), (3, .int y_w), (4, .int x), (7, .int (nI (cnt (onB g_w f_w 1) k_w))), (8, .int (nI (cnt (onB g_w f_w 0) k_w))), (9, .int (nI k_w))]) hx hb_w dL_areHeld_280 hl (by decide) rfl (fun ls hl => ?_)
                refine lv_iload hx hb_w dL_areHeld_282 (lv_at hl 8 rfl) ?_
                refine lv_iload hx hb_w dL_areHeld_284 (lv_at hl 2 rfl) ?_
                refine lv_if_eq (tgt := 302) hx hb_w dL_areHeld_286 (by decide) (fun c286 => ?_) (fun c286 => ?_)
                · replace c286 := bI0 c286
                  exact ((by rw [c201] at c286; exact absurd c286 (by decide)) : False).elim
                replace c286 := bIn c286
                refine lv_aload_n hx hb_w dL_areHeld_289 rfl (lv_at hl 4 rfl) ?_
                refine lv_iload hx hb_w dL_areHeld_290 (lv_at hl 10 rfl) ?_
                refine rdr_S (As := [.ref (a_w 9), .int (nI k_w)]) (rest := [.int (nI (cnt (onB g_w f_w 1) k_w))]) ⟨hx, hb_w, hml, hown, hts⟩ (kL_isThere l G_w cI cZ cL (a_w 9) gg k_w (by omega)) (va_cwS 2 hts gL_areHeld_L_isThere rfl rfl rfl (by decide +kernel) ⟨Nat.le_of_ble_eq_true rfl, Nat.le_of_ble_eq_true rfl⟩) (hP.sub [9] rfl) hK_w rfl hl.1 rfl (Nat.le_of_ble_eq_true rfl) dL_areHeld_292  ⟨Nat.le_of_ble_eq_true rfl, Nat.le_of_ble_eq_true rfl⟩ (fun r292 h292 => ?_)
                replace h292 : r292 = bI (isT gg k_w) := h292
                subst h292
                refine top_eq (z := bI (thB (f_w 4) k_w)) (by rw [hbit k_w hk2]) ?_
                refine lv_if_ne (tgt := 302) hx hb_w dL_areHeld_295 (by decide) (fun c295 => ?_) (fun c295 => ?_)
                · replace c295 := bIn c295
                  exact ((by rw [c234] at c295; exact absurd c295 (by decide)) : False).elim
                replace c295 := bI0 c295
                refine lv_iconst (v := 1) hx hb_w dL_areHeld_298 (by decide) ?_
                refine lv_goto (tgt := 303) hx hb_w dL_areHeld_299 (by decide) ?_
                refine lv_iadd hx hb_w dL_areHeld_303 ?_
                refine top_eq (z := nI (cnt (onB g_w f_w 1) (k_w + 1))) (by rw [cnt_t (show onB g_w f_w 1 k_w = true from by rw [on_1, c201, c234]; rfl)]; exact nI_1 _) ?_
                refine lv_istore (lv' := [(7, .int (nI (cnt (onB g_w f_w 1) (k_w + 1)))), (5, .int 1), (6, .int (nI (cnt (hereB g_w f_w) (k_w + 1)))), (10, .int (bI (hereB g_w f_w k_w))), (0, .ref (a_w 0)), (1, .ref (a_w 9)), (2, .int (nI (cnt (rsB g_w f_w) 200))), (3, .int y_w), (4, .int x), (8, .int (nI (cnt (onB g_w f_w 0) k_w))), (9, .int (nI k_w))]) hx hb_w dL_areHeld_304 hl (by decide) rfl (fun ls hl => ?_)
                refine lv_iload hx hb_w dL_areHeld_306 (lv_at hl 9 rfl) ?_
                refine lv_iload hx hb_w dL_areHeld_308 (lv_at hl 3 rfl) ?_
                refine lv_if_ne (tgt := 326) hx hb_w dL_areHeld_310 (by decide) (fun c310 => ?_) (fun c310 => ?_)
                · replace c310 := bIn c310
                  refine lv_iconst (v := 0) hx hb_w dL_areHeld_326 (by decide) ?_
                  refine lv_iadd hx hb_w dL_areHeld_327 ?_
                  refine top_eq (z := nI (cnt (onB g_w f_w 0) (k_w + 1))) (by rw [cnt_f (show onB g_w f_w 0 k_w = false from by rw [on_0, c201, c234]; rfl)]; exact Int32.add_zero _) ?_
                  refine lv_istore (lv' := [(8, .int (nI (cnt (onB g_w f_w 0) (k_w + 1)))), (7, .int (nI (cnt (onB g_w f_w 1) (k_w + 1)))), (5, .int 1), (6, .int (nI (cnt (hereB g_w f_w) (k_w + 1)))), (10, .int (bI (hereB g_w f_w k_w))), (0, .ref (a_w 0)), (1, .ref (a_w 9)), (2, .int (nI (cnt (rsB g_w f_w) 200))), (3, .int y_w), (4, .int x), (9, .int (nI k_w))]) hx hb_w dL_areHeld_328 hl (by decide) rfl (fun ls hl => ?_)
                  refine lv_iinc (v := nI (k_w + 1)) (lv' := [(9, .int (nI (k_w + 1))), (8, .int (nI (cnt (onB g_w f_w 0) (k_w + 1)))), (7, .int (nI (cnt (onB g_w f_w 1) (k_w + 1)))), (5, .int 1), (6, .int (nI (cnt (hereB g_w f_w) (k_w + 1)))), (10, .int (bI (hereB g_w f_w k_w))), (0, .ref (a_w 0)), (1, .ref (a_w 9)), (2, .int (nI (cnt (rsB g_w f_w) 200))), (3, .int y_w), (4, .int x)]) hx hb_w dL_areHeld_330 hl (k := 10) rfl (nI_1 _) (by decide) rfl (fun ls hl => ?_)
                  refine lv_goto (tgt := 148) hx hb_w dL_areHeld_333 (by decide) ?_
                  exact ih148 (k_w + 1) (by omega) (by omega) _ _ hP hS_w _ (lv_sub hl [6, 7, 8, 9, 10, 3, 4, 2, 1, 0] rfl)
                replace c310 := bI0 c310
                exact ((by rw [c201] at c310; exact absurd c310 (by decide)) : False).elim
              replace c251 := bI0 c251
              exact ((by rw [c201] at c251; exact absurd c251 (by decide)) : False).elim
            refine lv_iload hx hb_w dL_areHeld_161 (lv_at hl 9 rfl) ?_
            refine lv_aload_n hx hb_w dL_areHeld_163 rfl (lv_at hl 0 rfl) ?_
            refine rdr_V (As := []) (rest := [.int (nI k_w)]) ⟨hx, hb_w, hml, hown, hts⟩ (kX1_foretold l G_w a_w cI cZ g_w f_w cd tc_w) (cwV 0 hts gL_areHeld_X1_foretold rfl rfl rfl (by decide +kernel) ⟨Nat.le_of_ble_eq_true rfl, Nat.le_of_ble_eq_true rfl⟩) (va_recv hK_w hP (ci := 1) (q0 := 0) rfl rfl) (hP.sub [0, 1, 2, 3, 4, 5, 6] rfl) (hK_w.sub (tys' := tyIZ cI cZ) [0, 1] rfl) rfl hl.1 rfl (Nat.le_of_ble_eq_true rfl) dL_areHeld_164  ⟨Nat.le_of_ble_eq_true rfl, Nat.le_of_ble_eq_true rfl⟩ (fun r164 h164 => ?_)
            replace h164 : r164 = g_w 7 := h164
            subst h164
            refine top_eq (z := nI N_w) hN_w ?_
            refine lv_icmp_ge (tgt := 194) hx hb_w dL_areHeld_167 (by decide) (fun c167 => ?_) (fun c167 => ?_)
            · have hz : hereB g_w f_w k_w = false := hereB_out (by rw [hN_w]; exact c167)
              refine lv_iconst (v := 0) hx hb_w dL_areHeld_194 (by decide) ?_
              refine top_eq (z := bI (hereB g_w f_w k_w)) (by rw [hz]; rfl) ?_
              exact j195
            have hkN : k_w < N_w := nle_nI (by omega) (by omega) c167
            have hkg : ¬ g_w 7 ≤ nI k_w := by rw [hN_w]; exact c167
            refine lv_aload_n hx hb_w dL_areHeld_170 rfl (lv_at hl 0 rfl) ?_
            refine lv_iload hx hb_w dL_areHeld_171 (lv_at hl 9 rfl) ?_
            refine rdr_V (As := [.int (nI k_w)]) (rest := []) ⟨hx, hb_w, hml, hown, hts⟩ (kX1_stateOf_n l G_w a_w cI cZ g_w f_w cd tc_w k_w N_w hN_w hkN hN2) (cwV 1 hts gL_areHeld_X1_stateOf rfl rfl rfl (by decide +kernel) ⟨Nat.le_of_ble_eq_true rfl, Nat.le_of_ble_eq_true rfl⟩) (va_recv hK_w hP (ci := 1) (q0 := 0) rfl rfl) (hP.sub [0, 1, 2, 3, 4, 5, 6] rfl) (hK_w.sub (tys' := tyIZ cI cZ) [0, 1] rfl) rfl hl.1 rfl (Nat.le_of_ble_eq_true rfl) dL_areHeld_173  ⟨Nat.le_of_ble_eq_true rfl, Nat.le_of_ble_eq_true rfl⟩ (fun r173 h173 => ?_)
            replace h173 : r173 = (f_w 1) k_w := h173
            subst h173
            refine lv_iconst (v := 1) hx hb_w dL_areHeld_176 (by decide) ?_
            refine lv_icmp_eq (tgt := 190) hx hb_w dL_areHeld_177 (by decide) (fun c177 => ?_) (fun c177 => ?_)
            · refine lv_iconst (v := 1) hx hb_w dL_areHeld_190 (by decide) ?_
              refine lv_goto (tgt := 195) hx hb_w dL_areHeld_191 (by decide) ?_
              refine top_eq (z := bI (hereB g_w f_w k_w)) (by unfold hereB; rw [decide_eq_false hkg, decide_eq_true c177]; rfl) ?_
              exact j195
            refine lv_aload_n hx hb_w dL_areHeld_180 rfl (lv_at hl 0 rfl) ?_
            refine lv_iload hx hb_w dL_areHeld_181 (lv_at hl 9 rfl) ?_
            refine rdr_V (As := [.int (nI k_w)]) (rest := []) ⟨hx, hb_w, hml, hown, hts⟩ (kX1_stateOf_n l G_w a_w cI cZ g_w f_w cd tc_w k_w N_w hN_w hkN hN2) (cwV 1 hts gL_areHeld_X1_stateOf rfl rfl rfl (by decide +kernel) ⟨Nat.le_of_ble_eq_true rfl, Nat.le_of_ble_eq_true rfl⟩) (va_recv hK_w hP (ci := 1) (q0 := 0) rfl rfl) (hP.sub [0, 1, 2, 3, 4, 5, 6] rfl) (hK_w.sub (tys' := tyIZ cI cZ) [0, 1] rfl) rfl hl.1 rfl (Nat.le_of_ble_eq_true rfl) dL_areHeld_183  ⟨Nat.le_of_ble_eq_true rfl, Nat.le_of_ble_eq_true rfl⟩ (fun r183 h183 => ?_)
            replace h183 : r183 = (f_w 1) k_w := h183
            subst h183
            refine lv_iconst (v := 2) hx hb_w dL_areHeld_186 (by decide) ?_
            refine lv_icmp_ne (tgt := 194) hx hb_w dL_areHeld_187 (by decide) (fun c187 => ?_) (fun c187 => ?_)
            · refine lv_iconst (v := 0) hx hb_w dL_areHeld_194 (by decide) ?_
              refine top_eq (z := bI (hereB g_w f_w k_w)) (by unfold hereB; rw [decide_eq_false hkg, decide_eq_false c177, decide_eq_false c187]; rfl) ?_
              exact j195
            refine lv_iconst (v := 1) hx hb_w dL_areHeld_190 (by decide) ?_
            refine lv_goto (tgt := 195) hx hb_w dL_areHeld_191 (by decide) ?_
            refine top_eq (z := bI (hereB g_w f_w k_w)) (by unfold hereB; rw [decide_eq_false hkg, decide_eq_false c177, decide_eq_true c187]; rfl) ?_
            exact j195
        exact loop148 201 0 (by omega) (by omega) _ _ hP hS_w _ (lv_sub hl [4, 5, 6, 7, 8, 9, 3, 2, 1, 0] rfl)
      have hkR : kk < cnt (rsB g_w f_w) 200 := nle_nI (by omega) (by omega) c40_w
      obtain ⟨p_w, e9_w, hp1, hp2, hp3, hp4, hsc, heo, hch, hcr, hhe⟩ := rg_next hN_w hN2 hL hLl hcL hkR
      refine lv_iload hx hb_w dL_areHeld_43 (lv_at hl 5 rfl) ?_
      refine lv_if_eq (tgt := 136) hx hb_w dL_areHeld_45 (by decide) (fun c45 => ?_) (fun c45 => ?_)
      · exact absurd c45 (by decide)
      refine lv_aload_n hx hb_w dL_areHeld_48 rfl (lv_at hl 0 rfl) ?_
      refine lv_iload hx hb_w dL_areHeld_49 (lv_at hl 6 rfl) ?_
      refine rdr_V (As := [.int (nI kk)]) (rest := []) ⟨hx, hb_w, hml, hown, hts⟩ (kX1_rangeAt_n l G_w a_w cI cZ g_w f_w cd tc_w kk p_w (by omega) hsc) (cwV 1 hts gL_areHeld_X1_rangeAt rfl rfl rfl (by decide +kernel) ⟨Nat.le_of_ble_eq_true rfl, Nat.le_of_ble_eq_true rfl⟩) (va_recv hK_w hP (ci := 1) (q0 := 0) rfl rfl) (hP.sub [0, 1, 2, 3, 4, 5, 6] rfl) (hK_w.sub (tys' := tyIZ cI cZ) [0, 1] rfl) rfl hl.1 rfl (Nat.le_of_ble_eq_true rfl) dL_areHeld_51  ⟨Nat.le_of_ble_eq_true rfl, Nat.le_of_ble_eq_true rfl⟩ (fun r51 h51 => ?_)
      replace h51 : r51 = 1000 * nI p_w + nI (eoR g_w f_w (199 - p_w) p_w) := h51
      subst h51
      refine top_eq (z := nI (1000 * p_w + e9_w)) (by rw [heo]; exact (rg_val p_w e9_w)) ?_
      refine lv_istore (lv' := [(7, .int (nI (1000 * p_w + e9_w))), (0, .ref (a_w 0)), (1, .ref (a_w 9)), (2, .int (nI (cnt (rsB g_w f_w) 200))), (3, .int y_w), (4, .int x), (5, .int 1), (6, .int (nI kk))]) hx hb_w dL_areHeld_54 hl (by decide) rfl (fun ls hl => ?_)
      refine lv_iload hx hb_w dL_areHeld_56 (lv_at hl 0 rfl) ?_
      refine lv_sipush (v := 1000) hx hb_w dL_areHeld_58 (by decide) ?_
      refine lv_idiv hx hb_w dL_areHeld_61 (by decide) ?_
      refine top_eq (z := nI p_w) (rg_div (by omega)) ?_
      refine lv_iload_n hx hb_w dL_areHeld_62 rfl (lv_at hl 4 rfl) ?_
      refine lv_iconst (v := 1) hx hb_w dL_areHeld_63 (by decide) ?_
      refine lv_iadd hx hb_w dL_areHeld_64 ?_
      refine lv_icmp_le (tgt := 100) hx hb_w dL_areHeld_65 (by decide) (fun c65 => ?_) (fun c65 => ?_)
      · exact absurd c65 (rg_gt hy hp1 hp2 (by omega))
      refine lv_iload hx hb_w dL_areHeld_68 (lv_at hl 0 rfl) ?_
      refine lv_sipush (v := 1000) hx hb_w dL_areHeld_70 (by decide) ?_
      refine lv_irem hx hb_w dL_areHeld_73 (by decide) ?_
      refine top_eq (z := nI e9_w) (rg_rem (by omega)) ?_
      refine lv_iload hx hb_w dL_areHeld_74 (lv_at hl 0 rfl) ?_
      refine lv_sipush (v := 1000) hx hb_w dL_areHeld_76 (by decide) ?_
      refine lv_idiv hx hb_w dL_areHeld_79 (by decide) ?_
      refine top_eq (z := nI p_w) (rg_div (by omega)) ?_
      refine lv_icmp_lt (tgt := 100) hx hb_w dL_areHeld_80 (by decide) (fun c80 => ?_) (fun c80 => ?_)
      · exact absurd (lt_nI (by omega) (by omega) c80) (by omega)
      refine lv_iload hx hb_w dL_areHeld_83 (lv_at hl 0 rfl) ?_
      refine lv_sipush (v := 1000) hx hb_w dL_areHeld_85 (by decide) ?_
      refine lv_irem hx hb_w dL_areHeld_88 (by decide) ?_
      refine top_eq (z := nI e9_w) (rg_rem (by omega)) ?_
      refine lv_aload_n hx hb_w dL_areHeld_89 rfl (lv_at hl 1 rfl) ?_
      refine rdr_V (As := []) (rest := [.int (nI e9_w)]) ⟨hx, hb_w, hml, hown, hts⟩ (kX1_foretold l G_w a_w cI cZ g_w f_w cd tc_w) (cwV 0 hts gL_areHeld_X1_foretold rfl rfl rfl (by decide +kernel) ⟨Nat.le_of_ble_eq_true rfl, Nat.le_of_ble_eq_true rfl⟩) (va_recv hK_w hP (ci := 1) (q0 := 0) rfl rfl) (hP.sub [0, 1, 2, 3, 4, 5, 6] rfl) (hK_w.sub (tys' := tyIZ cI cZ) [0, 1] rfl) rfl hl.1 rfl (Nat.le_of_ble_eq_true rfl) dL_areHeld_90  ⟨Nat.le_of_ble_eq_true rfl, Nat.le_of_ble_eq_true rfl⟩ (fun r90 h90 => ?_)
      replace h90 : r90 = g_w 7 := h90
      subst h90
      refine top_eq (z := nI N_w) hN_w ?_
      refine lv_icmp_ge (tgt := 100) hx hb_w dL_areHeld_93 (by decide) (fun c93 => ?_) (fun c93 => ?_)
      · exact absurd (le_nI (by omega) (by omega) c93) (by omega)
      refine lv_iconst (v := 1) hx hb_w dL_areHeld_96 (by decide) ?_
      refine lv_goto (tgt := 101) hx hb_w dL_areHeld_97 (by decide) ?_
      refine lv_istore (lv' := [(5, .int 1), (7, .int (nI (1000 * p_w + e9_w))), (0, .ref (a_w 0)), (1, .ref (a_w 9)), (2, .int (nI (cnt (rsB g_w f_w) 200))), (3, .int y_w), (4, .int x), (6, .int (nI kk))]) hx hb_w dL_areHeld_101 hl (by decide) rfl (fun ls hl => ?_)
      refine lv_iload hx hb_w dL_areHeld_103 (lv_at hl 1 rfl) ?_
      refine lv_sipush (v := 1000) hx hb_w dL_areHeld_105 (by decide) ?_
      refine lv_irem hx hb_w dL_areHeld_108 (by decide) ?_
      refine top_eq (z := nI e9_w) (rg_rem (by omega)) ?_
      refine lv_istore_n (lv' := [(3, .int (nI e9_w)), (5, .int 1), (7, .int (nI (1000 * p_w + e9_w))), (0, .ref (a_w 0)), (1, .ref (a_w 9)), (2, .int (nI (cnt (rsB g_w f_w) 200))), (4, .int x), (6, .int (nI kk))]) hx hb_w dL_areHeld_109 rfl hl (by decide) rfl (fun ls hl => ?_)
      refine lv_iload hx hb_w dL_areHeld_110 (lv_at hl 6 rfl) ?_
      refine lv_iload hx hb_w dL_areHeld_112 (lv_at hl 2 rfl) ?_
      refine lv_sipush (v := 1000) hx hb_w dL_areHeld_114 (by decide) ?_
      refine lv_irem hx hb_w dL_areHeld_117 (by decide) ?_
      refine top_eq (z := nI e9_w) (rg_rem (by omega)) ?_
      refine lv_iload hx hb_w dL_areHeld_118 (lv_at hl 2 rfl) ?_
      refine lv_sipush (v := 1000) hx hb_w dL_areHeld_120 (by decide) ?_
      refine lv_idiv hx hb_w dL_areHeld_123 (by decide) ?_
      refine top_eq (z := nI p_w) (rg_div (by omega)) ?_
      refine lv_isub hx hb_w dL_areHeld_124 ?_
      refine lv_iconst (v := 1) hx hb_w dL_areHeld_125 (by decide) ?_
      refine lv_iadd hx hb_w dL_areHeld_126 ?_
      refine lv_iadd hx hb_w dL_areHeld_127 ?_
      refine lv_istore (lv' := [(4, .int (x + (((nI e9_w) - (nI p_w)) + 1))), (3, .int (nI e9_w)), (5, .int 1), (7, .int (nI (1000 * p_w + e9_w))), (0, .ref (a_w 0)), (1, .ref (a_w 9)), (2, .int (nI (cnt (rsB g_w f_w) 200))), (6, .int (nI kk))]) hx hb_w dL_areHeld_128 hl (by decide) rfl (fun ls hl => ?_)
      refine lv_iinc (v := nI (kk + 1)) (lv' := [(6, .int (nI (kk + 1))), (4, .int (x + (((nI e9_w) - (nI p_w)) + 1))), (3, .int (nI e9_w)), (5, .int 1), (7, .int (nI (1000 * p_w + e9_w))), (0, .ref (a_w 0)), (1, .ref (a_w 9)), (2, .int (nI (cnt (rsB g_w f_w) 200)))]) hx hb_w dL_areHeld_130 hl (k := 7) rfl (nI_1 _) (by decide) rfl (fun ls hl => ?_)
      refine lv_goto (tgt := 37) hx hb_w dL_areHeld_133 (by decide) ?_
      exact ih37 (kk + 1) (e9_w + 1) (nI e9_w) (x + (((nI e9_w) - (nI p_w)) + 1)) (by omega) (by omega) (by omega) (Or.inr hhe) hcr (Or.inr ⟨nI_1 _, by omega⟩) (by rw [ehd, hch]; exact rg_sum (by omega)) _ _ hP hS_w _ (lv_sub hl [5, 6, 7, 2, 1, 3, 0] rfl)
  exact loop37 ((cnt (rsB g_w f_w) 200) + 1) 0 0 (-2) 0 (Nat.zero_le _) (by omega) (by omega) (Or.inl rfl) rfl (Or.inl ⟨rfl, rfl⟩) rfl _ _ hP hS_w _ (lv_sub hl [5, 6, 4, 3, 2, 1, 0] rfl)
