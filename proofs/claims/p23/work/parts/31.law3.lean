set_option maxHeartbeats 4000000 in
set_option maxRecDepth 100000 in
theorem kL_rounds (l : Launch) (hst : l.stackTraces = false) (G_w : va_G) (a_w : Nat → Nat) (cI cZ cL : ClassId) (g_w : Nat → Int32) (f_w : Nat → Nat → Int32) (cd : Nat → Int32) (tc_w : Int32) (hap : apart a_w 10) (sz_w : Nat) (tt : Nat → Int32) (gg : Nat → Int64) (N_w : Nat) (hN_w : g_w 7 = nI N_w) (hN2 : N_w ≤ 200) (hCD : CD f_w cd) (hT_w : TR f_w cd tt) (h6 : 0 < g_w 6) (hc3 : ∀ k_w, k_w < 200 → 0 ≤ f_w 2 k_w ∧ f_w 2 k_w ≤ 3): lwc l yL_rounds wsL_rounds { frames := 7, cells := 2, slots := 120, locals := 111 } G_w (wD a_w cI cZ g_w f_w cd tc_w ++ [cC (a_w 7) cI (ccG g_w), cT (a_w 8) cI tt, cG (a_w 9) cL gg]) (tyL cI cZ cL) (aS a_w 10 sz_w) sz_w [.ref (a_w 0), .ref (a_w 7), .ref (a_w 8)] (fun r_w u_w => r_w = 1 ∧ u_w = ((g_w, (rdF g_w f_w 200), (rdc g_w f_w cd 200), tc_w), (ttR g_w f_w tt (min N_w 60)))) (fun u_w : SD × (Nat → Int32) => wfD a_w cI cZ u_w.1 ++ [cC (a_w 7) cI (ccG u_w.1.1), cT (a_w 8) cI u_w.2, cG (a_w 9) cL gg]) 2 120 := by
  refine lwc_of (cc := cL_rounds) (nL := 12) (ty := .boolean) rfl (Nat.le_of_ble_eq_true rfl) ?_
  intro p_w e_w s_w m_w args_w below meth_w c_w H locs_w ls Q hx hb_w hml hown hts hP hK_w ht hS_w hret hl
  have hA : ∀ q_w, s_w.heap.size ≤ q_w → aS a_w 10 s_w.heap.size q_w := fun q_w h_w => Or.inr h_w
  have hl : lv_has ls 12 [(0, .ref (a_w 0)), (1, .ref (a_w 7)), (2, .ref (a_w 8))] := hl
  have hDD : DD (aS a_w 10 s_w.heap.size) (adD a_w ++ [a_w 7, a_w 8, a_w 9]) := DD_10 hap _
  refine lv_aload_n hx hb_w dL_rounds_0 rfl (lv_at hl 0 rfl) ?_
  refine rdr_V (As := []) (rest := []) ⟨hx, hb_w, hml, hown, hts⟩ (kX1_foretold l G_w a_w cI cZ g_w f_w cd tc_w) (cwV 0 hts gL_rounds_X1_foretold rfl rfl rfl (by decide +kernel) ⟨Nat.le_of_ble_eq_true rfl, Nat.le_of_ble_eq_true rfl⟩) (va_recv hK_w hP (ci := 1) (q0 := 0) rfl rfl) (hP.sub [0, 1, 2, 3, 4, 5, 6] rfl) (hK_w.sub (tys' := tyIZ cI cZ) [0, 1] rfl) rfl hl.1 rfl (Nat.le_of_ble_eq_true rfl) dL_rounds_1  ⟨Nat.le_of_ble_eq_true rfl, Nat.le_of_ble_eq_true rfl⟩ (fun r1_w h1 => ?_)
  replace h1 : r1_w = g_w 7 := h1
  subst h1
  refine top_eq (z := nI N_w) hN_w ?_
  refine lv_istore_n (lv' := [(3, .int (nI N_w)), (0, .ref (a_w 0)), (1, .ref (a_w 7)), (2, .ref (a_w 8))]) hx hb_w dL_rounds_4 rfl hl (by decide) rfl (fun ls hl => ?_)
  refine lv_iconst (v := 0) hx hb_w dL_rounds_5 (by decide) ?_
  refine lv_istore (lv' := [(4, .int 0), (3, .int (nI N_w)), (0, .ref (a_w 0)), (1, .ref (a_w 7)), (2, .ref (a_w 8))]) hx hb_w dL_rounds_6 hl (by decide) rfl (fun ls hl => ?_)
  refine lv_bipush (v := 60) hx hb_w dL_rounds_8 (by decide) ?_
  refine va_newa (D := G_w) (atype := .int) (ty := .int) (a0 := (60, .inl (fun _ => 0))) (N' := 60) hx hb_w (hts _ (List.mem_of_getElem? (i := 1) rfl)) rfl hK_w hP (DD_D (ws := (wD a_w cI cZ g_w f_w cd tc_w ++ [cC (a_w 7) cI (ccG g_w), cT (a_w 8) cI tt, cG (a_w 9) cL gg])) hDD) hS_w hA (fun _ => rfl) (by decide) (by decide) (by decide) (Nat.le_of_ble_eq_true rfl) (Nat.le_of_ble_eq_true rfl) dL_rounds_10 (fun q10_w cx H hK_w hP hD hS_w => ?_)
  obtain rfl : cI = cx := ty_int hK_w 0 3 rfl rfl
  have hK_w := hK_w.sub (tys' := tyL cI cZ cL) [0, 1, 2] rfl
  have hP : va_P G_w vwCl (wD a_w cI cZ g_w f_w cd tc_w ++ [cC (a_w 7) cI (ccG g_w), cT (a_w 8) cI tt, cG (a_w 9) cL gg, cT q10_w cI (fun _ => 0)]) H := hP
  have hDD := DD_new hD hDD
  have hDD : DD (aS a_w 10 s_w.heap.size) (adD a_w ++ [a_w 7, a_w 8, a_w 9, q10_w]) := hDD
  refine lv_astore (lv' := [(5, .ref q10_w), (4, .int 0), (3, .int (nI N_w)), (0, .ref (a_w 0)), (1, .ref (a_w 7)), (2, .ref (a_w 8))]) hx hb_w dL_rounds_12 hl (by decide) rfl (fun ls hl => ?_)
  refine lv_bipush (v := 60) hx hb_w dL_rounds_14 (by decide) ?_
  refine va_newa (D := G_w) (atype := .int) (ty := .int) (a0 := (60, .inl (fun _ => 0))) (N' := 60) hx hb_w (hts _ (List.mem_of_getElem? (i := 1) rfl)) rfl hK_w hP (DD_D (ws := (wD a_w cI cZ g_w f_w cd tc_w ++ [cC (a_w 7) cI (ccG g_w), cT (a_w 8) cI tt, cG (a_w 9) cL gg, cT q10_w cI (fun _ => 0)])) hDD) hS_w hA (fun _ => rfl) (by decide) (by decide) (by decide) (Nat.le_of_ble_eq_true rfl) (Nat.le_of_ble_eq_true rfl) dL_rounds_16 (fun q16_w cx H hK_w hP hD hS_w => ?_)
  obtain rfl : cI = cx := ty_int hK_w 0 3 rfl rfl
  have hK_w := hK_w.sub (tys' := tyL cI cZ cL) [0, 1, 2] rfl
  have hP : va_P G_w vwCl (wD a_w cI cZ g_w f_w cd tc_w ++ [cC (a_w 7) cI (ccG g_w), cT (a_w 8) cI tt, cG (a_w 9) cL gg, cT q10_w cI (fun _ => 0), cT q16_w cI (fun _ => 0)]) H := hP
  have hDD := DD_new hD hDD
  have hDD : DD (aS a_w 10 s_w.heap.size) (adD a_w ++ [a_w 7, a_w 8, a_w 9, q10_w, q16_w]) := hDD
  refine lv_astore (lv' := [(6, .ref q16_w), (5, .ref q10_w), (4, .int 0), (3, .int (nI N_w)), (0, .ref (a_w 0)), (1, .ref (a_w 7)), (2, .ref (a_w 8))]) hx hb_w dL_rounds_18 hl (by decide) rfl (fun ls hl => ?_)
  refine lv_iconst (v := 0) hx hb_w dL_rounds_20 (by decide) ?_
  refine lv_istore (lv' := [(7, .int 0), (6, .ref q16_w), (5, .ref q10_w), (4, .int 0), (3, .int (nI N_w)), (0, .ref (a_w 0)), (1, .ref (a_w 7)), (2, .ref (a_w 8))]) hx hb_w dL_rounds_21 hl (by decide) rfl (fun ls hl => ?_)
  have loop23 : ∀ (n_w : Nat) (k_w : Nat) (cl_w sa_w : Nat → Int32), k_w ≤ N_w → k_w ≤ 60 → 60 - k_w < n_w → (∀ j_w, j_w < k_w → cl_w j_w = f_w 2 j_w ∧ sa_w j_w = f_w 1 j_w) → ∀ (H : Heap) (locs_w : List Loc), va_P G_w vwCl (wD a_w cI cZ g_w f_w cd tc_w ++ [cC (a_w 7) cI (ccG g_w), cT (a_w 8) cI tt, cG (a_w 9) cL gg, cT q10_w cI cl_w, cT q16_w cI sa_w]) H → va_S (aS a_w 10 s_w.heap.size) s_w.heap H locs_w → ∀ (ls : Array Slot), lv_has ls 12 [(0, .ref (a_w 0)), (1, .ref (a_w 7)), (2, .ref (a_w 8)), (3, .int (nI N_w)), (4, .int 0), (5, .ref q10_w), (6, .ref q16_w), (7, .int (nI k_w))] → W p_w l e_w { frames := 7, cells := 2, slots := 120, locals := 111 } s_w m_w args_w below meth_w c_w H locs_w 2 120 Q (F0 m_w 23 ls []) := by
    intro n_w
    induction n_w with
    | zero => intro k_w cl_w sa_w hk hk6 hn hcl; intros; exact absurd hn (Nat.not_lt_zero _)
    | succ n_w ih23 =>
      intro k_w cl_w sa_w hk hk6 hn hcl H locs_w hP hS_w ls hl
      have j64 : (∀ j_w, j_w < N_w → j_w < 60 → cl_w j_w = f_w 2 j_w ∧ sa_w j_w = f_w 1 j_w) → W p_w l e_w { frames := 7, cells := 2, slots := 120, locals := 111 } s_w m_w args_w below meth_w c_w H locs_w 2 120 Q (F0 m_w 64 ls []) := by
        intro hcs
        refine lv_aload_n hx hb_w dL_rounds_64 rfl (lv_at hl 0 rfl) ?_
        refine lD_i (x := (g_w, f_w, cd, tc_w)) (ex := [cC (a_w 7) cI (ccG g_w), cT (a_w 8) cI tt, cG (a_w 9) cL gg, cT q10_w cI cl_w, cT q16_w cI sa_w]) (As := []) (rest := []) ⟨hx, hb_w, hml, hown, hts⟩ (kX1_round l G_w a_w cI cZ g_w f_w cd tc_w (DD_ap hDD) H.size hCD) (cwV 0 hts gL_rounds_X1_round rfl rfl rfl (by decide +kernel) ⟨Nat.le_of_ble_eq_true rfl, Nat.le_of_ble_eq_true rfl⟩) hDD hA hP hK_w hS_w rfl hl.1 rfl (Nat.le_of_ble_eq_true rfl) dL_rounds_65  ⟨Nat.le_of_ble_eq_true rfl, Nat.le_of_ble_eq_true rfl⟩ (fun r65 u65 H locs_w h65 hP hS_w => ?_)
        obtain ⟨h65, h65u⟩ := h65
        subst h65
        subst h65u
        have hP : va_P G_w vwCl (wD a_w cI cZ g_w (rdF g_w f_w 200) (rdc g_w f_w cd 200) tc_w ++ [cC (a_w 7) cI (ccG g_w), cT (a_w 8) cI tt, cG (a_w 9) cL gg, cT q10_w cI cl_w, cT q16_w cI sa_w]) H := hP
        refine lv_istore (lv' := [(7, .int (nI (rdN g_w f_w 200))), (0, .ref (a_w 0)), (1, .ref (a_w 7)), (2, .ref (a_w 8)), (3, .int (nI N_w)), (4, .int 0), (5, .ref q10_w), (6, .ref q16_w)]) hx hb_w dL_rounds_68 hl (by decide) rfl (fun ls hl => ?_)
        refine lv_aload_n hx hb_w dL_rounds_70 rfl (lv_at hl 1 rfl) ?_
        refine rdr_V (As := []) (rest := []) ⟨hx, hb_w, hml, hown, hts⟩ (kX1_foretold l G_w a_w cI cZ g_w (rdF g_w f_w 200) (rdc g_w f_w cd 200) tc_w) (cwV 0 hts gL_rounds_X1_foretold rfl rfl rfl (by decide +kernel) ⟨Nat.le_of_ble_eq_true rfl, Nat.le_of_ble_eq_true rfl⟩) (va_recv hK_w hP (ci := 1) (q0 := 0) rfl rfl) (hP.sub [0, 1, 2, 3, 4, 5, 6] rfl) (hK_w.sub (tys' := tyIZ cI cZ) [0, 1] rfl) rfl hl.1 rfl (Nat.le_of_ble_eq_true rfl) dL_rounds_71  ⟨Nat.le_of_ble_eq_true rfl, Nat.le_of_ble_eq_true rfl⟩ (fun r71 h71 => ?_)
        replace h71 : r71 = g_w 7 := h71
        subst h71
        refine top_eq (z := nI N_w) hN_w ?_
        refine lv_iload_n hx hb_w dL_rounds_74 rfl (lv_at hl 4 rfl) ?_
        refine lv_icmp_ne (tgt := 82) hx hb_w dL_rounds_75 (by decide) (fun c75 => ?_) (fun c75 => ?_)
        · exact absurd rfl c75
        refine lv_iconst (v := 1) hx hb_w dL_rounds_78 (by decide) ?_
        refine lv_goto (tgt := 83) hx hb_w dL_rounds_79 (by decide) ?_
        refine lv_istore (lv' := [(8, .int 1), (7, .int (nI (rdN g_w f_w 200))), (0, .ref (a_w 0)), (1, .ref (a_w 7)), (2, .ref (a_w 8)), (3, .int (nI N_w)), (4, .int 0), (5, .ref q10_w), (6, .ref q16_w)]) hx hb_w dL_rounds_83 hl (by decide) rfl (fun ls hl => ?_)
        refine lv_iconst (v := 0) hx hb_w dL_rounds_85 (by decide) ?_
        refine lv_istore (lv' := [(9, .int 0), (8, .int 1), (7, .int (nI (rdN g_w f_w 200))), (0, .ref (a_w 0)), (1, .ref (a_w 7)), (2, .ref (a_w 8)), (3, .int (nI N_w)), (4, .int 0), (5, .ref q10_w), (6, .ref q16_w)]) hx hb_w dL_rounds_86 hl (by decide) rfl (fun ls hl => ?_)
        have loop88 : ∀ (n_w : Nat) (k_w : Nat) (h_w : Nat → Int32), k_w ≤ N_w → k_w ≤ 60 → 60 - k_w < n_w → h_w = ttR g_w f_w tt k_w → ∀ (H : Heap) (locs_w : List Loc), va_P G_w vwCl (wD a_w cI cZ g_w (rdF g_w f_w 200) (rdc g_w f_w cd 200) tc_w ++ [cC (a_w 7) cI (ccG g_w), cT (a_w 8) cI h_w, cG (a_w 9) cL gg, cT q10_w cI cl_w, cT q16_w cI sa_w]) H → va_S (aS a_w 10 s_w.heap.size) s_w.heap H locs_w → ∀ (ls : Array Slot), lv_has ls 12 [(0, .ref (a_w 0)), (1, .ref (a_w 7)), (2, .ref (a_w 8)), (3, .int (nI N_w)), (4, .int (nI (rdN g_w f_w k_w))), (5, .ref q10_w), (6, .ref q16_w), (7, .int (nI (rdN g_w f_w 200))), (8, .int 1), (9, .int (nI k_w))] → W p_w l e_w { frames := 7, cells := 2, slots := 120, locals := 111 } s_w m_w args_w below meth_w c_w H locs_w 2 120 Q (F0 m_w 88 ls []) := by
          intro n_w
          induction n_w with
          | zero => intro k_w h_w hk hk6 hn eh; intros; exact absurd hn (Nat.not_lt_zero _)
          | succ n_w ih88 =>
            intro k_w h_w hk hk6 hn eh H locs_w hP hS_w ls hl
            have j284 : (k_w = N_w ∨ k_w = 60 ∧ 60 < N_w) → W p_w l e_w { frames := 7, cells := 2, slots := 120, locals := 111 } s_w m_w args_w below meth_w c_w H locs_w 2 120 Q (F0 m_w 284 ls []) := by
              intro hend
              have hmin : k_w = min N_w 60 := by omega
              refine lv_iload hx hb_w dL_rounds_284 (lv_at hl 8 rfl) ?_
              refine lv_if_eq (tgt := 319) hx hb_w dL_rounds_286 (by decide) (fun c286 => ?_) (fun c286 => ?_)
              · exact absurd c286 (by decide)
              refine lv_iload_n hx hb_w dL_rounds_289 rfl (lv_at hl 3 rfl) ?_
              refine lv_bipush (v := 60) hx hb_w dL_rounds_290 (by decide) ?_
              refine lv_icmp_gt (tgt := 302) hx hb_w dL_rounds_292 (by decide) (fun c292 => ?_) (fun c292 => ?_)
              · have hn60 : 60 < N_w := lt_nI (a := 60) (by omega) (by omega) c292
                refine lv_iload_n hx hb_w dL_rounds_302 rfl (lv_at hl 3 rfl) ?_
                refine lv_bipush (v := 60) hx hb_w dL_rounds_303 (by decide) ?_
                refine lv_icmp_gt (tgt := 315) hx hb_w dL_rounds_305 (by decide) (fun c305 => ?_) (fun c305 => ?_)
                · refine lv_iconst (v := 1) hx hb_w dL_rounds_315 (by decide) ?_
                  refine lv_goto (tgt := 320) hx hb_w dL_rounds_316 (by decide) ?_
                  rw [eh, hmin] at hP
                  exact hret 1 ((g_w, (rdF g_w f_w 200), (rdc g_w f_w cd 200), tc_w), (ttR g_w f_w tt (min N_w 60))) 320 _ _ _ _ _ (Nat.le_of_ble_eq_true rfl) (Nat.le_of_ble_eq_true rfl) dL_rounds_320 rfl (hP.sub [0, 1, 2, 3, 4, 5, 6, 7, 8, 9] rfl) hS_w ⟨rfl, rfl⟩
                exact absurd c292 c305
              have hn60 : N_w ≤ 60 := nlt_nI (a := 60) (by omega) (by omega) c292
              refine lv_iload hx hb_w dL_rounds_295 (lv_at hl 7 rfl) ?_
              refine lv_iload hx hb_w dL_rounds_297 (lv_at hl 4 rfl) ?_
              refine lv_icmp_ne (tgt := 319) hx hb_w dL_rounds_299 (by decide) (fun c299 => ?_) (fun c299 => ?_)
              · exact absurd (by rw [rd_N hN_w hN2, show k_w = N_w by omega]) c299
              refine lv_iload_n hx hb_w dL_rounds_302 rfl (lv_at hl 3 rfl) ?_
              refine lv_bipush (v := 60) hx hb_w dL_rounds_303 (by decide) ?_
              refine lv_icmp_gt (tgt := 315) hx hb_w dL_rounds_305 (by decide) (fun c305 => ?_) (fun c305 => ?_)
              · exact absurd c305 c292
              refine lv_aload_n hx hb_w dL_rounds_308 rfl (lv_at hl 0 rfl) ?_
              refine lD_i (x := (g_w, (rdF g_w f_w 200), (rdc g_w f_w cd 200), tc_w)) (ex := [cC (a_w 7) cI (ccG g_w), cT (a_w 8) cI h_w, cG (a_w 9) cL gg, cT q10_w cI cl_w, cT q16_w cI sa_w]) (As := []) (rest := []) ⟨hx, hb_w, hml, hown, hts⟩ (kX1_round l G_w a_w cI cZ g_w (rdF g_w f_w 200) (rdc g_w f_w cd 200) tc_w (DD_ap hDD) H.size (CD_rd hCD)) (cwV 0 hts gL_rounds_X1_round rfl rfl rfl (by decide +kernel) ⟨Nat.le_of_ble_eq_true rfl, Nat.le_of_ble_eq_true rfl⟩) hDD hA hP hK_w hS_w rfl hl.1 rfl (Nat.le_of_ble_eq_true rfl) dL_rounds_309  ⟨Nat.le_of_ble_eq_true rfl, Nat.le_of_ble_eq_true rfl⟩ (fun r309 u309 H locs_w h309 hP hS_w => ?_)
              obtain ⟨h309, h309u⟩ := h309
              obtain ⟨z1, z2⟩ := rd_twice (g := g_w) (f := f_w) (cd := cd) (tc := tc_w) h6 hc3
              rw [z1] at h309
              rw [z2] at h309u
              replace h309 : r309 = 0 := h309
              subst h309
              subst h309u
              have hP : va_P G_w vwCl (wD a_w cI cZ g_w (rdF g_w f_w 200) (rdc g_w f_w cd 200) tc_w ++ [cC (a_w 7) cI (ccG g_w), cT (a_w 8) cI h_w, cG (a_w 9) cL gg, cT q10_w cI cl_w, cT q16_w cI sa_w]) H := hP
              refine lv_if_ne (tgt := 319) hx hb_w dL_rounds_312 (by decide) (fun c312 => ?_) (fun c312 => ?_)
              · exact absurd rfl c312
              refine lv_iconst (v := 1) hx hb_w dL_rounds_315 (by decide) ?_
              refine lv_goto (tgt := 320) hx hb_w dL_rounds_316 (by decide) ?_
              rw [eh, hmin] at hP
              exact hret 1 ((g_w, (rdF g_w f_w 200), (rdc g_w f_w cd 200), tc_w), (ttR g_w f_w tt (min N_w 60))) 320 _ _ _ _ _ (Nat.le_of_ble_eq_true rfl) (Nat.le_of_ble_eq_true rfl) dL_rounds_320 rfl (hP.sub [0, 1, 2, 3, 4, 5, 6, 7, 8, 9] rfl) hS_w ⟨rfl, rfl⟩
            refine lv_iload hx hb_w dL_rounds_88 (lv_at hl 9 rfl) ?_
            refine lv_iload_n hx hb_w dL_rounds_90 rfl (lv_at hl 3 rfl) ?_
            refine lv_icmp_ge (tgt := 284) hx hb_w dL_rounds_91 (by decide) (fun c91 => ?_) (fun c91 => ?_)
            · have ek : N_w ≤ k_w := le_nI (by omega) (by omega) c91
              exact j284 (by omega)
            have hkN : k_w < N_w := nle_nI (by omega) (by omega) c91
            have hkg : ¬ g_w 7 ≤ nI k_w := by rw [hN_w]; exact c91
            refine lv_iload hx hb_w dL_rounds_94 (lv_at hl 9 rfl) ?_
            refine lv_bipush (v := 60) hx hb_w dL_rounds_96 (by decide) ?_
            refine lv_icmp_ge (tgt := 284) hx hb_w dL_rounds_98 (by decide) (fun c98 => ?_) (fun c98 => ?_)
            · have ek : 60 ≤ k_w := le_nI (a := 60) (by omega) (by omega) c98
              exact j284 (by omega)
            have hk60 : k_w < 60 := nle_nI (a := 60) (by omega) (by omega) c98
            obtain ⟨hcl, hsa⟩ := hcs k_w hkN hk60
            have zh : h_w k_w = tt k_w := by rw [eh]; unfold ttR; rw [if_neg (by omega)]
            refine lv_iload hx hb_w dL_rounds_101 (lv_at hl 8 rfl) ?_
            refine lv_if_eq (tgt := 284) hx hb_w dL_rounds_103 (by decide) (fun c103 => ?_) (fun c103 => ?_)
            · exact absurd c103 (by decide)
            have j159 : W p_w l e_w { frames := 7, cells := 2, slots := 120, locals := 111 } s_w m_w args_w below meth_w c_w H locs_w 2 120 Q (F0 m_w 159 ls [.int (bI (rdB g_w f_w k_w))]) := by
              refine lv_istore (lv' := [(10, .int (bI (rdB g_w f_w k_w))), (0, .ref (a_w 0)), (1, .ref (a_w 7)), (2, .ref (a_w 8)), (3, .int (nI N_w)), (4, .int (nI (rdN g_w f_w k_w))), (5, .ref q10_w), (6, .ref q16_w), (7, .int (nI (rdN g_w f_w 200))), (8, .int 1), (9, .int (nI k_w))]) hx hb_w dL_rounds_159 hl (by decide) rfl (fun ls hl => ?_)
              have j180 : W p_w l e_w { frames := 7, cells := 2, slots := 120, locals := 111 } s_w m_w args_w below meth_w c_w H locs_w 2 120 Q (F0 m_w 180 ls [.int (bI (rdB g_w f_w k_w && clB f_w k_w))]) := by
                refine lv_istore (lv' := [(11, .int (bI (rdB g_w f_w k_w && clB f_w k_w))), (10, .int (bI (rdB g_w f_w k_w))), (0, .ref (a_w 0)), (1, .ref (a_w 7)), (2, .ref (a_w 8)), (3, .int (nI N_w)), (4, .int (nI (rdN g_w f_w k_w))), (5, .ref q10_w), (6, .ref q16_w), (7, .int (nI (rdN g_w f_w 200))), (8, .int 1), (9, .int (nI k_w))]) hx hb_w dL_rounds_180 hl (by decide) rfl (fun ls hl => ?_)
                refine lv_iload hx hb_w dL_rounds_182 (lv_at hl 6 rfl) ?_
                refine lv_iload hx hb_w dL_rounds_184 (lv_at hl 0 rfl) ?_
                refine lv_if_eq (tgt := 193) hx hb_w dL_rounds_186 (by decide) (fun c186 => ?_) (fun c186 => ?_)
                · replace c186 := bI0 c186
                  have hr : ¬ (rdB g_w f_w k_w = true ∧ clB f_w k_w = true) := fun z_w => by rw [z_w.1, z_w.2] at c186; exact absurd c186 (by decide)
                  refine lv_iconst (v := 0) hx hb_w dL_rounds_193 (by decide) ?_
                  refine lv_iadd hx hb_w dL_rounds_194 ?_
                  refine top_eq (z := nI (rdN g_w f_w (k_w + 1))) (by unfold rdN; rw [cnt_f (show (rdB g_w f_w k_w && clB f_w k_w) = false from c186)]; exact Int32.add_zero _) ?_
                  refine lv_istore (lv' := [(4, .int (nI (rdN g_w f_w (k_w + 1)))), (11, .int (bI (rdB g_w f_w k_w && clB f_w k_w))), (10, .int (bI (rdB g_w f_w k_w))), (0, .ref (a_w 0)), (1, .ref (a_w 7)), (2, .ref (a_w 8)), (3, .int (nI N_w)), (5, .ref q10_w), (6, .ref q16_w), (7, .int (nI (rdN g_w f_w 200))), (8, .int 1), (9, .int (nI k_w))]) hx hb_w dL_rounds_195 hl (by decide) rfl (fun ls hl => ?_)
                  refine lv_aload_n hx hb_w dL_rounds_197 rfl (lv_at hl 5 rfl) ?_
                  refine lv_iload hx hb_w dL_rounds_198 (lv_at hl 11 rfl) ?_
                  refine lv_iload hx hb_w dL_rounds_200 (lv_at hl 1 rfl) ?_
                  refine lv_if_eq (tgt := 213) hx hb_w dL_rounds_202 (by decide) (fun c202 => ?_) (fun c202 => ?_)
                  · replace c202 := bI0 c202
                    refine lv_aload_n hx hb_w dL_rounds_213 rfl (lv_at hl 5 rfl) ?_
                    refine lv_iload hx hb_w dL_rounds_214 (lv_at hl 11 rfl) ?_
                    refine arC (j := k_w) (h := h_w) hx hb_w hK_w hP 8 rfl rfl hk60 (by decide) dL_rounds_216 ?_
                    refine asC (j := k_w) (h := h_w) (v := h_w k_w) (wD a_w cI cZ g_w (rdF g_w f_w 200) (rdc g_w f_w cd 200) tc_w ++ [cC (a_w 7) cI (ccG g_w), cT (a_w 8) cI (upd h_w k_w (h_w k_w)), cG (a_w 9) cL gg, cT q10_w cI cl_w, cT q16_w cI sa_w]) hx hb_w hK_w hP (DD_D (ws := (wD a_w cI cZ g_w (rdF g_w f_w 200) (rdc g_w f_w cd 200) tc_w ++ [cC (a_w 7) cI (ccG g_w), cT (a_w 8) cI h_w, cG (a_w 9) cL gg, cT q10_w cI cl_w, cT q16_w cI sa_w])) hDD) hS_w 8 rfl rfl hk60 (by decide) rfl dL_rounds_217 (fun H locs_w hP hS_w => ?_)
                    refine lv_aload_n hx hb_w dL_rounds_218 rfl (lv_at hl 3 rfl) ?_
                    refine lv_iload hx hb_w dL_rounds_219 (lv_at hl 11 rfl) ?_
                    refine rdr_V (As := [.int (nI k_w)]) (rest := []) ⟨hx, hb_w, hml, hown, hts⟩ (kX1_claimsOf_n l G_w a_w cI cZ g_w (rdF g_w f_w 200) (rdc g_w f_w cd 200) tc_w k_w N_w hN_w hkN hN2) (cwV 1 hts gL_rounds_X1_claimsOf rfl rfl rfl (by decide +kernel) ⟨Nat.le_of_ble_eq_true rfl, Nat.le_of_ble_eq_true rfl⟩) (va_recv hK_w hP (ci := 1) (q0 := 0) rfl rfl) (hP.sub [0, 1, 2, 3, 4, 5, 6] rfl) (hK_w.sub (tys' := tyIZ cI cZ) [0, 1] rfl) rfl hl.1 rfl (Nat.le_of_ble_eq_true rfl) dL_rounds_221  ⟨Nat.le_of_ble_eq_true rfl, Nat.le_of_ble_eq_true rfl⟩ (fun r221 h221 => ?_)
                    replace h221 : r221 = ((rdF g_w f_w 200) 2) k_w := h221
                    subst h221
                    refine top_eq (z := rd2 g_w f_w 200 k_w) rfl ?_
                    refine lv_aload hx hb_w dL_rounds_224 (lv_at hl 7 rfl) ?_
                    refine lv_iload hx hb_w dL_rounds_226 (lv_at hl 11 rfl) ?_
                    refine arC (j := k_w) (h := cl_w) hx hb_w hK_w hP 10 rfl rfl hk60 (by decide) dL_rounds_228 ?_
                    refine lv_iload hx hb_w dL_rounds_229 (lv_at hl 1 rfl) ?_
                    refine lv_if_eq (tgt := 238) hx hb_w dL_rounds_231 (by decide) (fun c231 => ?_) (fun c231 => ?_)
                    · replace c231 := bI0 c231
                      refine lv_iconst (v := 0) hx hb_w dL_rounds_238 (by decide) ?_
                      refine lv_iadd hx hb_w dL_rounds_239 ?_
                      refine lv_icmp_ne (tgt := 275) hx hb_w dL_rounds_240 (by decide) (fun c240 => ?_) (fun c240 => ?_)
                      · exact absurd (by rw [hcl]; unfold rd2; rw [if_neg (fun y_w => hr y_w.2)]; exact (Int32.add_zero _).symm) c240
                      refine lv_aload_n hx hb_w dL_rounds_243 rfl (lv_at hl 3 rfl) ?_
                      refine lv_iload hx hb_w dL_rounds_244 (lv_at hl 11 rfl) ?_
                      refine rdr_V (As := [.int (nI k_w)]) (rest := []) ⟨hx, hb_w, hml, hown, hts⟩ (kX1_stateOf_n l G_w a_w cI cZ g_w (rdF g_w f_w 200) (rdc g_w f_w cd 200) tc_w k_w N_w hN_w hkN hN2) (cwV 1 hts gL_rounds_X1_stateOf rfl rfl rfl (by decide +kernel) ⟨Nat.le_of_ble_eq_true rfl, Nat.le_of_ble_eq_true rfl⟩) (va_recv hK_w hP (ci := 1) (q0 := 0) rfl rfl) (hP.sub [0, 1, 2, 3, 4, 5, 6] rfl) (hK_w.sub (tys' := tyIZ cI cZ) [0, 1] rfl) rfl hl.1 rfl (Nat.le_of_ble_eq_true rfl) dL_rounds_246  ⟨Nat.le_of_ble_eq_true rfl, Nat.le_of_ble_eq_true rfl⟩ (fun r246 h246 => ?_)
                      replace h246 : r246 = ((rdF g_w f_w 200) 1) k_w := h246
                      subst h246
                      refine top_eq (z := rd1 g_w f_w 200 k_w) rfl ?_
                      refine lv_iload hx hb_w dL_rounds_249 (lv_at hl 2 rfl) ?_
                      refine lv_if_eq (tgt := 263) hx hb_w dL_rounds_251 (by decide) (fun c251 => ?_) (fun c251 => ?_)
                      · replace c251 := bI0 c251
                        refine lv_aload hx hb_w dL_rounds_263 (lv_at hl 8 rfl) ?_
                        refine lv_iload hx hb_w dL_rounds_265 (lv_at hl 11 rfl) ?_
                        refine arC (j := k_w) (h := sa_w) hx hb_w hK_w hP 11 rfl rfl hk60 (by decide) dL_rounds_267 ?_
                        refine lv_icmp_ne (tgt := 275) hx hb_w dL_rounds_268 (by decide) (fun c268 => ?_) (fun c268 => ?_)
                        · exact absurd (by rw [hsa]; unfold rd1; rw [if_neg (fun y_w => by rw [c251] at y_w; exact absurd y_w.2.1 (by decide))]) c268
                        refine lv_iconst (v := 1) hx hb_w dL_rounds_271 (by decide) ?_
                        refine lv_goto (tgt := 276) hx hb_w dL_rounds_272 (by decide) ?_
                        refine lv_istore (lv' := [(8, .int 1), (4, .int (nI (rdN g_w f_w (k_w + 1)))), (11, .int (bI (rdB g_w f_w k_w && clB f_w k_w))), (10, .int (bI (rdB g_w f_w k_w))), (0, .ref (a_w 0)), (1, .ref (a_w 7)), (2, .ref (a_w 8)), (3, .int (nI N_w)), (5, .ref q10_w), (6, .ref q16_w), (7, .int (nI (rdN g_w f_w 200))), (9, .int (nI k_w))]) hx hb_w dL_rounds_276 hl (by decide) rfl (fun ls hl => ?_)
                        refine lv_iinc (v := nI (k_w + 1)) (lv' := [(9, .int (nI (k_w + 1))), (8, .int 1), (4, .int (nI (rdN g_w f_w (k_w + 1)))), (11, .int (bI (rdB g_w f_w k_w && clB f_w k_w))), (10, .int (bI (rdB g_w f_w k_w))), (0, .ref (a_w 0)), (1, .ref (a_w 7)), (2, .ref (a_w 8)), (3, .int (nI N_w)), (5, .ref q10_w), (6, .ref q16_w), (7, .int (nI (rdN g_w f_w 200)))]) hx hb_w dL_rounds_278 hl (k := 11) rfl (nI_1 _) (by decide) rfl (fun ls hl => ?_)
                        refine lv_goto (tgt := 88) hx hb_w dL_rounds_281 (by decide) ?_
                        exact ih88 (k_w + 1) (upd h_w k_w (h_w k_w)) (by omega) (by omega) (by omega) (by rw [tt_0 hr, eh]) _ _ hP hS_w _ (lv_sub hl [5, 6, 7, 8, 2, 9, 10, 11, 1, 0] rfl)
                      replace c251 := bIn c251
                      refine lv_iload hx hb_w dL_rounds_254 (lv_at hl 1 rfl) ?_
                      refine lv_if_ne (tgt := 263) hx hb_w dL_rounds_256 (by decide) (fun c256 => ?_) (fun c256 => ?_)
                      · replace c256 := bIn c256
                        exact ((by rw [c186] at c256; exact absurd c256 (by decide)) : False).elim
                      replace c256 := bI0 c256
                      refine lv_iconst (v := 3) hx hb_w dL_rounds_259 (by decide) ?_
                      refine lv_goto (tgt := 268) hx hb_w dL_rounds_260 (by decide) ?_
                      refine lv_icmp_ne (tgt := 275) hx hb_w dL_rounds_268 (by decide) (fun c268 => ?_) (fun c268 => ?_)
                      · exact absurd (by unfold rd1; rw [if_pos ⟨by omega, c251, by cases y_w : clB f_w k_w with | false => rfl | true => exact absurd ⟨c251, y_w⟩ hr⟩]) c268
                      refine lv_iconst (v := 1) hx hb_w dL_rounds_271 (by decide) ?_
                      refine lv_goto (tgt := 276) hx hb_w dL_rounds_272 (by decide) ?_
                      refine lv_istore (lv' := [(8, .int 1), (4, .int (nI (rdN g_w f_w (k_w + 1)))), (11, .int (bI (rdB g_w f_w k_w && clB f_w k_w))), (10, .int (bI (rdB g_w f_w k_w))), (0, .ref (a_w 0)), (1, .ref (a_w 7)), (2, .ref (a_w 8)), (3, .int (nI N_w)), (5, .ref q10_w), (6, .ref q16_w), (7, .int (nI (rdN g_w f_w 200))), (9, .int (nI k_w))]) hx hb_w dL_rounds_276 hl (by decide) rfl (fun ls hl => ?_)
                      refine lv_iinc (v := nI (k_w + 1)) (lv' := [(9, .int (nI (k_w + 1))), (8, .int 1), (4, .int (nI (rdN g_w f_w (k_w + 1)))), (11, .int (bI (rdB g_w f_w k_w && clB f_w k_w))), (10, .int (bI (rdB g_w f_w k_w))), (0, .ref (a_w 0)), (1, .ref (a_w 7)), (2, .ref (a_w 8)), (3, .int (nI N_w)), (5, .ref q10_w), (6, .ref q16_w), (7, .int (nI (rdN g_w f_w 200)))]) hx hb_w dL_rounds_278 hl (k := 11) rfl (nI_1 _) (by decide) rfl (fun ls hl => ?_)
                      refine lv_goto (tgt := 88) hx hb_w dL_rounds_281 (by decide) ?_
                      exact ih88 (k_w + 1) (upd h_w k_w (h_w k_w)) (by omega) (by omega) (by omega) (by rw [tt_0 hr, eh]) _ _ hP hS_w _ (lv_sub hl [5, 6, 7, 8, 2, 9, 10, 11, 1, 0] rfl)
                    replace c231 := bIn c231
                    exact ((by rw [c186] at c231; exact absurd c231 (by decide)) : False).elim
                  replace c202 := bIn c202
                  exact ((by rw [c186] at c202; exact absurd c202 (by decide)) : False).elim
                replace c186 := bIn c186
                have hr : rdB g_w f_w k_w = true ∧ clB f_w k_w = true := by rwa [Bool.and_eq_true] at c186
                refine lv_iconst (v := 1) hx hb_w dL_rounds_189 (by decide) ?_
                refine lv_goto (tgt := 194) hx hb_w dL_rounds_190 (by decide) ?_
                refine lv_iadd hx hb_w dL_rounds_194 ?_
                refine top_eq (z := nI (rdN g_w f_w (k_w + 1))) (by unfold rdN; rw [cnt_t (show (rdB g_w f_w k_w && clB f_w k_w) = true from c186)]; exact nI_1 _) ?_
                refine lv_istore (lv' := [(4, .int (nI (rdN g_w f_w (k_w + 1)))), (11, .int (bI (rdB g_w f_w k_w && clB f_w k_w))), (10, .int (bI (rdB g_w f_w k_w))), (0, .ref (a_w 0)), (1, .ref (a_w 7)), (2, .ref (a_w 8)), (3, .int (nI N_w)), (5, .ref q10_w), (6, .ref q16_w), (7, .int (nI (rdN g_w f_w 200))), (8, .int 1), (9, .int (nI k_w))]) hx hb_w dL_rounds_195 hl (by decide) rfl (fun ls hl => ?_)
                refine lv_aload_n hx hb_w dL_rounds_197 rfl (lv_at hl 5 rfl) ?_
                refine lv_iload hx hb_w dL_rounds_198 (lv_at hl 11 rfl) ?_
                refine lv_iload hx hb_w dL_rounds_200 (lv_at hl 1 rfl) ?_
                refine lv_if_eq (tgt := 213) hx hb_w dL_rounds_202 (by decide) (fun c202 => ?_) (fun c202 => ?_)
                · replace c202 := bI0 c202
                  exact ((by rw [c186] at c202; exact absurd c202 (by decide)) : False).elim
                replace c202 := bIn c202
                refine lv_aload_n hx hb_w dL_rounds_205 rfl (lv_at hl 4 rfl) ?_
                refine lv_iconst (v := 0) hx hb_w dL_rounds_206 (by decide) ?_
                refine arC (j := 0) (h := ccG g_w) hx hb_w hK_w hP 7 rfl rfl (by decide) (by decide) dL_rounds_207 ?_
                refine top_eq (z := g_w 0) rfl ?_
                refine lv_iconst (v := 1) hx hb_w dL_rounds_208 (by decide) ?_
                refine lv_iadd hx hb_w dL_rounds_209 ?_
                refine lv_goto (tgt := 217) hx hb_w dL_rounds_210 (by decide) ?_
                refine asC (j := k_w) (h := h_w) (v := (g_w 0) + 1) (wD a_w cI cZ g_w (rdF g_w f_w 200) (rdc g_w f_w cd 200) tc_w ++ [cC (a_w 7) cI (ccG g_w), cT (a_w 8) cI (upd h_w k_w ((g_w 0) + 1)), cG (a_w 9) cL gg, cT q10_w cI cl_w, cT q16_w cI sa_w]) hx hb_w hK_w hP (DD_D (ws := (wD a_w cI cZ g_w (rdF g_w f_w 200) (rdc g_w f_w cd 200) tc_w ++ [cC (a_w 7) cI (ccG g_w), cT (a_w 8) cI h_w, cG (a_w 9) cL gg, cT q10_w cI cl_w, cT q16_w cI sa_w])) hDD) hS_w 8 rfl rfl hk60 (by decide) rfl dL_rounds_217 (fun H locs_w hP hS_w => ?_)
                refine lv_aload_n hx hb_w dL_rounds_218 rfl (lv_at hl 3 rfl) ?_
                refine lv_iload hx hb_w dL_rounds_219 (lv_at hl 11 rfl) ?_
                refine rdr_V (As := [.int (nI k_w)]) (rest := []) ⟨hx, hb_w, hml, hown, hts⟩ (kX1_claimsOf_n l G_w a_w cI cZ g_w (rdF g_w f_w 200) (rdc g_w f_w cd 200) tc_w k_w N_w hN_w hkN hN2) (cwV 1 hts gL_rounds_X1_claimsOf rfl rfl rfl (by decide +kernel) ⟨Nat.le_of_ble_eq_true rfl, Nat.le_of_ble_eq_true rfl⟩) (va_recv hK_w hP (ci := 1) (q0 := 0) rfl rfl) (hP.sub [0, 1, 2, 3, 4, 5, 6] rfl) (hK_w.sub (tys' := tyIZ cI cZ) [0, 1] rfl) rfl hl.1 rfl (Nat.le_of_ble_eq_true rfl) dL_rounds_221  ⟨Nat.le_of_ble_eq_true rfl, Nat.le_of_ble_eq_true rfl⟩ (fun r221 h221 => ?_)
                replace h221 : r221 = ((rdF g_w f_w 200) 2) k_w := h221
                subst h221
                refine top_eq (z := rd2 g_w f_w 200 k_w) rfl ?_
                refine lv_aload hx hb_w dL_rounds_224 (lv_at hl 7 rfl) ?_
                refine lv_iload hx hb_w dL_rounds_226 (lv_at hl 11 rfl) ?_
                refine arC (j := k_w) (h := cl_w) hx hb_w hK_w hP 10 rfl rfl hk60 (by decide) dL_rounds_228 ?_
                refine lv_iload hx hb_w dL_rounds_229 (lv_at hl 1 rfl) ?_
                refine lv_if_eq (tgt := 238) hx hb_w dL_rounds_231 (by decide) (fun c231 => ?_) (fun c231 => ?_)
                · replace c231 := bI0 c231
                  exact ((by rw [c186] at c231; exact absurd c231 (by decide)) : False).elim
                replace c231 := bIn c231
                refine lv_iconst (v := 1) hx hb_w dL_rounds_234 (by decide) ?_
                refine lv_goto (tgt := 239) hx hb_w dL_rounds_235 (by decide) ?_
                refine lv_iadd hx hb_w dL_rounds_239 ?_
                refine lv_icmp_ne (tgt := 275) hx hb_w dL_rounds_240 (by decide) (fun c240 => ?_) (fun c240 => ?_)
                · exact absurd (by rw [hcl]; unfold rd2; rw [if_pos ⟨by omega, hr⟩]) c240
                refine lv_aload_n hx hb_w dL_rounds_243 rfl (lv_at hl 3 rfl) ?_
                refine lv_iload hx hb_w dL_rounds_244 (lv_at hl 11 rfl) ?_
                refine rdr_V (As := [.int (nI k_w)]) (rest := []) ⟨hx, hb_w, hml, hown, hts⟩ (kX1_stateOf_n l G_w a_w cI cZ g_w (rdF g_w f_w 200) (rdc g_w f_w cd 200) tc_w k_w N_w hN_w hkN hN2) (cwV 1 hts gL_rounds_X1_stateOf rfl rfl rfl (by decide +kernel) ⟨Nat.le_of_ble_eq_true rfl, Nat.le_of_ble_eq_true rfl⟩) (va_recv hK_w hP (ci := 1) (q0 := 0) rfl rfl) (hP.sub [0, 1, 2, 3, 4, 5, 6] rfl) (hK_w.sub (tys' := tyIZ cI cZ) [0, 1] rfl) rfl hl.1 rfl (Nat.le_of_ble_eq_true rfl) dL_rounds_246  ⟨Nat.le_of_ble_eq_true rfl, Nat.le_of_ble_eq_true rfl⟩ (fun r246 h246 => ?_)
                replace h246 : r246 = ((rdF g_w f_w 200) 1) k_w := h246
                subst h246
                refine top_eq (z := rd1 g_w f_w 200 k_w) rfl ?_
                refine lv_iload hx hb_w dL_rounds_249 (lv_at hl 2 rfl) ?_
                refine lv_if_eq (tgt := 263) hx hb_w dL_rounds_251 (by decide) (fun c251 => ?_) (fun c251 => ?_)
                · replace c251 := bI0 c251
                  exact ((by rw [hr.1] at c251; exact absurd c251 (by decide)) : False).elim
                replace c251 := bIn c251
                refine lv_iload hx hb_w dL_rounds_254 (lv_at hl 1 rfl) ?_
                refine lv_if_ne (tgt := 263) hx hb_w dL_rounds_256 (by decide) (fun c256 => ?_) (fun c256 => ?_)
                · replace c256 := bIn c256
                  refine lv_aload hx hb_w dL_rounds_263 (lv_at hl 8 rfl) ?_
                  refine lv_iload hx hb_w dL_rounds_265 (lv_at hl 11 rfl) ?_
                  refine arC (j := k_w) (h := sa_w) hx hb_w hK_w hP 11 rfl rfl hk60 (by decide) dL_rounds_267 ?_
                  refine lv_icmp_ne (tgt := 275) hx hb_w dL_rounds_268 (by decide) (fun c268 => ?_) (fun c268 => ?_)
                  · exact absurd (by rw [hsa]; unfold rd1; rw [if_neg (fun y_w => by rw [hr.2] at y_w; exact absurd y_w.2.2 (by decide))]) c268
                  refine lv_iconst (v := 1) hx hb_w dL_rounds_271 (by decide) ?_
                  refine lv_goto (tgt := 276) hx hb_w dL_rounds_272 (by decide) ?_
                  refine lv_istore (lv' := [(8, .int 1), (4, .int (nI (rdN g_w f_w (k_w + 1)))), (11, .int (bI (rdB g_w f_w k_w && clB f_w k_w))), (10, .int (bI (rdB g_w f_w k_w))), (0, .ref (a_w 0)), (1, .ref (a_w 7)), (2, .ref (a_w 8)), (3, .int (nI N_w)), (5, .ref q10_w), (6, .ref q16_w), (7, .int (nI (rdN g_w f_w 200))), (9, .int (nI k_w))]) hx hb_w dL_rounds_276 hl (by decide) rfl (fun ls hl => ?_)
                  refine lv_iinc (v := nI (k_w + 1)) (lv' := [(9, .int (nI (k_w + 1))), (8, .int 1), (4, .int (nI (rdN g_w f_w (k_w + 1)))), (11, .int (bI (rdB g_w f_w k_w && clB f_w k_w))), (10, .int (bI (rdB g_w f_w k_w))), (0, .ref (a_w 0)), (1, .ref (a_w 7)), (2, .ref (a_w 8)), (3, .int (nI N_w)), (5, .ref q10_w), (6, .ref q16_w), (7, .int (nI (rdN g_w f_w 200)))]) hx hb_w dL_rounds_278 hl (k := 11) rfl (nI_1 _) (by decide) rfl (fun ls hl => ?_)
                  refine lv_goto (tgt := 88) hx hb_w dL_rounds_281 (by decide) ?_
                  exact ih88 (k_w + 1) (upd h_w k_w (g_w 0 + 1)) (by omega) (by omega) (by omega) (by rw [tt_1 hr, eh]) _ _ hP hS_w _ (lv_sub hl [5, 6, 7, 8, 2, 9, 10, 11, 1, 0] rfl)
                replace c256 := bI0 c256
                exact ((by rw [c186] at c256; exact absurd c256 (by decide)) : False).elim
              refine lv_iload hx hb_w dL_rounds_161 (lv_at hl 0 rfl) ?_
              refine lv_if_eq (tgt := 179) hx hb_w dL_rounds_163 (by decide) (fun c163 => ?_) (fun c163 => ?_)
              · replace c163 := bI0 c163
                refine lv_iconst (v := 0) hx hb_w dL_rounds_179 (by decide) ?_
                refine top_eq (z := bI (rdB g_w f_w k_w && clB f_w k_w)) (by rw [c163]; rfl) ?_
                exact j180
              replace c163 := bIn c163
              refine lv_aload hx hb_w dL_rounds_166 (lv_at hl 6 rfl) ?_
              refine lv_iload hx hb_w dL_rounds_168 (lv_at hl 10 rfl) ?_
              refine arC (j := k_w) (h := cl_w) hx hb_w hK_w hP 10 rfl rfl hk60 (by decide) dL_rounds_170 ?_
              refine lv_iconst (v := 3) hx hb_w dL_rounds_171 (by decide) ?_
              refine lv_icmp_ge (tgt := 179) hx hb_w dL_rounds_172 (by decide) (fun c172 => ?_) (fun c172 => ?_)
              · refine lv_iconst (v := 0) hx hb_w dL_rounds_179 (by decide) ?_
                refine top_eq (z := bI (rdB g_w f_w k_w && clB f_w k_w)) (by rw [c163, show clB f_w k_w = false from by unfold clB; rw [decide_eq_true (by rw [← hcl]; exact c172)]; rfl]; rfl) ?_
                exact j180
              refine lv_iconst (v := 1) hx hb_w dL_rounds_175 (by decide) ?_
              refine lv_goto (tgt := 180) hx hb_w dL_rounds_176 (by decide) ?_
              refine top_eq (z := bI (rdB g_w f_w k_w && clB f_w k_w)) (by rw [c163, show clB f_w k_w = true from by unfold clB; rw [decide_eq_false (by rw [← hcl]; exact c172)]; rfl]; rfl) ?_
              exact j180
            refine lv_aload hx hb_w dL_rounds_106 (lv_at hl 6 rfl) ?_
            refine lv_iload hx hb_w dL_rounds_108 (lv_at hl 9 rfl) ?_
            refine arC (j := k_w) (h := sa_w) hx hb_w hK_w hP 11 rfl rfl hk60 (by decide) dL_rounds_110 ?_
            refine lv_if_ne (tgt := 158) hx hb_w dL_rounds_111 (by decide) (fun c111 => ?_) (fun c111 => ?_)
            · refine lv_iconst (v := 0) hx hb_w dL_rounds_158 (by decide) ?_
              refine top_eq (z := bI (rdB g_w f_w k_w)) (by rw [rd_t0 (show lateB g_w f_w k_w = false from by rw [lateB_in hkg]; unfold lateM; rw [decide_eq_false (by rw [← hsa]; exact c111)]; rfl)]; rfl) ?_
              exact j159
            refine lv_aload_n hx hb_w dL_rounds_114 rfl (lv_at hl 1 rfl) ?_
            refine lv_iconst (v := 0) hx hb_w dL_rounds_115 (by decide) ?_
            refine arC (j := 0) (h := ccG g_w) hx hb_w hK_w hP 7 rfl rfl (by decide) (by decide) dL_rounds_116 ?_
            refine top_eq (z := g_w 0) rfl ?_
            refine lv_aload_n hx hb_w dL_rounds_117 rfl (lv_at hl 0 rfl) ?_
            refine lv_iload hx hb_w dL_rounds_118 (lv_at hl 9 rfl) ?_
            refine rdr_V (As := [.int (nI k_w)]) (rest := [.int (g_w 0)]) ⟨hx, hb_w, hml, hown, hts⟩ (kX1_dayOf_n l G_w a_w cI cZ g_w (rdF g_w f_w 200) (rdc g_w f_w cd 200) tc_w k_w N_w hN_w hkN hN2) (cwV 1 hts gL_rounds_X1_dayOf rfl rfl rfl (by decide +kernel) ⟨Nat.le_of_ble_eq_true rfl, Nat.le_of_ble_eq_true rfl⟩) (va_recv hK_w hP (ci := 1) (q0 := 0) rfl rfl) (hP.sub [0, 1, 2, 3, 4, 5, 6] rfl) (hK_w.sub (tys' := tyIZ cI cZ) [0, 1] rfl) rfl hl.1 rfl (Nat.le_of_ble_eq_true rfl) dL_rounds_120  ⟨Nat.le_of_ble_eq_true rfl, Nat.le_of_ble_eq_true rfl⟩ (fun r120 h120 => ?_)
            replace h120 : r120 = ((rdF g_w f_w 200) 0) k_w := h120
            subst h120
            refine top_eq (z := f_w 0 k_w) rfl ?_
            refine lv_isub hx hb_w dL_rounds_123 ?_
            refine lv_aload_n hx hb_w dL_rounds_124 rfl (lv_at hl 1 rfl) ?_
            refine lv_iconst (v := 5) hx hb_w dL_rounds_125 (by decide) ?_
            refine arC (j := 5) (h := ccG g_w) hx hb_w hK_w hP 7 rfl rfl (by decide) (by decide) dL_rounds_126 ?_
            refine top_eq (z := g_w 5) rfl ?_
            refine lv_icmp_le (tgt := 158) hx hb_w dL_rounds_127 (by decide) (fun c127 => ?_) (fun c127 => ?_)
            · refine lv_iconst (v := 0) hx hb_w dL_rounds_158 (by decide) ?_
              refine top_eq (z := bI (rdB g_w f_w k_w)) (by rw [rd_t0 (show lateB g_w f_w k_w = false from by rw [lateB_in hkg]; unfold lateM; rw [decide_eq_true (hsa.symm.trans c111), decide_eq_true c127]; rfl)]; rfl) ?_
              exact j159
            refine lv_aload_n hx hb_w dL_rounds_130 rfl (lv_at hl 2 rfl) ?_
            refine lv_iload hx hb_w dL_rounds_131 (lv_at hl 9 rfl) ?_
            refine arC (j := k_w) (h := h_w) hx hb_w hK_w hP 8 rfl rfl hk60 (by decide) dL_rounds_133 ?_
            refine lv_if_eq (tgt := 154) hx hb_w dL_rounds_134 (by decide) (fun c134 => ?_) (fun c134 => ?_)
            · refine lv_iconst (v := 1) hx hb_w dL_rounds_154 (by decide) ?_
              refine lv_goto (tgt := 159) hx hb_w dL_rounds_155 (by decide) ?_
              refine top_eq (z := bI (rdB g_w f_w k_w)) (by rw [rd_t1 (show lateB g_w f_w k_w = true from by rw [lateB_in hkg]; unfold lateM; rw [decide_eq_true (hsa.symm.trans c111), decide_eq_false c127]; rfl) (((hT_w k_w hk60).resolve_right (fun y_w => y_w.2.1 (by rw [← zh]; exact c134))).2)]; rfl) ?_
              exact j159
            refine lv_aload_n hx hb_w dL_rounds_137 rfl (lv_at hl 1 rfl) ?_
            refine lv_iconst (v := 0) hx hb_w dL_rounds_138 (by decide) ?_
            refine arC (j := 0) (h := ccG g_w) hx hb_w hK_w hP 7 rfl rfl (by decide) (by decide) dL_rounds_139 ?_
            refine top_eq (z := g_w 0) rfl ?_
            refine lv_aload_n hx hb_w dL_rounds_140 rfl (lv_at hl 2 rfl) ?_
            refine lv_iload hx hb_w dL_rounds_141 (lv_at hl 9 rfl) ?_
            refine arC (j := k_w) (h := h_w) hx hb_w hK_w hP 8 rfl rfl hk60 (by decide) dL_rounds_143 ?_
            refine lv_isub hx hb_w dL_rounds_144 ?_
            refine lv_iconst (v := 1) hx hb_w dL_rounds_145 (by decide) ?_
            refine lv_iadd hx hb_w dL_rounds_146 ?_
            refine lv_aload_n hx hb_w dL_rounds_147 rfl (lv_at hl 1 rfl) ?_
            refine lv_bipush (v := 6) hx hb_w dL_rounds_148 (by decide) ?_
            refine arC (j := 6) (h := ccG g_w) hx hb_w hK_w hP 7 rfl rfl (by decide) (by decide) dL_rounds_150 ?_
            refine top_eq (z := g_w 6) rfl ?_
            refine lv_icmp_lt (tgt := 158) hx hb_w dL_rounds_151 (by decide) (fun c151 => ?_) (fun c151 => ?_)
            · refine lv_iconst (v := 0) hx hb_w dL_rounds_158 (by decide) ?_
              refine top_eq (z := bI (rdB g_w f_w k_w)) (by rw [rd_t2 hCD (by omega) (show lateB g_w f_w k_w = true from by rw [lateB_in hkg]; unfold lateM; rw [decide_eq_true (hsa.symm.trans c111), decide_eq_false c127]; rfl) ((hT_w k_w hk60).resolve_left (fun y_w => c134 (by rw [zh]; exact y_w.1))).2.2, decide_eq_true (show g_w 0 - cd k_w < g_w 6 from by rw [zh, ((hT_w k_w hk60).resolve_left (fun y_w => c134 (by rw [zh]; exact y_w.1))).1, sub_1] at c151; exact c151)]; rfl) ?_
              exact j159
            refine lv_iconst (v := 1) hx hb_w dL_rounds_154 (by decide) ?_
            refine lv_goto (tgt := 159) hx hb_w dL_rounds_155 (by decide) ?_
            refine top_eq (z := bI (rdB g_w f_w k_w)) (by rw [rd_t2 hCD (by omega) (show lateB g_w f_w k_w = true from by rw [lateB_in hkg]; unfold lateM; rw [decide_eq_true (hsa.symm.trans c111), decide_eq_false c127]; rfl) ((hT_w k_w hk60).resolve_left (fun y_w => c134 (by rw [zh]; exact y_w.1))).2.2, decide_eq_false (show ¬ g_w 0 - cd k_w < g_w 6 from by rw [zh, ((hT_w k_w hk60).resolve_left (fun y_w => c134 (by rw [zh]; exact y_w.1))).1, sub_1] at c151; exact c151)]; rfl) ?_
            exact j159
        exact loop88 61 0 tt (by omega) (by omega) (by omega) tt_00.symm _ _ hP hS_w _ (lv_sub hl [3, 4, 5, 6, 7, 8, 9, 2, 1, 0] rfl)
      refine lv_iload hx hb_w dL_rounds_23 (lv_at hl 7 rfl) ?_
      refine lv_iload_n hx hb_w dL_rounds_25 rfl (lv_at hl 3 rfl) ?_
      refine lv_icmp_ge (tgt := 64) hx hb_w dL_rounds_26 (by decide) (fun c26 => ?_) (fun c26 => ?_)
      · have ek : N_w ≤ k_w := le_nI (by omega) (by omega) c26
        exact j64 (fun j_w h1 h2 => hcl j_w (by omega))
      have hkN : k_w < N_w := nle_nI (by omega) (by omega) c26
      refine lv_iload hx hb_w dL_rounds_29 (lv_at hl 7 rfl) ?_
      refine lv_bipush (v := 60) hx hb_w dL_rounds_31 (by decide) ?_
      refine lv_icmp_ge (tgt := 64) hx hb_w dL_rounds_33 (by decide) (fun c33_w => ?_) (fun c33_w => ?_)
      · have ek : 60 ≤ k_w := le_nI (a := 60) (by omega) (by omega) c33_w
        exact j64 (fun j_w h1 h2 => hcl j_w (by omega))
      have hk60 : k_w < 60 := nle_nI (a := 60) (by omega) (by omega) c33_w
      refine lv_aload hx hb_w dL_rounds_36 (lv_at hl 5 rfl) ?_
      refine lv_iload hx hb_w dL_rounds_38 (lv_at hl 7 rfl) ?_
      refine lv_aload_n hx hb_w dL_rounds_40 rfl (lv_at hl 0 rfl) ?_
      refine lv_iload hx hb_w dL_rounds_41 (lv_at hl 7 rfl) ?_
      refine rdr_V (As := [.int (nI k_w)]) (rest := [.int (nI k_w), .ref q10_w]) ⟨hx, hb_w, hml, hown, hts⟩ (kX1_claimsOf_n l G_w a_w cI cZ g_w f_w cd tc_w k_w N_w hN_w hkN hN2) (cwV 1 hts gL_rounds_X1_claimsOf rfl rfl rfl (by decide +kernel) ⟨Nat.le_of_ble_eq_true rfl, Nat.le_of_ble_eq_true rfl⟩) (va_recv hK_w hP (ci := 1) (q0 := 0) rfl rfl) (hP.sub [0, 1, 2, 3, 4, 5, 6] rfl) (hK_w.sub (tys' := tyIZ cI cZ) [0, 1] rfl) rfl hl.1 rfl (Nat.le_of_ble_eq_true rfl) dL_rounds_43  ⟨Nat.le_of_ble_eq_true rfl, Nat.le_of_ble_eq_true rfl⟩ (fun r43 h43 => ?_)
      replace h43 : r43 = (f_w 2) k_w := h43
      subst h43
      refine asC (j := k_w) (h := cl_w) (v := (f_w 2) k_w) (wD a_w cI cZ g_w f_w cd tc_w ++ [cC (a_w 7) cI (ccG g_w), cT (a_w 8) cI tt, cG (a_w 9) cL gg, cT q10_w cI (upd cl_w k_w ((f_w 2) k_w)), cT q16_w cI sa_w]) hx hb_w hK_w hP (DD_D (ws := (wD a_w cI cZ g_w f_w cd tc_w ++ [cC (a_w 7) cI (ccG g_w), cT (a_w 8) cI tt, cG (a_w 9) cL gg, cT q10_w cI cl_w, cT q16_w cI sa_w])) hDD) hS_w 10 rfl rfl hk60 (by decide) rfl dL_rounds_46 (fun H locs_w hP hS_w => ?_)
      refine lv_aload hx hb_w dL_rounds_47 (lv_at hl 6 rfl) ?_
      refine lv_iload hx hb_w dL_rounds_49 (lv_at hl 7 rfl) ?_
      refine lv_aload_n hx hb_w dL_rounds_51 rfl (lv_at hl 0 rfl) ?_
      refine lv_iload hx hb_w dL_rounds_52 (lv_at hl 7 rfl) ?_
      refine rdr_V (As := [.int (nI k_w)]) (rest := [.int (nI k_w), .ref q16_w]) ⟨hx, hb_w, hml, hown, hts⟩ (kX1_stateOf_n l G_w a_w cI cZ g_w f_w cd tc_w k_w N_w hN_w hkN hN2) (cwV 1 hts gL_rounds_X1_stateOf rfl rfl rfl (by decide +kernel) ⟨Nat.le_of_ble_eq_true rfl, Nat.le_of_ble_eq_true rfl⟩) (va_recv hK_w hP (ci := 1) (q0 := 0) rfl rfl) (hP.sub [0, 1, 2, 3, 4, 5, 6] rfl) (hK_w.sub (tys' := tyIZ cI cZ) [0, 1] rfl) rfl hl.1 rfl (Nat.le_of_ble_eq_true rfl) dL_rounds_54  ⟨Nat.le_of_ble_eq_true rfl, Nat.le_of_ble_eq_true rfl⟩ (fun r54 h54 => ?_)
      replace h54 : r54 = (f_w 1) k_w := h54
      subst h54
      refine asC (j := k_w) (h := sa_w) (v := (f_w 1) k_w) (wD a_w cI cZ g_w f_w cd tc_w ++ [cC (a_w 7) cI (ccG g_w), cT (a_w 8) cI tt, cG (a_w 9) cL gg, cT q10_w cI (upd cl_w k_w ((f_w 2) k_w)), cT q16_w cI (upd sa_w k_w ((f_w 1) k_w))]) hx hb_w hK_w hP (DD_D (ws := (wD a_w cI cZ g_w f_w cd tc_w ++ [cC (a_w 7) cI (ccG g_w), cT (a_w 8) cI tt, cG (a_w 9) cL gg, cT q10_w cI (upd cl_w k_w ((f_w 2) k_w)), cT q16_w cI sa_w])) hDD) hS_w 11 rfl rfl hk60 (by decide) rfl dL_rounds_57 (fun H locs_w hP hS_w => ?_)
      refine lv_iinc (v := nI (k_w + 1)) (lv' := [(7, .int (nI (k_w + 1))), (0, .ref (a_w 0)), (1, .ref (a_w 7)), (2, .ref (a_w 8)), (3, .int (nI N_w)), (4, .int 0), (5, .ref q10_w), (6, .ref q16_w)]) hx hb_w dL_rounds_58 hl (k := 7) rfl (nI_1 _) (by decide) rfl (fun ls hl => ?_)
      refine lv_goto (tgt := 23) hx hb_w dL_rounds_61 (by decide) ?_
      exact ih23 (k_w + 1) (upd cl_w k_w (f_w 2 k_w)) (upd sa_w k_w (f_w 1 k_w)) (by omega) (by omega) (by omega) (fun j_w hj => up_2 hcl hj) _ _ hP hS_w _ (lv_sub hl [1, 2, 3, 4, 5, 6, 7, 0] rfl)
  exact loop23 61 0 (fun _ => 0) (fun _ => 0) (by omega) (by omega) (by omega) (fun j_w hj => absurd hj (Nat.not_lt_zero _)) _ _ hP hS_w _ (lv_sub hl [5, 6, 7, 4, 3, 2, 1, 0] rfl)
