set_option maxHeartbeats 4000000 in
set_option maxRecDepth 100000 in
theorem kL_isSkipped (l : Launch) (G_w : va_G) (cI cZ cL : ClassId) (ac : Nat) (h_w g_w : Nat → Int32) (h4 : h_w 4 = g_w 4) (p0_w : Int32): rdr l yL_isSkipped wsL_isSkipped { frames := 0, cells := 0, slots := 0, locals := 0 } G_w [cC ac cI h_w] (tyL cI cZ cL) [.ref ac, .int p0_w] (fun r_w => r_w = bI (bar g_w p0_w)) := by
  refine rdr_of (cc := cL_isSkipped) (nL := 2) (ty := .boolean) (by decide) rfl (Nat.le_of_ble_eq_true rfl) ?_
  intro p_w e_w s_w m_w args_w below meth_w c_w H ls Q hx hb_w hml hown hts hP hK_w hret hl
  have hl : lv_has ls 2 [(0, .ref ac), (1, .int p0_w)] := hl
  refine lv_aload_n hx hb_w dL_isSkipped_0 rfl (lv_at hl 0 rfl) ?_
  refine lv_iconst (v := 4) hx hb_w dL_isSkipped_1 (by decide) ?_
  refine arC (j := 4) (h := h_w) hx hb_w hK_w hP 0 rfl rfl (by decide) (by decide) dL_isSkipped_2 ?_
  refine top_eq (z := g_w 4) h4 ?_
  refine lv_iload_n hx hb_w dL_isSkipped_3 rfl (lv_at hl 1 rfl) ?_
  refine lv_bipush (v := 30) hx hb_w dL_isSkipped_4 (by decide) ?_
  refine lv_idiv hx hb_w dL_isSkipped_6 (by decide) ?_
  refine lv_bipush (v := 12) hx hb_w dL_isSkipped_7 (by decide) ?_
  refine lv_irem hx hb_w dL_isSkipped_9 (by decide) ?_
  refine lv_ishr hx hb_w dL_isSkipped_10 ?_
  refine lv_iconst (v := 1) hx hb_w dL_isSkipped_11 (by decide) ?_
  refine lv_iand hx hb_w dL_isSkipped_12 ?_
  refine lv_iconst (v := 1) hx hb_w dL_isSkipped_13 (by decide) ?_
  refine lv_icmp_ne (tgt := 21) hx hb_w dL_isSkipped_14 (by decide) (fun c14_w => ?_) (fun c14_w => ?_)
  · refine lv_iconst (v := 0) hx hb_w dL_isSkipped_21 (by decide) ?_
    exact hret 0 _ _ dL_isSkipped_22 rfl (by have e_w : barV g_w p0_w = 0 := ((and1 _).resolve_right c14_w); simp [bI, bar, e_w])
  refine lv_iconst (v := 1) hx hb_w dL_isSkipped_17 (by decide) ?_
  refine lv_goto (tgt := 22) hx hb_w dL_isSkipped_18 (by decide) ?_
  exact hret 1 _ _ dL_isSkipped_22 rfl (by have e_w : barV g_w p0_w = 1 := c14_w; simp [bI, bar, e_w])
set_option maxHeartbeats 4000000 in
set_option maxRecDepth 100000 in
theorem kL_next (l : Launch) (G_w : va_G) (cI cZ cL : ClassId) (ac : Nat) (h_w g_w : Nat → Int32) (h1 : h_w 1 = g_w 1) (hq4 : h_w 4 = g_w 4) (b_w sf : Int32) (hp : PT g_w) (hd_w : DY b_w) (hs : SH sf): rdr l yL_next wsL_next { frames := 1, cells := 0, slots := 0, locals := 21 } G_w [cC ac cI h_w] (tyL cI cZ cL) [.ref ac, .int b_w, .int sf] (fun r_w => r_w = nxL g_w b_w sf) := by
  obtain ⟨K_w, n0_w, r0, k1_w, k2_w, hr1, hr2, hn0, hr3, hnx, hD1, hD2⟩ := nx_0 hp hd_w hs
  refine rdr_of (cc := cL_next) (nL := 4) (ty := .int) (by decide) rfl (Nat.le_of_ble_eq_true rfl) ?_
  intro p_w e_w s_w m_w args_w below meth_w c_w H ls Q hx hb_w hml hown hts hP hK_w hret hl
  have hl : lv_has ls 4 [(0, .ref ac), (1, .int b_w), (2, .int sf)] := hl
  refine lv_iload_n hx hb_w dL_next_0 rfl (lv_at hl 1 rfl) ?_
  refine lv_aload_n hx hb_w dL_next_1 rfl (lv_at hl 0 rfl) ?_
  refine lv_iconst (v := 1) hx hb_w dL_next_2 (by decide) ?_
  refine arC (j := 1) (h := h_w) hx hb_w hK_w hP 0 rfl rfl (by decide) (by decide) dL_next_3 ?_
  refine top_eq (z := g_w 1) h1 ?_
  refine lv_iadd hx hb_w dL_next_4 ?_
  refine lv_iload_n hx hb_w dL_next_5 rfl (lv_at hl 2 rfl) ?_
  refine lv_iadd hx hb_w dL_next_6 ?_
  refine lv_istore_n (lv' := [(3, .int ((b_w + (g_w 1)) + sf)), (0, .ref ac), (1, .int b_w), (2, .int sf)]) hx hb_w dL_next_7 rfl hl (by decide) rfl (fun ls hl => ?_)
  refine lv_iload_n hx hb_w dL_next_8 rfl (lv_at hl 0 rfl) ?_
  refine lv_iload_n hx hb_w dL_next_9 rfl (lv_at hl 2 rfl) ?_
  refine lv_icmp_le (tgt := 17) hx hb_w dL_next_10 (by decide) (fun c10_w => ?_) (fun c10_w => ?_)
  · refine lv_iload_n hx hb_w dL_next_17 rfl (lv_at hl 2 rfl) ?_
    refine lv_iconst (v := 1) hx hb_w dL_next_18 (by decide) ?_
    refine lv_iadd hx hb_w dL_next_19 ?_
    refine top_eq (z := nI n0_w) (hD2 (Int32.not_lt.mpr c10_w)) ?_
    refine lv_istore_n (lv' := [(3, .int (nI n0_w)), (0, .ref ac), (1, .int b_w), (2, .int sf)]) hx hb_w dL_next_20 rfl hl (by decide) rfl (fun ls hl => ?_)
    have loop21 : ∀ (n_w : Nat) (d_w : Nat), n0_w ≤ d_w → d_w ≤ r0 → (∀ e_w, n0_w ≤ e_w → e_w < d_w → bar g_w (nI e_w) = true) → r0 - d_w < n_w → ∀ (ls : Array Slot), lv_has ls 4 [(0, .ref ac), (1, .int b_w), (2, .int sf), (3, .int (nI d_w))] → W p_w l e_w { frames := 1, cells := 0, slots := 0, locals := 21 } s_w m_w args_w below meth_w c_w H [] 0 0 Q (F0 m_w 21 ls []) := by
      intro n_w
      induction n_w with
      | zero => intro d_w h3 h4 hall hn; exact absurd hn (Nat.not_lt_zero _)
      | succ n_w ih21 =>
        intro d_w h3 h4 hall hn ls hl
        refine lv_aload_n hx hb_w dL_next_21 rfl (lv_at hl 0 rfl) ?_
        refine lv_iload_n hx hb_w dL_next_22 rfl (lv_at hl 3 rfl) ?_
        refine rdr_S (As := [.ref ac, .int (nI d_w)]) (rest := []) ⟨hx, hb_w, hml, hown, hts⟩ (kL_isSkipped l G_w cI cZ cL ac h_w g_w hq4 (nI d_w)) (va_cwS 2 hts gL_next_L_isSkipped rfl rfl rfl (by decide +kernel) ⟨Nat.le_of_ble_eq_true rfl, Nat.le_of_ble_eq_true rfl⟩) (hP.sub [0] rfl) hK_w rfl hl.1 rfl (Nat.le_of_ble_eq_true rfl) dL_next_23  ⟨Nat.le_of_ble_eq_true rfl, Nat.le_of_ble_eq_true rfl⟩ (fun r23 h23 => ?_)
        replace h23 : r23 = bI (bar g_w (nI d_w)) := h23
        subst h23
        refine lv_if_eq (tgt := 35) hx hb_w dL_next_26 (by decide) (fun c26 => ?_) (fun c26 => ?_)
        · replace c26 := bI0 c26
          refine lv_iload_n hx hb_w dL_next_35 rfl (lv_at hl 3 rfl) ?_
          exact hret (nI d_w) _ _ dL_next_36 rfl (by rw [hnx, nx_eq c26 h3 (by omega) hall])
        replace c26 := bIn c26
        refine lv_iinc (v := nI (d_w + 1)) (lv' := [(3, .int (nI (d_w + 1))), (0, .ref ac), (1, .int b_w), (2, .int sf)]) hx hb_w dL_next_29 hl (k := 3) rfl (nI_1 _) (by decide) rfl (fun ls hl => ?_)
        refine lv_goto (tgt := 21) hx hb_w dL_next_32 (by decide) ?_
        exact ih21 (d_w + 1) (by omega) (by have hne : d_w ≠ r0 := (fun q_w => by rw [q_w, hr3] at c26; exact absurd c26 (by decide)); omega) (fun e_w h5 h6 => by rcases Nat.lt_or_ge e_w d_w with q_w | q_w; exact hall e_w h5 q_w; rw [show e_w = d_w by omega]; exact c26) (by have hne : d_w ≠ r0 := (fun q_w => by rw [q_w, hr3] at c26; exact absurd c26 (by decide)); omega) _ (lv_sub hl [1, 2, 3, 0] rfl)
    exact loop21 (r0 - n0_w + 1) n0_w (Nat.le_refl _) hr1 (by omega) (by omega) _ (lv_sub hl [1, 2, 3, 0] rfl)
  refine lv_iload_n hx hb_w dL_next_13 rfl (lv_at hl 0 rfl) ?_
  refine lv_goto (tgt := 20) hx hb_w dL_next_14 (by decide) ?_
  refine top_eq (z := nI n0_w) (hD1 (Int32.not_le.mp c10_w)) ?_
  refine lv_istore_n (lv' := [(3, .int (nI n0_w)), (0, .ref ac), (1, .int b_w), (2, .int sf)]) hx hb_w dL_next_20 rfl hl (by decide) rfl (fun ls hl => ?_)
  have loop21 : ∀ (n_w : Nat) (d_w : Nat), n0_w ≤ d_w → d_w ≤ r0 → (∀ e_w, n0_w ≤ e_w → e_w < d_w → bar g_w (nI e_w) = true) → r0 - d_w < n_w → ∀ (ls : Array Slot), lv_has ls 4 [(0, .ref ac), (1, .int b_w), (2, .int sf), (3, .int (nI d_w))] → W p_w l e_w { frames := 1, cells := 0, slots := 0, locals := 21 } s_w m_w args_w below meth_w c_w H [] 0 0 Q (F0 m_w 21 ls []) := by
    intro n_w
    induction n_w with
    | zero => intro d_w h3 h4 hall hn; exact absurd hn (Nat.not_lt_zero _)
    | succ n_w ih21 =>
      intro d_w h3 h4 hall hn ls hl
      refine lv_aload_n hx hb_w dL_next_21 rfl (lv_at hl 0 rfl) ?_
      refine lv_iload_n hx hb_w dL_next_22 rfl (lv_at hl 3 rfl) ?_
      refine rdr_S (As := [.ref ac, .int (nI d_w)]) (rest := []) ⟨hx, hb_w, hml, hown, hts⟩ (kL_isSkipped l G_w cI cZ cL ac h_w g_w hq4 (nI d_w)) (va_cwS 2 hts gL_next_L_isSkipped rfl rfl rfl (by decide +kernel) ⟨Nat.le_of_ble_eq_true rfl, Nat.le_of_ble_eq_true rfl⟩) (hP.sub [0] rfl) hK_w rfl hl.1 rfl (Nat.le_of_ble_eq_true rfl) dL_next_23  ⟨Nat.le_of_ble_eq_true rfl, Nat.le_of_ble_eq_true rfl⟩ (fun r23 h23 => ?_)
      replace h23 : r23 = bI (bar g_w (nI d_w)) := h23
      subst h23
      refine lv_if_eq (tgt := 35) hx hb_w dL_next_26 (by decide) (fun c26 => ?_) (fun c26 => ?_)
      · replace c26 := bI0 c26
        refine lv_iload_n hx hb_w dL_next_35 rfl (lv_at hl 3 rfl) ?_
        exact hret (nI d_w) _ _ dL_next_36 rfl (by rw [hnx, nx_eq c26 h3 (by omega) hall])
      replace c26 := bIn c26
      refine lv_iinc (v := nI (d_w + 1)) (lv' := [(3, .int (nI (d_w + 1))), (0, .ref ac), (1, .int b_w), (2, .int sf)]) hx hb_w dL_next_29 hl (k := 3) rfl (nI_1 _) (by decide) rfl (fun ls hl => ?_)
      refine lv_goto (tgt := 21) hx hb_w dL_next_32 (by decide) ?_
      exact ih21 (d_w + 1) (by omega) (by have hne : d_w ≠ r0 := (fun q_w => by rw [q_w, hr3] at c26; exact absurd c26 (by decide)); omega) (fun e_w h5 h6 => by rcases Nat.lt_or_ge e_w d_w with q_w | q_w; exact hall e_w h5 q_w; rw [show e_w = d_w by omega]; exact c26) (by have hne : d_w ≠ r0 := (fun q_w => by rw [q_w, hr3] at c26; exact absurd c26 (by decide)); omega) _ (lv_sub hl [1, 2, 3, 0] rfl)
  exact loop21 (r0 - n0_w + 1) n0_w (Nat.le_refl _) hr1 (by omega) (by omega) _ (lv_sub hl [1, 2, 3, 0] rfl)
set_option maxHeartbeats 4000000 in
set_option maxRecDepth 100000 in
theorem kL_follows (l : Launch) (G_w : va_G) (a_w : Nat → Nat) (cI cZ cL : ClassId) (g_w : Nat → Int32) (f_w : Nat → Nat → Int32) (cd : Nat → Int32) (tc_w : Int32) (g0 : Nat → Int32) (i_w N_w B_w : Nat) (hN_w : g_w 7 = nI N_w) (hN2 : N_w ≤ 200) (hi_w : i_w < N_w) (hB_w : g0 9 = nI B_w - 1) (hB2 : B_w ≤ 200) (hst : ∀ k_w, k_w < 200 → 0 ≤ f_w 1 k_w ∧ f_w 1 k_w ≤ 3): rdr l yL_follows wsL_follows { frames := 7, cells := 0, slots := 0, locals := 111 } G_w (wD a_w cI cZ g_w f_w cd tc_w ++ [cC (a_w 7) cI (ccG g0)]) (tyL cI cZ cL) [.ref (a_w 0), .ref (a_w 7), .int (nI i_w)] (fun r_w => r_w = bI (foM g0 f_w i_w)) := by
  have e1_w : g0 9 + 1 = nI B_w := by rw [hB_w]; exact Int32.sub_add_cancel _ _
  have eB : (g0 9 + 1).toNatClampNeg = B_w := by rw [e1_w]; exact nI_clamp (by omega)
  have eN_w : ¬ nI i_w ≤ g0 9 ↔ B_w ≤ i_w := by rw [Int32.not_le, hB_w]; exact lt_pred hB2 (by omega)
  have e0_w : g0 9 < 0 ↔ B_w = 0 := by rw [hB_w]; exact lt_m1 hB2
  refine rdr_of (cc := cL_follows) (nL := 5) (ty := .boolean) (by decide) rfl (Nat.le_of_ble_eq_true rfl) ?_
  intro p_w e_w s_w m_w args_w below meth_w c_w H ls Q hx hb_w hml hown hts hP hK_w hret hl
  have hl : lv_has ls 5 [(0, .ref (a_w 0)), (1, .ref (a_w 7)), (2, .int (nI i_w))] := hl
  refine lv_aload_n hx hb_w dL_follows_0 rfl (lv_at hl 1 rfl) ?_
  refine lv_bipush (v := 7) hx hb_w dL_follows_1 (by decide) ?_
  refine arC (j := 7) (h := ccG g0) hx hb_w hK_w hP 7 rfl rfl (by decide) (by decide) dL_follows_3 ?_
  refine top_eq (z := g0 9) rfl ?_
  refine lv_if_lt (tgt := 19) hx hb_w dL_follows_4 (by decide) (fun c4_w => ?_) (fun c4_w => ?_)
  · have hz : foM g0 f_w i_w = false := by unfold foM; rw [show g0 9 = -1 by rw [hB_w, e0_w.mp c4_w]; decide]; rfl
    refine lv_iconst (v := 0) hx hb_w dL_follows_19 (by decide) ?_
    refine lv_istore_n (lv' := [(3, .int 0), (0, .ref (a_w 0)), (1, .ref (a_w 7)), (2, .int (nI i_w))]) hx hb_w dL_follows_20 rfl hl (by decide) rfl (fun ls hl => ?_)
    refine lv_aload_n hx hb_w dL_follows_21 rfl (lv_at hl 2 rfl) ?_
    refine lv_bipush (v := 7) hx hb_w dL_follows_22 (by decide) ?_
    refine arC (j := 7) (h := ccG g0) hx hb_w hK_w hP 7 rfl rfl (by decide) (by decide) dL_follows_24 ?_
    refine top_eq (z := g0 9) rfl ?_
    refine lv_iconst (v := 1) hx hb_w dL_follows_25 (by decide) ?_
    refine lv_iadd hx hb_w dL_follows_26 ?_
    refine top_eq (z := nI B_w) e1_w ?_
    refine lv_istore (lv' := [(4, .int (nI B_w)), (3, .int 0), (0, .ref (a_w 0)), (1, .ref (a_w 7)), (2, .int (nI i_w))]) hx hb_w dL_follows_27 hl (by decide) rfl (fun ls hl => ?_)
    have loop29 : ∀ (n_w : Nat) (k_w : Nat) (y_w : Bool), B_w ≤ k_w → (y_w = true → k_w ≤ i_w) → k_w ≤ 200 → (y_w && allR (foB f_w) k_w (i_w - k_w)) = foM g0 f_w i_w → 200 - k_w < n_w → ∀ (ls : Array Slot), lv_has ls 5 [(0, .ref (a_w 0)), (1, .ref (a_w 7)), (2, .int (nI i_w)), (3, .int (bI y_w)), (4, .int (nI k_w))] → W p_w l e_w { frames := 7, cells := 0, slots := 0, locals := 111 } s_w m_w args_w below meth_w c_w H [] 0 0 Q (F0 m_w 29 ls []) := by
      intro n_w
      induction n_w with
      | zero => intro k_w y_w hk0 hy hk hq hn; exact absurd hn (Nat.not_lt_zero _)
      | succ n_w ih29 =>
        intro k_w y_w hk0 hy hk hq hn ls hl
        refine lv_iload hx hb_w dL_follows_29 (lv_at hl 4 rfl) ?_
        refine lv_iload_n hx hb_w dL_follows_31 rfl (lv_at hl 2 rfl) ?_
        refine lv_icmp_ge (tgt := 61) hx hb_w dL_follows_32 (by decide) (fun c32_w => ?_) (fun c32_w => ?_)
        · have ek : i_w ≤ k_w := le_nI (by omega) (by omega) c32_w
          refine lv_iload_n hx hb_w dL_follows_61 rfl (lv_at hl 3 rfl) ?_
          exact hret (bI y_w) _ _ dL_follows_62 (bIr _) (by rw [← hq]; cases y_w with | false => rfl | true => have := hy rfl; rw [show k_w = i_w by omega, Nat.sub_self]; rfl)
        have hk2 : k_w < i_w := nle_nI (by omega) (by omega) c32_w
        refine lv_iload_n hx hb_w dL_follows_35 rfl (lv_at hl 3 rfl) ?_
        refine lv_if_eq (tgt := 61) hx hb_w dL_follows_36 (by decide) (fun c36_w => ?_) (fun c36_w => ?_)
        · replace c36_w := bI0 c36_w
          refine lv_iload_n hx hb_w dL_follows_61 rfl (lv_at hl 3 rfl) ?_
          exact hret (bI y_w) _ _ dL_follows_62 (bIr _) (by rw [← hq, c36_w]; rfl)
        replace c36_w := bIn c36_w
        refine lv_aload_n hx hb_w dL_follows_39 rfl (lv_at hl 0 rfl) ?_
        refine lv_iload hx hb_w dL_follows_40 (lv_at hl 4 rfl) ?_
        refine rdr_V (As := [.int (nI k_w)]) (rest := []) ⟨hx, hb_w, hml, hown, hts⟩ (kX1_stateOf_n l G_w a_w cI cZ g_w f_w cd tc_w k_w N_w hN_w (by omega) hN2) (cwV 1 hts gL_follows_X1_stateOf rfl rfl rfl (by decide +kernel) ⟨Nat.le_of_ble_eq_true rfl, Nat.le_of_ble_eq_true rfl⟩) (va_recv hK_w hP (ci := 1) (q0 := 0) rfl rfl) (hP.sub [0, 1, 2, 3, 4, 5, 6] rfl) (hK_w.sub (tys' := tyIZ cI cZ) [0, 1] rfl) rfl hl.1 rfl (Nat.le_of_ble_eq_true rfl) dL_follows_42  ⟨Nat.le_of_ble_eq_true rfl, Nat.le_of_ble_eq_true rfl⟩ (fun r42 h42 => ?_)
        replace h42 : r42 = (f_w 1) k_w := h42
        subst h42
        refine lv_iconst (v := 1) hx hb_w dL_follows_45 (by decide) ?_
        refine lv_icmp_le (tgt := 53) hx hb_w dL_follows_46 (by decide) (fun c46_w => ?_) (fun c46_w => ?_)
        · have hf : foB f_w k_w = false := by rw [st_foB (hst k_w (by omega)), decide_eq_true c46_w]; rfl
          refine lv_iconst (v := 0) hx hb_w dL_follows_53 (by decide) ?_
          refine lv_istore_n (lv' := [(3, .int 0), (0, .ref (a_w 0)), (1, .ref (a_w 7)), (2, .int (nI i_w)), (4, .int (nI k_w))]) hx hb_w dL_follows_54 rfl hl (by decide) rfl (fun ls hl => ?_)
          refine lv_iinc (v := nI (k_w + 1)) (lv' := [(4, .int (nI (k_w + 1))), (3, .int 0), (0, .ref (a_w 0)), (1, .ref (a_w 7)), (2, .int (nI i_w))]) hx hb_w dL_follows_55 hl (k := 4) rfl (nI_1 _) (by decide) rfl (fun ls hl => ?_)
          refine lv_goto (tgt := 29) hx hb_w dL_follows_58 (by decide) ?_
          exact ih29 (k_w + 1) false (by omega) (fun _ => by omega) (by omega) (by rw [← hq, allR_step hk2, c36_w, hf]; simp) (by omega) _ (lv_sub hl [2, 3, 4, 1, 0] rfl)
        have hf : foB f_w k_w = true := by rw [st_foB (hst k_w (by omega)), decide_eq_false c46_w]; rfl
        refine lv_iconst (v := 1) hx hb_w dL_follows_49 (by decide) ?_
        refine lv_goto (tgt := 54) hx hb_w dL_follows_50 (by decide) ?_
        refine lv_istore_n (lv' := [(3, .int 1), (0, .ref (a_w 0)), (1, .ref (a_w 7)), (2, .int (nI i_w)), (4, .int (nI k_w))]) hx hb_w dL_follows_54 rfl hl (by decide) rfl (fun ls hl => ?_)
        refine lv_iinc (v := nI (k_w + 1)) (lv' := [(4, .int (nI (k_w + 1))), (3, .int 1), (0, .ref (a_w 0)), (1, .ref (a_w 7)), (2, .int (nI i_w))]) hx hb_w dL_follows_55 hl (k := 4) rfl (nI_1 _) (by decide) rfl (fun ls hl => ?_)
        refine lv_goto (tgt := 29) hx hb_w dL_follows_58 (by decide) ?_
        exact ih29 (k_w + 1) true (by omega) (fun _ => by omega) (by omega) (by rw [← hq, allR_step hk2, c36_w, hf]; simp) (by omega) _ (lv_sub hl [2, 3, 4, 1, 0] rfl)
    exact loop29 201 B_w false (Nat.le_refl _) (fun q_w => absurd q_w (by decide)) hB2 (by rw [hz]; rfl) (by omega) _ (lv_sub hl [2, 3, 4, 1, 0] rfl)
  refine lv_iload_n hx hb_w dL_follows_7 rfl (lv_at hl 2 rfl) ?_
  refine lv_aload_n hx hb_w dL_follows_8 rfl (lv_at hl 1 rfl) ?_
  refine lv_bipush (v := 7) hx hb_w dL_follows_9 (by decide) ?_
  refine arC (j := 7) (h := ccG g0) hx hb_w hK_w hP 7 rfl rfl (by decide) (by decide) dL_follows_11 ?_
  refine top_eq (z := g0 9) rfl ?_
  refine lv_icmp_le (tgt := 19) hx hb_w dL_follows_12 (by decide) (fun c12_w => ?_) (fun c12_w => ?_)
  · have hz : foM g0 f_w i_w = false := by unfold foM; rw [decide_eq_true c12_w]; simp
    refine lv_iconst (v := 0) hx hb_w dL_follows_19 (by decide) ?_
    refine lv_istore_n (lv' := [(3, .int 0), (0, .ref (a_w 0)), (1, .ref (a_w 7)), (2, .int (nI i_w))]) hx hb_w dL_follows_20 rfl hl (by decide) rfl (fun ls hl => ?_)
    refine lv_aload_n hx hb_w dL_follows_21 rfl (lv_at hl 2 rfl) ?_
    refine lv_bipush (v := 7) hx hb_w dL_follows_22 (by decide) ?_
    refine arC (j := 7) (h := ccG g0) hx hb_w hK_w hP 7 rfl rfl (by decide) (by decide) dL_follows_24 ?_
    refine top_eq (z := g0 9) rfl ?_
    refine lv_iconst (v := 1) hx hb_w dL_follows_25 (by decide) ?_
    refine lv_iadd hx hb_w dL_follows_26 ?_
    refine top_eq (z := nI B_w) e1_w ?_
    refine lv_istore (lv' := [(4, .int (nI B_w)), (3, .int 0), (0, .ref (a_w 0)), (1, .ref (a_w 7)), (2, .int (nI i_w))]) hx hb_w dL_follows_27 hl (by decide) rfl (fun ls hl => ?_)
    have loop29 : ∀ (n_w : Nat) (k_w : Nat) (y_w : Bool), B_w ≤ k_w → (y_w = true → k_w ≤ i_w) → k_w ≤ 200 → (y_w && allR (foB f_w) k_w (i_w - k_w)) = foM g0 f_w i_w → 200 - k_w < n_w → ∀ (ls : Array Slot), lv_has ls 5 [(0, .ref (a_w 0)), (1, .ref (a_w 7)), (2, .int (nI i_w)), (3, .int (bI y_w)), (4, .int (nI k_w))] → W p_w l e_w { frames := 7, cells := 0, slots := 0, locals := 111 } s_w m_w args_w below meth_w c_w H [] 0 0 Q (F0 m_w 29 ls []) := by
      intro n_w
      induction n_w with
      | zero => intro k_w y_w hk0 hy hk hq hn; exact absurd hn (Nat.not_lt_zero _)
      | succ n_w ih29 =>
        intro k_w y_w hk0 hy hk hq hn ls hl
        refine lv_iload hx hb_w dL_follows_29 (lv_at hl 4 rfl) ?_
        refine lv_iload_n hx hb_w dL_follows_31 rfl (lv_at hl 2 rfl) ?_
        refine lv_icmp_ge (tgt := 61) hx hb_w dL_follows_32 (by decide) (fun c32_w => ?_) (fun c32_w => ?_)
        · have ek : i_w ≤ k_w := le_nI (by omega) (by omega) c32_w
          refine lv_iload_n hx hb_w dL_follows_61 rfl (lv_at hl 3 rfl) ?_
          exact hret (bI y_w) _ _ dL_follows_62 (bIr _) (by rw [← hq]; cases y_w with | false => rfl | true => have := hy rfl; rw [show k_w = i_w by omega, Nat.sub_self]; rfl)
        have hk2 : k_w < i_w := nle_nI (by omega) (by omega) c32_w
        refine lv_iload_n hx hb_w dL_follows_35 rfl (lv_at hl 3 rfl) ?_
        refine lv_if_eq (tgt := 61) hx hb_w dL_follows_36 (by decide) (fun c36_w => ?_) (fun c36_w => ?_)
        · replace c36_w := bI0 c36_w
          refine lv_iload_n hx hb_w dL_follows_61 rfl (lv_at hl 3 rfl) ?_
          exact hret (bI y_w) _ _ dL_follows_62 (bIr _) (by rw [← hq, c36_w]; rfl)
        replace c36_w := bIn c36_w
        refine lv_aload_n hx hb_w dL_follows_39 rfl (lv_at hl 0 rfl) ?_
        refine lv_iload hx hb_w dL_follows_40 (lv_at hl 4 rfl) ?_
        refine rdr_V (As := [.int (nI k_w)]) (rest := []) ⟨hx, hb_w, hml, hown, hts⟩ (kX1_stateOf_n l G_w a_w cI cZ g_w f_w cd tc_w k_w N_w hN_w (by omega) hN2) (cwV 1 hts gL_follows_X1_stateOf rfl rfl rfl (by decide +kernel) ⟨Nat.le_of_ble_eq_true rfl, Nat.le_of_ble_eq_true rfl⟩) (va_recv hK_w hP (ci := 1) (q0 := 0) rfl rfl) (hP.sub [0, 1, 2, 3, 4, 5, 6] rfl) (hK_w.sub (tys' := tyIZ cI cZ) [0, 1] rfl) rfl hl.1 rfl (Nat.le_of_ble_eq_true rfl) dL_follows_42  ⟨Nat.le_of_ble_eq_true rfl, Nat.le_of_ble_eq_true rfl⟩ (fun r42 h42 => ?_)
        replace h42 : r42 = (f_w 1) k_w := h42
        subst h42
        refine lv_iconst (v := 1) hx hb_w dL_follows_45 (by decide) ?_
        refine lv_icmp_le (tgt := 53) hx hb_w dL_follows_46 (by decide) (fun c46_w => ?_) (fun c46_w => ?_)
        · have hf : foB f_w k_w = false := by rw [st_foB (hst k_w (by omega)), decide_eq_true c46_w]; rfl
          refine lv_iconst (v := 0) hx hb_w dL_follows_53 (by decide) ?_
          refine lv_istore_n (lv' := [(3, .int 0), (0, .ref (a_w 0)), (1, .ref (a_w 7)), (2, .int (nI i_w)), (4, .int (nI k_w))]) hx hb_w dL_follows_54 rfl hl (by decide) rfl (fun ls hl => ?_)
          refine lv_iinc (v := nI (k_w + 1)) (lv' := [(4, .int (nI (k_w + 1))), (3, .int 0), (0, .ref (a_w 0)), (1, .ref (a_w 7)), (2, .int (nI i_w))]) hx hb_w dL_follows_55 hl (k := 4) rfl (nI_1 _) (by decide) rfl (fun ls hl => ?_)
          refine lv_goto (tgt := 29) hx hb_w dL_follows_58 (by decide) ?_
          exact ih29 (k_w + 1) false (by omega) (fun _ => by omega) (by omega) (by rw [← hq, allR_step hk2, c36_w, hf]; simp) (by omega) _ (lv_sub hl [2, 3, 4, 1, 0] rfl)
        have hf : foB f_w k_w = true := by rw [st_foB (hst k_w (by omega)), decide_eq_false c46_w]; rfl
        refine lv_iconst (v := 1) hx hb_w dL_follows_49 (by decide) ?_
        refine lv_goto (tgt := 54) hx hb_w dL_follows_50 (by decide) ?_
        refine lv_istore_n (lv' := [(3, .int 1), (0, .ref (a_w 0)), (1, .ref (a_w 7)), (2, .int (nI i_w)), (4, .int (nI k_w))]) hx hb_w dL_follows_54 rfl hl (by decide) rfl (fun ls hl => ?_)
        refine lv_iinc (v := nI (k_w + 1)) (lv' := [(4, .int (nI (k_w + 1))), (3, .int 1), (0, .ref (a_w 0)), (1, .ref (a_w 7)), (2, .int (nI i_w))]) hx hb_w dL_follows_55 hl (k := 4) rfl (nI_1 _) (by decide) rfl (fun ls hl => ?_)
        refine lv_goto (tgt := 29) hx hb_w dL_follows_58 (by decide) ?_
        exact ih29 (k_w + 1) true (by omega) (fun _ => by omega) (by omega) (by rw [← hq, allR_step hk2, c36_w, hf]; simp) (by omega) _ (lv_sub hl [2, 3, 4, 1, 0] rfl)
    exact loop29 201 B_w false (Nat.le_refl _) (fun q_w => absurd q_w (by decide)) hB2 (by rw [hz]; rfl) (by omega) _ (lv_sub hl [2, 3, 4, 1, 0] rfl)
  have h1 : 1 ≤ B_w := by rcases Nat.eq_zero_or_pos B_w with z_w | z_w; exact absurd (e0_w.mpr z_w) c4_w; exact z_w
  have h2 : B_w ≤ i_w := eN_w.mp c12_w
  have hz : foM g0 f_w i_w = allR (foB f_w) B_w (i_w - B_w) := foM_t eB (fun q_w => by rw [q_w] at c4_w; exact c4_w (by decide)) c12_w
  refine lv_iconst (v := 1) hx hb_w dL_follows_15 (by decide) ?_
  refine lv_goto (tgt := 20) hx hb_w dL_follows_16 (by decide) ?_
  refine lv_istore_n (lv' := [(3, .int 1), (0, .ref (a_w 0)), (1, .ref (a_w 7)), (2, .int (nI i_w))]) hx hb_w dL_follows_20 rfl hl (by decide) rfl (fun ls hl => ?_)
  refine lv_aload_n hx hb_w dL_follows_21 rfl (lv_at hl 2 rfl) ?_
  refine lv_bipush (v := 7) hx hb_w dL_follows_22 (by decide) ?_
  refine arC (j := 7) (h := ccG g0) hx hb_w hK_w hP 7 rfl rfl (by decide) (by decide) dL_follows_24 ?_
  refine top_eq (z := g0 9) rfl ?_
  refine lv_iconst (v := 1) hx hb_w dL_follows_25 (by decide) ?_
  refine lv_iadd hx hb_w dL_follows_26 ?_
  refine top_eq (z := nI B_w) e1_w ?_
  refine lv_istore (lv' := [(4, .int (nI B_w)), (3, .int 1), (0, .ref (a_w 0)), (1, .ref (a_w 7)), (2, .int (nI i_w))]) hx hb_w dL_follows_27 hl (by decide) rfl (fun ls hl => ?_)
  have loop29 : ∀ (n_w : Nat) (k_w : Nat) (y_w : Bool), B_w ≤ k_w → (y_w = true → k_w ≤ i_w) → k_w ≤ 200 → (y_w && allR (foB f_w) k_w (i_w - k_w)) = foM g0 f_w i_w → 200 - k_w < n_w → ∀ (ls : Array Slot), lv_has ls 5 [(0, .ref (a_w 0)), (1, .ref (a_w 7)), (2, .int (nI i_w)), (3, .int (bI y_w)), (4, .int (nI k_w))] → W p_w l e_w { frames := 7, cells := 0, slots := 0, locals := 111 } s_w m_w args_w below meth_w c_w H [] 0 0 Q (F0 m_w 29 ls []) := by
    intro n_w
    induction n_w with
    | zero => intro k_w y_w hk0 hy hk hq hn; exact absurd hn (Nat.not_lt_zero _)
    | succ n_w ih29 =>
      intro k_w y_w hk0 hy hk hq hn ls hl
      refine lv_iload hx hb_w dL_follows_29 (lv_at hl 4 rfl) ?_
      refine lv_iload_n hx hb_w dL_follows_31 rfl (lv_at hl 2 rfl) ?_
      refine lv_icmp_ge (tgt := 61) hx hb_w dL_follows_32 (by decide) (fun c32_w => ?_) (fun c32_w => ?_)
      · have ek : i_w ≤ k_w := le_nI (by omega) (by omega) c32_w
        refine lv_iload_n hx hb_w dL_follows_61 rfl (lv_at hl 3 rfl) ?_
        exact hret (bI y_w) _ _ dL_follows_62 (bIr _) (by rw [← hq]; cases y_w with | false => rfl | true => have := hy rfl; rw [show k_w = i_w by omega, Nat.sub_self]; rfl)
      have hk2 : k_w < i_w := nle_nI (by omega) (by omega) c32_w
      refine lv_iload_n hx hb_w dL_follows_35 rfl (lv_at hl 3 rfl) ?_
      refine lv_if_eq (tgt := 61) hx hb_w dL_follows_36 (by decide) (fun c36_w => ?_) (fun c36_w => ?_)
      · replace c36_w := bI0 c36_w
        refine lv_iload_n hx hb_w dL_follows_61 rfl (lv_at hl 3 rfl) ?_
        exact hret (bI y_w) _ _ dL_follows_62 (bIr _) (by rw [← hq, c36_w]; rfl)
      replace c36_w := bIn c36_w
      refine lv_aload_n hx hb_w dL_follows_39 rfl (lv_at hl 0 rfl) ?_
      refine lv_iload hx hb_w dL_follows_40 (lv_at hl 4 rfl) ?_
      refine rdr_V (As := [.int (nI k_w)]) (rest := []) ⟨hx, hb_w, hml, hown, hts⟩ (kX1_stateOf_n l G_w a_w cI cZ g_w f_w cd tc_w k_w N_w hN_w (by omega) hN2) (cwV 1 hts gL_follows_X1_stateOf rfl rfl rfl (by decide +kernel) ⟨Nat.le_of_ble_eq_true rfl, Nat.le_of_ble_eq_true rfl⟩) (va_recv hK_w hP (ci := 1) (q0 := 0) rfl rfl) (hP.sub [0, 1, 2, 3, 4, 5, 6] rfl) (hK_w.sub (tys' := tyIZ cI cZ) [0, 1] rfl) rfl hl.1 rfl (Nat.le_of_ble_eq_true rfl) dL_follows_42  ⟨Nat.le_of_ble_eq_true rfl, Nat.le_of_ble_eq_true rfl⟩ (fun r42 h42 => ?_)
      replace h42 : r42 = (f_w 1) k_w := h42
      subst h42
      refine lv_iconst (v := 1) hx hb_w dL_follows_45 (by decide) ?_
      refine lv_icmp_le (tgt := 53) hx hb_w dL_follows_46 (by decide) (fun c46_w => ?_) (fun c46_w => ?_)
      · have hf : foB f_w k_w = false := by rw [st_foB (hst k_w (by omega)), decide_eq_true c46_w]; rfl
        refine lv_iconst (v := 0) hx hb_w dL_follows_53 (by decide) ?_
        refine lv_istore_n (lv' := [(3, .int 0), (0, .ref (a_w 0)), (1, .ref (a_w 7)), (2, .int (nI i_w)), (4, .int (nI k_w))]) hx hb_w dL_follows_54 rfl hl (by decide) rfl (fun ls hl => ?_)
        refine lv_iinc (v := nI (k_w + 1)) (lv' := [(4, .int (nI (k_w + 1))), (3, .int 0), (0, .ref (a_w 0)), (1, .ref (a_w 7)), (2, .int (nI i_w))]) hx hb_w dL_follows_55 hl (k := 4) rfl (nI_1 _) (by decide) rfl (fun ls hl => ?_)
        refine lv_goto (tgt := 29) hx hb_w dL_follows_58 (by decide) ?_
        exact ih29 (k_w + 1) false (by omega) (fun _ => by omega) (by omega) (by rw [← hq, allR_step hk2, c36_w, hf]; simp) (by omega) _ (lv_sub hl [2, 3, 4, 1, 0] rfl)
      have hf : foB f_w k_w = true := by rw [st_foB (hst k_w (by omega)), decide_eq_false c46_w]; rfl
      refine lv_iconst (v := 1) hx hb_w dL_follows_49 (by decide) ?_
      refine lv_goto (tgt := 54) hx hb_w dL_follows_50 (by decide) ?_
      refine lv_istore_n (lv' := [(3, .int 1), (0, .ref (a_w 0)), (1, .ref (a_w 7)), (2, .int (nI i_w)), (4, .int (nI k_w))]) hx hb_w dL_follows_54 rfl hl (by decide) rfl (fun ls hl => ?_)
      refine lv_iinc (v := nI (k_w + 1)) (lv' := [(4, .int (nI (k_w + 1))), (3, .int 1), (0, .ref (a_w 0)), (1, .ref (a_w 7)), (2, .int (nI i_w))]) hx hb_w dL_follows_55 hl (k := 4) rfl (nI_1 _) (by decide) rfl (fun ls hl => ?_)
      refine lv_goto (tgt := 29) hx hb_w dL_follows_58 (by decide) ?_
      exact ih29 (k_w + 1) true (by omega) (fun _ => by omega) (by omega) (by rw [← hq, allR_step hk2, c36_w, hf]; simp) (by omega) _ (lv_sub hl [2, 3, 4, 1, 0] rfl)
  exact loop29 201 B_w true (Nat.le_refl _) (fun _ => h2) hB2 hz.symm (by omega) _ (lv_sub hl [2, 3, 4, 1, 0] rfl)
set_option maxHeartbeats 4000000 in
set_option maxRecDepth 100000 in
theorem kL_isDesk (l : Launch) (G_w : va_G) (a_w : Nat → Nat) (cI cZ cL : ClassId) (g_w : Nat → Int32) (f_w : Nat → Nat → Int32) (cd : Nat → Int32) (tc_w : Int32) (hD : DK g_w f_w): rdr l yL_isDesk wsL_isDesk { frames := 7, cells := 0, slots := 0, locals := 111 } G_w (wD a_w cI cZ g_w f_w cd tc_w ++ [cC (a_w 7) cI (ccG g_w)]) (tyL cI cZ cL) [.ref (a_w 0), .ref (a_w 7)] (fun r_w => r_w = 1) := by
  obtain ⟨N_w, hN_w, hN1, hN2, h00, hri, hst, hcl⟩ := hD
  refine rdr_of (cc := cL_isDesk) (nL := 6) (ty := .boolean) (by decide) rfl (Nat.le_of_ble_eq_true rfl) ?_
  intro p_w e_w s_w m_w args_w below meth_w c_w H ls Q hx hb_w hml hown hts hP hK_w hret hl
  have hl : lv_has ls 6 [(0, .ref (a_w 0)), (1, .ref (a_w 7))] := hl
  refine lv_iconst (v := 0) hx hb_w dL_isDesk_0 (by decide) ?_
  refine lv_istore_n (lv' := [(2, .int 0), (0, .ref (a_w 0)), (1, .ref (a_w 7))]) hx hb_w dL_isDesk_1 rfl hl (by decide) rfl (fun ls hl => ?_)
  refine lv_aload_n hx hb_w dL_isDesk_2 rfl (lv_at hl 1 rfl) ?_
  refine rdr_V (As := []) (rest := []) ⟨hx, hb_w, hml, hown, hts⟩ (kX1_day l G_w a_w cI cZ g_w f_w cd tc_w) (cwV 0 hts gL_isDesk_X1_day rfl rfl rfl (by decide +kernel) ⟨Nat.le_of_ble_eq_true rfl, Nat.le_of_ble_eq_true rfl⟩) (va_recv hK_w hP (ci := 1) (q0 := 0) rfl rfl) (hP.sub [0, 1, 2, 3, 4, 5, 6] rfl) (hK_w.sub (tys' := tyIZ cI cZ) [0, 1] rfl) rfl hl.1 rfl (Nat.le_of_ble_eq_true rfl) dL_isDesk_3  ⟨Nat.le_of_ble_eq_true rfl, Nat.le_of_ble_eq_true rfl⟩ (fun r3 h3 => ?_)
  replace h3 : r3 = g_w 0 := h3
  subst h3
  refine lv_aload_n hx hb_w dL_isDesk_6 rfl (lv_at hl 2 rfl) ?_
  refine lv_iconst (v := 0) hx hb_w dL_isDesk_7 (by decide) ?_
  refine arC (j := 0) (h := ccG g_w) hx hb_w hK_w hP 7 rfl rfl (by decide) (by decide) dL_isDesk_8 ?_
  refine top_eq (z := g_w 0) rfl ?_
  refine lv_icmp_ne (tgt := 24) hx hb_w dL_isDesk_9 (by decide) (fun c9_w => ?_) (fun c9_w => ?_)
  · exact absurd rfl c9_w
  refine lv_aload_n hx hb_w dL_isDesk_12 rfl (lv_at hl 1 rfl) ?_
  refine lv_iconst (v := 0) hx hb_w dL_isDesk_13 (by decide) ?_
  refine rdr_V (As := [.int 0]) (rest := []) ⟨hx, hb_w, hml, hown, hts⟩ (kX1_dayOf_n l G_w a_w cI cZ g_w f_w cd tc_w 0 N_w hN_w (by omega) (by omega)) (cwV 1 hts gL_isDesk_X1_dayOf rfl rfl rfl (by decide +kernel) ⟨Nat.le_of_ble_eq_true rfl, Nat.le_of_ble_eq_true rfl⟩) (va_recv hK_w hP (ci := 1) (q0 := 0) rfl rfl) (hP.sub [0, 1, 2, 3, 4, 5, 6] rfl) (hK_w.sub (tys' := tyIZ cI cZ) [0, 1] rfl) rfl hl.1 rfl (Nat.le_of_ble_eq_true rfl) dL_isDesk_14  ⟨Nat.le_of_ble_eq_true rfl, Nat.le_of_ble_eq_true rfl⟩ (fun r14 h14 => ?_)
  replace h14 : r14 = (f_w 0) 0 := h14
  subst h14
  refine lv_if_ne (tgt := 24) hx hb_w dL_isDesk_17 (by decide) (fun c17 => ?_) (fun c17 => ?_)
  · exact absurd h00 c17
  refine lv_iconst (v := 1) hx hb_w dL_isDesk_20 (by decide) ?_
  refine lv_goto (tgt := 25) hx hb_w dL_isDesk_21 (by decide) ?_
  refine lv_istore_n (lv' := [(3, .int 1), (2, .int 0), (0, .ref (a_w 0)), (1, .ref (a_w 7))]) hx hb_w dL_isDesk_25 rfl hl (by decide) rfl (fun ls hl => ?_)
  refine lv_iconst (v := 0) hx hb_w dL_isDesk_26 (by decide) ?_
  refine lv_istore (lv' := [(4, .int 0), (3, .int 1), (2, .int 0), (0, .ref (a_w 0)), (1, .ref (a_w 7))]) hx hb_w dL_isDesk_27 hl (by decide) rfl (fun ls hl => ?_)
  have loop29 : ∀ (n_w : Nat) (k_w : Nat) (x : Int32), k_w ≤ N_w → N_w - k_w < n_w → x = nI (cnt (lateB g_w f_w) k_w) → ∀ (ls : Array Slot), lv_has ls 6 [(0, .ref (a_w 0)), (1, .ref (a_w 7)), (2, .int x), (3, .int 1), (4, .int (nI k_w))] → W p_w l e_w { frames := 7, cells := 0, slots := 0, locals := 111 } s_w m_w args_w below meth_w c_w H [] 0 0 Q (F0 m_w 29 ls []) := by
    intro n_w
    induction n_w with
    | zero => intro k_w x hk hn ex_w; intros; exact absurd hn (Nat.not_lt_zero _)
    | succ n_w ih29 =>
      intro k_w x hk hn ex_w ls hl
      refine lv_iload hx hb_w dL_isDesk_29 (lv_at hl 4 rfl) ?_
      refine lv_aload_n hx hb_w dL_isDesk_31 rfl (lv_at hl 0 rfl) ?_
      refine rdr_V (As := []) (rest := [.int (nI k_w)]) ⟨hx, hb_w, hml, hown, hts⟩ (kX1_foretold l G_w a_w cI cZ g_w f_w cd tc_w) (cwV 0 hts gL_isDesk_X1_foretold rfl rfl rfl (by decide +kernel) ⟨Nat.le_of_ble_eq_true rfl, Nat.le_of_ble_eq_true rfl⟩) (va_recv hK_w hP (ci := 1) (q0 := 0) rfl rfl) (hP.sub [0, 1, 2, 3, 4, 5, 6] rfl) (hK_w.sub (tys' := tyIZ cI cZ) [0, 1] rfl) rfl hl.1 rfl (Nat.le_of_ble_eq_true rfl) dL_isDesk_32  ⟨Nat.le_of_ble_eq_true rfl, Nat.le_of_ble_eq_true rfl⟩ (fun r32 h32 => ?_)
      replace h32 : r32 = g_w 7 := h32
      subst h32
      refine top_eq (z := nI N_w) hN_w ?_
      refine lv_icmp_ge (tgt := 143) hx hb_w dL_isDesk_35 (by decide) (fun c35_w => ?_) (fun c35_w => ?_)
      · have ek : k_w = N_w := by have := le_nI (a := N_w) (b := k_w) (by omega) (by omega) c35_w; omega
        refine lv_iload_n hx hb_w dL_isDesk_143 rfl (lv_at hl 3 rfl) ?_
        refine lv_if_eq (tgt := 159) hx hb_w dL_isDesk_144 (by decide) (fun c144 => ?_) (fun c144 => ?_)
        · exact absurd c144 (by decide)
        refine lv_aload_n hx hb_w dL_isDesk_147 rfl (lv_at hl 0 rfl) ?_
        refine rdr_V (As := []) (rest := []) ⟨hx, hb_w, hml, hown, hts⟩ (kX1_late l G_w a_w cI cZ g_w f_w cd tc_w) (cwV 0 hts gL_isDesk_X1_late rfl rfl rfl (by decide +kernel) ⟨Nat.le_of_ble_eq_true rfl, Nat.le_of_ble_eq_true rfl⟩) (va_recv hK_w hP (ci := 1) (q0 := 0) rfl rfl) (hP.sub [0, 1, 2, 3, 4, 5, 6] rfl) (hK_w.sub (tys' := tyIZ cI cZ) [0, 1] rfl) rfl hl.1 rfl (Nat.le_of_ble_eq_true rfl) dL_isDesk_148  ⟨Nat.le_of_ble_eq_true rfl, Nat.le_of_ble_eq_true rfl⟩ (fun r148 h148 => ?_)
        replace h148 : r148 = nI (cnt (lateB g_w f_w) 200) := h148
        subst h148
        refine lv_iload_n hx hb_w dL_isDesk_151 rfl (lv_at hl 2 rfl) ?_
        refine lv_icmp_ne (tgt := 159) hx hb_w dL_isDesk_152 (by decide) (fun c152 => ?_) (fun c152 => ?_)
        · exact absurd (by rw [ex_w, ek]; exact congrArg nI (cnt_200 hN2 (fun k_w h1 h2 => lateB_out (by rw [hN_w]; exact nI_le h1 (by omega))))) c152
        refine lv_iconst (v := 1) hx hb_w dL_isDesk_155 (by decide) ?_
        refine lv_goto (tgt := 160) hx hb_w dL_isDesk_156 (by decide) ?_
        exact hret 1 _ _ dL_isDesk_160 rfl rfl
      have hk2 : k_w < N_w := nle_nI (by omega) (by omega) c35_w
      have hkN : ¬ g_w 7 ≤ nI k_w := by rw [hN_w]; exact c35_w
      refine lv_iload_n hx hb_w dL_isDesk_38 rfl (lv_at hl 3 rfl) ?_
      refine lv_if_eq (tgt := 143) hx hb_w dL_isDesk_39 (by decide) (fun c39_w => ?_) (fun c39_w => ?_)
      · exact absurd c39_w (by decide)
      refine lv_aload_n hx hb_w dL_isDesk_42 rfl (lv_at hl 0 rfl) ?_
      refine lv_iload hx hb_w dL_isDesk_43 (lv_at hl 4 rfl) ?_
      refine rdr_V (As := [.int (nI k_w)]) (rest := []) ⟨hx, hb_w, hml, hown, hts⟩ (kX1_stateOf_n l G_w a_w cI cZ g_w f_w cd tc_w k_w N_w hN_w (by omega) (by omega)) (cwV 1 hts gL_isDesk_X1_stateOf rfl rfl rfl (by decide +kernel) ⟨Nat.le_of_ble_eq_true rfl, Nat.le_of_ble_eq_true rfl⟩) (va_recv hK_w hP (ci := 1) (q0 := 0) rfl rfl) (hP.sub [0, 1, 2, 3, 4, 5, 6] rfl) (hK_w.sub (tys' := tyIZ cI cZ) [0, 1] rfl) rfl hl.1 rfl (Nat.le_of_ble_eq_true rfl) dL_isDesk_45  ⟨Nat.le_of_ble_eq_true rfl, Nat.le_of_ble_eq_true rfl⟩ (fun r45 h45 => ?_)
      replace h45 : r45 = (f_w 1) k_w := h45
      subst h45
      refine lv_istore (lv' := [(5, .int ((f_w 1) k_w)), (0, .ref (a_w 0)), (1, .ref (a_w 7)), (2, .int x), (3, .int 1), (4, .int (nI k_w))]) hx hb_w dL_isDesk_48 hl (by decide) rfl (fun ls hl => ?_)
      refine lv_iload_n hx hb_w dL_isDesk_50 rfl (lv_at hl 3 rfl) ?_
      refine lv_iload hx hb_w dL_isDesk_51 (lv_at hl 0 rfl) ?_
      refine lv_if_ne (tgt := 76) hx hb_w dL_isDesk_53 (by decide) (fun c53 => ?_) (fun c53 => ?_)
      · refine lv_iconst (v := 0) hx hb_w dL_isDesk_76 (by decide) ?_
        refine lv_iadd hx hb_w dL_isDesk_77 ?_
        refine lv_istore_n (lv' := [(2, .int (x + 0)), (5, .int ((f_w 1) k_w)), (0, .ref (a_w 0)), (1, .ref (a_w 7)), (3, .int 1), (4, .int (nI k_w))]) hx hb_w dL_isDesk_78 rfl hl (by decide) rfl (fun ls hl => ?_)
        refine lv_iload hx hb_w dL_isDesk_79 (lv_at hl 5 rfl) ?_
        refine lv_if_eq (tgt := 101) hx hb_w dL_isDesk_81 (by decide) (fun c81 => ?_) (fun c81 => ?_)
        · refine lv_iload hx hb_w dL_isDesk_101 (lv_at hl 1 rfl) ?_
          refine lv_if_lt (tgt := 135) hx hb_w dL_isDesk_103 (by decide) (fun c103 => ?_) (fun c103 => ?_)
          · exact absurd c103 (Int32.not_lt.mpr (hst k_w (by omega)).1)
          refine lv_iload hx hb_w dL_isDesk_106 (lv_at hl 1 rfl) ?_
          refine lv_iconst (v := 3) hx hb_w dL_isDesk_108 (by decide) ?_
          refine lv_icmp_gt (tgt := 135) hx hb_w dL_isDesk_109 (by decide) (fun c109 => ?_) (fun c109 => ?_)
          · exact absurd c109 (Int32.not_lt.mpr (hst k_w (by omega)).2)
          refine lv_aload_n hx hb_w dL_isDesk_112 rfl (lv_at hl 2 rfl) ?_
          refine lv_iload hx hb_w dL_isDesk_113 (lv_at hl 5 rfl) ?_
          refine rdr_V (As := [.int (nI k_w)]) (rest := []) ⟨hx, hb_w, hml, hown, hts⟩ (kX1_claimsOf_n l G_w a_w cI cZ g_w f_w cd tc_w k_w N_w hN_w (by omega) (by omega)) (cwV 1 hts gL_isDesk_X1_claimsOf rfl rfl rfl (by decide +kernel) ⟨Nat.le_of_ble_eq_true rfl, Nat.le_of_ble_eq_true rfl⟩) (va_recv hK_w hP (ci := 1) (q0 := 0) rfl rfl) (hP.sub [0, 1, 2, 3, 4, 5, 6] rfl) (hK_w.sub (tys' := tyIZ cI cZ) [0, 1] rfl) rfl hl.1 rfl (Nat.le_of_ble_eq_true rfl) dL_isDesk_115  ⟨Nat.le_of_ble_eq_true rfl, Nat.le_of_ble_eq_true rfl⟩ (fun r115 h115 => ?_)
          replace h115 : r115 = (f_w 2) k_w := h115
          subst h115
          refine lv_if_lt (tgt := 135) hx hb_w dL_isDesk_118 (by decide) (fun c118 => ?_) (fun c118 => ?_)
          · exact absurd c118 (Int32.not_lt.mpr (hcl k_w (by omega)).1)
          refine lv_aload_n hx hb_w dL_isDesk_121 rfl (lv_at hl 2 rfl) ?_
          refine lv_iload hx hb_w dL_isDesk_122 (lv_at hl 5 rfl) ?_
          refine rdr_V (As := [.int (nI k_w)]) (rest := []) ⟨hx, hb_w, hml, hown, hts⟩ (kX1_claimsOf_n l G_w a_w cI cZ g_w f_w cd tc_w k_w N_w hN_w (by omega) (by omega)) (cwV 1 hts gL_isDesk_X1_claimsOf rfl rfl rfl (by decide +kernel) ⟨Nat.le_of_ble_eq_true rfl, Nat.le_of_ble_eq_true rfl⟩) (va_recv hK_w hP (ci := 1) (q0 := 0) rfl rfl) (hP.sub [0, 1, 2, 3, 4, 5, 6] rfl) (hK_w.sub (tys' := tyIZ cI cZ) [0, 1] rfl) rfl hl.1 rfl (Nat.le_of_ble_eq_true rfl) dL_isDesk_124  ⟨Nat.le_of_ble_eq_true rfl, Nat.le_of_ble_eq_true rfl⟩ (fun r124 h124 => ?_)
          replace h124 : r124 = (f_w 2) k_w := h124
          subst h124
          refine lv_iconst (v := 3) hx hb_w dL_isDesk_127 (by decide) ?_
          refine lv_icmp_gt (tgt := 135) hx hb_w dL_isDesk_128 (by decide) (fun c128 => ?_) (fun c128 => ?_)
          · exact absurd c128 (Int32.not_lt.mpr (hcl k_w (by omega)).2)
          refine lv_iconst (v := 1) hx hb_w dL_isDesk_131 (by decide) ?_
          refine lv_goto (tgt := 136) hx hb_w dL_isDesk_132 (by decide) ?_
          refine lv_istore_n (lv' := [(3, .int 1), (2, .int (x + 0)), (5, .int ((f_w 1) k_w)), (0, .ref (a_w 0)), (1, .ref (a_w 7)), (4, .int (nI k_w))]) hx hb_w dL_isDesk_136 rfl hl (by decide) rfl (fun ls hl => ?_)
          refine lv_iinc (v := nI (k_w + 1)) (lv' := [(4, .int (nI (k_w + 1))), (3, .int 1), (2, .int (x + 0)), (5, .int ((f_w 1) k_w)), (0, .ref (a_w 0)), (1, .ref (a_w 7))]) hx hb_w dL_isDesk_137 hl (k := 5) rfl (nI_1 _) (by decide) rfl (fun ls hl => ?_)
          refine lv_goto (tgt := 29) hx hb_w dL_isDesk_140 (by decide) ?_
          exact ih29 (k_w + 1) (x + 0) (by omega) (by omega) (by rw [cnt_f (show lateB g_w f_w k_w = false from by rw [lateB_in hkN]; unfold lateM; rw [decide_eq_false c53]; rfl), ex_w]; exact Int32.add_zero _) _ (lv_sub hl [4, 5, 2, 1, 0] rfl)
        have hk0 : 0 < k_w := by rcases Nat.eq_zero_or_pos k_w with z_w | z_w; (rw [z_w] at c81; exact absurd rfl c81); exact z_w
        refine lv_aload_n hx hb_w dL_isDesk_84 rfl (lv_at hl 2 rfl) ?_
        refine lv_iload hx hb_w dL_isDesk_85 (lv_at hl 5 rfl) ?_
        refine rdr_V (As := [.int (nI k_w)]) (rest := []) ⟨hx, hb_w, hml, hown, hts⟩ (kX1_dayOf_n l G_w a_w cI cZ g_w f_w cd tc_w k_w N_w hN_w (by omega) (by omega)) (cwV 1 hts gL_isDesk_X1_dayOf rfl rfl rfl (by decide +kernel) ⟨Nat.le_of_ble_eq_true rfl, Nat.le_of_ble_eq_true rfl⟩) (va_recv hK_w hP (ci := 1) (q0 := 0) rfl rfl) (hP.sub [0, 1, 2, 3, 4, 5, 6] rfl) (hK_w.sub (tys' := tyIZ cI cZ) [0, 1] rfl) rfl hl.1 rfl (Nat.le_of_ble_eq_true rfl) dL_isDesk_87  ⟨Nat.le_of_ble_eq_true rfl, Nat.le_of_ble_eq_true rfl⟩ (fun r87 h87 => ?_)
        replace h87 : r87 = (f_w 0) k_w := h87
        subst h87
        refine lv_aload_n hx hb_w dL_isDesk_90 rfl (lv_at hl 2 rfl) ?_
        refine lv_iload hx hb_w dL_isDesk_91 (lv_at hl 5 rfl) ?_
        refine lv_iconst (v := 1) hx hb_w dL_isDesk_93 (by decide) ?_
        refine lv_isub hx hb_w dL_isDesk_94 ?_
        refine top_eq (z := nI (k_w - 1)) (pk_sub (b := 1) hk0) ?_
        refine rdr_V (As := [.int (nI (k_w - 1))]) (rest := [.int ((f_w 0) k_w)]) ⟨hx, hb_w, hml, hown, hts⟩ (kX1_dayOf_n l G_w a_w cI cZ g_w f_w cd tc_w (k_w - 1) N_w hN_w (by omega) (by omega)) (cwV 1 hts gL_isDesk_X1_dayOf rfl rfl rfl (by decide +kernel) ⟨Nat.le_of_ble_eq_true rfl, Nat.le_of_ble_eq_true rfl⟩) (va_recv hK_w hP (ci := 1) (q0 := 0) rfl rfl) (hP.sub [0, 1, 2, 3, 4, 5, 6] rfl) (hK_w.sub (tys' := tyIZ cI cZ) [0, 1] rfl) rfl hl.1 rfl (Nat.le_of_ble_eq_true rfl) dL_isDesk_95  ⟨Nat.le_of_ble_eq_true rfl, Nat.le_of_ble_eq_true rfl⟩ (fun r95 h95 => ?_)
        replace h95 : r95 = (f_w 0) (k_w - 1) := h95
        subst h95
        refine lv_icmp_le (tgt := 135) hx hb_w dL_isDesk_98 (by decide) (fun c98 => ?_) (fun c98 => ?_)
        · exact absurd (show f_w 0 (k_w - 1) < f_w 0 k_w by have := hri (k_w - 1) (by omega); rwa [show k_w - 1 + 1 = k_w by omega] at this) (Int32.not_lt.mpr c98)
        refine lv_iload hx hb_w dL_isDesk_101 (lv_at hl 1 rfl) ?_
        refine lv_if_lt (tgt := 135) hx hb_w dL_isDesk_103 (by decide) (fun c103 => ?_) (fun c103 => ?_)
        · exact absurd c103 (Int32.not_lt.mpr (hst k_w (by omega)).1)
        refine lv_iload hx hb_w dL_isDesk_106 (lv_at hl 1 rfl) ?_
        refine lv_iconst (v := 3) hx hb_w dL_isDesk_108 (by decide) ?_
        refine lv_icmp_gt (tgt := 135) hx hb_w dL_isDesk_109 (by decide) (fun c109 => ?_) (fun c109 => ?_)
        · exact absurd c109 (Int32.not_lt.mpr (hst k_w (by omega)).2)
        refine lv_aload_n hx hb_w dL_isDesk_112 rfl (lv_at hl 2 rfl) ?_
        refine lv_iload hx hb_w dL_isDesk_113 (lv_at hl 5 rfl) ?_
        refine rdr_V (As := [.int (nI k_w)]) (rest := []) ⟨hx, hb_w, hml, hown, hts⟩ (kX1_claimsOf_n l G_w a_w cI cZ g_w f_w cd tc_w k_w N_w hN_w (by omega) (by omega)) (cwV 1 hts gL_isDesk_X1_claimsOf rfl rfl rfl (by decide +kernel) ⟨Nat.le_of_ble_eq_true rfl, Nat.le_of_ble_eq_true rfl⟩) (va_recv hK_w hP (ci := 1) (q0 := 0) rfl rfl) (hP.sub [0, 1, 2, 3, 4, 5, 6] rfl) (hK_w.sub (tys' := tyIZ cI cZ) [0, 1] rfl) rfl hl.1 rfl (Nat.le_of_ble_eq_true rfl) dL_isDesk_115  ⟨Nat.le_of_ble_eq_true rfl, Nat.le_of_ble_eq_true rfl⟩ (fun r115 h115 => ?_)
        replace h115 : r115 = (f_w 2) k_w := h115
        subst h115
        refine lv_if_lt (tgt := 135) hx hb_w dL_isDesk_118 (by decide) (fun c118 => ?_) (fun c118 => ?_)
        · exact absurd c118 (Int32.not_lt.mpr (hcl k_w (by omega)).1)
        refine lv_aload_n hx hb_w dL_isDesk_121 rfl (lv_at hl 2 rfl) ?_
        refine lv_iload hx hb_w dL_isDesk_122 (lv_at hl 5 rfl) ?_
        refine rdr_V (As := [.int (nI k_w)]) (rest := []) ⟨hx, hb_w, hml, hown, hts⟩ (kX1_claimsOf_n l G_w a_w cI cZ g_w f_w cd tc_w k_w N_w hN_w (by omega) (by omega)) (cwV 1 hts gL_isDesk_X1_claimsOf rfl rfl rfl (by decide +kernel) ⟨Nat.le_of_ble_eq_true rfl, Nat.le_of_ble_eq_true rfl⟩) (va_recv hK_w hP (ci := 1) (q0 := 0) rfl rfl) (hP.sub [0, 1, 2, 3, 4, 5, 6] rfl) (hK_w.sub (tys' := tyIZ cI cZ) [0, 1] rfl) rfl hl.1 rfl (Nat.le_of_ble_eq_true rfl) dL_isDesk_124  ⟨Nat.le_of_ble_eq_true rfl, Nat.le_of_ble_eq_true rfl⟩ (fun r124 h124 => ?_)
        replace h124 : r124 = (f_w 2) k_w := h124
        subst h124
        refine lv_iconst (v := 3) hx hb_w dL_isDesk_127 (by decide) ?_
        refine lv_icmp_gt (tgt := 135) hx hb_w dL_isDesk_128 (by decide) (fun c128 => ?_) (fun c128 => ?_)
        · exact absurd c128 (Int32.not_lt.mpr (hcl k_w (by omega)).2)
        refine lv_iconst (v := 1) hx hb_w dL_isDesk_131 (by decide) ?_
        refine lv_goto (tgt := 136) hx hb_w dL_isDesk_132 (by decide) ?_
        refine lv_istore_n (lv' := [(3, .int 1), (2, .int (x + 0)), (5, .int ((f_w 1) k_w)), (0, .ref (a_w 0)), (1, .ref (a_w 7)), (4, .int (nI k_w))]) hx hb_w dL_isDesk_136 rfl hl (by decide) rfl (fun ls hl => ?_)
        refine lv_iinc (v := nI (k_w + 1)) (lv' := [(4, .int (nI (k_w + 1))), (3, .int 1), (2, .int (x + 0)), (5, .int ((f_w 1) k_w)), (0, .ref (a_w 0)), (1, .ref (a_w 7))]) hx hb_w dL_isDesk_137 hl (k := 5) rfl (nI_1 _) (by decide) rfl (fun ls hl => ?_)
        refine lv_goto (tgt := 29) hx hb_w dL_isDesk_140 (by decide) ?_
        exact ih29 (k_w + 1) (x + 0) (by omega) (by omega) (by rw [cnt_f (show lateB g_w f_w k_w = false from by rw [lateB_in hkN]; unfold lateM; rw [decide_eq_false c53]; rfl), ex_w]; exact Int32.add_zero _) _ (lv_sub hl [4, 5, 2, 1, 0] rfl)
      refine lv_aload_n hx hb_w dL_isDesk_56 rfl (lv_at hl 2 rfl) ?_
      refine lv_iconst (v := 0) hx hb_w dL_isDesk_57 (by decide) ?_
      refine arC (j := 0) (h := ccG g_w) hx hb_w hK_w hP 7 rfl rfl (by decide) (by decide) dL_isDesk_58 ?_
      refine top_eq (z := g_w 0) rfl ?_
      refine lv_aload_n hx hb_w dL_isDesk_59 rfl (lv_at hl 1 rfl) ?_
      refine lv_iload hx hb_w dL_isDesk_60 (lv_at hl 5 rfl) ?_
      refine rdr_V (As := [.int (nI k_w)]) (rest := [.int (g_w 0), .int x]) ⟨hx, hb_w, hml, hown, hts⟩ (kX1_dayOf_n l G_w a_w cI cZ g_w f_w cd tc_w k_w N_w hN_w (by omega) (by omega)) (cwV 1 hts gL_isDesk_X1_dayOf rfl rfl rfl (by decide +kernel) ⟨Nat.le_of_ble_eq_true rfl, Nat.le_of_ble_eq_true rfl⟩) (va_recv hK_w hP (ci := 1) (q0 := 0) rfl rfl) (hP.sub [0, 1, 2, 3, 4, 5, 6] rfl) (hK_w.sub (tys' := tyIZ cI cZ) [0, 1] rfl) rfl hl.1 rfl (Nat.le_of_ble_eq_true rfl) dL_isDesk_62  ⟨Nat.le_of_ble_eq_true rfl, Nat.le_of_ble_eq_true rfl⟩ (fun r62 h62 => ?_)
      replace h62 : r62 = (f_w 0) k_w := h62
      subst h62
      refine lv_isub hx hb_w dL_isDesk_65 ?_
      refine lv_aload_n hx hb_w dL_isDesk_66 rfl (lv_at hl 2 rfl) ?_
      refine lv_iconst (v := 5) hx hb_w dL_isDesk_67 (by decide) ?_
      refine arC (j := 5) (h := ccG g_w) hx hb_w hK_w hP 7 rfl rfl (by decide) (by decide) dL_isDesk_68 ?_
      refine top_eq (z := g_w 5) rfl ?_
      refine lv_icmp_le (tgt := 76) hx hb_w dL_isDesk_69 (by decide) (fun c69 => ?_) (fun c69 => ?_)
      · refine lv_iconst (v := 0) hx hb_w dL_isDesk_76 (by decide) ?_
        refine lv_iadd hx hb_w dL_isDesk_77 ?_
        refine lv_istore_n (lv' := [(2, .int (x + 0)), (5, .int ((f_w 1) k_w)), (0, .ref (a_w 0)), (1, .ref (a_w 7)), (3, .int 1), (4, .int (nI k_w))]) hx hb_w dL_isDesk_78 rfl hl (by decide) rfl (fun ls hl => ?_)
        refine lv_iload hx hb_w dL_isDesk_79 (lv_at hl 5 rfl) ?_
        refine lv_if_eq (tgt := 101) hx hb_w dL_isDesk_81 (by decide) (fun c81 => ?_) (fun c81 => ?_)
        · refine lv_iload hx hb_w dL_isDesk_101 (lv_at hl 1 rfl) ?_
          refine lv_if_lt (tgt := 135) hx hb_w dL_isDesk_103 (by decide) (fun c103 => ?_) (fun c103 => ?_)
          · exact absurd c103 (Int32.not_lt.mpr (hst k_w (by omega)).1)
          refine lv_iload hx hb_w dL_isDesk_106 (lv_at hl 1 rfl) ?_
          refine lv_iconst (v := 3) hx hb_w dL_isDesk_108 (by decide) ?_
          refine lv_icmp_gt (tgt := 135) hx hb_w dL_isDesk_109 (by decide) (fun c109 => ?_) (fun c109 => ?_)
          · exact absurd c109 (Int32.not_lt.mpr (hst k_w (by omega)).2)
          refine lv_aload_n hx hb_w dL_isDesk_112 rfl (lv_at hl 2 rfl) ?_
          refine lv_iload hx hb_w dL_isDesk_113 (lv_at hl 5 rfl) ?_
          refine rdr_V (As := [.int (nI k_w)]) (rest := []) ⟨hx, hb_w, hml, hown, hts⟩ (kX1_claimsOf_n l G_w a_w cI cZ g_w f_w cd tc_w k_w N_w hN_w (by omega) (by omega)) (cwV 1 hts gL_isDesk_X1_claimsOf rfl rfl rfl (by decide +kernel) ⟨Nat.le_of_ble_eq_true rfl, Nat.le_of_ble_eq_true rfl⟩) (va_recv hK_w hP (ci := 1) (q0 := 0) rfl rfl) (hP.sub [0, 1, 2, 3, 4, 5, 6] rfl) (hK_w.sub (tys' := tyIZ cI cZ) [0, 1] rfl) rfl hl.1 rfl (Nat.le_of_ble_eq_true rfl) dL_isDesk_115  ⟨Nat.le_of_ble_eq_true rfl, Nat.le_of_ble_eq_true rfl⟩ (fun r115 h115 => ?_)
          replace h115 : r115 = (f_w 2) k_w := h115
          subst h115
          refine lv_if_lt (tgt := 135) hx hb_w dL_isDesk_118 (by decide) (fun c118 => ?_) (fun c118 => ?_)
          · exact absurd c118 (Int32.not_lt.mpr (hcl k_w (by omega)).1)
          refine lv_aload_n hx hb_w dL_isDesk_121 rfl (lv_at hl 2 rfl) ?_
          refine lv_iload hx hb_w dL_isDesk_122 (lv_at hl 5 rfl) ?_
          refine rdr_V (As := [.int (nI k_w)]) (rest := []) ⟨hx, hb_w, hml, hown, hts⟩ (kX1_claimsOf_n l G_w a_w cI cZ g_w f_w cd tc_w k_w N_w hN_w (by omega) (by omega)) (cwV 1 hts gL_isDesk_X1_claimsOf rfl rfl rfl (by decide +kernel) ⟨Nat.le_of_ble_eq_true rfl, Nat.le_of_ble_eq_true rfl⟩) (va_recv hK_w hP (ci := 1) (q0 := 0) rfl rfl) (hP.sub [0, 1, 2, 3, 4, 5, 6] rfl) (hK_w.sub (tys' := tyIZ cI cZ) [0, 1] rfl) rfl hl.1 rfl (Nat.le_of_ble_eq_true rfl) dL_isDesk_124  ⟨Nat.le_of_ble_eq_true rfl, Nat.le_of_ble_eq_true rfl⟩ (fun r124 h124 => ?_)
          replace h124 : r124 = (f_w 2) k_w := h124
          subst h124
          refine lv_iconst (v := 3) hx hb_w dL_isDesk_127 (by decide) ?_
          refine lv_icmp_gt (tgt := 135) hx hb_w dL_isDesk_128 (by decide) (fun c128 => ?_) (fun c128 => ?_)
          · exact absurd c128 (Int32.not_lt.mpr (hcl k_w (by omega)).2)
          refine lv_iconst (v := 1) hx hb_w dL_isDesk_131 (by decide) ?_
          refine lv_goto (tgt := 136) hx hb_w dL_isDesk_132 (by decide) ?_
          refine lv_istore_n (lv' := [(3, .int 1), (2, .int (x + 0)), (5, .int ((f_w 1) k_w)), (0, .ref (a_w 0)), (1, .ref (a_w 7)), (4, .int (nI k_w))]) hx hb_w dL_isDesk_136 rfl hl (by decide) rfl (fun ls hl => ?_)
          refine lv_iinc (v := nI (k_w + 1)) (lv' := [(4, .int (nI (k_w + 1))), (3, .int 1), (2, .int (x + 0)), (5, .int ((f_w 1) k_w)), (0, .ref (a_w 0)), (1, .ref (a_w 7))]) hx hb_w dL_isDesk_137 hl (k := 5) rfl (nI_1 _) (by decide) rfl (fun ls hl => ?_)
          refine lv_goto (tgt := 29) hx hb_w dL_isDesk_140 (by decide) ?_
          exact ih29 (k_w + 1) (x + 0) (by omega) (by omega) (by rw [cnt_f (show lateB g_w f_w k_w = false from by rw [lateB_in hkN]; unfold lateM; rw [decide_eq_true c53, decide_eq_true c69]; rfl), ex_w]; exact Int32.add_zero _) _ (lv_sub hl [4, 5, 2, 1, 0] rfl)
        have hk0 : 0 < k_w := by rcases Nat.eq_zero_or_pos k_w with z_w | z_w; (rw [z_w] at c81; exact absurd rfl c81); exact z_w
        refine lv_aload_n hx hb_w dL_isDesk_84 rfl (lv_at hl 2 rfl) ?_
        refine lv_iload hx hb_w dL_isDesk_85 (lv_at hl 5 rfl) ?_
        refine rdr_V (As := [.int (nI k_w)]) (rest := []) ⟨hx, hb_w, hml, hown, hts⟩ (kX1_dayOf_n l G_w a_w cI cZ g_w f_w cd tc_w k_w N_w hN_w (by omega) (by omega)) (cwV 1 hts gL_isDesk_X1_dayOf rfl rfl rfl (by decide +kernel) ⟨Nat.le_of_ble_eq_true rfl, Nat.le_of_ble_eq_true rfl⟩) (va_recv hK_w hP (ci := 1) (q0 := 0) rfl rfl) (hP.sub [0, 1, 2, 3, 4, 5, 6] rfl) (hK_w.sub (tys' := tyIZ cI cZ) [0, 1] rfl) rfl hl.1 rfl (Nat.le_of_ble_eq_true rfl) dL_isDesk_87  ⟨Nat.le_of_ble_eq_true rfl, Nat.le_of_ble_eq_true rfl⟩ (fun r87 h87 => ?_)
        replace h87 : r87 = (f_w 0) k_w := h87
        subst h87
        refine lv_aload_n hx hb_w dL_isDesk_90 rfl (lv_at hl 2 rfl) ?_
        refine lv_iload hx hb_w dL_isDesk_91 (lv_at hl 5 rfl) ?_
        refine lv_iconst (v := 1) hx hb_w dL_isDesk_93 (by decide) ?_
        refine lv_isub hx hb_w dL_isDesk_94 ?_
        refine top_eq (z := nI (k_w - 1)) (pk_sub (b := 1) hk0) ?_
        refine rdr_V (As := [.int (nI (k_w - 1))]) (rest := [.int ((f_w 0) k_w)]) ⟨hx, hb_w, hml, hown, hts⟩ (kX1_dayOf_n l G_w a_w cI cZ g_w f_w cd tc_w (k_w - 1) N_w hN_w (by omega) (by omega)) (cwV 1 hts gL_isDesk_X1_dayOf rfl rfl rfl (by decide +kernel) ⟨Nat.le_of_ble_eq_true rfl, Nat.le_of_ble_eq_true rfl⟩) (va_recv hK_w hP (ci := 1) (q0 := 0) rfl rfl) (hP.sub [0, 1, 2, 3, 4, 5, 6] rfl) (hK_w.sub (tys' := tyIZ cI cZ) [0, 1] rfl) rfl hl.1 rfl (Nat.le_of_ble_eq_true rfl) dL_isDesk_95  ⟨Nat.le_of_ble_eq_true rfl, Nat.le_of_ble_eq_true rfl⟩ (fun r95 h95 => ?_)
        replace h95 : r95 = (f_w 0) (k_w - 1) := h95
        subst h95
        refine lv_icmp_le (tgt := 135) hx hb_w dL_isDesk_98 (by decide) (fun c98 => ?_) (fun c98 => ?_)
        · exact absurd (show f_w 0 (k_w - 1) < f_w 0 k_w by have := hri (k_w - 1) (by omega); rwa [show k_w - 1 + 1 = k_w by omega] at this) (Int32.not_lt.mpr c98)
        refine lv_iload hx hb_w dL_isDesk_101 (lv_at hl 1 rfl) ?_
        refine lv_if_lt (tgt := 135) hx hb_w dL_isDesk_103 (by decide) (fun c103 => ?_) (fun c103 => ?_)
        · exact absurd c103 (Int32.not_lt.mpr (hst k_w (by omega)).1)
        refine lv_iload hx hb_w dL_isDesk_106 (lv_at hl 1 rfl) ?_
        refine lv_iconst (v := 3) hx hb_w dL_isDesk_108 (by decide) ?_
        refine lv_icmp_gt (tgt := 135) hx hb_w dL_isDesk_109 (by decide) (fun c109 => ?_) (fun c109 => ?_)
        · exact absurd c109 (Int32.not_lt.mpr (hst k_w (by omega)).2)
        refine lv_aload_n hx hb_w dL_isDesk_112 rfl (lv_at hl 2 rfl) ?_
        refine lv_iload hx hb_w dL_isDesk_113 (lv_at hl 5 rfl) ?_
        refine rdr_V (As := [.int (nI k_w)]) (rest := []) ⟨hx, hb_w, hml, hown, hts⟩ (kX1_claimsOf_n l G_w a_w cI cZ g_w f_w cd tc_w k_w N_w hN_w (by omega) (by omega)) (cwV 1 hts gL_isDesk_X1_claimsOf rfl rfl rfl (by decide +kernel) ⟨Nat.le_of_ble_eq_true rfl, Nat.le_of_ble_eq_true rfl⟩) (va_recv hK_w hP (ci := 1) (q0 := 0) rfl rfl) (hP.sub [0, 1, 2, 3, 4, 5, 6] rfl) (hK_w.sub (tys' := tyIZ cI cZ) [0, 1] rfl) rfl hl.1 rfl (Nat.le_of_ble_eq_true rfl) dL_isDesk_115  ⟨Nat.le_of_ble_eq_true rfl, Nat.le_of_ble_eq_true rfl⟩ (fun r115 h115 => ?_)
        replace h115 : r115 = (f_w 2) k_w := h115
        subst h115
        refine lv_if_lt (tgt := 135) hx hb_w dL_isDesk_118 (by decide) (fun c118 => ?_) (fun c118 => ?_)
        · exact absurd c118 (Int32.not_lt.mpr (hcl k_w (by omega)).1)
        refine lv_aload_n hx hb_w dL_isDesk_121 rfl (lv_at hl 2 rfl) ?_
        refine lv_iload hx hb_w dL_isDesk_122 (lv_at hl 5 rfl) ?_
        refine rdr_V (As := [.int (nI k_w)]) (rest := []) ⟨hx, hb_w, hml, hown, hts⟩ (kX1_claimsOf_n l G_w a_w cI cZ g_w f_w cd tc_w k_w N_w hN_w (by omega) (by omega)) (cwV 1 hts gL_isDesk_X1_claimsOf rfl rfl rfl (by decide +kernel) ⟨Nat.le_of_ble_eq_true rfl, Nat.le_of_ble_eq_true rfl⟩) (va_recv hK_w hP (ci := 1) (q0 := 0) rfl rfl) (hP.sub [0, 1, 2, 3, 4, 5, 6] rfl) (hK_w.sub (tys' := tyIZ cI cZ) [0, 1] rfl) rfl hl.1 rfl (Nat.le_of_ble_eq_true rfl) dL_isDesk_124  ⟨Nat.le_of_ble_eq_true rfl, Nat.le_of_ble_eq_true rfl⟩ (fun r124 h124 => ?_)
        replace h124 : r124 = (f_w 2) k_w := h124
        subst h124
        refine lv_iconst (v := 3) hx hb_w dL_isDesk_127 (by decide) ?_
        refine lv_icmp_gt (tgt := 135) hx hb_w dL_isDesk_128 (by decide) (fun c128 => ?_) (fun c128 => ?_)
        · exact absurd c128 (Int32.not_lt.mpr (hcl k_w (by omega)).2)
        refine lv_iconst (v := 1) hx hb_w dL_isDesk_131 (by decide) ?_
        refine lv_goto (tgt := 136) hx hb_w dL_isDesk_132 (by decide) ?_
        refine lv_istore_n (lv' := [(3, .int 1), (2, .int (x + 0)), (5, .int ((f_w 1) k_w)), (0, .ref (a_w 0)), (1, .ref (a_w 7)), (4, .int (nI k_w))]) hx hb_w dL_isDesk_136 rfl hl (by decide) rfl (fun ls hl => ?_)
        refine lv_iinc (v := nI (k_w + 1)) (lv' := [(4, .int (nI (k_w + 1))), (3, .int 1), (2, .int (x + 0)), (5, .int ((f_w 1) k_w)), (0, .ref (a_w 0)), (1, .ref (a_w 7))]) hx hb_w dL_isDesk_137 hl (k := 5) rfl (nI_1 _) (by decide) rfl (fun ls hl => ?_)
        refine lv_goto (tgt := 29) hx hb_w dL_isDesk_140 (by decide) ?_
        exact ih29 (k_w + 1) (x + 0) (by omega) (by omega) (by rw [cnt_f (show lateB g_w f_w k_w = false from by rw [lateB_in hkN]; unfold lateM; rw [decide_eq_true c53, decide_eq_true c69]; rfl), ex_w]; exact Int32.add_zero _) _ (lv_sub hl [4, 5, 2, 1, 0] rfl)
      refine lv_iconst (v := 1) hx hb_w dL_isDesk_72 (by decide) ?_
      refine lv_goto (tgt := 77) hx hb_w dL_isDesk_73 (by decide) ?_
      refine lv_iadd hx hb_w dL_isDesk_77 ?_
      refine lv_istore_n (lv' := [(2, .int (x + 1)), (5, .int ((f_w 1) k_w)), (0, .ref (a_w 0)), (1, .ref (a_w 7)), (3, .int 1), (4, .int (nI k_w))]) hx hb_w dL_isDesk_78 rfl hl (by decide) rfl (fun ls hl => ?_)
      refine lv_iload hx hb_w dL_isDesk_79 (lv_at hl 5 rfl) ?_
      refine lv_if_eq (tgt := 101) hx hb_w dL_isDesk_81 (by decide) (fun c81 => ?_) (fun c81 => ?_)
      · refine lv_iload hx hb_w dL_isDesk_101 (lv_at hl 1 rfl) ?_
        refine lv_if_lt (tgt := 135) hx hb_w dL_isDesk_103 (by decide) (fun c103 => ?_) (fun c103 => ?_)
        · exact absurd c103 (Int32.not_lt.mpr (hst k_w (by omega)).1)
        refine lv_iload hx hb_w dL_isDesk_106 (lv_at hl 1 rfl) ?_
        refine lv_iconst (v := 3) hx hb_w dL_isDesk_108 (by decide) ?_
        refine lv_icmp_gt (tgt := 135) hx hb_w dL_isDesk_109 (by decide) (fun c109 => ?_) (fun c109 => ?_)
        · exact absurd c109 (Int32.not_lt.mpr (hst k_w (by omega)).2)
        refine lv_aload_n hx hb_w dL_isDesk_112 rfl (lv_at hl 2 rfl) ?_
        refine lv_iload hx hb_w dL_isDesk_113 (lv_at hl 5 rfl) ?_
        refine rdr_V (As := [.int (nI k_w)]) (rest := []) ⟨hx, hb_w, hml, hown, hts⟩ (kX1_claimsOf_n l G_w a_w cI cZ g_w f_w cd tc_w k_w N_w hN_w (by omega) (by omega)) (cwV 1 hts gL_isDesk_X1_claimsOf rfl rfl rfl (by decide +kernel) ⟨Nat.le_of_ble_eq_true rfl, Nat.le_of_ble_eq_true rfl⟩) (va_recv hK_w hP (ci := 1) (q0 := 0) rfl rfl) (hP.sub [0, 1, 2, 3, 4, 5, 6] rfl) (hK_w.sub (tys' := tyIZ cI cZ) [0, 1] rfl) rfl hl.1 rfl (Nat.le_of_ble_eq_true rfl) dL_isDesk_115  ⟨Nat.le_of_ble_eq_true rfl, Nat.le_of_ble_eq_true rfl⟩ (fun r115 h115 => ?_)
        replace h115 : r115 = (f_w 2) k_w := h115
        subst h115
        refine lv_if_lt (tgt := 135) hx hb_w dL_isDesk_118 (by decide) (fun c118 => ?_) (fun c118 => ?_)
        · exact absurd c118 (Int32.not_lt.mpr (hcl k_w (by omega)).1)
        refine lv_aload_n hx hb_w dL_isDesk_121 rfl (lv_at hl 2 rfl) ?_
        refine lv_iload hx hb_w dL_isDesk_122 (lv_at hl 5 rfl) ?_
        refine rdr_V (As := [.int (nI k_w)]) (rest := []) ⟨hx, hb_w, hml, hown, hts⟩ (kX1_claimsOf_n l G_w a_w cI cZ g_w f_w cd tc_w k_w N_w hN_w (by omega) (by omega)) (cwV 1 hts gL_isDesk_X1_claimsOf rfl rfl rfl (by decide +kernel) ⟨Nat.le_of_ble_eq_true rfl, Nat.le_of_ble_eq_true rfl⟩) (va_recv hK_w hP (ci := 1) (q0 := 0) rfl rfl) (hP.sub [0, 1, 2, 3, 4, 5, 6] rfl) (hK_w.sub (tys' := tyIZ cI cZ) [0, 1] rfl) rfl hl.1 rfl (Nat.le_of_ble_eq_true rfl) dL_isDesk_124  ⟨Nat.le_of_ble_eq_true rfl, Nat.le_of_ble_eq_true rfl⟩ (fun r124 h124 => ?_)
        replace h124 : r124 = (f_w 2) k_w := h124
        subst h124
        refine lv_iconst (v := 3) hx hb_w dL_isDesk_127 (by decide) ?_
        refine lv_icmp_gt (tgt := 135) hx hb_w dL_isDesk_128 (by decide) (fun c128 => ?_) (fun c128 => ?_)
        · exact absurd c128 (Int32.not_lt.mpr (hcl k_w (by omega)).2)
        refine lv_iconst (v := 1) hx hb_w dL_isDesk_131 (by decide) ?_
        refine lv_goto (tgt := 136) hx hb_w dL_isDesk_132 (by decide) ?_
        refine lv_istore_n (lv' := [(3, .int 1), (2, .int (x + 1)), (5, .int ((f_w 1) k_w)), (0, .ref (a_w 0)), (1, .ref (a_w 7)), (4, .int (nI k_w))]) hx hb_w dL_isDesk_136 rfl hl (by decide) rfl (fun ls hl => ?_)
        refine lv_iinc (v := nI (k_w + 1)) (lv' := [(4, .int (nI (k_w + 1))), (3, .int 1), (2, .int (x + 1)), (5, .int ((f_w 1) k_w)), (0, .ref (a_w 0)), (1, .ref (a_w 7))]) hx hb_w dL_isDesk_137 hl (k := 5) rfl (nI_1 _) (by decide) rfl (fun ls hl => ?_)
        refine lv_goto (tgt := 29) hx hb_w dL_isDesk_140 (by decide) ?_
        exact ih29 (k_w + 1) (x + 1) (by omega) (by omega) (by rw [ex_w, cnt_t (show lateB g_w f_w k_w = true from by rw [lateB_in hkN]; unfold lateM; rw [decide_eq_true c53, decide_eq_false c69]; rfl)]; exact nI_1 _) _ (lv_sub hl [4, 5, 2, 1, 0] rfl)
      have hk0 : 0 < k_w := by rcases Nat.eq_zero_or_pos k_w with z_w | z_w; (rw [z_w] at c81; exact absurd rfl c81); exact z_w
      refine lv_aload_n hx hb_w dL_isDesk_84 rfl (lv_at hl 2 rfl) ?_
      refine lv_iload hx hb_w dL_isDesk_85 (lv_at hl 5 rfl) ?_
      refine rdr_V (As := [.int (nI k_w)]) (rest := []) ⟨hx, hb_w, hml, hown, hts⟩ (kX1_dayOf_n l G_w a_w cI cZ g_w f_w cd tc_w k_w N_w hN_w (by omega) (by omega)) (cwV 1 hts gL_isDesk_X1_dayOf rfl rfl rfl (by decide +kernel) ⟨Nat.le_of_ble_eq_true rfl, Nat.le_of_ble_eq_true rfl⟩) (va_recv hK_w hP (ci := 1) (q0 := 0) rfl rfl) (hP.sub [0, 1, 2, 3, 4, 5, 6] rfl) (hK_w.sub (tys' := tyIZ cI cZ) [0, 1] rfl) rfl hl.1 rfl (Nat.le_of_ble_eq_true rfl) dL_isDesk_87  ⟨Nat.le_of_ble_eq_true rfl, Nat.le_of_ble_eq_true rfl⟩ (fun r87 h87 => ?_)
      replace h87 : r87 = (f_w 0) k_w := h87
      subst h87
      refine lv_aload_n hx hb_w dL_isDesk_90 rfl (lv_at hl 2 rfl) ?_
      refine lv_iload hx hb_w dL_isDesk_91 (lv_at hl 5 rfl) ?_
      refine lv_iconst (v := 1) hx hb_w dL_isDesk_93 (by decide) ?_
      refine lv_isub hx hb_w dL_isDesk_94 ?_
      refine top_eq (z := nI (k_w - 1)) (pk_sub (b := 1) hk0) ?_
      refine rdr_V (As := [.int (nI (k_w - 1))]) (rest := [.int ((f_w 0) k_w)]) ⟨hx, hb_w, hml, hown, hts⟩ (kX1_dayOf_n l G_w a_w cI cZ g_w f_w cd tc_w (k_w - 1) N_w hN_w (by omega) (by omega)) (cwV 1 hts gL_isDesk_X1_dayOf rfl rfl rfl (by decide +kernel) ⟨Nat.le_of_ble_eq_true rfl, Nat.le_of_ble_eq_true rfl⟩) (va_recv hK_w hP (ci := 1) (q0 := 0) rfl rfl) (hP.sub [0, 1, 2, 3, 4, 5, 6] rfl) (hK_w.sub (tys' := tyIZ cI cZ) [0, 1] rfl) rfl hl.1 rfl (Nat.le_of_ble_eq_true rfl) dL_isDesk_95  ⟨Nat.le_of_ble_eq_true rfl, Nat.le_of_ble_eq_true rfl⟩ (fun r95 h95 => ?_)
      replace h95 : r95 = (f_w 0) (k_w - 1) := h95
      subst h95
      refine lv_icmp_le (tgt := 135) hx hb_w dL_isDesk_98 (by decide) (fun c98 => ?_) (fun c98 => ?_)
      · exact absurd (show f_w 0 (k_w - 1) < f_w 0 k_w by have := hri (k_w - 1) (by omega); rwa [show k_w - 1 + 1 = k_w by omega] at this) (Int32.not_lt.mpr c98)
      refine lv_iload hx hb_w dL_isDesk_101 (lv_at hl 1 rfl) ?_
      refine lv_if_lt (tgt := 135) hx hb_w dL_isDesk_103 (by decide) (fun c103 => ?_) (fun c103 => ?_)
      · exact absurd c103 (Int32.not_lt.mpr (hst k_w (by omega)).1)
      refine lv_iload hx hb_w dL_isDesk_106 (lv_at hl 1 rfl) ?_
      refine lv_iconst (v := 3) hx hb_w dL_isDesk_108 (by decide) ?_
      refine lv_icmp_gt (tgt := 135) hx hb_w dL_isDesk_109 (by decide) (fun c109 => ?_) (fun c109 => ?_)
      · exact absurd c109 (Int32.not_lt.mpr (hst k_w (by omega)).2)
      refine lv_aload_n hx hb_w dL_isDesk_112 rfl (lv_at hl 2 rfl) ?_
      refine lv_iload hx hb_w dL_isDesk_113 (lv_at hl 5 rfl) ?_
      refine rdr_V (As := [.int (nI k_w)]) (rest := []) ⟨hx, hb_w, hml, hown, hts⟩ (kX1_claimsOf_n l G_w a_w cI cZ g_w f_w cd tc_w k_w N_w hN_w (by omega) (by omega)) (cwV 1 hts gL_isDesk_X1_claimsOf rfl rfl rfl (by decide +kernel) ⟨Nat.le_of_ble_eq_true rfl, Nat.le_of_ble_eq_true rfl⟩) (va_recv hK_w hP (ci := 1) (q0 := 0) rfl rfl) (hP.sub [0, 1, 2, 3, 4, 5, 6] rfl) (hK_w.sub (tys' := tyIZ cI cZ) [0, 1] rfl) rfl hl.1 rfl (Nat.le_of_ble_eq_true rfl) dL_isDesk_115  ⟨Nat.le_of_ble_eq_true rfl, Nat.le_of_ble_eq_true rfl⟩ (fun r115 h115 => ?_)
      replace h115 : r115 = (f_w 2) k_w := h115
      subst h115
      refine lv_if_lt (tgt := 135) hx hb_w dL_isDesk_118 (by decide) (fun c118 => ?_) (fun c118 => ?_)
      · exact absurd c118 (Int32.not_lt.mpr (hcl k_w (by omega)).1)
      refine lv_aload_n hx hb_w dL_isDesk_121 rfl (lv_at hl 2 rfl) ?_
      refine lv_iload hx hb_w dL_isDesk_122 (lv_at hl 5 rfl) ?_
      refine rdr_V (As := [.int (nI k_w)]) (rest := []) ⟨hx, hb_w, hml, hown, hts⟩ (kX1_claimsOf_n l G_w a_w cI cZ g_w f_w cd tc_w k_w N_w hN_w (by omega) (by omega)) (cwV 1 hts gL_isDesk_X1_claimsOf rfl rfl rfl (by decide +kernel) ⟨Nat.le_of_ble_eq_true rfl, Nat.le_of_ble_eq_true rfl⟩) (va_recv hK_w hP (ci := 1) (q0 := 0) rfl rfl) (hP.sub [0, 1, 2, 3, 4, 5, 6] rfl) (hK_w.sub (tys' := tyIZ cI cZ) [0, 1] rfl) rfl hl.1 rfl (Nat.le_of_ble_eq_true rfl) dL_isDesk_124  ⟨Nat.le_of_ble_eq_true rfl, Nat.le_of_ble_eq_true rfl⟩ (fun r124 h124 => ?_)
      replace h124 : r124 = (f_w 2) k_w := h124
      subst h124
      refine lv_iconst (v := 3) hx hb_w dL_isDesk_127 (by decide) ?_
      refine lv_icmp_gt (tgt := 135) hx hb_w dL_isDesk_128 (by decide) (fun c128 => ?_) (fun c128 => ?_)
      · exact absurd c128 (Int32.not_lt.mpr (hcl k_w (by omega)).2)
      refine lv_iconst (v := 1) hx hb_w dL_isDesk_131 (by decide) ?_
      refine lv_goto (tgt := 136) hx hb_w dL_isDesk_132 (by decide) ?_
      refine lv_istore_n (lv' := [(3, .int 1), (2, .int (x + 1)), (5, .int ((f_w 1) k_w)), (0, .ref (a_w 0)), (1, .ref (a_w 7)), (4, .int (nI k_w))]) hx hb_w dL_isDesk_136 rfl hl (by decide) rfl (fun ls hl => ?_)
      refine lv_iinc (v := nI (k_w + 1)) (lv' := [(4, .int (nI (k_w + 1))), (3, .int 1), (2, .int (x + 1)), (5, .int ((f_w 1) k_w)), (0, .ref (a_w 0)), (1, .ref (a_w 7))]) hx hb_w dL_isDesk_137 hl (k := 5) rfl (nI_1 _) (by decide) rfl (fun ls hl => ?_)
      refine lv_goto (tgt := 29) hx hb_w dL_isDesk_140 (by decide) ?_
      exact ih29 (k_w + 1) (x + 1) (by omega) (by omega) (by rw [ex_w, cnt_t (show lateB g_w f_w k_w = true from by rw [lateB_in hkN]; unfold lateM; rw [decide_eq_true c53, decide_eq_false c69]; rfl)]; exact nI_1 _) _ (lv_sub hl [4, 5, 2, 1, 0] rfl)
  exact loop29 (N_w + 1) 0 0 (by omega) (by omega) rfl _ (lv_sub hl [3, 4, 2, 1, 0] rfl)
set_option maxHeartbeats 4000000 in
set_option maxRecDepth 100000 in
theorem kL_isLabel (l : Launch) (G_w : va_G) (a_w : Nat → Nat) (cI cZ cL : ClassId) (g_w : Nat → Int32) (f_w : Nat → Nat → Int32) (cd : Nat → Int32) (tc_w : Int32) (i_w : Nat) (hi_w : i_w < 200) (hp : inPat g_w): rdr l yL_isLabel wsL_isLabel { frames := 7, cells := 0, slots := 0, locals := 111 } G_w (wD a_w cI cZ g_w f_w cd tc_w ++ [cC (a_w 7) cI (ccG g_w)]) (tyL cI cZ cL) [.ref (a_w 0), .ref (a_w 7), .int (nI i_w)] (fun r_w => r_w = 1) := by
  have hne : ¬ g_w 2 = 0 := fun q_w => by have z_w := pat_1 hp; rw [q_w] at z_w; exact absurd z_w (by decide)
  refine rdr_of (cc := cL_isLabel) (nL := 5) (ty := .boolean) (by decide) rfl (Nat.le_of_ble_eq_true rfl) ?_
  intro p_w e_w s_w m_w args_w below meth_w c_w H ls Q hx hb_w hml hown hts hP hK_w hret hl
  have hl : lv_has ls 5 [(0, .ref (a_w 0)), (1, .ref (a_w 7)), (2, .int (nI i_w))] := hl
  refine lv_iload_n hx hb_w dL_isLabel_0 rfl (lv_at hl 2 rfl) ?_
  refine lv_aload_n hx hb_w dL_isLabel_1 rfl (lv_at hl 1 rfl) ?_
  refine lv_iconst (v := 2) hx hb_w dL_isLabel_2 (by decide) ?_
  refine arC (j := 2) (h := ccG g_w) hx hb_w hK_w hP 7 rfl rfl (by decide) (by decide) dL_isLabel_3 ?_
  refine top_eq (z := g_w 2) rfl ?_
  refine lv_idiv hx hb_w dL_isLabel_4 hne ?_
  refine lv_iconst (v := 1) hx hb_w dL_isLabel_5 (by decide) ?_
  refine lv_iadd hx hb_w dL_isLabel_6 ?_
  refine top_eq (z := volD g_w (nI i_w)) (by unfold volD; rw [if_pos (pat_1 hp)]) ?_
  refine lv_istore_n (lv' := [(3, .int (volD g_w (nI i_w))), (0, .ref (a_w 0)), (1, .ref (a_w 7)), (2, .int (nI i_w))]) hx hb_w dL_isLabel_7 rfl hl (by decide) rfl (fun ls hl => ?_)
  refine lv_aload_n hx hb_w dL_isLabel_8 rfl (lv_at hl 2 rfl) ?_
  refine lv_iconst (v := 3) hx hb_w dL_isLabel_9 (by decide) ?_
  refine arC (j := 3) (h := ccG g_w) hx hb_w hK_w hP 7 rfl rfl (by decide) (by decide) dL_isLabel_10 ?_
  refine top_eq (z := g_w 3) rfl ?_
  refine lv_iconst (v := 1) hx hb_w dL_isLabel_11 (by decide) ?_
  refine lv_icmp_ne (tgt := 25) hx hb_w dL_isLabel_12 (by decide) (fun c12_w => ?_) (fun c12_w => ?_)
  · refine lv_iload_n hx hb_w dL_isLabel_25 rfl (lv_at hl 3 rfl) ?_
    refine lv_iconst (v := 1) hx hb_w dL_isLabel_26 (by decide) ?_
    refine lv_iadd hx hb_w dL_isLabel_27 ?_
    refine top_eq (z := numD g_w (nI i_w)) (by unfold numD; rw [if_pos (hp.2.resolve_right c12_w)]) ?_
    refine lv_istore (lv' := [(4, .int (numD g_w (nI i_w))), (3, .int (volD g_w (nI i_w))), (0, .ref (a_w 0)), (1, .ref (a_w 7)), (2, .int (nI i_w))]) hx hb_w dL_isLabel_28 hl (by decide) rfl (fun ls hl => ?_)
    refine lv_aload_n hx hb_w dL_isLabel_30 rfl (lv_at hl 2 rfl) ?_
    refine lv_iload_n hx hb_w dL_isLabel_31 rfl (lv_at hl 4 rfl) ?_
    refine rdr_V (As := [.int (nI i_w)]) (rest := []) ⟨hx, hb_w, hml, hown, hts⟩ (kX1_labelOf_n l G_w a_w cI cZ g_w f_w cd tc_w i_w (by omega)) (cwV 1 hts gL_isLabel_X1_labelOf rfl rfl rfl (by decide +kernel) ⟨Nat.le_of_ble_eq_true rfl, Nat.le_of_ble_eq_true rfl⟩) (va_recv hK_w hP (ci := 1) (q0 := 0) rfl rfl) (hP.sub [0, 1, 2, 3, 4, 5, 6] rfl) (hK_w.sub (tys' := tyIZ cI cZ) [0, 1] rfl) rfl hl.1 rfl (Nat.le_of_ble_eq_true rfl) dL_isLabel_32  ⟨Nat.le_of_ble_eq_true rfl, Nat.le_of_ble_eq_true rfl⟩ (fun r32 h32 => ?_)
    replace h32 : r32 = 1000 * volD g_w (nI i_w) + numD g_w (nI i_w) := h32
    subst h32
    refine lv_sipush (v := 1000) hx hb_w dL_isLabel_35 (by decide) ?_
    refine lv_iload_n hx hb_w dL_isLabel_38 rfl (lv_at hl 1 rfl) ?_
    refine lv_imul hx hb_w dL_isLabel_39 ?_
    refine lv_iload hx hb_w dL_isLabel_40 (lv_at hl 0 rfl) ?_
    refine lv_iadd hx hb_w dL_isLabel_42 ?_
    refine lv_icmp_ne (tgt := 110) hx hb_w dL_isLabel_43 (by decide) (fun c43_w => ?_) (fun c43_w => ?_)
    · exact absurd rfl c43_w
    refine lv_aload_n hx hb_w dL_isLabel_46 rfl (lv_at hl 2 rfl) ?_
    refine lv_iload_n hx hb_w dL_isLabel_47 rfl (lv_at hl 1 rfl) ?_
    refine lv_iload hx hb_w dL_isLabel_48 (lv_at hl 0 rfl) ?_
    refine rdr_V (As := [.int (volD g_w (nI i_w)), .int (numD g_w (nI i_w))]) (rest := []) ⟨hx, hb_w, hml, hown, hts⟩ (kX1_find l G_w a_w cI cZ g_w f_w cd tc_w (volD g_w (nI i_w)) (numD g_w (nI i_w))) (cwV 2 hts gL_isLabel_X1_find rfl rfl rfl (by decide +kernel) ⟨Nat.le_of_ble_eq_true rfl, Nat.le_of_ble_eq_true rfl⟩) (va_recv hK_w hP (ci := 1) (q0 := 0) rfl rfl) (hP.sub [0, 1, 2, 3, 4, 5, 6] rfl) (hK_w.sub (tys' := tyIZ cI cZ) [0, 1] rfl) rfl hl.1 rfl (Nat.le_of_ble_eq_true rfl) dL_isLabel_50  ⟨Nat.le_of_ble_eq_true rfl, Nat.le_of_ble_eq_true rfl⟩ (fun r50 h50 => ?_)
    replace h50 : r50 = firstR (fdB g_w (volD g_w (nI i_w)) (numD g_w (nI i_w))) 0 200 := h50
    subst h50
    refine lv_iload_n hx hb_w dL_isLabel_53 rfl (lv_at hl 4 rfl) ?_
    refine lv_icmp_ne (tgt := 110) hx hb_w dL_isLabel_54 (by decide) (fun c54 => ?_) (fun c54 => ?_)
    · exact absurd (fd_self hp hi_w) c54
    refine lv_aload_n hx hb_w dL_isLabel_57 rfl (lv_at hl 2 rfl) ?_
    refine lv_iload_n hx hb_w dL_isLabel_58 rfl (lv_at hl 1 rfl) ?_
    refine lv_iconst (v := 0) hx hb_w dL_isLabel_59 (by decide) ?_
    refine rdr_V (As := [.int (volD g_w (nI i_w)), .int 0]) (rest := []) ⟨hx, hb_w, hml, hown, hts⟩ (kX1_find l G_w a_w cI cZ g_w f_w cd tc_w (volD g_w (nI i_w)) 0) (cwV 2 hts gL_isLabel_X1_find rfl rfl rfl (by decide +kernel) ⟨Nat.le_of_ble_eq_true rfl, Nat.le_of_ble_eq_true rfl⟩) (va_recv hK_w hP (ci := 1) (q0 := 0) rfl rfl) (hP.sub [0, 1, 2, 3, 4, 5, 6] rfl) (hK_w.sub (tys' := tyIZ cI cZ) [0, 1] rfl) rfl hl.1 rfl (Nat.le_of_ble_eq_true rfl) dL_isLabel_60  ⟨Nat.le_of_ble_eq_true rfl, Nat.le_of_ble_eq_true rfl⟩ (fun r60 h60 => ?_)
    replace h60 : r60 = firstR (fdB g_w (volD g_w (nI i_w)) 0) 0 200 := h60
    subst h60
    refine lv_iconst (v := (-1)) hx hb_w dL_isLabel_63 (by decide) ?_
    refine lv_icmp_ne (tgt := 110) hx hb_w dL_isLabel_64 (by decide) (fun c64 => ?_) (fun c64 => ?_)
    · exact absurd (fd_n0 hp _) c64
    refine lv_aload_n hx hb_w dL_isLabel_67 rfl (lv_at hl 2 rfl) ?_
    refine lv_iconst (v := 0) hx hb_w dL_isLabel_68 (by decide) ?_
    refine lv_iload hx hb_w dL_isLabel_69 (lv_at hl 0 rfl) ?_
    refine rdr_V (As := [.int 0, .int (numD g_w (nI i_w))]) (rest := []) ⟨hx, hb_w, hml, hown, hts⟩ (kX1_find l G_w a_w cI cZ g_w f_w cd tc_w 0 (numD g_w (nI i_w))) (cwV 2 hts gL_isLabel_X1_find rfl rfl rfl (by decide +kernel) ⟨Nat.le_of_ble_eq_true rfl, Nat.le_of_ble_eq_true rfl⟩) (va_recv hK_w hP (ci := 1) (q0 := 0) rfl rfl) (hP.sub [0, 1, 2, 3, 4, 5, 6] rfl) (hK_w.sub (tys' := tyIZ cI cZ) [0, 1] rfl) rfl hl.1 rfl (Nat.le_of_ble_eq_true rfl) dL_isLabel_71  ⟨Nat.le_of_ble_eq_true rfl, Nat.le_of_ble_eq_true rfl⟩ (fun r71 h71 => ?_)
    replace h71 : r71 = firstR (fdB g_w 0 (numD g_w (nI i_w))) 0 200 := h71
    subst h71
    refine lv_iconst (v := (-1)) hx hb_w dL_isLabel_74 (by decide) ?_
    refine lv_icmp_ne (tgt := 110) hx hb_w dL_isLabel_75 (by decide) (fun c75 => ?_) (fun c75 => ?_)
    · exact absurd (fd_v0 hp _) c75
    refine lv_aload_n hx hb_w dL_isLabel_78 rfl (lv_at hl 2 rfl) ?_
    refine lv_iload_n hx hb_w dL_isLabel_79 rfl (lv_at hl 1 rfl) ?_
    refine lv_iconst (v := 1) hx hb_w dL_isLabel_80 (by decide) ?_
    refine lv_iadd hx hb_w dL_isLabel_81 ?_
    refine lv_aload_n hx hb_w dL_isLabel_82 rfl (lv_at hl 3 rfl) ?_
    refine lv_iconst (v := 3) hx hb_w dL_isLabel_83 (by decide) ?_
    refine arC (j := 3) (h := ccG g_w) hx hb_w hK_w hP 7 rfl rfl (by decide) (by decide) dL_isLabel_84 ?_
    refine top_eq (z := g_w 3) rfl ?_
    refine lv_iconst (v := 1) hx hb_w dL_isLabel_85 (by decide) ?_
    refine lv_icmp_ne (tgt := 97) hx hb_w dL_isLabel_86 (by decide) (fun c86 => ?_) (fun c86 => ?_)
    · refine lv_iload hx hb_w dL_isLabel_97 (lv_at hl 0 rfl) ?_
      refine rdr_V (As := [.int ((volD g_w (nI i_w)) + 1), .int (numD g_w (nI i_w))]) (rest := []) ⟨hx, hb_w, hml, hown, hts⟩ (kX1_find l G_w a_w cI cZ g_w f_w cd tc_w ((volD g_w (nI i_w)) + 1) (numD g_w (nI i_w))) (cwV 2 hts gL_isLabel_X1_find rfl rfl rfl (by decide +kernel) ⟨Nat.le_of_ble_eq_true rfl, Nat.le_of_ble_eq_true rfl⟩) (va_recv hK_w hP (ci := 1) (q0 := 0) rfl rfl) (hP.sub [0, 1, 2, 3, 4, 5, 6] rfl) (hK_w.sub (tys' := tyIZ cI cZ) [0, 1] rfl) rfl hl.1 rfl (Nat.le_of_ble_eq_true rfl) dL_isLabel_99  ⟨Nat.le_of_ble_eq_true rfl, Nat.le_of_ble_eq_true rfl⟩ (fun r99 h99 => ?_)
      replace h99 : r99 = firstR (fdB g_w ((volD g_w (nI i_w)) + 1) (numD g_w (nI i_w))) 0 200 := h99
      subst h99
      refine lv_iconst (v := (-1)) hx hb_w dL_isLabel_102 (by decide) ?_
      refine lv_icmp_ne (tgt := 110) hx hb_w dL_isLabel_103 (by decide) (fun c103 => ?_) (fun c103 => ?_)
      · exact absurd (fd_next hp c12_w hi_w) c103
      refine lv_iconst (v := 1) hx hb_w dL_isLabel_106 (by decide) ?_
      refine lv_goto (tgt := 111) hx hb_w dL_isLabel_107 (by decide) ?_
      exact hret 1 _ _ dL_isLabel_111 rfl rfl
    exact absurd c86 c12_w
  refine lv_iload_n hx hb_w dL_isLabel_15 rfl (lv_at hl 3 rfl) ?_
  refine lv_aload_n hx hb_w dL_isLabel_16 rfl (lv_at hl 2 rfl) ?_
  refine lv_iconst (v := 2) hx hb_w dL_isLabel_17 (by decide) ?_
  refine arC (j := 2) (h := ccG g_w) hx hb_w hK_w hP 7 rfl rfl (by decide) (by decide) dL_isLabel_18 ?_
  refine top_eq (z := g_w 2) rfl ?_
  refine lv_irem hx hb_w dL_isLabel_19 hne ?_
  refine lv_iconst (v := 1) hx hb_w dL_isLabel_20 (by decide) ?_
  refine lv_iadd hx hb_w dL_isLabel_21 ?_
  refine top_eq (z := numD g_w (nI i_w)) (by unfold numD; rw [if_neg (by rw [c12_w]; decide), if_pos (pat_1 hp)]) ?_
  refine lv_goto (tgt := 28) hx hb_w dL_isLabel_22 (by decide) ?_
  refine lv_istore (lv' := [(4, .int (numD g_w (nI i_w))), (3, .int (volD g_w (nI i_w))), (0, .ref (a_w 0)), (1, .ref (a_w 7)), (2, .int (nI i_w))]) hx hb_w dL_isLabel_28 hl (by decide) rfl (fun ls hl => ?_)
  refine lv_aload_n hx hb_w dL_isLabel_30 rfl (lv_at hl 2 rfl) ?_
  refine lv_iload_n hx hb_w dL_isLabel_31 rfl (lv_at hl 4 rfl) ?_
  refine rdr_V (As := [.int (nI i_w)]) (rest := []) ⟨hx, hb_w, hml, hown, hts⟩ (kX1_labelOf_n l G_w a_w cI cZ g_w f_w cd tc_w i_w (by omega)) (cwV 1 hts gL_isLabel_X1_labelOf rfl rfl rfl (by decide +kernel) ⟨Nat.le_of_ble_eq_true rfl, Nat.le_of_ble_eq_true rfl⟩) (va_recv hK_w hP (ci := 1) (q0 := 0) rfl rfl) (hP.sub [0, 1, 2, 3, 4, 5, 6] rfl) (hK_w.sub (tys' := tyIZ cI cZ) [0, 1] rfl) rfl hl.1 rfl (Nat.le_of_ble_eq_true rfl) dL_isLabel_32  ⟨Nat.le_of_ble_eq_true rfl, Nat.le_of_ble_eq_true rfl⟩ (fun r32 h32 => ?_)
  replace h32 : r32 = 1000 * volD g_w (nI i_w) + numD g_w (nI i_w) := h32
  subst h32
  refine lv_sipush (v := 1000) hx hb_w dL_isLabel_35 (by decide) ?_
  refine lv_iload_n hx hb_w dL_isLabel_38 rfl (lv_at hl 1 rfl) ?_
  refine lv_imul hx hb_w dL_isLabel_39 ?_
  refine lv_iload hx hb_w dL_isLabel_40 (lv_at hl 0 rfl) ?_
  refine lv_iadd hx hb_w dL_isLabel_42 ?_
  refine lv_icmp_ne (tgt := 110) hx hb_w dL_isLabel_43 (by decide) (fun c43_w => ?_) (fun c43_w => ?_)
  · exact absurd rfl c43_w
  refine lv_aload_n hx hb_w dL_isLabel_46 rfl (lv_at hl 2 rfl) ?_
  refine lv_iload_n hx hb_w dL_isLabel_47 rfl (lv_at hl 1 rfl) ?_
  refine lv_iload hx hb_w dL_isLabel_48 (lv_at hl 0 rfl) ?_
  refine rdr_V (As := [.int (volD g_w (nI i_w)), .int (numD g_w (nI i_w))]) (rest := []) ⟨hx, hb_w, hml, hown, hts⟩ (kX1_find l G_w a_w cI cZ g_w f_w cd tc_w (volD g_w (nI i_w)) (numD g_w (nI i_w))) (cwV 2 hts gL_isLabel_X1_find rfl rfl rfl (by decide +kernel) ⟨Nat.le_of_ble_eq_true rfl, Nat.le_of_ble_eq_true rfl⟩) (va_recv hK_w hP (ci := 1) (q0 := 0) rfl rfl) (hP.sub [0, 1, 2, 3, 4, 5, 6] rfl) (hK_w.sub (tys' := tyIZ cI cZ) [0, 1] rfl) rfl hl.1 rfl (Nat.le_of_ble_eq_true rfl) dL_isLabel_50  ⟨Nat.le_of_ble_eq_true rfl, Nat.le_of_ble_eq_true rfl⟩ (fun r50 h50 => ?_)
  replace h50 : r50 = firstR (fdB g_w (volD g_w (nI i_w)) (numD g_w (nI i_w))) 0 200 := h50
  subst h50
  refine lv_iload_n hx hb_w dL_isLabel_53 rfl (lv_at hl 4 rfl) ?_
  refine lv_icmp_ne (tgt := 110) hx hb_w dL_isLabel_54 (by decide) (fun c54 => ?_) (fun c54 => ?_)
  · exact absurd (fd_self hp hi_w) c54
  refine lv_aload_n hx hb_w dL_isLabel_57 rfl (lv_at hl 2 rfl) ?_
  refine lv_iload_n hx hb_w dL_isLabel_58 rfl (lv_at hl 1 rfl) ?_
  refine lv_iconst (v := 0) hx hb_w dL_isLabel_59 (by decide) ?_
  refine rdr_V (As := [.int (volD g_w (nI i_w)), .int 0]) (rest := []) ⟨hx, hb_w, hml, hown, hts⟩ (kX1_find l G_w a_w cI cZ g_w f_w cd tc_w (volD g_w (nI i_w)) 0) (cwV 2 hts gL_isLabel_X1_find rfl rfl rfl (by decide +kernel) ⟨Nat.le_of_ble_eq_true rfl, Nat.le_of_ble_eq_true rfl⟩) (va_recv hK_w hP (ci := 1) (q0 := 0) rfl rfl) (hP.sub [0, 1, 2, 3, 4, 5, 6] rfl) (hK_w.sub (tys' := tyIZ cI cZ) [0, 1] rfl) rfl hl.1 rfl (Nat.le_of_ble_eq_true rfl) dL_isLabel_60  ⟨Nat.le_of_ble_eq_true rfl, Nat.le_of_ble_eq_true rfl⟩ (fun r60 h60 => ?_)
  replace h60 : r60 = firstR (fdB g_w (volD g_w (nI i_w)) 0) 0 200 := h60
  subst h60
  refine lv_iconst (v := (-1)) hx hb_w dL_isLabel_63 (by decide) ?_
  refine lv_icmp_ne (tgt := 110) hx hb_w dL_isLabel_64 (by decide) (fun c64 => ?_) (fun c64 => ?_)
  · exact absurd (fd_n0 hp _) c64
  refine lv_aload_n hx hb_w dL_isLabel_67 rfl (lv_at hl 2 rfl) ?_
  refine lv_iconst (v := 0) hx hb_w dL_isLabel_68 (by decide) ?_
  refine lv_iload hx hb_w dL_isLabel_69 (lv_at hl 0 rfl) ?_
  refine rdr_V (As := [.int 0, .int (numD g_w (nI i_w))]) (rest := []) ⟨hx, hb_w, hml, hown, hts⟩ (kX1_find l G_w a_w cI cZ g_w f_w cd tc_w 0 (numD g_w (nI i_w))) (cwV 2 hts gL_isLabel_X1_find rfl rfl rfl (by decide +kernel) ⟨Nat.le_of_ble_eq_true rfl, Nat.le_of_ble_eq_true rfl⟩) (va_recv hK_w hP (ci := 1) (q0 := 0) rfl rfl) (hP.sub [0, 1, 2, 3, 4, 5, 6] rfl) (hK_w.sub (tys' := tyIZ cI cZ) [0, 1] rfl) rfl hl.1 rfl (Nat.le_of_ble_eq_true rfl) dL_isLabel_71  ⟨Nat.le_of_ble_eq_true rfl, Nat.le_of_ble_eq_true rfl⟩ (fun r71 h71 => ?_)
  replace h71 : r71 = firstR (fdB g_w 0 (numD g_w (nI i_w))) 0 200 := h71
  subst h71
  refine lv_iconst (v := (-1)) hx hb_w dL_isLabel_74 (by decide) ?_
  refine lv_icmp_ne (tgt := 110) hx hb_w dL_isLabel_75 (by decide) (fun c75 => ?_) (fun c75 => ?_)
  · exact absurd (fd_v0 hp _) c75
  refine lv_aload_n hx hb_w dL_isLabel_78 rfl (lv_at hl 2 rfl) ?_
  refine lv_iload_n hx hb_w dL_isLabel_79 rfl (lv_at hl 1 rfl) ?_
  refine lv_iconst (v := 1) hx hb_w dL_isLabel_80 (by decide) ?_
  refine lv_iadd hx hb_w dL_isLabel_81 ?_
  refine lv_aload_n hx hb_w dL_isLabel_82 rfl (lv_at hl 3 rfl) ?_
  refine lv_iconst (v := 3) hx hb_w dL_isLabel_83 (by decide) ?_
  refine arC (j := 3) (h := ccG g_w) hx hb_w hK_w hP 7 rfl rfl (by decide) (by decide) dL_isLabel_84 ?_
  refine top_eq (z := g_w 3) rfl ?_
  refine lv_iconst (v := 1) hx hb_w dL_isLabel_85 (by decide) ?_
  refine lv_icmp_ne (tgt := 97) hx hb_w dL_isLabel_86 (by decide) (fun c86 => ?_) (fun c86 => ?_)
  · exact absurd c12_w c86
  refine lv_aload_n hx hb_w dL_isLabel_89 rfl (lv_at hl 3 rfl) ?_
  refine lv_iconst (v := 2) hx hb_w dL_isLabel_90 (by decide) ?_
  refine arC (j := 2) (h := ccG g_w) hx hb_w hK_w hP 7 rfl rfl (by decide) (by decide) dL_isLabel_91 ?_
  refine top_eq (z := g_w 2) rfl ?_
  refine lv_iconst (v := 1) hx hb_w dL_isLabel_92 (by decide) ?_
  refine lv_iadd hx hb_w dL_isLabel_93 ?_
  refine lv_goto (tgt := 99) hx hb_w dL_isLabel_94 (by decide) ?_
  refine rdr_V (As := [.int ((volD g_w (nI i_w)) + 1), .int ((g_w 2) + 1)]) (rest := []) ⟨hx, hb_w, hml, hown, hts⟩ (kX1_find l G_w a_w cI cZ g_w f_w cd tc_w ((volD g_w (nI i_w)) + 1) ((g_w 2) + 1)) (cwV 2 hts gL_isLabel_X1_find rfl rfl rfl (by decide +kernel) ⟨Nat.le_of_ble_eq_true rfl, Nat.le_of_ble_eq_true rfl⟩) (va_recv hK_w hP (ci := 1) (q0 := 0) rfl rfl) (hP.sub [0, 1, 2, 3, 4, 5, 6] rfl) (hK_w.sub (tys' := tyIZ cI cZ) [0, 1] rfl) rfl hl.1 rfl (Nat.le_of_ble_eq_true rfl) dL_isLabel_99  ⟨Nat.le_of_ble_eq_true rfl, Nat.le_of_ble_eq_true rfl⟩ (fun r99 h99 => ?_)
  replace h99 : r99 = firstR (fdB g_w ((volD g_w (nI i_w)) + 1) ((g_w 2) + 1)) 0 200 := h99
  subst h99
  refine lv_iconst (v := (-1)) hx hb_w dL_isLabel_102 (by decide) ?_
  refine lv_icmp_ne (tgt := 110) hx hb_w dL_isLabel_103 (by decide) (fun c103 => ?_) (fun c103 => ?_)
  · exact absurd (fd_big hp c12_w _) c103
  refine lv_iconst (v := 1) hx hb_w dL_isLabel_106 (by decide) ?_
  refine lv_goto (tgt := 111) hx hb_w dL_isLabel_107 (by decide) ?_
  exact hret 1 _ _ dL_isLabel_111 rfl rfl
set_option maxHeartbeats 4000000 in
set_option maxRecDepth 100000 in
theorem kL_areForetold (l : Launch) (G_w : va_G) (a_w : Nat → Nat) (cI cZ cL : ClassId) (g_w : Nat → Int32) (f_w : Nat → Nat → Int32) (cd : Nat → Int32) (tc_w : Int32) (n0_w : Nat) (sf : Int32) (hF : AF g_w f_w n0_w sf): rdr l yL_areForetold wsL_areForetold { frames := 7, cells := 0, slots := 0, locals := 111 } G_w (wD a_w cI cZ g_w f_w cd tc_w ++ [cC (a_w 7) cI (ccG g_w)]) (tyL cI cZ cL) [.ref (a_w 0), .ref (a_w 7), .int (nI n0_w), .int sf, .int 0] (fun r_w => r_w = 1) := by
  obtain ⟨N_w, hN_w, hn1, hn2, hN2, hp, hs1, hs2, hdy, hall, hend⟩ := hF
  refine rdr_of (cc := cL_areForetold) (nL := 10) (ty := .boolean) (by decide) rfl (Nat.le_of_ble_eq_true rfl) ?_
  intro p_w e_w s_w m_w args_w below meth_w c_w H ls Q hx hb_w hml hown hts hP hK_w hret hl
  have hl : lv_has ls 10 [(0, .ref (a_w 0)), (1, .ref (a_w 7)), (2, .int (nI n0_w)), (3, .int sf), (4, .int 0)] := hl
  refine lv_aload_n hx hb_w dL_areForetold_0 rfl (lv_at hl 0 rfl) ?_
  refine rdr_V (As := []) (rest := []) ⟨hx, hb_w, hml, hown, hts⟩ (kX1_foretold l G_w a_w cI cZ g_w f_w cd tc_w) (cwV 0 hts gL_areForetold_X1_foretold rfl rfl rfl (by decide +kernel) ⟨Nat.le_of_ble_eq_true rfl, Nat.le_of_ble_eq_true rfl⟩) (va_recv hK_w hP (ci := 1) (q0 := 0) rfl rfl) (hP.sub [0, 1, 2, 3, 4, 5, 6] rfl) (hK_w.sub (tys' := tyIZ cI cZ) [0, 1] rfl) rfl hl.1 rfl (Nat.le_of_ble_eq_true rfl) dL_areForetold_1  ⟨Nat.le_of_ble_eq_true rfl, Nat.le_of_ble_eq_true rfl⟩ (fun r1_w h1 => ?_)
  replace h1 : r1_w = g_w 7 := h1
  subst h1
  refine top_eq (z := nI N_w) hN_w ?_
  refine lv_istore (lv' := [(5, .int (nI N_w)), (0, .ref (a_w 0)), (1, .ref (a_w 7)), (2, .int (nI n0_w)), (3, .int sf), (4, .int 0)]) hx hb_w dL_areForetold_4 hl (by decide) rfl (fun ls hl => ?_)
  refine lv_iload_n hx hb_w dL_areForetold_6 rfl (lv_at hl 4 rfl) ?_
  refine lv_istore (lv' := [(6, .int sf), (5, .int (nI N_w)), (0, .ref (a_w 0)), (1, .ref (a_w 7)), (2, .int (nI n0_w)), (3, .int sf), (4, .int 0)]) hx hb_w dL_areForetold_7 hl (by decide) rfl (fun ls hl => ?_)
  refine lv_iload hx hb_w dL_areForetold_9 (lv_at hl 1 rfl) ?_
  refine lv_iload_n hx hb_w dL_areForetold_11 rfl (lv_at hl 4 rfl) ?_
  refine lv_icmp_lt (tgt := 26) hx hb_w dL_areForetold_12 (by decide) (fun c12_w => ?_) (fun c12_w => ?_)
  · exact absurd (lt_nI (by omega) (by omega) c12_w) (by omega)
  refine lv_iload hx hb_w dL_areForetold_15 (lv_at hl 1 rfl) ?_
  refine lv_iload hx hb_w dL_areForetold_17 (lv_at hl 6 rfl) ?_
  refine lv_icmp_lt (tgt := 26) hx hb_w dL_areForetold_19 (by decide) (fun c19_w => ?_) (fun c19_w => ?_)
  · exact absurd c19_w (nI_pos (by omega))
  refine lv_iconst (v := 1) hx hb_w dL_areForetold_22 (by decide) ?_
  refine lv_goto (tgt := 27) hx hb_w dL_areForetold_23 (by decide) ?_
  refine lv_istore (lv' := [(7, .int 1), (6, .int sf), (5, .int (nI N_w)), (0, .ref (a_w 0)), (1, .ref (a_w 7)), (2, .int (nI n0_w)), (3, .int sf), (4, .int 0)]) hx hb_w dL_areForetold_27 hl (by decide) rfl (fun ls hl => ?_)
  refine lv_iload_n hx hb_w dL_areForetold_29 rfl (lv_at hl 5 rfl) ?_
  refine lv_istore (lv' := [(8, .int (nI n0_w)), (7, .int 1), (6, .int sf), (5, .int (nI N_w)), (0, .ref (a_w 0)), (1, .ref (a_w 7)), (2, .int (nI n0_w)), (3, .int sf), (4, .int 0)]) hx hb_w dL_areForetold_30 hl (by decide) rfl (fun ls hl => ?_)
  have loop32 : ∀ (n_w : Nat) (k_w : Nat) (x : Int32), n0_w ≤ k_w → k_w ≤ N_w → N_w - k_w < n_w → x = (if k_w = n0_w then sf else 0) → ∀ (ls : Array Slot), lv_has ls 10 [(0, .ref (a_w 0)), (1, .ref (a_w 7)), (2, .int (nI n0_w)), (3, .int sf), (4, .int 0), (5, .int (nI N_w)), (6, .int x), (7, .int 1), (8, .int (nI k_w))] → W p_w l e_w { frames := 7, cells := 0, slots := 0, locals := 111 } s_w m_w args_w below meth_w c_w H [] 0 0 Q (F0 m_w 32 ls []) := by
    intro n_w
    induction n_w with
    | zero => intro k_w x hk0 hk hn ex_w; intros; exact absurd hn (Nat.not_lt_zero _)
    | succ n_w ih32 =>
      intro k_w x hk0 hk hn ex_w ls hl
      refine lv_iload hx hb_w dL_areForetold_32 (lv_at hl 8 rfl) ?_
      refine lv_iload hx hb_w dL_areForetold_34 (lv_at hl 5 rfl) ?_
      refine lv_icmp_ge (tgt := 111) hx hb_w dL_areForetold_36 (by decide) (fun c36_w => ?_) (fun c36_w => ?_)
      · have ek : k_w = N_w := by have := le_nI (a := N_w) (b := k_w) (by omega) (by omega) c36_w; omega
        refine lv_iload hx hb_w dL_areForetold_111 (lv_at hl 7 rfl) ?_
        refine lv_if_eq (tgt := 150) hx hb_w dL_areForetold_113 (by decide) (fun c113 => ?_) (fun c113 => ?_)
        · exact absurd c113 (by decide)
        refine lv_iload hx hb_w dL_areForetold_116 (lv_at hl 5 rfl) ?_
        refine lv_sipush (v := 200) hx hb_w dL_areForetold_118 (by decide) ?_
        refine lv_icmp_eq (tgt := 146) hx hb_w dL_areForetold_121 (by decide) (fun c121 => ?_) (fun c121 => ?_)
        · refine lv_iconst (v := 1) hx hb_w dL_areForetold_146 (by decide) ?_
          refine lv_goto (tgt := 151) hx hb_w dL_areForetold_147 (by decide) ?_
          exact hret 1 _ _ dL_areForetold_151 rfl rfl
        refine lv_aload_n hx hb_w dL_areForetold_124 rfl (lv_at hl 1 rfl) ?_
        refine lv_aload_n hx hb_w dL_areForetold_125 rfl (lv_at hl 0 rfl) ?_
        refine lv_iload hx hb_w dL_areForetold_126 (lv_at hl 5 rfl) ?_
        refine lv_iconst (v := 1) hx hb_w dL_areForetold_128 (by decide) ?_
        refine lv_isub hx hb_w dL_areForetold_129 ?_
        refine top_eq (z := nI (N_w - 1)) (pk_sub (b := 1) (by omega)) ?_
        refine rdr_V (As := [.int (nI (N_w - 1))]) (rest := [.ref (a_w 7)]) ⟨hx, hb_w, hml, hown, hts⟩ (kX1_dayOf_n l G_w a_w cI cZ g_w f_w cd tc_w (N_w - 1) N_w hN_w (by omega) (by omega)) (cwV 1 hts gL_areForetold_X1_dayOf rfl rfl rfl (by decide +kernel) ⟨Nat.le_of_ble_eq_true rfl, Nat.le_of_ble_eq_true rfl⟩) (va_recv hK_w hP (ci := 1) (q0 := 0) rfl rfl) (hP.sub [0, 1, 2, 3, 4, 5, 6] rfl) (hK_w.sub (tys' := tyIZ cI cZ) [0, 1] rfl) rfl hl.1 rfl (Nat.le_of_ble_eq_true rfl) dL_areForetold_130  ⟨Nat.le_of_ble_eq_true rfl, Nat.le_of_ble_eq_true rfl⟩ (fun r130 h130 => ?_)
        replace h130 : r130 = (f_w 0) (N_w - 1) := h130
        subst h130
        refine lv_aload_n hx hb_w dL_areForetold_133 rfl (lv_at hl 0 rfl) ?_
        refine rdr_V (As := []) (rest := [.int ((f_w 0) (N_w - 1)), .ref (a_w 7)]) ⟨hx, hb_w, hml, hown, hts⟩ (kX1_shift l G_w a_w cI cZ g_w f_w cd tc_w) (cwV 0 hts gL_areForetold_X1_shift rfl rfl rfl (by decide +kernel) ⟨Nat.le_of_ble_eq_true rfl, Nat.le_of_ble_eq_true rfl⟩) (va_recv hK_w hP (ci := 1) (q0 := 0) rfl rfl) (hP.sub [0, 1, 2, 3, 4, 5, 6] rfl) (hK_w.sub (tys' := tyIZ cI cZ) [0, 1] rfl) rfl hl.1 rfl (Nat.le_of_ble_eq_true rfl) dL_areForetold_134  ⟨Nat.le_of_ble_eq_true rfl, Nat.le_of_ble_eq_true rfl⟩ (fun r134 h134 => ?_)
        replace h134 : r134 = g_w 8 := h134
        subst h134
        refine rdr_S (As := [.ref (a_w 7), .int ((f_w 0) (N_w - 1)), .int (g_w 8)]) (rest := []) ⟨hx, hb_w, hml, hown, hts⟩ (kL_next l G_w cI cZ cL (a_w 7) (ccG g_w) g_w rfl rfl ((f_w 0) (N_w - 1)) (g_w 8) hp (hdy (N_w - 1) (by omega)) hs2) (va_cwS 3 hts gL_areForetold_L_next rfl rfl rfl (by decide +kernel) ⟨Nat.le_of_ble_eq_true rfl, Nat.le_of_ble_eq_true rfl⟩) (hP.sub [7] rfl) hK_w rfl hl.1 rfl (Nat.le_of_ble_eq_true rfl) dL_areForetold_137  ⟨Nat.le_of_ble_eq_true rfl, Nat.le_of_ble_eq_true rfl⟩ (fun r137 h137 => ?_)
        replace h137 : r137 = nxL g_w ((f_w 0) (N_w - 1)) (g_w 8) := h137
        subst h137
        refine lv_aload_n hx hb_w dL_areForetold_140 rfl (lv_at hl 1 rfl) ?_
        refine lv_iconst (v := 0) hx hb_w dL_areForetold_141 (by decide) ?_
        refine arC (j := 0) (h := ccG g_w) hx hb_w hK_w hP 7 rfl rfl (by decide) (by decide) dL_areForetold_142 ?_
        refine top_eq (z := g_w 0) rfl ?_
        refine lv_icmp_le (tgt := 150) hx hb_w dL_areForetold_143 (by decide) (fun c143 => ?_) (fun c143 => ?_)
        · exact absurd (hend.resolve_left (fun q_w => c121 (by rw [q_w]; rfl))) (Int32.not_lt.mpr (by rw [nd_L, hN_w, nI_clamp (by omega)]; exact c143))
        refine lv_iconst (v := 1) hx hb_w dL_areForetold_146 (by decide) ?_
        refine lv_goto (tgt := 151) hx hb_w dL_areForetold_147 (by decide) ?_
        exact hret 1 _ _ dL_areForetold_151 rfl rfl
      have hk2 : k_w < N_w := nle_nI (by omega) (by omega) c36_w
      have hsx : SH x := by rw [ex_w]; split; exact hs1; exact SH_0
      obtain ⟨ea0, eb, ec⟩ := hall k_w hk0 hk2
      have ea : f_w 0 k_w = nxL g_w (f_w 0 (k_w - 1)) x := by rw [ex_w]; exact ea0
      refine lv_iload hx hb_w dL_areForetold_39 (lv_at hl 7 rfl) ?_
      refine lv_if_eq (tgt := 111) hx hb_w dL_areForetold_41 (by decide) (fun c41 => ?_) (fun c41 => ?_)
      · exact absurd c41 (by decide)
      refine lv_aload_n hx hb_w dL_areForetold_44 rfl (lv_at hl 1 rfl) ?_
      refine lv_aload_n hx hb_w dL_areForetold_45 rfl (lv_at hl 0 rfl) ?_
      refine lv_iload hx hb_w dL_areForetold_46 (lv_at hl 8 rfl) ?_
      refine lv_iconst (v := 1) hx hb_w dL_areForetold_48 (by decide) ?_
      refine lv_isub hx hb_w dL_areForetold_49 ?_
      refine top_eq (z := nI (k_w - 1)) (pk_sub (b := 1) (by omega)) ?_
      refine rdr_V (As := [.int (nI (k_w - 1))]) (rest := [.ref (a_w 7)]) ⟨hx, hb_w, hml, hown, hts⟩ (kX1_dayOf_n l G_w a_w cI cZ g_w f_w cd tc_w (k_w - 1) N_w hN_w (by omega) (by omega)) (cwV 1 hts gL_areForetold_X1_dayOf rfl rfl rfl (by decide +kernel) ⟨Nat.le_of_ble_eq_true rfl, Nat.le_of_ble_eq_true rfl⟩) (va_recv hK_w hP (ci := 1) (q0 := 0) rfl rfl) (hP.sub [0, 1, 2, 3, 4, 5, 6] rfl) (hK_w.sub (tys' := tyIZ cI cZ) [0, 1] rfl) rfl hl.1 rfl (Nat.le_of_ble_eq_true rfl) dL_areForetold_50  ⟨Nat.le_of_ble_eq_true rfl, Nat.le_of_ble_eq_true rfl⟩ (fun r50 h50 => ?_)
      replace h50 : r50 = (f_w 0) (k_w - 1) := h50
      subst h50
      refine lv_iload hx hb_w dL_areForetold_53 (lv_at hl 6 rfl) ?_
      refine rdr_S (As := [.ref (a_w 7), .int ((f_w 0) (k_w - 1)), .int x]) (rest := []) ⟨hx, hb_w, hml, hown, hts⟩ (kL_next l G_w cI cZ cL (a_w 7) (ccG g_w) g_w rfl rfl ((f_w 0) (k_w - 1)) x hp (hdy (k_w - 1) (by omega)) hsx) (va_cwS 3 hts gL_areForetold_L_next rfl rfl rfl (by decide +kernel) ⟨Nat.le_of_ble_eq_true rfl, Nat.le_of_ble_eq_true rfl⟩) (hP.sub [7] rfl) hK_w rfl hl.1 rfl (Nat.le_of_ble_eq_true rfl) dL_areForetold_55  ⟨Nat.le_of_ble_eq_true rfl, Nat.le_of_ble_eq_true rfl⟩ (fun r55 h55 => ?_)
      replace h55 : r55 = nxL g_w ((f_w 0) (k_w - 1)) x := h55
      subst h55
      refine lv_istore (lv' := [(9, .int (nxL g_w ((f_w 0) (k_w - 1)) x)), (0, .ref (a_w 0)), (1, .ref (a_w 7)), (2, .int (nI n0_w)), (3, .int sf), (4, .int 0), (5, .int (nI N_w)), (6, .int x), (7, .int 1), (8, .int (nI k_w))]) hx hb_w dL_areForetold_58 hl (by decide) rfl (fun ls hl => ?_)
      refine lv_aload_n hx hb_w dL_areForetold_60 rfl (lv_at hl 1 rfl) ?_
      refine lv_iload hx hb_w dL_areForetold_61 (lv_at hl 9 rfl) ?_
      refine rdr_V (As := [.int (nI k_w)]) (rest := []) ⟨hx, hb_w, hml, hown, hts⟩ (kX1_dayOf_n l G_w a_w cI cZ g_w f_w cd tc_w k_w N_w hN_w (by omega) (by omega)) (cwV 1 hts gL_areForetold_X1_dayOf rfl rfl rfl (by decide +kernel) ⟨Nat.le_of_ble_eq_true rfl, Nat.le_of_ble_eq_true rfl⟩) (va_recv hK_w hP (ci := 1) (q0 := 0) rfl rfl) (hP.sub [0, 1, 2, 3, 4, 5, 6] rfl) (hK_w.sub (tys' := tyIZ cI cZ) [0, 1] rfl) rfl hl.1 rfl (Nat.le_of_ble_eq_true rfl) dL_areForetold_63  ⟨Nat.le_of_ble_eq_true rfl, Nat.le_of_ble_eq_true rfl⟩ (fun r63 h63 => ?_)
      replace h63 : r63 = (f_w 0) k_w := h63
      subst h63
      refine lv_iload hx hb_w dL_areForetold_66 (lv_at hl 0 rfl) ?_
      refine lv_icmp_ne (tgt := 99) hx hb_w dL_areForetold_68 (by decide) (fun c68 => ?_) (fun c68 => ?_)
      · exact absurd ea c68
      refine lv_iload hx hb_w dL_areForetold_71 (lv_at hl 0 rfl) ?_
      refine lv_aload_n hx hb_w dL_areForetold_73 rfl (lv_at hl 2 rfl) ?_
      refine lv_iconst (v := 0) hx hb_w dL_areForetold_74 (by decide) ?_
      refine arC (j := 0) (h := ccG g_w) hx hb_w hK_w hP 7 rfl rfl (by decide) (by decide) dL_areForetold_75 ?_
      refine top_eq (z := g_w 0) rfl ?_
      refine lv_icmp_le (tgt := 86) hx hb_w dL_areForetold_76 (by decide) (fun c76 => ?_) (fun c76 => ?_)
      · refine lv_aload_n hx hb_w dL_areForetold_86 rfl (lv_at hl 1 rfl) ?_
        refine lv_iload hx hb_w dL_areForetold_87 (lv_at hl 9 rfl) ?_
        refine rdr_V (As := [.int (nI k_w)]) (rest := []) ⟨hx, hb_w, hml, hown, hts⟩ (kX1_claimsOf_n l G_w a_w cI cZ g_w f_w cd tc_w k_w N_w hN_w (by omega) (by omega)) (cwV 1 hts gL_areForetold_X1_claimsOf rfl rfl rfl (by decide +kernel) ⟨Nat.le_of_ble_eq_true rfl, Nat.le_of_ble_eq_true rfl⟩) (va_recv hK_w hP (ci := 1) (q0 := 0) rfl rfl) (hP.sub [0, 1, 2, 3, 4, 5, 6] rfl) (hK_w.sub (tys' := tyIZ cI cZ) [0, 1] rfl) rfl hl.1 rfl (Nat.le_of_ble_eq_true rfl) dL_areForetold_89  ⟨Nat.le_of_ble_eq_true rfl, Nat.le_of_ble_eq_true rfl⟩ (fun r89 h89 => ?_)
        replace h89 : r89 = (f_w 2) k_w := h89
        subst h89
        refine lv_if_ne (tgt := 99) hx hb_w dL_areForetold_92 (by decide) (fun c92 => ?_) (fun c92 => ?_)
        · exact absurd ec c92
        refine lv_iconst (v := 1) hx hb_w dL_areForetold_95 (by decide) ?_
        refine lv_goto (tgt := 100) hx hb_w dL_areForetold_96 (by decide) ?_
        refine lv_istore (lv' := [(7, .int 1), (9, .int (nxL g_w ((f_w 0) (k_w - 1)) x)), (0, .ref (a_w 0)), (1, .ref (a_w 7)), (2, .int (nI n0_w)), (3, .int sf), (4, .int 0), (5, .int (nI N_w)), (6, .int x), (8, .int (nI k_w))]) hx hb_w dL_areForetold_100 hl (by decide) rfl (fun ls hl => ?_)
        refine lv_iconst (v := 0) hx hb_w dL_areForetold_102 (by decide) ?_
        refine lv_istore (lv' := [(6, .int 0), (7, .int 1), (9, .int (nxL g_w ((f_w 0) (k_w - 1)) x)), (0, .ref (a_w 0)), (1, .ref (a_w 7)), (2, .int (nI n0_w)), (3, .int sf), (4, .int 0), (5, .int (nI N_w)), (8, .int (nI k_w))]) hx hb_w dL_areForetold_103 hl (by decide) rfl (fun ls hl => ?_)
        refine lv_iinc (v := nI (k_w + 1)) (lv' := [(8, .int (nI (k_w + 1))), (6, .int 0), (7, .int 1), (9, .int (nxL g_w ((f_w 0) (k_w - 1)) x)), (0, .ref (a_w 0)), (1, .ref (a_w 7)), (2, .int (nI n0_w)), (3, .int sf), (4, .int 0), (5, .int (nI N_w))]) hx hb_w dL_areForetold_105 hl (k := 9) rfl (nI_1 _) (by decide) rfl (fun ls hl => ?_)
        refine lv_goto (tgt := 32) hx hb_w dL_areForetold_108 (by decide) ?_
        exact ih32 (k_w + 1) 0 (by omega) (by omega) (by omega) (by rw [if_neg (by omega)]) _ (lv_sub hl [4, 5, 6, 7, 8, 9, 1, 2, 0] rfl)
      exact absurd (by rw [← ea]; exact eb) c76
  exact loop32 (N_w + 1) n0_w sf (by omega) (by omega) (by omega) (by rw [if_pos rfl]) _ (lv_sub hl [4, 5, 6, 7, 8, 3, 2, 1, 0] rfl)
set_option maxHeartbeats 4000000 in
set_option maxRecDepth 100000 in
theorem kL_isThere (l : Launch) (G_w : va_G) (cI cZ cL : ClassId) (ag : Nat) (gg : Nat → Int64) (k_w : Nat) (hk : k_w < 200) : rdr l yL_isThere wsL_isThere { frames := 0, cells := 0, slots := 0, locals := 0 } G_w [cG ag cL gg] (tyL cI cZ cL) [.ref ag, .int (nI k_w)] (fun r_w => r_w = bI (isT gg k_w)) := by
  refine rdr_of (cc := cL_isThere) (nL := 2) (ty := .boolean) (by decide) rfl (Nat.le_of_ble_eq_true rfl) ?_
  intro p_w e_w s_w m_w args_w below meth_w c_w H ls Q hx hb_w hml hown hts hP hK_w hret hl
  have hl : lv_has ls 2 [(0, .ref ag), (1, .int (nI k_w))] := hl
  refine lv_aload_n hx hb_w dL_isThere_0 rfl (lv_at hl 0 rfl) ?_
  refine lv_iload_n hx hb_w dL_isThere_1 rfl (lv_at hl 1 rfl) ?_
  refine lv_bipush (v := 50) hx hb_w dL_isThere_2 (by decide) ?_
  refine lv_idiv hx hb_w dL_isThere_4 (by decide) ?_
  refine top_eq (z := nI (k_w / 50)) (pk_div (d := 50) (by omega) (by decide) (by decide)) ?_
  refine va_lald hx hb_w hK_w hP 0 2 rfl rfl (vp_in_nI (show k_w / 50 < 4 by omega) (by decide)) dL_isThere_5 ?_
  rw [nI_clamp (show k_w / 50 < 2 ^ 31 by omega)]
  refine lv_iload_n hx hb_w dL_isThere_6 rfl (lv_at hl 1 rfl) ?_
  refine lv_bipush (v := 50) hx hb_w dL_isThere_7 (by decide) ?_
  refine lv_irem hx hb_w dL_isThere_9 (by decide) ?_
  refine top_eq (z := nI (k_w % 50)) (pk_rem (d := 50) (by omega) (by decide) (by decide)) ?_
  refine lv_lshr hx hb_w dL_isThere_10 rfl ?_
  refine lv_lconst (v := 1) hx hb_w dL_isThere_11 (by decide) ?_
  refine lv_land hx hb_w dL_isThere_12 ?_
  refine lv_lconst (v := 1) hx hb_w dL_isThere_13 (by decide) ?_
  refine W.lcmp hx hb_w dL_isThere_14 ?_
  have e1_w : gg (k_w / 50) >>> ((nI (k_w % 50)).toInt64 &&& 63) &&& 1 = if isT gg k_w = true then 1 else 0 := by
    rw [b6_and1, b6_shr (show k_w % 50 < 64 by omega)]; rfl
  rw [e1_w]
  refine lv_if_ne (tgt := 22) hx hb_w dL_isThere_15 (by decide) (fun c15_w => ?_) (fun c15_w => ?_)
  · have h0 : isT gg k_w = false := by
      cases z_w : isT gg k_w with
      | false => rfl
      | true => rw [z_w] at c15_w; exact absurd (by decide) c15_w
    refine lv_iconst (v := 0) hx hb_w dL_isThere_22 (by decide) ?_
    exact hret 0 _ _ dL_isThere_23 rfl (by rw [h0]; rfl)
  · have h0 : isT gg k_w = true := by
      cases z_w : isT gg k_w with
      | true => rfl
      | false => rw [z_w] at c15_w; exact absurd c15_w (by decide)
    refine lv_iconst (v := 1) hx hb_w dL_isThere_18 (by decide) ?_
    refine lv_goto (tgt := 23) hx hb_w dL_isThere_19 (by decide) ?_
    exact hret 1 _ _ dL_isThere_23 rfl (by rw [h0]; rfl)
