set_option maxHeartbeats 8000000 in
set_option maxRecDepth 100000 in
theorem kL_desk (l : Launch) (hst : l.stackTraces = false) (G_w : va_G) (b_w L_w : Nat) (xs : Nat → Int32) (hL : L_w ≤ 260) (at0_w : Nat) (hat : at0_w ≤ 400) (sz_w : Nat) : Met l yL_desk wsL_desk { frames := 11, cells := 200, slots := 9000, locals := 223 } (va_Pc [.ref b_w, .int (nI at0_w)] (fun U_w => U_w.heap.size = sz_w ∧ va_X b_w L_w xs U_w U_w.heap ∧ b_w < U_w.heap.size ∧ va_K G_w vwCl [] U_w ∧ thr (lA sz_w) U_w)) (va_Qi (fun (r_w : Int32) (_ : Unit) => r_w = 1) (fun _ _ => True) (lA sz_w)) 200 9000 (lA sz_w) := by
  refine Met.ofW (cc := cL_desk) (maxL := 10) (ret := some .boolean) (show plainName RL = true by decide) rfl ?_
  intro p_w e_w s_w m_w args_w below meth_w c_w s₁ B_w hml hv
  obtain ⟨rfl, rfl, hX, hbl, hK0, ht⟩ := hv
  have hl := lv_entry [.ref b_w, .int (nI at0_w)] (n := 10) (Nat.le_of_ble_eq_true rfl)
  rw [lg_entry_eq]
  generalize (lg_sl [.ref b_w, .int (nI at0_w)] ++ List.replicate (10 - (lg_sl [.ref b_w, .int (nI at0_w)]).length) Slot.unset).toArray = ls at hl ⊢
  have hl : lv_has ls 10 [(0, .ref b_w), (1, .int (nI at0_w))] := hl
  have hx := B_w.exec
  have hb_w := B_w.bytes
  have hown : s_w.vm.findClass RL = some m_w.cls := findClass_of_methodNamed B_w.named
  have hts := atoms_spec (ws := wsL_desk) B_w.pre
  have hA : ∀ q_w : Nat, s_w.heap.size ≤ q_w → lA s_w.heap.size q_w := fun _ h_w => h_w
  have hbA : ¬ lA s_w.heap.size b_w := Nat.not_le.mpr hbl
  have hinX1 : ∀ w_w ∈ wsX10, w_w ∈ wsL_desk := by decide +kernel
  have hS_w : va_S (lA s_w.heap.size) s_w.heap s_w.heap [] := va_S.rf
  have hP0 : va_P G_w vwCl [] s_w.heap := fun k_w q_w h_w => by simp at h_w
  have hD0 : va_D (lA s_w.heap.size) [] := ⟨fun i_w j_w p_w q_w h_w => by simp at h_w, fun k_w q_w h_w => by simp at h_w⟩
  refine va_new (D := G_w) (ci := 1) (fs := [.null, .int 0, .int 0, .int 0, .int 0, .int 0, .null, .null, .null, .null, .int 0, .int 0, .int 0, .null, .int 0]) (C := RX1) (T := TX1) (N := 15) hx hb_w hts hinX1 tyX1 tyX1_ok hown (hts _ (List.mem_of_getElem? (i := 1) rfl)) (hts _ (List.mem_of_getElem? (i := 2) rfl)) (hts _ (List.mem_of_getElem? (i := 3) rfl)) hK0 hP0 hD0 hS_w hA rfl (fun j_w hj => by rcases (show j_w = 0 ∨ j_w = 1 ∨ j_w = 2 ∨ j_w = 3 ∨ j_w = 4 ∨ j_w = 5 ∨ j_w = 6 ∨ j_w = 7 ∨ j_w = 8 ∨ j_w = 9 ∨ j_w = 10 ∨ j_w = 11 ∨ j_w = 12 ∨ j_w = 13 ∨ j_w = 14 by omega) with rfl | rfl | rfl | rfl | rfl | rfl | rfl | rfl | rfl | rfl | rfl | rfl | rfl | rfl | rfl <;> rfl) (Nat.le_of_ble_eq_true rfl) (Nat.le_of_ble_eq_true rfl) dL_desk_0 (fun q0 H hP hD hS_w => ?_)
  have hP : va_P G_w vwCl [(q0, .inr (1, [.null, .int 0, .int 0, .int 0, .int 0, .int 0, .null, .null, .null, .null, .int 0, .int 0, .int 0, .null, .int 0]))] H := hP
  refine W.widen (k := 1) (n := 15) (by omega) (by omega) ?_
  refine lv_dup hx hb_w dL_desk_3 rfl ?_
  have hF : ∀ q_w : Nat, a1S q0 H.size q_w → lA s_w.heap.size q_w := fun q_w h_w => h_w.elim (fun ⟨_, _, e1_w⟩ => by rw [e1_w]; exact hD.2 0 _ rfl) (fun h_w => Nat.le_trans hS_w.1 h_w)
  refine va_callv (va_runI (As := []) (rest := [.ref q0]) ⟨hx, hb_w, hml, hown, hts⟩ (kX1_init l G_w q0 H.size) (cwI 0 hts gL_desk_X1_init rfl rfl rfl (hts _ (List.mem_of_getElem? (i := 3) rfl)) (hts _ (List.mem_of_getElem? (i := 7) rfl)) (hts _ (List.mem_of_getElem? (i := 8) rfl)) rfl (by decide +kernel) ⟨Nat.le_of_ble_eq_true rfl, Nat.le_of_ble_eq_true rfl⟩) ⟨fun a_w U_w g_w mk_w q_w => ⟨q_w.1, q_w.2.1, q_w.2.2.1, va_K.moved (u := U_w) (U := U_w.calling g_w mk_w a_w) (Vm.Alike.refl U_w.vm) q_w.2.2.2⟩, fun U_w hU hW => ⟨rfl, by rw [hU], by rw [hU]; exact hP, va_K.moved hW.alike hK0⟩⟩ rfl rfl hl.1 rfl (lv_room (Nat.le_of_ble_eq_true rfl)) dL_desk_4 ⟨Nat.le_of_ble_eq_true rfl, Nat.le_of_ble_eq_true rfl⟩) hS_w (fun q_w _ h_w => hF q_w h_w) hF (fun u_w t_w H1_w locs_w ht1 hvm hw hB_w hz1 hk1 hS_w => ?_)
  obtain ⟨a7, cI, cZ⟩ := u_w
  obtain ⟨ha0, hap, hin⟩ := hw
  have hPD : va_P G_w vwCl (wD a7 cI cZ g0 f0 (fun _ => 0) 0) H1_w := by rw [← ht1]; exact hB_w.1
  have hKD : va_K G_w vwCl (tyIZ cI cZ) s_w := va_K.moved hvm.symm hB_w.2
  have hap : apart a7 7 := hap
  have hge : ∀ i_w, i_w < 7 → s_w.heap.size ≤ a7 i_w := fun i_w hi_w => hF _ (hin i_w hi_w)
  have ha0 : a7 0 = q0 := ha0
  subst ha0
  refine W.widen (k := 7) (n := 1019) (by omega) (by omega) ?_
  refine lv_astore_n (lv' := [(2, .ref (a7 0)), (0, .ref b_w), (1, .int (nI at0_w))]) hx hb_w dL_desk_7 rfl hl (by decide) rfl (fun ls hl => ?_)
  have hDD : va_D (lA s_w.heap.size) (wD a7 cI cZ g0 f0 (fun _ => 0) 0) := ⟨(wD_D hap 0).1, fun k_w q_w hq => by
    show s_w.heap.size ≤ q_w.1
    rw [(wD_at k_w q_w hq).2]; exact hge k_w (wD_at k_w q_w hq).1⟩
  clear hP hD hF hin hB_w hz1 hk1
  refine lv_bipush (v := 10) hx hb_w dL_desk_8 (by decide) ?_
  refine va_newa (D := G_w) (atype := .int) (ty := .int) (a0 := (10, .inl (fun _ => 0))) (N' := 10) hx hb_w (hts _ (List.mem_of_getElem? (i := 4) rfl)) rfl hKD hPD hDD hS_w hA (fun _ => rfl) (by decide) (by decide) (by decide) (Nat.le_of_ble_eq_true rfl) (Nat.le_of_ble_eq_true rfl) dL_desk_10 (fun q1_w cx H hK_w hP hD hS_w => ?_)
  obtain rfl : cI = cx := ty_int hK_w 0 2 rfl rfl
  have hK_w := hK_w.sub (tys' := tyIZ cI cZ) [0, 1] rfl
  refine lv_astore_n (lv' := [(3, .ref q1_w), (2, .ref (a7 0)), (0, .ref b_w), (1, .int (nI at0_w))]) hx hb_w dL_desk_12 rfl hl (by decide) rfl (fun ls hl => ?_)
  refine lv_bipush (v := 60) hx hb_w dL_desk_13 (by decide) ?_
  refine va_newa (D := G_w) (atype := .int) (ty := .int) (a0 := (60, .inl (fun _ => 0))) (N' := 60) hx hb_w (hts _ (List.mem_of_getElem? (i := 4) rfl)) rfl hK_w hP hD hS_w hA (fun _ => rfl) (by decide) (by decide) (by decide) (Nat.le_of_ble_eq_true rfl) (Nat.le_of_ble_eq_true rfl) dL_desk_15 (fun q2_w cx H hK_w hP hD hS_w => ?_)
  obtain rfl : cI = cx := ty_int hK_w 0 2 rfl rfl
  have hK_w := hK_w.sub (tys' := tyIZ cI cZ) [0, 1] rfl
  refine lv_astore (lv' := [(4, .ref q2_w), (3, .ref q1_w), (2, .ref (a7 0)), (0, .ref b_w), (1, .int (nI at0_w))]) hx hb_w dL_desk_17 hl (by decide) rfl (fun ls hl => ?_)
  refine lv_iconst (v := 4) hx hb_w dL_desk_19 (by decide) ?_
  refine va_newa (D := G_w) (atype := .long) (ty := .long) (a0 := (4, .inr (.inl (fun _ => 0)))) (N' := 4) hx hb_w (hts _ (List.mem_of_getElem? (i := 5) rfl)) rfl hK_w hP hD hS_w hA (fun _ => rfl) (by decide) (by decide) (by decide) (Nat.le_of_ble_eq_true rfl) (Nat.le_of_ble_eq_true rfl) dL_desk_20 (fun q3_w cL H hK_w hP hD hS_w => ?_)
  have hK_w : va_K G_w vwCl (tyL cI cZ cL) s_w := hK_w
  refine lv_astore (lv' := [(5, .ref q3_w), (4, .ref q2_w), (3, .ref q1_w), (2, .ref (a7 0)), (0, .ref b_w), (1, .int (nI at0_w))]) hx hb_w dL_desk_22 hl (by decide) rfl (fun ls hl => ?_)
  obtain ⟨a_w, ea⟩ : ∃ a_w, a_w = a10 a7 q1_w q2_w q3_w := ⟨_, rfl⟩
  have hP : va_P G_w vwCl (wD a_w cI cZ g0 f0 (fun _ => 0) 0 ++ [cC (a_w 7) cI (fun _ => 0), cT (a_w 8) cI (fun _ => 0), cG (a_w 9) cL (fun _ => 0)]) H := by rw [ea]; exact hP
  have hD : va_D (lA s_w.heap.size) (wfD a_w cI cZ (g0, f0, (fun _ => 0), 0) ++ [cC (a_w 7) cI (fun _ => 0), cT (a_w 8) cI (fun _ => 0), cG (a_w 9) cL (fun _ => 0)]) := by rw [ea]; exact hD
  have hl : lv_has ls 10 [(5, .ref (a_w 9)), (4, .ref (a_w 8)), (3, .ref (a_w 7)), (2, .ref (a_w 0)), (0, .ref b_w), (1, .int (nI at0_w))] := by rw [ea]; exact hl
  obtain ⟨hap, hgA⟩ := wL_ap hD
  have hDD := DD_10A hap hgA
  have hB0 : ∀ (H : Heap) {locs_w : List Loc}, va_S (lA s_w.heap.size) s_w.heap H locs_w → ∀ q_w, aS a_w 10 H.size q_w → lA s_w.heap.size q_w := fun H locs_w hS_w q_w h_w => h_w.elim (fun ⟨i_w, hi_w, e1_w⟩ => by rw [e1_w]; exact hgA i_w hi_w) (fun h_w => Nat.le_trans hS_w.1 h_w)
  have hret : ∀ (pc : Nat) (ls : Array Slot) (H : Heap) (locs_w : List Loc) (k1_w k2_w : Nat), k1_w ≤ 200 → k2_w ≤ 9000 → va_S (lA s_w.heap.size) s_w.heap H locs_w → decode cL_desk pc = .ok (.ireturn, 1) → W p_w l e_w { frames := 11, cells := 200, slots := 9000, locals := 223 } s_w m_w [Value.ref b_w, Value.int (nI at0_w)].toArray below meth_w c_w H locs_w k1_w k2_w (MQ below (va_Qi (fun (r_w : Int32) (_ : Unit) => r_w = 1) (fun _ _ => True) (lA s_w.heap.size)) [Value.ref b_w, Value.int (nI at0_w)].toArray s_w 200 9000 (lA s_w.heap.size)) (F0 m_w pc ls [.int 1]) := fun pc ls H locs_w k1_w k2_w h1 h2 hS_w hdg => W.widen h1 h2 (W.zret hx hb_w B_w.returns (rfl : narrow .boolean (.int 1) = .int 1) (fun t_w ht9 _ => ⟨⟨1, (), rfl, rfl, trivial⟩, hS_w.F ht9⟩) hS_w.2.2 hdg B_w.notSynchronized)
  refine lv_aload_n hx hb_w dL_desk_24 rfl (lv_at hl 2 rfl) ?_
  refine lv_iconst (v := 1) hx hb_w dL_desk_25 (by decide) ?_
  refine lv_bipush (v := 30) hx hb_w dL_desk_26 (by decide) ?_
  refine asC (j := 1) (h := (fun _ => 0)) (v := 30) (wD a_w cI cZ g0 f0 (fun _ => 0) 0 ++ [cC (a_w 7) cI (upd (fun _ => 0) 1 30), cT (a_w 8) cI (fun _ => 0), cG (a_w 9) cL (fun _ => 0)]) hx hb_w hK_w hP (DD_D (ws := (wD a_w cI cZ g0 f0 (fun _ => 0) 0 ++ [cC (a_w 7) cI (fun _ => 0), cT (a_w 8) cI (fun _ => 0), cG (a_w 9) cL (fun _ => 0)])) hDD) hS_w 7 rfl rfl (by decide) (by decide) rfl dL_desk_28 (fun H locs_w hP hS_w => ?_)
  refine lv_aload_n hx hb_w dL_desk_29 rfl (lv_at hl 2 rfl) ?_
  refine lv_iconst (v := 2) hx hb_w dL_desk_30 (by decide) ?_
  refine lv_bipush (v := 12) hx hb_w dL_desk_31 (by decide) ?_
  refine asC (j := 2) (h := (upd (fun _ => 0) 1 30)) (v := 12) (wD a_w cI cZ g0 f0 (fun _ => 0) 0 ++ [cC (a_w 7) cI (upd (upd (fun _ => 0) 1 30) 2 12), cT (a_w 8) cI (fun _ => 0), cG (a_w 9) cL (fun _ => 0)]) hx hb_w hK_w hP (DD_D (ws := (wD a_w cI cZ g0 f0 (fun _ => 0) 0 ++ [cC (a_w 7) cI (upd (fun _ => 0) 1 30), cT (a_w 8) cI (fun _ => 0), cG (a_w 9) cL (fun _ => 0)])) hDD) hS_w 7 rfl rfl (by decide) (by decide) rfl dL_desk_33 (fun H locs_w hP hS_w => ?_)
  refine lv_aload_n hx hb_w dL_desk_34 rfl (lv_at hl 2 rfl) ?_
  refine lv_iconst (v := 3) hx hb_w dL_desk_35 (by decide) ?_
  refine lv_iconst (v := 1) hx hb_w dL_desk_36 (by decide) ?_
  refine asC (j := 3) (h := (upd (upd (fun _ => 0) 1 30) 2 12)) (v := 1) (wD a_w cI cZ g0 f0 (fun _ => 0) 0 ++ [cC (a_w 7) cI (upd (upd (upd (fun _ => 0) 1 30) 2 12) 3 1), cT (a_w 8) cI (fun _ => 0), cG (a_w 9) cL (fun _ => 0)]) hx hb_w hK_w hP (DD_D (ws := (wD a_w cI cZ g0 f0 (fun _ => 0) 0 ++ [cC (a_w 7) cI (upd (upd (fun _ => 0) 1 30) 2 12), cT (a_w 8) cI (fun _ => 0), cG (a_w 9) cL (fun _ => 0)])) hDD) hS_w 7 rfl rfl (by decide) (by decide) rfl dL_desk_37 (fun H locs_w hP hS_w => ?_)
  refine lv_aload_n hx hb_w dL_desk_38 rfl (lv_at hl 2 rfl) ?_
  refine lv_iconst (v := 5) hx hb_w dL_desk_39 (by decide) ?_
  refine lv_bipush (v := 7) hx hb_w dL_desk_40 (by decide) ?_
  refine asC (j := 5) (h := (upd (upd (upd (fun _ => 0) 1 30) 2 12) 3 1)) (v := 7) (wD a_w cI cZ g0 f0 (fun _ => 0) 0 ++ [cC (a_w 7) cI (upd (upd (upd (upd (fun _ => 0) 1 30) 2 12) 3 1) 5 7), cT (a_w 8) cI (fun _ => 0), cG (a_w 9) cL (fun _ => 0)]) hx hb_w hK_w hP (DD_D (ws := (wD a_w cI cZ g0 f0 (fun _ => 0) 0 ++ [cC (a_w 7) cI (upd (upd (upd (fun _ => 0) 1 30) 2 12) 3 1), cT (a_w 8) cI (fun _ => 0), cG (a_w 9) cL (fun _ => 0)])) hDD) hS_w 7 rfl rfl (by decide) (by decide) rfl dL_desk_42 (fun H locs_w hP hS_w => ?_)
  refine lv_aload_n hx hb_w dL_desk_43 rfl (lv_at hl 2 rfl) ?_
  refine lv_bipush (v := 6) hx hb_w dL_desk_44 (by decide) ?_
  refine lv_bipush (v := 30) hx hb_w dL_desk_46 (by decide) ?_
  refine asC (j := 6) (h := (upd (upd (upd (upd (fun _ => 0) 1 30) 2 12) 3 1) 5 7)) (v := 30) (wD a_w cI cZ g0 f0 (fun _ => 0) 0 ++ [cC (a_w 7) cI (upd (upd (upd (upd (upd (fun _ => 0) 1 30) 2 12) 3 1) 5 7) 6 30), cT (a_w 8) cI (fun _ => 0), cG (a_w 9) cL (fun _ => 0)]) hx hb_w hK_w hP (DD_D (ws := (wD a_w cI cZ g0 f0 (fun _ => 0) 0 ++ [cC (a_w 7) cI (upd (upd (upd (upd (fun _ => 0) 1 30) 2 12) 3 1) 5 7), cT (a_w 8) cI (fun _ => 0), cG (a_w 9) cL (fun _ => 0)])) hDD) hS_w 7 rfl rfl (by decide) (by decide) rfl dL_desk_48 (fun H locs_w hP hS_w => ?_)
  refine lv_aload_n hx hb_w dL_desk_49 rfl (lv_at hl 2 rfl) ?_
  refine lv_bipush (v := 7) hx hb_w dL_desk_50 (by decide) ?_
  refine lv_iconst (v := (-1)) hx hb_w dL_desk_52 (by decide) ?_
  refine asC (j := 7) (h := (upd (upd (upd (upd (upd (fun _ => 0) 1 30) 2 12) 3 1) 5 7) 6 30)) (v := (-1)) (wD a_w cI cZ g0 f0 (fun _ => 0) 0 ++ [cC (a_w 7) cI (upd (upd (upd (upd (upd (upd (fun _ => 0) 1 30) 2 12) 3 1) 5 7) 6 30) 7 (-1)), cT (a_w 8) cI (fun _ => 0), cG (a_w 9) cL (fun _ => 0)]) hx hb_w hK_w hP (DD_D (ws := (wD a_w cI cZ g0 f0 (fun _ => 0) 0 ++ [cC (a_w 7) cI (upd (upd (upd (upd (upd (fun _ => 0) 1 30) 2 12) 3 1) 5 7) 6 30), cT (a_w 8) cI (fun _ => 0), cG (a_w 9) cL (fun _ => 0)])) hDD) hS_w 7 rfl rfl (by decide) (by decide) rfl dL_desk_53 (fun H locs_w hP hS_w => ?_)
  rw [cc_0] at hP
  refine lv_aload_n hx hb_w dL_desk_54 rfl (lv_at hl 3 rfl) ?_
  refine rdr_V (As := []) (rest := []) ⟨hx, hb_w, hml, hown, hts⟩ (kX1_foretold l G_w a_w cI cZ g0 f0 (fun _ => 0) 0) (cwV 0 hts gL_desk_X1_foretold rfl rfl rfl (by decide +kernel) ⟨Nat.le_of_ble_eq_true rfl, Nat.le_of_ble_eq_true rfl⟩) (va_recv hK_w hP (ci := 1) (q0 := 0) rfl rfl) (hP.sub [0, 1, 2, 3, 4, 5, 6] rfl) (hK_w.sub (tys' := tyIZ cI cZ) [0, 1] rfl) rfl hl.1 rfl (Nat.le_of_ble_eq_true rfl) dL_desk_55  ⟨show 10 ≤ 200 by omega, show 1093 ≤ 9000 by omega⟩ (fun r55 h55 => ?_)
  replace h55 : r55 = g0 7 := h55
  subst h55
  refine top_eq (z := 1) rfl ?_
  refine lv_iconst (v := 1) hx hb_w dL_desk_58 (by decide) ?_
  refine lv_icmp_ne (tgt := 66) hx hb_w dL_desk_59 (by decide) (fun c59 => ?_) (fun c59 => ?_)
  · exact absurd rfl c59
  refine lv_iconst (v := 1) hx hb_w dL_desk_62 (by decide) ?_
  refine lv_goto (tgt := 67) hx hb_w dL_desk_63 (by decide) ?_
  refine lv_istore (lv' := [(6, .int 1), (5, .ref (a_w 9)), (4, .ref (a_w 8)), (3, .ref (a_w 7)), (2, .ref (a_w 0)), (0, .ref b_w), (1, .int (nI at0_w))]) hx hb_w dL_desk_67 hl (by decide) rfl (fun ls hl => ?_)
  refine lv_iconst (v := 0) hx hb_w dL_desk_69 (by decide) ?_
  refine lv_istore (lv' := [(7, .int 0), (6, .int 1), (5, .ref (a_w 9)), (4, .ref (a_w 8)), (3, .ref (a_w 7)), (2, .ref (a_w 0)), (0, .ref b_w), (1, .int (nI at0_w))]) hx hb_w dL_desk_70 hl (by decide) rfl (fun ls hl => ?_)
  have loop72 : ∀ (n9 : Nat) (k_w : Nat) (x : SD) (tt : Nat → Int32) (gg : Nat → Int64), k_w ≤ 60 → 60 - k_w < n9 → LWs k_w x tt gg → ∀ (H : Heap) (locs_w : List Loc), va_P G_w vwCl (wD a_w cI cZ x.1 x.2.1 x.2.2.1 x.2.2.2 ++ [cC (a_w 7) cI (ccG x.1), cT (a_w 8) cI tt, cG (a_w 9) cL gg]) H → va_S (lA s_w.heap.size) s_w.heap H locs_w → ∀ (ls : Array Slot), lv_has ls 10 [(0, .ref b_w), (1, .int (nI at0_w)), (2, .ref (a_w 0)), (3, .ref (a_w 7)), (4, .ref (a_w 8)), (5, .ref (a_w 9)), (6, .int 1), (7, .int (nI k_w))] → W p_w l e_w { frames := 11, cells := 200, slots := 9000, locals := 223 } s_w m_w [Value.ref b_w, Value.int (nI at0_w)].toArray below meth_w c_w H locs_w (10 + 3 * k_w) (1093 + 126 * k_w) (MQ below (va_Qi (fun (r_w : Int32) (_ : Unit) => r_w = 1) (fun _ _ => True) (lA s_w.heap.size)) [Value.ref b_w, Value.int (nI at0_w)].toArray s_w 200 9000 (lA s_w.heap.size)) (F0 m_w 72 ls []) := by
    intro n9
    induction n9 with
    | zero => intro k_w x tt gg hk hn9 hW; intros; exact absurd hn9 (Nat.not_lt_zero _)
    | succ n9 ih72 =>
      intro k_w x tt gg hk hn9 hW H locs_w hP hS_w ls hl
      refine lv_iload hx hb_w dL_desk_72 (lv_at hl 7 rfl) ?_
      refine lv_bipush (v := 60) hx hb_w dL_desk_74 (by decide) ?_
      refine lv_icmp_ge (tgt := 199) hx hb_w dL_desk_76 (by decide) (fun c76 => ?_) (fun c76 => ?_)
      · refine lv_iload hx hb_w dL_desk_199 (lv_at hl 6 rfl) ?_
        exact hret _ _ _ _ _ _ (by omega) (by omega) hS_w dL_desk_201
      have hk60 : k_w < 60 := nle_nI (a := 60) (by omega) (by omega) c76
      refine lv_iload hx hb_w dL_desk_79 (lv_at hl 6 rfl) ?_
      refine lv_if_eq (tgt := 199) hx hb_w dL_desk_81 (by decide) (fun c81 => ?_) (fun c81 => ?_)
      · exact absurd c81 (by decide)
      refine lv_aload_n hx hb_w dL_desk_84 rfl (lv_at hl 0 rfl) ?_
      refine lv_iload_n hx hb_w dL_desk_85 rfl (lv_at hl 1 rfl) ?_
      refine lv_iconst (v := 3) hx hb_w dL_desk_86 (by decide) ?_
      refine lv_iload hx hb_w dL_desk_87 (lv_at hl 7 rfl) ?_
      refine lv_imul hx hb_w dL_desk_89 ?_
      refine top_eq (z := nI (3 * k_w)) (i_mul k_w) ?_
      refine lv_iadd hx hb_w dL_desk_90 ?_
      refine top_eq (z := nI (at0_w + 3 * k_w)) (nI_add _ _) ?_
      refine lv_iconst (v := 1) hx hb_w dL_desk_91 (by decide) ?_
      refine lv_iadd hx hb_w dL_desk_92 ?_
      refine top_eq (z := nI (at0_w + 3 * k_w + 1)) (nI_1 _) ?_
      refine lv_ldc (own := RL) (index := 123) (v := (1073741824)) hx hb_w hown (hts _ (List.mem_of_getElem? (i := 6) rfl)) dL_desk_93 ?_
      refine top_eq (z := nI 1073741824) rfl ?_
      refine draw_S (k := (at0_w + 3 * k_w + 1)) (m0 := 1073741824) (rest := []) hL (by omega) (by decide) (by decide) ⟨hx, hb_w, hml, hown, hts⟩ (va_cwS 3 hts gL_desk_L_draw rfl rfl rfl (by decide +kernel) ⟨Nat.le_of_ble_eq_true rfl, Nat.le_of_ble_eq_true rfl⟩) hX hbl hbA hS_w hl.1 rfl (Nat.le_of_ble_eq_true rfl) dL_desk_95 ⟨show (10 + 3 * k_w) ≤ 200 by omega, show (1093 + 126 * k_w) ≤ 9000 by omega⟩ (fun X_w hdX => ?_)
      refine lv_istore (lv' := [(8, .int (nI X_w)), (0, .ref b_w), (1, .int (nI at0_w)), (2, .ref (a_w 0)), (3, .ref (a_w 7)), (4, .ref (a_w 8)), (5, .ref (a_w 9)), (6, .int 1), (7, .int (nI k_w))]) hx hb_w dL_desk_98 hl (by decide) rfl (fun ls hl => ?_)
      refine lv_aload_n hx hb_w dL_desk_100 rfl (lv_at hl 1 rfl) ?_
      refine lv_iload_n hx hb_w dL_desk_101 rfl (lv_at hl 2 rfl) ?_
      refine lv_iconst (v := 3) hx hb_w dL_desk_102 (by decide) ?_
      refine lv_iload hx hb_w dL_desk_103 (lv_at hl 8 rfl) ?_
      refine lv_imul hx hb_w dL_desk_105 ?_
      refine top_eq (z := nI (3 * k_w)) (i_mul k_w) ?_
      refine lv_iadd hx hb_w dL_desk_106 ?_
      refine top_eq (z := nI (at0_w + 3 * k_w)) (nI_add _ _) ?_
      refine lv_iconst (v := 2) hx hb_w dL_desk_107 (by decide) ?_
      refine lv_iadd hx hb_w dL_desk_108 ?_
      refine top_eq (z := nI (at0_w + 3 * k_w + 2)) (nI_add _ 2) ?_
      refine lv_ldc (own := RL) (index := 123) (v := (1073741824)) hx hb_w hown (hts _ (List.mem_of_getElem? (i := 6) rfl)) dL_desk_109 ?_
      refine top_eq (z := nI 1073741824) rfl ?_
      refine draw_S (k := (at0_w + 3 * k_w + 2)) (m0 := 1073741824) (rest := []) hL (by omega) (by decide) (by decide) ⟨hx, hb_w, hml, hown, hts⟩ (va_cwS 3 hts gL_desk_L_draw rfl rfl rfl (by decide +kernel) ⟨Nat.le_of_ble_eq_true rfl, Nat.le_of_ble_eq_true rfl⟩) hX hbl hbA hS_w hl.1 rfl (Nat.le_of_ble_eq_true rfl) dL_desk_111 ⟨show (10 + 3 * k_w) ≤ 200 by omega, show (1093 + 126 * k_w) ≤ 9000 by omega⟩ (fun Y hdY => ?_)
      refine lv_istore (lv' := [(9, .int (nI Y)), (8, .int (nI X_w)), (0, .ref b_w), (1, .int (nI at0_w)), (2, .ref (a_w 0)), (3, .ref (a_w 7)), (4, .ref (a_w 8)), (5, .ref (a_w 9)), (6, .int 1), (7, .int (nI k_w))]) hx hb_w dL_desk_114 hl (by decide) rfl (fun ls hl => ?_)
      refine lv_aload_n hx hb_w dL_desk_116 rfl (lv_at hl 4 rfl) ?_
      refine lv_aload_n hx hb_w dL_desk_117 rfl (lv_at hl 2 rfl) ?_
      refine lv_iload_n hx hb_w dL_desk_118 rfl (lv_at hl 3 rfl) ?_
      refine lv_iconst (v := 3) hx hb_w dL_desk_119 (by decide) ?_
      refine lv_iload hx hb_w dL_desk_120 (lv_at hl 9 rfl) ?_
      refine lv_imul hx hb_w dL_desk_122 ?_
      refine top_eq (z := nI (3 * k_w)) (i_mul k_w) ?_
      refine lv_iadd hx hb_w dL_desk_123 ?_
      refine top_eq (z := nI (at0_w + 3 * k_w)) (nI_add _ _) ?_
      refine lv_bipush (v := 20) hx hb_w dL_desk_124 (by decide) ?_
      refine top_eq (z := nI 20) rfl ?_
      refine draw_S (k := (at0_w + 3 * k_w)) (m0 := 20) (rest := [.ref (a_w 0)]) hL (by omega) (by decide) (by decide) ⟨hx, hb_w, hml, hown, hts⟩ (va_cwS 3 hts gL_desk_L_draw rfl rfl rfl (by decide +kernel) ⟨Nat.le_of_ble_eq_true rfl, Nat.le_of_ble_eq_true rfl⟩) hX hbl hbA hS_w hl.1 rfl (Nat.le_of_ble_eq_true rfl) dL_desk_126 ⟨show (10 + 3 * k_w) ≤ 200 by omega, show (1093 + 126 * k_w) ≤ 9000 by omega⟩ (fun V hdV_w => ?_)
      refine lv_iload hx hb_w dL_desk_129 (lv_at hl 1 rfl) ?_
      refine lv_iload hx hb_w dL_desk_131 (lv_at hl 0 rfl) ?_
      refine lv_aload_n hx hb_w dL_desk_133 rfl (lv_at hl 5 rfl) ?_
      refine lv_aload hx hb_w dL_desk_134 (lv_at hl 6 rfl) ?_
      refine lv_aload hx hb_w dL_desk_136 (lv_at hl 7 rfl) ?_
      refine lW_i (As := [.ref (a_w 0), .int (nI V), .int (nI X_w), .int (nI Y), .ref (a_w 7), .ref (a_w 8), .ref (a_w 9)]) (rest := []) ⟨hx, hb_w, hml, hown, hts⟩ (kL_step l hst G_w a_w cI cZ cL x.1 x.2.1 x.2.2.1 x.2.2.2 hap H.size tt gg k_w V X_w Y (by omega) (by omega) (by omega) hW) (va_cwS 7 hts gL_desk_L_step rfl rfl rfl (by decide +kernel) ⟨Nat.le_of_ble_eq_true rfl, Nat.le_of_ble_eq_true rfl⟩) (fun q_w h_w => hB0 H hS_w q_w h_w) hP hK_w ht hS_w rfl hl.1 rfl (Nat.le_of_ble_eq_true rfl) dL_desk_138  ⟨show (10 + 3 * k_w) + 2 ≤ 200 by omega, show (1093 + 126 * k_w) + 120 ≤ 9000 by omega⟩ (fun r138 u138 H locs_w h138 hP _ hS_w => ?_)
      obtain ⟨h138, hW2⟩ := h138
      subst h138
      obtain ⟨N_w, hN_w, hN1, hN2, -, -⟩ := hW2.2.2.1
      have hP : va_P G_w vwCl (wD a_w cI cZ u138.1.1 u138.1.2.1 u138.1.2.2.1 u138.1.2.2.2 ++ [cC (a_w 7) cI (ccG u138.1.1), cT (a_w 8) cI u138.2.1, cG (a_w 9) cL u138.2.2]) H := hP
      refine lv_if_eq (tgt := 190) hx hb_w dL_desk_141 (by decide) (fun c141 => ?_) (fun c141 => ?_)
      · exact absurd c141 (by decide)
      refine lv_aload_n hx hb_w dL_desk_144 rfl (lv_at hl 4 rfl) ?_
      refine lv_aload_n hx hb_w dL_desk_145 rfl (lv_at hl 5 rfl) ?_
      refine rdr_S (As := [.ref (a_w 0), .ref (a_w 7)]) (rest := []) ⟨hx, hb_w, hml, hown, hts⟩ (kL_isDesk l G_w a_w cI cZ cL u138.1.1 u138.1.2.1 u138.1.2.2.1 u138.1.2.2.2 (LW_DK (g := u138.1.1) (f := u138.1.2.1) (cd := u138.1.2.2.1) (tc := u138.1.2.2.2) hW2)) (va_cwS 2 hts gL_desk_L_isDesk rfl rfl rfl (by decide +kernel) ⟨Nat.le_of_ble_eq_true rfl, Nat.le_of_ble_eq_true rfl⟩) (hP.sub [0, 1, 2, 3, 4, 5, 6, 7] rfl) hK_w rfl hl.1 rfl (Nat.le_of_ble_eq_true rfl) dL_desk_146  ⟨show (10 + 3 * k_w) + 2 ≤ 200 by omega, show (1093 + 126 * k_w) + 120 ≤ 9000 by omega⟩ (fun r146 h146 => ?_)
      replace h146 : r146 = 1 := h146
      subst h146
      refine lv_if_eq (tgt := 190) hx hb_w dL_desk_149 (by decide) (fun c149 => ?_) (fun c149 => ?_)
      · exact absurd c149 (by decide)
      refine lv_aload_n hx hb_w dL_desk_152 rfl (lv_at hl 4 rfl) ?_
      refine lv_aload_n hx hb_w dL_desk_153 rfl (lv_at hl 5 rfl) ?_
      refine lv_iload hx hb_w dL_desk_154 (lv_at hl 0 rfl) ?_
      refine lv_bipush (v := 9) hx hb_w dL_desk_156 (by decide) ?_
      refine lv_idiv hx hb_w dL_desk_158 (by decide) ?_
      refine top_eq (z := nI (Y / 9)) (pk_div (a := Y) (d := 9) (by omega) (by decide) (by decide)) ?_
      refine lv_sipush (v := 200) hx hb_w dL_desk_159 (by decide) ?_
      refine lv_irem hx hb_w dL_desk_162 (by decide) ?_
      refine top_eq (z := nI (Y / 9 % 200)) (pk_rem (a := Y / 9) (d := 200) (by omega) (by decide) (by decide)) ?_
      refine rdr_S (As := [.ref (a_w 0), .ref (a_w 7), .int (nI (Y / 9 % 200))]) (rest := []) ⟨hx, hb_w, hml, hown, hts⟩ (kL_isLabel l G_w a_w cI cZ cL u138.1.1 u138.1.2.1 u138.1.2.2.1 u138.1.2.2.2 (Y / 9 % 200) (Nat.mod_lt _ (by decide)) (inv_pat hW2.1.1)) (va_cwS 3 hts gL_desk_L_isLabel rfl rfl rfl (by decide +kernel) ⟨Nat.le_of_ble_eq_true rfl, Nat.le_of_ble_eq_true rfl⟩) (hP.sub [0, 1, 2, 3, 4, 5, 6, 7] rfl) hK_w rfl hl.1 rfl (Nat.le_of_ble_eq_true rfl) dL_desk_163  ⟨show (10 + 3 * k_w) + 2 ≤ 200 by omega, show (1093 + 126 * k_w) + 120 ≤ 9000 by omega⟩ (fun r163 h163 => ?_)
      replace h163 : r163 = 1 := h163
      subst h163
      refine lv_if_eq (tgt := 190) hx hb_w dL_desk_166 (by decide) (fun c166 => ?_) (fun c166 => ?_)
      · exact absurd c166 (by decide)
      refine lv_iload hx hb_w dL_desk_169 (lv_at hl 9 rfl) ?_
      refine lv_iconst (v := 5) hx hb_w dL_desk_171 (by decide) ?_
      refine lv_irem hx hb_w dL_desk_172 (by decide) ?_
      refine top_eq (z := nI (k_w % 5)) (pk_rem (a := k_w) (d := 5) (by omega) (by decide) (by decide)) ?_
      refine lv_iconst (v := 4) hx hb_w dL_desk_173 (by decide) ?_
      refine lv_icmp_lt (tgt := 186) hx hb_w dL_desk_174 (by decide) (fun c174 => ?_) (fun c174 => ?_)
      · refine lv_iconst (v := 1) hx hb_w dL_desk_186 (by decide) ?_
        refine lv_goto (tgt := 191) hx hb_w dL_desk_187 (by decide) ?_
        refine lv_istore (lv' := [(6, .int 1), (9, .int (nI Y)), (8, .int (nI X_w)), (0, .ref b_w), (1, .int (nI at0_w)), (2, .ref (a_w 0)), (3, .ref (a_w 7)), (4, .ref (a_w 8)), (5, .ref (a_w 9)), (7, .int (nI k_w))]) hx hb_w dL_desk_191 hl (by decide) rfl (fun ls hl => ?_)
        refine lv_iinc (v := nI (k_w + 1)) (lv' := [(7, .int (nI (k_w + 1))), (6, .int 1), (9, .int (nI Y)), (8, .int (nI X_w)), (0, .ref b_w), (1, .int (nI at0_w)), (2, .ref (a_w 0)), (3, .ref (a_w 7)), (4, .ref (a_w 8)), (5, .ref (a_w 9))]) hx hb_w dL_desk_193 hl (k := 9) rfl (nI_1 _) (by decide) rfl (fun ls hl => ?_)
        refine lv_goto (tgt := 72) hx hb_w dL_desk_196 (by decide) ?_
        refine W.widen (k := 10 + 3 * (k_w + 1)) (n := 1093 + 126 * (k_w + 1)) (by omega) (by omega) ?_
        exact ih72 (k_w + 1) u138.1 u138.2.1 u138.2.2 (by omega) (by omega) hW2 _ _ hP hS_w _ (lv_sub hl [4, 5, 6, 7, 8, 9, 1, 0] rfl)
      refine lv_aload_n hx hb_w dL_desk_177 rfl (lv_at hl 4 rfl) ?_
      refine lv_aload hx hb_w dL_desk_178 (lv_at hl 7 rfl) ?_
      refine lW_i (As := [.ref (a_w 0), .ref (a_w 9)]) (rest := []) ⟨hx, hb_w, hml, hown, hts⟩ (kL_areHeld l hst G_w a_w cI cZ cL u138.1.1 u138.1.2.1 u138.1.2.2.1 u138.1.2.2.2 hap H.size u138.2.1 u138.2.2 N_w hN_w hN2 hW2.1.1.2.2.2.2.2.2.2.2.2 hW2.2.2.2.2.2.2.2.2) (va_cwS 2 hts gL_desk_L_areHeld rfl rfl rfl (by decide +kernel) ⟨Nat.le_of_ble_eq_true rfl, Nat.le_of_ble_eq_true rfl⟩) (fun q_w h_w => hB0 H hS_w q_w h_w) hP hK_w ht hS_w rfl hl.1 rfl (Nat.le_of_ble_eq_true rfl) dL_desk_180  ⟨show (10 + 3 * k_w) + 2 + 1 ≤ 200 by omega, show (1093 + 126 * k_w) + 120 + 6 ≤ 9000 by omega⟩ (fun r180 u180 H locs_w h180 hP _ hS_w => ?_)
      subst h180
      have hP : va_P G_w vwCl (wD a_w cI cZ u138.1.1 u138.1.2.1 u138.1.2.2.1 u138.1.2.2.2 ++ [cC (a_w 7) cI (ccG u138.1.1), cT (a_w 8) cI u138.2.1, cG (a_w 9) cL u138.2.2]) H := hP
      refine lv_if_eq (tgt := 190) hx hb_w dL_desk_183 (by decide) (fun c183 => ?_) (fun c183 => ?_)
      · exact absurd c183 (by decide)
      refine lv_iconst (v := 1) hx hb_w dL_desk_186 (by decide) ?_
      refine lv_goto (tgt := 191) hx hb_w dL_desk_187 (by decide) ?_
      refine lv_istore (lv' := [(6, .int 1), (9, .int (nI Y)), (8, .int (nI X_w)), (0, .ref b_w), (1, .int (nI at0_w)), (2, .ref (a_w 0)), (3, .ref (a_w 7)), (4, .ref (a_w 8)), (5, .ref (a_w 9)), (7, .int (nI k_w))]) hx hb_w dL_desk_191 hl (by decide) rfl (fun ls hl => ?_)
      refine lv_iinc (v := nI (k_w + 1)) (lv' := [(7, .int (nI (k_w + 1))), (6, .int 1), (9, .int (nI Y)), (8, .int (nI X_w)), (0, .ref b_w), (1, .int (nI at0_w)), (2, .ref (a_w 0)), (3, .ref (a_w 7)), (4, .ref (a_w 8)), (5, .ref (a_w 9))]) hx hb_w dL_desk_193 hl (k := 9) rfl (nI_1 _) (by decide) rfl (fun ls hl => ?_)
      refine lv_goto (tgt := 72) hx hb_w dL_desk_196 (by decide) ?_
      refine W.widen (k := 10 + 3 * (k_w + 1)) (n := 1093 + 126 * (k_w + 1)) (by omega) (by omega) ?_
      exact ih72 (k_w + 1) u138.1 u138.2.1 u138.2.2 (by omega) (by omega) hW2 _ _ hP hS_w _ (lv_sub hl [4, 5, 6, 7, 8, 9, 1, 0] rfl)
  exact loop72 61 0 (g0, f0, (fun _ => 0), 0) (fun _ => 0) (fun _ => 0) (by omega) (by omega) LW_0 _ _ hP hS_w _ (lv_sub hl [6, 7, 5, 4, 3, 2, 1, 0] rfl)
