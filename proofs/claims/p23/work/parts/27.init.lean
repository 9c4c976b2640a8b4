set_option maxHeartbeats 4000000 in
set_option maxRecDepth 100000 in
theorem kX0_init (l : Launch) (G_w : va_G) (h0 sz_w : Nat) : Met l yX0_init wsX0_init { frames := 1, cells := 0, slots := 0, locals := 16 } (va_Pc [.ref h0] (fun U_w => U_w.heap.size = sz_w ∧ va_P G_w vwCl [(h0, .inr (0, [.int 0, .int 0, .int 0, .int 0]))] U_w.heap ∧ va_K G_w vwCl [] U_w)) (va_Qv (fun _ : Unit => True) (fun _ t_w => va_P G_w vwCl [(h0, .inr (0, [.int 30, .int 12, .int 1, .int 0]))] t_w.heap) (va_A [(h0, .inr (0, [.int 0, .int 0, .int 0, .int 0]))] sz_w)) 0 0 (va_A [(h0, .inr (0, [.int 0, .int 0, .int 0, .int 0]))] sz_w) := by
  refine Met.ofW (cc := cX0_init) (maxL := 1) (ret := none) (by decide) rfl ?_
  intro p_w e_w s_w m_w args_w below meth_w c_w s₁ B_w hml hv
  obtain ⟨rfl, hsz, hP, hK_w⟩ := hv
  have hx := B_w.exec
  have hb_w := B_w.bytes
  have hr := B_w.returns
  have hts := atoms_spec (ws := wsX0_init) B_w.pre
  have hown : s_w.vm.findClass RX0 = some m_w.cls := findClass_of_methodNamed B_w.named
  have hlk := B_w.notSynchronized
  have hin : meth_w.name = "<init>" := (name_of_methodNamed B_w.named B_w.method).1
  subst hsz
  have hA : ∀ q_w : Nat, s_w.heap.size ≤ q_w → va_A [(h0, .inr (0, [.int 0, .int 0, .int 0, .int 0]))] s_w.heap.size q_w := fun q_w h_w => Or.inr h_w
  have hS_w : va_S (va_A [(h0, .inr (0, [.int 0, .int 0, .int 0, .int 0]))] s_w.heap.size) s_w.heap s_w.heap [] := va_S.rf
  have hD : va_D (va_A [(h0, .inr (0, [.int 0, .int 0, .int 0, .int 0]))] s_w.heap.size) [(h0, .inr (0, [.int 0, .int 0, .int 0, .int 0]))] := vd_1 (va_A.in (k := 0) (q := (h0, .inr (0, [.int 0, .int 0, .int 0, .int 0]))) rfl)
  have hP : va_P G_w vwCl [(h0, .inr (0, [.int 0, .int 0, .int 0, .int 0]))] s_w.heap := hP
  have hl := lv_entry ([.ref h0]) (n := 1) (Nat.le_of_ble_eq_true rfl)
  rw [lg_entry_eq]
  generalize (lg_sl ([.ref h0]) ++ List.replicate (1 - (lg_sl ([.ref h0])).length) Slot.unset).toArray = ls at hl ⊢
  have hl : lv_has ls 1 [(0, .ref h0)] := hl
  have hinX0 : ∀ w_w ∈ wsX00, w_w ∈ wsX0_init := by decide +kernel
  refine lv_aload_n hx hb_w dX0_init_0 rfl (lv_at hl 0 rfl) ?_
  refine W.objInit hx hb_w hown (hts _ (List.mem_of_getElem? (i := 1) rfl)) (hts _ (List.mem_of_getElem? (i := 2) rfl)) (hts _ (List.mem_of_getElem? (i := 3) rfl)) rfl (by rw [hml]; exact hl.1) rfl dX0_init_1 (Nat.le_of_ble_eq_true rfl) (Nat.le_of_ble_eq_true rfl) ?_
  refine W.eq (g2 := F0 m_w 4 ls []) rfl ?_
  refine lv_aload_n hx hb_w dX0_init_4 rfl (lv_at hl 0 rfl) ?_
  refine lv_bipush (v := 30) hx hb_w dX0_init_5 (by decide) ?_
  refine va_put (D := G_w) (ci := 0) (v := .int 30) (ty := tyX0 0) (C := RX0) (T := TX0) (N := 4) (own := RX0) (ref := RX0) (index := 9) hx hb_w hts hinX0 tyX0 tyX0_ok nmX0 hown hK_w hP hD hS_w 0 rfl rfl 0 (by decide) (hts _ (List.mem_of_getElem? (i := 4) rfl)) (fun _ h9 => h9) rfl (tyX0_ok 0 (by decide)) rfl rfl (Nat.le_of_ble_eq_true rfl) dX0_init_7 (fun H locs_w hP hD hS_w => ?_)
  have hP : va_P G_w vwCl [(h0, .inr (0, [.int 30, .int 0, .int 0, .int 0]))] H := hP
  have hD : va_D (va_A [(h0, .inr (0, [.int 0, .int 0, .int 0, .int 0]))] s_w.heap.size) [(h0, .inr (0, [.int 30, .int 0, .int 0, .int 0]))] := hD
  refine lv_aload_n hx hb_w dX0_init_10 rfl (lv_at hl 0 rfl) ?_
  refine lv_bipush (v := 12) hx hb_w dX0_init_11 (by decide) ?_
  refine va_put (D := G_w) (ci := 0) (v := .int 12) (ty := tyX0 1) (C := RX0) (T := TX0) (N := 4) (own := RX0) (ref := RX0) (index := 15) hx hb_w hts hinX0 tyX0 tyX0_ok nmX0 hown hK_w hP hD hS_w 0 rfl rfl 1 (by decide) (hts _ (List.mem_of_getElem? (i := 5) rfl)) (fun _ h9 => h9) rfl (tyX0_ok 1 (by decide)) rfl rfl (Nat.le_of_ble_eq_true rfl) dX0_init_13 (fun H locs_w hP hD hS_w => ?_)
  have hP : va_P G_w vwCl [(h0, .inr (0, [.int 30, .int 12, .int 0, .int 0]))] H := hP
  have hD : va_D (va_A [(h0, .inr (0, [.int 0, .int 0, .int 0, .int 0]))] s_w.heap.size) [(h0, .inr (0, [.int 30, .int 12, .int 0, .int 0]))] := hD
  refine lv_aload_n hx hb_w dX0_init_16 rfl (lv_at hl 0 rfl) ?_
  refine lv_iconst (v := 1) hx hb_w dX0_init_17 (by decide) ?_
  refine va_put (D := G_w) (ci := 0) (v := .int 1) (ty := tyX0 2) (C := RX0) (T := TX0) (N := 4) (own := RX0) (ref := RX0) (index := 18) hx hb_w hts hinX0 tyX0 tyX0_ok nmX0 hown hK_w hP hD hS_w 0 rfl rfl 2 (by decide) (hts _ (List.mem_of_getElem? (i := 6) rfl)) (fun _ h9 => h9) rfl (tyX0_ok 2 (by decide)) rfl rfl (Nat.le_of_ble_eq_true rfl) dX0_init_18 (fun H locs_w hP hD hS_w => ?_)
  have hP : va_P G_w vwCl [(h0, .inr (0, [.int 30, .int 12, .int 1, .int 0]))] H := hP
  have hD : va_D (va_A [(h0, .inr (0, [.int 0, .int 0, .int 0, .int 0]))] s_w.heap.size) [(h0, .inr (0, [.int 30, .int 12, .int 1, .int 0]))] := hD
  refine lv_aload_n hx hb_w dX0_init_21 rfl (lv_at hl 0 rfl) ?_
  refine lv_iconst (v := 0) hx hb_w dX0_init_22 (by decide) ?_
  refine va_put (D := G_w) (ci := 0) (v := .int 0) (ty := tyX0 3) (C := RX0) (T := TX0) (N := 4) (own := RX0) (ref := RX0) (index := 22) hx hb_w hts hinX0 tyX0 tyX0_ok nmX0 hown hK_w hP hD hS_w 0 rfl rfl 3 (by decide) (hts _ (List.mem_of_getElem? (i := 7) rfl)) (fun _ h9 => h9) rfl (tyX0_ok 3 (by decide)) rfl rfl (Nat.le_of_ble_eq_true rfl) dX0_init_23 (fun H locs_w hP hD hS_w => ?_)
  have hP : va_P G_w vwCl [(h0, .inr (0, [.int 30, .int 12, .int 1, .int 0]))] H := hP
  have hD : va_D (va_A [(h0, .inr (0, [.int 0, .int 0, .int 0, .int 0]))] s_w.heap.size) [(h0, .inr (0, [.int 30, .int 12, .int 1, .int 0]))] := hD
  exact W.vret hx hb_w hr (fun t_w ht hW => ⟨⟨(), rfl, trivial, by subst ht; exact hP⟩, hS_w.F ht⟩) hS_w.2.2 dX0_init_26
set_option maxHeartbeats 4000000 in
set_option maxRecDepth 100000 in
theorem kX1_init (l : Launch) (G_w : va_G) (h0 sz_w : Nat) : mkD l yX1_init wsX1_init { frames := 2, cells := 6, slots := 1004, locals := 40 } G_w [(h0, .inr (1, [.null, .int 0, .int 0, .int 0, .int 0, .int 0, .null, .null, .null, .null, .int 0, .int 0, .int 0, .null, .int 0]))] (a1S h0 sz_w) sz_w h0 7 6 1004 (fun a_w cI cZ => wD a_w cI cZ g0 f0 (fun _ => 0) 0) := by
  refine Met.ofW (cc := cX1_init) (maxL := 1) (ret := none) (by decide) rfl ?_
  intro p_w e_w s_w m_w args_w below meth_w c_w s₁ B_w hml hv
  obtain ⟨rfl, hsz, hP, hK_w⟩ := hv
  have hx := B_w.exec
  have hb_w := B_w.bytes
  have hr := B_w.returns
  have hts := atoms_spec (ws := wsX1_init) B_w.pre
  have hown : s_w.vm.findClass RX1 = some m_w.cls := findClass_of_methodNamed B_w.named
  have hlk := B_w.notSynchronized
  have hin : meth_w.name = "<init>" := (name_of_methodNamed B_w.named B_w.method).1
  subst hsz
  have hA : ∀ q_w : Nat, s_w.heap.size ≤ q_w → a1S h0 s_w.heap.size q_w := fun q_w h_w => Or.inr h_w
  have hS_w : va_S (a1S h0 s_w.heap.size) s_w.heap s_w.heap [] := va_S.rf
  have hD : va_D (a1S h0 s_w.heap.size) [(h0, .inr (1, [.null, .int 0, .int 0, .int 0, .int 0, .int 0, .null, .null, .null, .null, .int 0, .int 0, .int 0, .null, .int 0]))] := vd_1 (a1_h _ _)
  have hP : va_P G_w vwCl [(h0, .inr (1, [.null, .int 0, .int 0, .int 0, .int 0, .int 0, .null, .null, .null, .null, .int 0, .int 0, .int 0, .null, .int 0]))] s_w.heap := hP
  have hl := lv_entry ([.ref h0]) (n := 1) (Nat.le_of_ble_eq_true rfl)
  rw [lg_entry_eq]
  generalize (lg_sl ([.ref h0]) ++ List.replicate (1 - (lg_sl ([.ref h0])).length) Slot.unset).toArray = ls at hl ⊢
  have hl : lv_has ls 1 [(0, .ref h0)] := hl
  have hinX1 : ∀ w_w ∈ wsX10, w_w ∈ wsX1_init := by decide +kernel
  refine lv_aload_n hx hb_w dX1_init_0 rfl (lv_at hl 0 rfl) ?_
  refine W.objInit hx hb_w hown (hts _ (List.mem_of_getElem? (i := 1) rfl)) (hts _ (List.mem_of_getElem? (i := 2) rfl)) (hts _ (List.mem_of_getElem? (i := 3) rfl)) rfl (by rw [hml]; exact hl.1) rfl dX1_init_1 (Nat.le_of_ble_eq_true rfl) (Nat.le_of_ble_eq_true rfl) ?_
  refine W.eq (g2 := F0 m_w 4 ls []) rfl ?_
  refine lv_aload_n hx hb_w dX1_init_4 rfl (lv_at hl 0 rfl) ?_
  refine va_new (D := G_w) (ci := 0) (fs := [.int 0, .int 0, .int 0, .int 0]) (C := RX0) (T := TX0) (N := 4) hx hb_w hts (by decide +kernel) tyX0 tyX0_ok hown (hts _ (List.mem_of_getElem? (i := 4) rfl)) (hts _ (List.mem_of_getElem? (i := 5) rfl)) (hts _ (List.mem_of_getElem? (i := 6) rfl)) hK_w hP hD hS_w hA rfl (fun j_w hj => by rcases (show j_w = 0 ∨ j_w = 1 ∨ j_w = 2 ∨ j_w = 3 by omega) with rfl | rfl | rfl | rfl <;> rfl) (Nat.le_of_ble_eq_true rfl) (Nat.le_of_ble_eq_true rfl) dX1_init_5 (fun q1_w H hP hD hS_w => ?_)
  have hP : va_P G_w vwCl [(h0, .inr (1, [.null, .int 0, .int 0, .int 0, .int 0, .int 0, .null, .null, .null, .null, .int 0, .int 0, .int 0, .null, .int 0])), (q1_w, .inr (0, [.int 0, .int 0, .int 0, .int 0]))] H := hP
  have hD : va_D (a1S h0 s_w.heap.size) [(h0, .inr (1, [.null, .int 0, .int 0, .int 0, .int 0, .int 0, .null, .null, .null, .null, .int 0, .int 0, .int 0, .null, .int 0])), (q1_w, .inr (0, [.int 0, .int 0, .int 0, .int 0]))] := hD
  refine lv_dup hx hb_w dX1_init_8 rfl ?_
  have hPc := hP.sub (ws' := [(q1_w, .inr (0, [.int 0, .int 0, .int 0, .int 0]))]) [1] rfl
  have hFc := va_free (wc := [(q1_w, .inr (0, [.int 0, .int 0, .int 0, .int 0]))]) hD hS_w hA [1] rfl
  refine va_callv (va_runI (As := []) (rest := [.ref q1_w, .ref h0]) ⟨hx, hb_w, hml, hown, hts⟩ (kX0_init l G_w q1_w H.size) (cwI 0 hts gX1_init_X0_init rfl rfl rfl (hts _ (List.mem_of_getElem? (i := 6) rfl)) (hts _ (List.mem_of_getElem? (i := 19) rfl)) (hts _ (List.mem_of_getElem? (i := 20) rfl)) rfl (by decide +kernel) ⟨Nat.le_of_ble_eq_true rfl, Nat.le_of_ble_eq_true rfl⟩) ⟨fun a_w U_w g_w mk_w q_w => ⟨q_w.1, q_w.2.1, q_w.2.2.1, va_K.moved (u := U_w) (U := U_w.calling g_w mk_w a_w) (Vm.Alike.refl U_w.vm) q_w.2.2.2⟩, fun U_w hU hW => ⟨rfl, by rw [hU], by rw [hU]; exact hPc, va_K.moved hW.alike hK_w⟩⟩ rfl rfl hl.1 rfl (lv_room (Nat.le_of_ble_eq_true rfl)) dX1_init_9 ⟨Nat.le_of_ble_eq_true rfl, Nat.le_of_ble_eq_true rfl⟩) hS_w (fun q_w _ h_w => hFc q_w h_w) hFc (fun u_w t_w H1_w locs_w ht hvm hw hB_w hz1 hk1 hS_w => ?_)
  have hP1 : va_P G_w vwCl [(q1_w, .inr (0, [.int 30, .int 12, .int 1, .int 0]))] H1_w := by rw [← ht]; exact hB_w
  have hD1 : va_D (va_A [(q1_w, .inr (0, [.int 0, .int 0, .int 0, .int 0]))] H.size) [(q1_w, .inr (0, [.int 30, .int 12, .int 1, .int 0]))] := vd_1 (va_A.in (k := 0) (q := (q1_w, .inr (0, [.int 0, .int 0, .int 0, .int 0]))) rfl)
  obtain ⟨hP, hD⟩ := va_join (wr := [(h0, .inr (1, [.null, .int 0, .int 0, .int 0, .int 0, .int 0, .null, .null, .null, .null, .int 0, .int 0, .int 0, .null, .int 0]))]) (w1 := [(q1_w, .inr (0, [.int 30, .int 12, .int 1, .int 0]))]) hP hD [1] [0] rfl rfl (by decide) (by decide) hk1 hFc hP1 hD1
  generalize H1_w = H at hP hS_w ⊢
  have hP : va_P G_w vwCl [(h0, .inr (1, [.null, .int 0, .int 0, .int 0, .int 0, .int 0, .null, .null, .null, .null, .int 0, .int 0, .int 0, .null, .int 0])), (q1_w, .inr (0, [.int 30, .int 12, .int 1, .int 0]))] H := hP
  have hD : va_D (a1S h0 s_w.heap.size) [(h0, .inr (1, [.null, .int 0, .int 0, .int 0, .int 0, .int 0, .null, .null, .null, .null, .int 0, .int 0, .int 0, .null, .int 0])), (q1_w, .inr (0, [.int 30, .int 12, .int 1, .int 0]))] := hD
  refine va_putF (D := G_w) (ci := 1) (v := .ref q1_w) (ty := tyX1 0) (C := RX1) (T := TX1) (N := 15) (own := RX1) (ref := RX1) (index := 10) hx hb_w hts hinX1 tyX1 tyX1_ok nmX1 hown hK_w hP hD hS_w 0 rfl rfl 0 (by decide) (hts _ (List.mem_of_getElem? (i := 7) rfl)) (fun _ h9 => h9) rfl hin rfl (tyX1_ok 0 (by decide)) rfl rfl (Nat.le_of_ble_eq_true rfl) dX1_init_12 (fun H locs_w hP hD hS_w => ?_)
  have hP : va_P G_w vwCl [(h0, .inr (1, [.ref q1_w, .int 0, .int 0, .int 0, .int 0, .int 0, .null, .null, .null, .null, .int 0, .int 0, .int 0, .null, .int 0])), (q1_w, .inr (0, [.int 30, .int 12, .int 1, .int 0]))] H := hP
  have hD : va_D (a1S h0 s_w.heap.size) [(h0, .inr (1, [.ref q1_w, .int 0, .int 0, .int 0, .int 0, .int 0, .null, .null, .null, .null, .int 0, .int 0, .int 0, .null, .int 0])), (q1_w, .inr (0, [.int 30, .int 12, .int 1, .int 0]))] := hD
  refine lv_aload_n hx hb_w dX1_init_15 rfl (lv_at hl 0 rfl) ?_
  refine lv_bipush (v := 7) hx hb_w dX1_init_16 (by decide) ?_
  refine va_put (D := G_w) (ci := 1) (v := .int 7) (ty := tyX1 1) (C := RX1) (T := TX1) (N := 15) (own := RX1) (ref := RX1) (index := 16) hx hb_w hts hinX1 tyX1 tyX1_ok nmX1 hown hK_w hP hD hS_w 0 rfl rfl 1 (by decide) (hts _ (List.mem_of_getElem? (i := 8) rfl)) (fun _ h9 => h9) rfl (tyX1_ok 1 (by decide)) rfl rfl (Nat.le_of_ble_eq_true rfl) dX1_init_18 (fun H locs_w hP hD hS_w => ?_)
  have hP : va_P G_w vwCl [(h0, .inr (1, [.ref q1_w, .int 7, .int 0, .int 0, .int 0, .int 0, .null, .null, .null, .null, .int 0, .int 0, .int 0, .null, .int 0])), (q1_w, .inr (0, [.int 30, .int 12, .int 1, .int 0]))] H := hP
  have hD : va_D (a1S h0 s_w.heap.size) [(h0, .inr (1, [.ref q1_w, .int 7, .int 0, .int 0, .int 0, .int 0, .null, .null, .null, .null, .int 0, .int 0, .int 0, .null, .int 0])), (q1_w, .inr (0, [.int 30, .int 12, .int 1, .int 0]))] := hD
  refine lv_aload_n hx hb_w dX1_init_21 rfl (lv_at hl 0 rfl) ?_
  refine lv_bipush (v := 30) hx hb_w dX1_init_22 (by decide) ?_
  refine va_put (D := G_w) (ci := 1) (v := .int 30) (ty := tyX1 2) (C := RX1) (T := TX1) (N := 15) (own := RX1) (ref := RX1) (index := 20) hx hb_w hts hinX1 tyX1 tyX1_ok nmX1 hown hK_w hP hD hS_w 0 rfl rfl 2 (by decide) (hts _ (List.mem_of_getElem? (i := 9) rfl)) (fun _ h9 => h9) rfl (tyX1_ok 2 (by decide)) rfl rfl (Nat.le_of_ble_eq_true rfl) dX1_init_24 (fun H locs_w hP hD hS_w => ?_)
  have hP : va_P G_w vwCl [(h0, .inr (1, [.ref q1_w, .int 7, .int 30, .int 0, .int 0, .int 0, .null, .null, .null, .null, .int 0, .int 0, .int 0, .null, .int 0])), (q1_w, .inr (0, [.int 30, .int 12, .int 1, .int 0]))] H := hP
  have hD : va_D (a1S h0 s_w.heap.size) [(h0, .inr (1, [.ref q1_w, .int 7, .int 30, .int 0, .int 0, .int 0, .null, .null, .null, .null, .int 0, .int 0, .int 0, .null, .int 0])), (q1_w, .inr (0, [.int 30, .int 12, .int 1, .int 0]))] := hD
  refine lv_aload_n hx hb_w dX1_init_27 rfl (lv_at hl 0 rfl) ?_
  refine lv_sipush (v := 200) hx hb_w dX1_init_28 (by decide) ?_
  refine va_newa (D := G_w) (atype := .int) (ty := .int) (a0 := (200, .inl (fun _ => 0))) (N' := 200) hx hb_w (hts _ (List.mem_of_getElem? (i := 10) rfl)) rfl hK_w hP hD hS_w hA (fun _ => rfl) (by decide) (by decide) (by decide) (Nat.le_of_ble_eq_true rfl) (Nat.le_of_ble_eq_true rfl) dX1_init_31 (fun q2_w cx H hK_w hP hD hS_w => ?_)
  obtain ⟨cI, hcI⟩ : ∃ z_w, z_w = cx := ⟨_, rfl⟩
  subst hcI
  have hK_w : va_K G_w vwCl [(cI, .int)] s_w := hK_w
  have hP : va_P G_w vwCl [(h0, .inr (1, [.ref q1_w, .int 7, .int 30, .int 0, .int 0, .int 0, .null, .null, .null, .null, .int 0, .int 0, .int 0, .null, .int 0])), (q1_w, .inr (0, [.int 30, .int 12, .int 1, .int 0])), (q2_w, .inl (cI, 200, .inl (fun _ => 0)))] H := hP
  have hD : va_D (a1S h0 s_w.heap.size) [(h0, .inr (1, [.ref q1_w, .int 7, .int 30, .int 0, .int 0, .int 0, .null, .null, .null, .null, .int 0, .int 0, .int 0, .null, .int 0])), (q1_w, .inr (0, [.int 30, .int 12, .int 1, .int 0])), (q2_w, .inl (cI, 200, .inl (fun _ => 0)))] := hD
  refine va_putF (D := G_w) (ci := 1) (v := .ref q2_w) (ty := tyX1 6) (C := RX1) (T := TX1) (N := 15) (own := RX1) (ref := RX1) (index := 23) hx hb_w hts hinX1 tyX1 tyX1_ok nmX1 hown hK_w hP hD hS_w 0 rfl rfl 6 (by decide) (hts _ (List.mem_of_getElem? (i := 11) rfl)) (fun _ h9 => h9) rfl hin rfl (tyX1_ok 6 (by decide)) rfl rfl (Nat.le_of_ble_eq_true rfl) dX1_init_33 (fun H locs_w hP hD hS_w => ?_)
  have hP : va_P G_w vwCl [(h0, .inr (1, [.ref q1_w, .int 7, .int 30, .int 0, .int 0, .int 0, .ref q2_w, .null, .null, .null, .int 0, .int 0, .int 0, .null, .int 0])), (q1_w, .inr (0, [.int 30, .int 12, .int 1, .int 0])), (q2_w, .inl (cI, 200, .inl (fun _ => 0)))] H := hP
  have hD : va_D (a1S h0 s_w.heap.size) [(h0, .inr (1, [.ref q1_w, .int 7, .int 30, .int 0, .int 0, .int 0, .ref q2_w, .null, .null, .null, .int 0, .int 0, .int 0, .null, .int 0])), (q1_w, .inr (0, [.int 30, .int 12, .int 1, .int 0])), (q2_w, .inl (cI, 200, .inl (fun _ => 0)))] := hD
  refine lv_aload_n hx hb_w dX1_init_36 rfl (lv_at hl 0 rfl) ?_
  refine lv_sipush (v := 200) hx hb_w dX1_init_37 (by decide) ?_
  refine va_newa (D := G_w) (atype := .int) (ty := .int) (a0 := (200, .inl (fun _ => 0))) (N' := 200) hx hb_w (hts _ (List.mem_of_getElem? (i := 10) rfl)) rfl hK_w hP hD hS_w hA (fun _ => rfl) (by decide) (by decide) (by decide) (Nat.le_of_ble_eq_true rfl) (Nat.le_of_ble_eq_true rfl) dX1_init_40 (fun q3_w cx H hK_w hP hD hS_w => ?_)
  obtain rfl : cI = cx := ty_int hK_w 0 1 rfl rfl
  have hK_w := hK_w.sub (tys' := [(cI, .int)]) [0] rfl
  have hP : va_P G_w vwCl [(h0, .inr (1, [.ref q1_w, .int 7, .int 30, .int 0, .int 0, .int 0, .ref q2_w, .null, .null, .null, .int 0, .int 0, .int 0, .null, .int 0])), (q1_w, .inr (0, [.int 30, .int 12, .int 1, .int 0])), (q2_w, .inl (cI, 200, .inl (fun _ => 0))), (q3_w, .inl (cI, 200, .inl (fun _ => 0)))] H := hP
  have hD : va_D (a1S h0 s_w.heap.size) [(h0, .inr (1, [.ref q1_w, .int 7, .int 30, .int 0, .int 0, .int 0, .ref q2_w, .null, .null, .null, .int 0, .int 0, .int 0, .null, .int 0])), (q1_w, .inr (0, [.int 30, .int 12, .int 1, .int 0])), (q2_w, .inl (cI, 200, .inl (fun _ => 0))), (q3_w, .inl (cI, 200, .inl (fun _ => 0)))] := hD
  refine va_putF (D := G_w) (ci := 1) (v := .ref q3_w) (ty := tyX1 7) (C := RX1) (T := TX1) (N := 15) (own := RX1) (ref := RX1) (index := 27) hx hb_w hts hinX1 tyX1 tyX1_ok nmX1 hown hK_w hP hD hS_w 0 rfl rfl 7 (by decide) (hts _ (List.mem_of_getElem? (i := 12) rfl)) (fun _ h9 => h9) rfl hin rfl (tyX1_ok 7 (by decide)) rfl rfl (Nat.le_of_ble_eq_true rfl) dX1_init_42 (fun H locs_w hP hD hS_w => ?_)
  have hP : va_P G_w vwCl [(h0, .inr (1, [.ref q1_w, .int 7, .int 30, .int 0, .int 0, .int 0, .ref q2_w, .ref q3_w, .null, .null, .int 0, .int 0, .int 0, .null, .int 0])), (q1_w, .inr (0, [.int 30, .int 12, .int 1, .int 0])), (q2_w, .inl (cI, 200, .inl (fun _ => 0))), (q3_w, .inl (cI, 200, .inl (fun _ => 0)))] H := hP
  have hD : va_D (a1S h0 s_w.heap.size) [(h0, .inr (1, [.ref q1_w, .int 7, .int 30, .int 0, .int 0, .int 0, .ref q2_w, .ref q3_w, .null, .null, .int 0, .int 0, .int 0, .null, .int 0])), (q1_w, .inr (0, [.int 30, .int 12, .int 1, .int 0])), (q2_w, .inl (cI, 200, .inl (fun _ => 0))), (q3_w, .inl (cI, 200, .inl (fun _ => 0)))] := hD
  refine lv_aload_n hx hb_w dX1_init_45 rfl (lv_at hl 0 rfl) ?_
  refine lv_sipush (v := 200) hx hb_w dX1_init_46 (by decide) ?_
  refine va_newa (D := G_w) (atype := .int) (ty := .int) (a0 := (200, .inl (fun _ => 0))) (N' := 200) hx hb_w (hts _ (List.mem_of_getElem? (i := 10) rfl)) rfl hK_w hP hD hS_w hA (fun _ => rfl) (by decide) (by decide) (by decide) (Nat.le_of_ble_eq_true rfl) (Nat.le_of_ble_eq_true rfl) dX1_init_49 (fun q4_w cx H hK_w hP hD hS_w => ?_)
  obtain rfl : cI = cx := ty_int hK_w 0 1 rfl rfl
  have hK_w := hK_w.sub (tys' := [(cI, .int)]) [0] rfl
  have hP : va_P G_w vwCl [(h0, .inr (1, [.ref q1_w, .int 7, .int 30, .int 0, .int 0, .int 0, .ref q2_w, .ref q3_w, .null, .null, .int 0, .int 0, .int 0, .null, .int 0])), (q1_w, .inr (0, [.int 30, .int 12, .int 1, .int 0])), (q2_w, .inl (cI, 200, .inl (fun _ => 0))), (q3_w, .inl (cI, 200, .inl (fun _ => 0))), (q4_w, .inl (cI, 200, .inl (fun _ => 0)))] H := hP
  have hD : va_D (a1S h0 s_w.heap.size) [(h0, .inr (1, [.ref q1_w, .int 7, .int 30, .int 0, .int 0, .int 0, .ref q2_w, .ref q3_w, .null, .null, .int 0, .int 0, .int 0, .null, .int 0])), (q1_w, .inr (0, [.int 30, .int 12, .int 1, .int 0])), (q2_w, .inl (cI, 200, .inl (fun _ => 0))), (q3_w, .inl (cI, 200, .inl (fun _ => 0))), (q4_w, .inl (cI, 200, .inl (fun _ => 0)))] := hD
  refine va_putF (D := G_w) (ci := 1) (v := .ref q4_w) (ty := tyX1 8) (C := RX1) (T := TX1) (N := 15) (own := RX1) (ref := RX1) (index := 30) hx hb_w hts hinX1 tyX1 tyX1_ok nmX1 hown hK_w hP hD hS_w 0 rfl rfl 8 (by decide) (hts _ (List.mem_of_getElem? (i := 13) rfl)) (fun _ h9 => h9) rfl hin rfl (tyX1_ok 8 (by decide)) rfl rfl (Nat.le_of_ble_eq_true rfl) dX1_init_51 (fun H locs_w hP hD hS_w => ?_)
  have hP : va_P G_w vwCl [(h0, .inr (1, [.ref q1_w, .int 7, .int 30, .int 0, .int 0, .int 0, .ref q2_w, .ref q3_w, .ref q4_w, .null, .int 0, .int 0, .int 0, .null, .int 0])), (q1_w, .inr (0, [.int 30, .int 12, .int 1, .int 0])), (q2_w, .inl (cI, 200, .inl (fun _ => 0))), (q3_w, .inl (cI, 200, .inl (fun _ => 0))), (q4_w, .inl (cI, 200, .inl (fun _ => 0)))] H := hP
  have hD : va_D (a1S h0 s_w.heap.size) [(h0, .inr (1, [.ref q1_w, .int 7, .int 30, .int 0, .int 0, .int 0, .ref q2_w, .ref q3_w, .ref q4_w, .null, .int 0, .int 0, .int 0, .null, .int 0])), (q1_w, .inr (0, [.int 30, .int 12, .int 1, .int 0])), (q2_w, .inl (cI, 200, .inl (fun _ => 0))), (q3_w, .inl (cI, 200, .inl (fun _ => 0))), (q4_w, .inl (cI, 200, .inl (fun _ => 0)))] := hD
  refine lv_aload_n hx hb_w dX1_init_54 rfl (lv_at hl 0 rfl) ?_
  refine lv_sipush (v := 200) hx hb_w dX1_init_55 (by decide) ?_
  refine va_newa (D := G_w) (atype := .int) (ty := .int) (a0 := (200, .inl (fun _ => 0))) (N' := 200) hx hb_w (hts _ (List.mem_of_getElem? (i := 10) rfl)) rfl hK_w hP hD hS_w hA (fun _ => rfl) (by decide) (by decide) (by decide) (Nat.le_of_ble_eq_true rfl) (Nat.le_of_ble_eq_true rfl) dX1_init_58 (fun q5_w cx H hK_w hP hD hS_w => ?_)
  obtain rfl : cI = cx := ty_int hK_w 0 1 rfl rfl
  have hK_w := hK_w.sub (tys' := [(cI, .int)]) [0] rfl
  have hP : va_P G_w vwCl [(h0, .inr (1, [.ref q1_w, .int 7, .int 30, .int 0, .int 0, .int 0, .ref q2_w, .ref q3_w, .ref q4_w, .null, .int 0, .int 0, .int 0, .null, .int 0])), (q1_w, .inr (0, [.int 30, .int 12, .int 1, .int 0])), (q2_w, .inl (cI, 200, .inl (fun _ => 0))), (q3_w, .inl (cI, 200, .inl (fun _ => 0))), (q4_w, .inl (cI, 200, .inl (fun _ => 0))), (q5_w, .inl (cI, 200, .inl (fun _ => 0)))] H := hP
  have hD : va_D (a1S h0 s_w.heap.size) [(h0, .inr (1, [.ref q1_w, .int 7, .int 30, .int 0, .int 0, .int 0, .ref q2_w, .ref q3_w, .ref q4_w, .null, .int 0, .int 0, .int 0, .null, .int 0])), (q1_w, .inr (0, [.int 30, .int 12, .int 1, .int 0])), (q2_w, .inl (cI, 200, .inl (fun _ => 0))), (q3_w, .inl (cI, 200, .inl (fun _ => 0))), (q4_w, .inl (cI, 200, .inl (fun _ => 0))), (q5_w, .inl (cI, 200, .inl (fun _ => 0)))] := hD
  refine va_putF (D := G_w) (ci := 1) (v := .ref q5_w) (ty := tyX1 9) (C := RX1) (T := TX1) (N := 15) (own := RX1) (ref := RX1) (index := 33) hx hb_w hts hinX1 tyX1 tyX1_ok nmX1 hown hK_w hP hD hS_w 0 rfl rfl 9 (by decide) (hts _ (List.mem_of_getElem? (i := 14) rfl)) (fun _ h9 => h9) rfl hin rfl (tyX1_ok 9 (by decide)) rfl rfl (Nat.le_of_ble_eq_true rfl) dX1_init_60 (fun H locs_w hP hD hS_w => ?_)
  have hP : va_P G_w vwCl [(h0, .inr (1, [.ref q1_w, .int 7, .int 30, .int 0, .int 0, .int 0, .ref q2_w, .ref q3_w, .ref q4_w, .ref q5_w, .int 0, .int 0, .int 0, .null, .int 0])), (q1_w, .inr (0, [.int 30, .int 12, .int 1, .int 0])), (q2_w, .inl (cI, 200, .inl (fun _ => 0))), (q3_w, .inl (cI, 200, .inl (fun _ => 0))), (q4_w, .inl (cI, 200, .inl (fun _ => 0))), (q5_w, .inl (cI, 200, .inl (fun _ => 0)))] H := hP
  have hD : va_D (a1S h0 s_w.heap.size) [(h0, .inr (1, [.ref q1_w, .int 7, .int 30, .int 0, .int 0, .int 0, .ref q2_w, .ref q3_w, .ref q4_w, .ref q5_w, .int 0, .int 0, .int 0, .null, .int 0])), (q1_w, .inr (0, [.int 30, .int 12, .int 1, .int 0])), (q2_w, .inl (cI, 200, .inl (fun _ => 0))), (q3_w, .inl (cI, 200, .inl (fun _ => 0))), (q4_w, .inl (cI, 200, .inl (fun _ => 0))), (q5_w, .inl (cI, 200, .inl (fun _ => 0)))] := hD
  refine lv_aload_n hx hb_w dX1_init_63 rfl (lv_at hl 0 rfl) ?_
  refine lv_sipush (v := 200) hx hb_w dX1_init_64 (by decide) ?_
  refine va_newa (D := G_w) (atype := .boolean) (ty := .boolean) (a0 := (200, .inl (fun _ => 0))) (N' := 200) hx hb_w (hts _ (List.mem_of_getElem? (i := 15) rfl)) rfl hK_w hP hD hS_w hA (fun _ => rfl) (by decide) (by decide) (by decide) (Nat.le_of_ble_eq_true rfl) (Nat.le_of_ble_eq_true rfl) dX1_init_67 (fun q6_w cx H hK_w hP hD hS_w => ?_)
  have hK_w : va_K G_w vwCl [(cI, .int), (cx, .boolean)] s_w := hK_w
  have hP : va_P G_w vwCl [(h0, .inr (1, [.ref q1_w, .int 7, .int 30, .int 0, .int 0, .int 0, .ref q2_w, .ref q3_w, .ref q4_w, .ref q5_w, .int 0, .int 0, .int 0, .null, .int 0])), (q1_w, .inr (0, [.int 30, .int 12, .int 1, .int 0])), (q2_w, .inl (cI, 200, .inl (fun _ => 0))), (q3_w, .inl (cI, 200, .inl (fun _ => 0))), (q4_w, .inl (cI, 200, .inl (fun _ => 0))), (q5_w, .inl (cI, 200, .inl (fun _ => 0))), (q6_w, .inl (cx, 200, .inl (fun _ => 0)))] H := hP
  have hD : va_D (a1S h0 s_w.heap.size) [(h0, .inr (1, [.ref q1_w, .int 7, .int 30, .int 0, .int 0, .int 0, .ref q2_w, .ref q3_w, .ref q4_w, .ref q5_w, .int 0, .int 0, .int 0, .null, .int 0])), (q1_w, .inr (0, [.int 30, .int 12, .int 1, .int 0])), (q2_w, .inl (cI, 200, .inl (fun _ => 0))), (q3_w, .inl (cI, 200, .inl (fun _ => 0))), (q4_w, .inl (cI, 200, .inl (fun _ => 0))), (q5_w, .inl (cI, 200, .inl (fun _ => 0))), (q6_w, .inl (cx, 200, .inl (fun _ => 0)))] := hD
  refine va_putF (D := G_w) (ci := 1) (v := .ref q6_w) (ty := tyX1 13) (C := RX1) (T := TX1) (N := 15) (own := RX1) (ref := RX1) (index := 36) hx hb_w hts hinX1 tyX1 tyX1_ok nmX1 hown hK_w hP hD hS_w 0 rfl rfl 13 (by decide) (hts _ (List.mem_of_getElem? (i := 16) rfl)) (fun _ h9 => h9) rfl hin rfl (tyX1_ok 13 (by decide)) rfl rfl (Nat.le_of_ble_eq_true rfl) dX1_init_69 (fun H locs_w hP hD hS_w => ?_)
  have hP : va_P G_w vwCl [(h0, .inr (1, [.ref q1_w, .int 7, .int 30, .int 0, .int 0, .int 0, .ref q2_w, .ref q3_w, .ref q4_w, .ref q5_w, .int 0, .int 0, .int 0, .ref q6_w, .int 0])), (q1_w, .inr (0, [.int 30, .int 12, .int 1, .int 0])), (q2_w, .inl (cI, 200, .inl (fun _ => 0))), (q3_w, .inl (cI, 200, .inl (fun _ => 0))), (q4_w, .inl (cI, 200, .inl (fun _ => 0))), (q5_w, .inl (cI, 200, .inl (fun _ => 0))), (q6_w, .inl (cx, 200, .inl (fun _ => 0)))] H := hP
  have hD : va_D (a1S h0 s_w.heap.size) [(h0, .inr (1, [.ref q1_w, .int 7, .int 30, .int 0, .int 0, .int 0, .ref q2_w, .ref q3_w, .ref q4_w, .ref q5_w, .int 0, .int 0, .int 0, .ref q6_w, .int 0])), (q1_w, .inr (0, [.int 30, .int 12, .int 1, .int 0])), (q2_w, .inl (cI, 200, .inl (fun _ => 0))), (q3_w, .inl (cI, 200, .inl (fun _ => 0))), (q4_w, .inl (cI, 200, .inl (fun _ => 0))), (q5_w, .inl (cI, 200, .inl (fun _ => 0))), (q6_w, .inl (cx, 200, .inl (fun _ => 0)))] := hD
  refine lv_aload_n hx hb_w dX1_init_72 rfl (lv_at hl 0 rfl) ?_
  refine lv_iconst (v := 1) hx hb_w dX1_init_73 (by decide) ?_
  refine va_put (D := G_w) (ci := 1) (v := .int 1) (ty := tyX1 4) (C := RX1) (T := TX1) (N := 15) (own := RX1) (ref := RX1) (index := 40) hx hb_w hts hinX1 tyX1 tyX1_ok nmX1 hown hK_w hP hD hS_w 0 rfl rfl 4 (by decide) (hts _ (List.mem_of_getElem? (i := 17) rfl)) (fun _ h9 => h9) rfl (tyX1_ok 4 (by decide)) rfl rfl (Nat.le_of_ble_eq_true rfl) dX1_init_74 (fun H locs_w hP hD hS_w => ?_)
  have hP : va_P G_w vwCl [(h0, .inr (1, [.ref q1_w, .int 7, .int 30, .int 0, .int 1, .int 0, .ref q2_w, .ref q3_w, .ref q4_w, .ref q5_w, .int 0, .int 0, .int 0, .ref q6_w, .int 0])), (q1_w, .inr (0, [.int 30, .int 12, .int 1, .int 0])), (q2_w, .inl (cI, 200, .inl (fun _ => 0))), (q3_w, .inl (cI, 200, .inl (fun _ => 0))), (q4_w, .inl (cI, 200, .inl (fun _ => 0))), (q5_w, .inl (cI, 200, .inl (fun _ => 0))), (q6_w, .inl (cx, 200, .inl (fun _ => 0)))] H := hP
  have hD : va_D (a1S h0 s_w.heap.size) [(h0, .inr (1, [.ref q1_w, .int 7, .int 30, .int 0, .int 1, .int 0, .ref q2_w, .ref q3_w, .ref q4_w, .ref q5_w, .int 0, .int 0, .int 0, .ref q6_w, .int 0])), (q1_w, .inr (0, [.int 30, .int 12, .int 1, .int 0])), (q2_w, .inl (cI, 200, .inl (fun _ => 0))), (q3_w, .inl (cI, 200, .inl (fun _ => 0))), (q4_w, .inl (cI, 200, .inl (fun _ => 0))), (q5_w, .inl (cI, 200, .inl (fun _ => 0))), (q6_w, .inl (cx, 200, .inl (fun _ => 0)))] := hD
  refine lv_aload_n hx hb_w dX1_init_77 rfl (lv_at hl 0 rfl) ?_
  refine lv_iconst (v := (-1)) hx hb_w dX1_init_78 (by decide) ?_
  refine va_put (D := G_w) (ci := 1) (v := .int (-1)) (ty := tyX1 12) (C := RX1) (T := TX1) (N := 15) (own := RX1) (ref := RX1) (index := 43) hx hb_w hts hinX1 tyX1 tyX1_ok nmX1 hown hK_w hP hD hS_w 0 rfl rfl 12 (by decide) (hts _ (List.mem_of_getElem? (i := 18) rfl)) (fun _ h9 => h9) rfl (tyX1_ok 12 (by decide)) rfl rfl (Nat.le_of_ble_eq_true rfl) dX1_init_79 (fun H locs_w hP hD hS_w => ?_)
  have hP : va_P G_w vwCl [(h0, .inr (1, [.ref q1_w, .int 7, .int 30, .int 0, .int 1, .int 0, .ref q2_w, .ref q3_w, .ref q4_w, .ref q5_w, .int 0, .int 0, .int (-1), .ref q6_w, .int 0])), (q1_w, .inr (0, [.int 30, .int 12, .int 1, .int 0])), (q2_w, .inl (cI, 200, .inl (fun _ => 0))), (q3_w, .inl (cI, 200, .inl (fun _ => 0))), (q4_w, .inl (cI, 200, .inl (fun _ => 0))), (q5_w, .inl (cI, 200, .inl (fun _ => 0))), (q6_w, .inl (cx, 200, .inl (fun _ => 0)))] H := hP
  have hD : va_D (a1S h0 s_w.heap.size) [(h0, .inr (1, [.ref q1_w, .int 7, .int 30, .int 0, .int 1, .int 0, .ref q2_w, .ref q3_w, .ref q4_w, .ref q5_w, .int 0, .int 0, .int (-1), .ref q6_w, .int 0])), (q1_w, .inr (0, [.int 30, .int 12, .int 1, .int 0])), (q2_w, .inl (cI, 200, .inl (fun _ => 0))), (q3_w, .inl (cI, 200, .inl (fun _ => 0))), (q4_w, .inl (cI, 200, .inl (fun _ => 0))), (q5_w, .inl (cI, 200, .inl (fun _ => 0))), (q6_w, .inl (cx, 200, .inl (fun _ => 0)))] := hD
  have hP : va_P G_w vwCl (wD (ad7 h0 q1_w q2_w q3_w q4_w q5_w q6_w) cI cx g0 f0 (fun _ => 0) 0) H := hP
  have hD : va_D (a1S h0 s_w.heap.size) (wD (ad7 h0 q1_w q2_w q3_w q4_w q5_w q6_w) cI cx g0 f0 (fun _ => 0) 0) := hD
  obtain ⟨h7, h8⟩ := wD_ap hD
  refine W.widen (k := 6) (n := 1004) (Nat.le_of_ble_eq_true rfl) (Nat.le_of_ble_eq_true rfl) ?_
  exact W.vret hx hb_w hr (fun t_w ht hW => ⟨⟨((ad7 h0 q1_w q2_w q3_w q4_w q5_w q6_w), cI, cx), rfl, ⟨rfl, h7, h8⟩, ht ▸ hP, va_K.moved hW.alike hK_w⟩, hS_w.F ht⟩) hS_w.2.2 dX1_init_82
