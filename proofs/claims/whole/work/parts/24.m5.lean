set_option maxHeartbeats 4000000 in
set_option maxRecDepth 100000 in
theorem kX2_late (l : Launch) (G : va_G) (a : Nat → Nat) (cI cZ : ClassId) (g : Nat → Int32) (f : Nat → Nat → Int32) (tc : Int32) (hap : apart a 6) (sz : Nat) (hNN : NN g): wri l yX2_late wsX2_late { frames := 1, cells := 0, slots := 0, locals := 21 } G (wM a cI cZ g f tc) (tyIZ cI cZ) (aS a 6 sz) sz [.ref (a 0)] (fun r u => r = nI (cnt (lateB g f) 200) ∧ u = (g, f, 0)) (wfM a cI cZ) := by
  obtain ⟨N, hN, hN1, hN2⟩ := hNN
  refine wri_of (cc := cX2_late) (nL := 3) (ty := .int) (by decide) rfl (Nat.le_of_ble_eq_true rfl) ?_
  intro p e s m args below meth c H locs ls Q hx hb hml hown hts hP hK hS hret hl
  have hl : lv_has ls 3 [(0, .ref (a 0))] := hl
  have hinX2 : ∀ w ∈ wsX20, w ∈ wsX2_late := by decide +kernel
  refine lv_aload_n hx hb dX2_late_0 rfl (lv_at hl 0 rfl) ?_
  refine lv_iconst (v := 0) hx hb dX2_late_1 (by decide) ?_
  refine mput (index := 49) (v := .int 0) g 0 hx hb hts hinX2 hown hK hP hap hS 17 (by decide) (List.mem_of_getElem? (i := 1) rfl) rfl rfl rfl rfl dX2_late_2 (fun H locs hP hS => ?_)
  refine lv_iconst (v := 0) hx hb dX2_late_5 (by decide) ?_
  refine lv_istore_n (lv' := [(1, .int 0), (0, .ref (a 0))]) hx hb dX2_late_6 rfl hl (by decide) rfl (fun ls hl => ?_)
  refine lv_iconst (v := 0) hx hb dX2_late_7 (by decide) ?_
  refine lv_istore_n (lv' := [(2, .int 0), (1, .int 0), (0, .ref (a 0))]) hx hb dX2_late_8 rfl hl (by decide) rfl (fun ls hl => ?_)
  have loop9 : ∀ (n : Nat) (i : Nat) (x : Int32), i ≤ N → N - i < n → x = nI (cnt (lateB g f) i) → ∀ (H : Heap) (locs : List Loc), va_P G vwCl (wM a cI cZ g f 0) H → va_S (aS a 6 s.heap.size) s.heap H locs → ∀ (ls : Array Slot), lv_has ls 3 [(0, .ref (a 0)), (1, .int x), (2, .int (nI i))] → W p l e { frames := 1, cells := 0, slots := 0, locals := 21 } s m args below meth c H locs 0 0 Q (F0 m 9 ls []) := by
    intro n
    induction n with
    | zero => intro i x hi hn ex; intros; exact absurd hn (Nat.not_lt_zero _)
    | succ n ih9 =>
      intro i x hi hn ex H locs hP hS ls hl
      refine lv_iload_n hx hb dX2_late_9 rfl (lv_at hl 2 rfl) ?_
      refine lv_aload_n hx hb dX2_late_10 rfl (lv_at hl 0 rfl) ?_
      refine mget (index := 46) (v := .int (g 7)) hx hb hts hinX2 hown hK hP 7 (by decide) (List.mem_of_getElem? (i := 2) rfl) rfl dX2_late_11 ?_
      refine lv_icmp_ge (tgt := 39) hx hb dX2_late_14 (by decide) (fun c14 => ?_) (fun c14 => ?_)
      · have ei : i = N := by rw [hN] at c14; have := le_nI (a := N) (b := i) (by omega) (by omega) c14; omega
        refine lv_iload_n hx hb dX2_late_39 rfl (lv_at hl 1 rfl) ?_
        exact hret x (g, f, 0) _ _ _ _ dX2_late_40 rfl hP hS ⟨by rw [ex, ei]; exact congrArg nI (cnt_200 hN2 (fun k h1 h2 => lateB_out (by rw [hN]; exact nI_le h1 (by omega)))).symm, rfl⟩
      have hi2 : i < N := by rw [hN] at c14; exact nle_nI (by omega) (by omega) c14
      have hnf : ¬ g 7 ≤ nI i := c14
      refine lv_iload_n hx hb dX2_late_17 rfl (lv_at hl 1 rfl) ?_
      refine lv_aload_n hx hb dX2_late_18 rfl (lv_at hl 0 rfl) ?_
      refine lv_iload_n hx hb dX2_late_19 rfl (lv_at hl 2 rfl) ?_
      refine rdr_V (As := [.int (nI i)]) (rest := [.int x]) ⟨hx, hb, hml, hown, hts⟩ (kX2_isLate l G a cI cZ g f 0 i (by omega)) (cwV 1 hts gX2_late_X2_isLate rfl rfl rfl (by decide +kernel) ⟨Nat.le_of_ble_eq_true rfl, Nat.le_of_ble_eq_true rfl⟩) (va_recv hK hP (ci := 2) (q0 := 0) rfl rfl) hP hK rfl hl.1 rfl (Nat.le_of_ble_eq_true rfl) dX2_late_20 (by decide) (fun r20 h20 => ?_)
      replace h20 : r20 = bI (lateM g f i) := h20
      subst h20
      refine lv_if_eq (tgt := 30) hx hb dX2_late_23 (by decide) (fun c23 => ?_) (fun c23 => ?_)
      · replace c23 := bI0 c23
        refine lv_iconst (v := 0) hx hb dX2_late_30 (by decide) ?_
        refine lv_iadd hx hb dX2_late_31 ?_
        refine lv_istore_n (lv' := [(1, .int (x + 0)), (0, .ref (a 0)), (2, .int (nI i))]) hx hb dX2_late_32 rfl hl (by decide) rfl (fun ls hl => ?_)
        refine lv_iinc (v := nI (i + 1)) (lv' := [(2, .int (nI (i + 1))), (1, .int (x + 0)), (0, .ref (a 0))]) hx hb dX2_late_33 hl (k := 2) rfl (nI_1 _) (by decide) rfl (fun ls hl => ?_)
        refine lv_goto (tgt := 9) hx hb dX2_late_36 (by decide) ?_
        exact ih9 (i + 1) (x + 0) (by omega) (by omega) (by rw [cnt_f ((lateB_in hnf).trans c23), Int32.add_zero]; exact ex) _ _ hP hS _ (lv_sub hl [2, 1, 0] rfl)
      replace c23 := bIn c23
      refine lv_iconst (v := 1) hx hb dX2_late_26 (by decide) ?_
      refine lv_goto (tgt := 31) hx hb dX2_late_27 (by decide) ?_
      refine lv_iadd hx hb dX2_late_31 ?_
      refine lv_istore_n (lv' := [(1, .int (x + 1)), (0, .ref (a 0)), (2, .int (nI i))]) hx hb dX2_late_32 rfl hl (by decide) rfl (fun ls hl => ?_)
      refine lv_iinc (v := nI (i + 1)) (lv' := [(2, .int (nI (i + 1))), (1, .int (x + 1)), (0, .ref (a 0))]) hx hb dX2_late_33 hl (k := 2) rfl (nI_1 _) (by decide) rfl (fun ls hl => ?_)
      refine lv_goto (tgt := 9) hx hb dX2_late_36 (by decide) ?_
      exact ih9 (i + 1) (x + 1) (by omega) (by omega) (by rw [cnt_t ((lateB_in hnf).trans c23), ex]; exact nI_1 _) _ _ hP hS _ (lv_sub hl [2, 1, 0] rfl)
  exact loop9 (N + 1) 0 0 (by omega) (by omega) rfl _ _ hP hS _ (lv_sub hl [2, 1, 0] rfl)
set_option maxHeartbeats 4000000 in
set_option maxRecDepth 100000 in
theorem kX2_allRanges (l : Launch) (G : va_G) (a : Nat → Nat) (cI cZ : ClassId) (g : Nat → Int32) (f : Nat → Nat → Int32) (tc : Int32) (hNN : NN g): rdr l yX2_allRanges wsX2_allRanges { frames := 3, cells := 0, slots := 0, locals := 64 } G (wM a cI cZ g f tc) (tyIZ cI cZ) [.ref (a 0)] (fun r => r = nI (cnt (rsB g f) 200)) := by
  obtain ⟨N, hN, hN1, hN2⟩ := id hNN
  refine rdr_of (cc := cX2_allRanges) (nL := 3) (ty := .int) (by decide) rfl (Nat.le_of_ble_eq_true rfl) ?_
  intro p e s m args below meth c H ls Q hx hb hml hown hts hP hK hret hl
  have hl : lv_has ls 3 [(0, .ref (a 0))] := hl
  have hinX2 : ∀ w ∈ wsX20, w ∈ wsX2_allRanges := by decide +kernel
  refine lv_iconst (v := 0) hx hb dX2_allRanges_0 (by decide) ?_
  refine lv_istore_n (lv' := [(1, .int 0), (0, .ref (a 0))]) hx hb dX2_allRanges_1 rfl hl (by decide) rfl (fun ls hl => ?_)
  refine lv_iconst (v := 0) hx hb dX2_allRanges_2 (by decide) ?_
  refine lv_istore_n (lv' := [(2, .int 0), (1, .int 0), (0, .ref (a 0))]) hx hb dX2_allRanges_3 rfl hl (by decide) rfl (fun ls hl => ?_)
  have loop4 : ∀ (n : Nat) (i : Nat) (x : Int32), i ≤ N → N - i < n → x = nI (cnt (rsB g f) i) → ∀ (ls : Array Slot), lv_has ls 3 [(0, .ref (a 0)), (1, .int x), (2, .int (nI i))] → W p l e { frames := 3, cells := 0, slots := 0, locals := 64 } s m args below meth c H [] 0 0 Q (F0 m 4 ls []) := by
    intro n
    induction n with
    | zero => intro i x hi hn ex; intros; exact absurd hn (Nat.not_lt_zero _)
    | succ n ih4 =>
      intro i x hi hn ex ls hl
      refine lv_iload_n hx hb dX2_allRanges_4 rfl (lv_at hl 2 rfl) ?_
      refine lv_aload_n hx hb dX2_allRanges_5 rfl (lv_at hl 0 rfl) ?_
      refine mget (index := 46) (v := .int (g 7)) hx hb hts hinX2 hown hK hP 7 (by decide) (List.mem_of_getElem? (i := 1) rfl) rfl dX2_allRanges_6 ?_
      refine lv_icmp_ge (tgt := 44) hx hb dX2_allRanges_9 (by decide) (fun c9 => ?_) (fun c9 => ?_)
      · have ei : i = N := by rw [hN] at c9; have := le_nI (a := N) (b := i) (by omega) (by omega) c9; omega
        refine lv_iload_n hx hb dX2_allRanges_44 rfl (lv_at hl 1 rfl) ?_
        exact hret x _ _ dX2_allRanges_45 rfl (by rw [ex, ei]; exact congrArg nI (cnt_200 hN2 (fun k h1 h2 => rsB_out (by rw [hN]; exact nI_le h1 (by omega)))).symm)
      have hi2 : i < N := by rw [hN] at c9; exact nle_nI (by omega) (by omega) c9
      have hnf : ¬ g 7 ≤ nI i := c9
      refine lv_iload_n hx hb dX2_allRanges_12 rfl (lv_at hl 1 rfl) ?_
      refine lv_aload_n hx hb dX2_allRanges_13 rfl (lv_at hl 0 rfl) ?_
      refine lv_iload_n hx hb dX2_allRanges_14 rfl (lv_at hl 2 rfl) ?_
      refine rdr_V (As := [.int (nI i)]) (rest := [.int x]) ⟨hx, hb, hml, hown, hts⟩ (kX2_isHere l G a cI cZ g f tc (nI i) hNN) (cwV 1 hts gX2_allRanges_X2_isHere rfl rfl rfl (by decide +kernel) ⟨Nat.le_of_ble_eq_true rfl, Nat.le_of_ble_eq_true rfl⟩) (va_recv hK hP (ci := 2) (q0 := 0) rfl rfl) hP hK rfl hl.1 rfl (Nat.le_of_ble_eq_true rfl) dX2_allRanges_15 (by decide) (fun r15 h15 => ?_)
      replace h15 : r15 = bI (hereI g f (nI i)) := h15
      subst h15
      refine lv_if_eq (tgt := 35) hx hb dX2_allRanges_18 (by decide) (fun c18 => ?_) (fun c18 => ?_)
      · replace c18 := bI0 c18
        refine lv_iconst (v := 0) hx hb dX2_allRanges_35 (by decide) ?_
        refine lv_iadd hx hb dX2_allRanges_36 ?_
        refine lv_istore_n (lv' := [(1, .int (x + 0)), (0, .ref (a 0)), (2, .int (nI i))]) hx hb dX2_allRanges_37 rfl hl (by decide) rfl (fun ls hl => ?_)
        refine lv_iinc (v := nI (i + 1)) (lv' := [(2, .int (nI (i + 1))), (1, .int (x + 0)), (0, .ref (a 0))]) hx hb dX2_allRanges_38 hl (k := 2) rfl (nI_1 _) (by decide) rfl (fun ls hl => ?_)
        refine lv_goto (tgt := 4) hx hb dX2_allRanges_41 (by decide) ?_
        exact ih4 (i + 1) (x + 0) (by omega) (by omega) (by rw [cnt_f (by unfold rsB; rw [← hereI_nI (show i < 200 by omega), c18]; rfl), Int32.add_zero]; exact ex) _ (lv_sub hl [2, 1, 0] rfl)
      replace c18 := bIn c18
      refine lv_aload_n hx hb dX2_allRanges_21 rfl (lv_at hl 0 rfl) ?_
      refine lv_iload_n hx hb dX2_allRanges_22 rfl (lv_at hl 2 rfl) ?_
      refine lv_iconst (v := 1) hx hb dX2_allRanges_23 (by decide) ?_
      refine lv_isub hx hb dX2_allRanges_24 ?_
      refine rdr_V (As := [.int ((nI i) - 1)]) (rest := [.int x]) ⟨hx, hb, hml, hown, hts⟩ (kX2_isHere l G a cI cZ g f tc ((nI i) - 1) hNN) (cwV 1 hts gX2_allRanges_X2_isHere rfl rfl rfl (by decide +kernel) ⟨Nat.le_of_ble_eq_true rfl, Nat.le_of_ble_eq_true rfl⟩) (va_recv hK hP (ci := 2) (q0 := 0) rfl rfl) hP hK rfl hl.1 rfl (Nat.le_of_ble_eq_true rfl) dX2_allRanges_25 (by decide) (fun r25 h25 => ?_)
      replace h25 : r25 = bI (hereI g f ((nI i) - 1)) := h25
      subst h25
      refine lv_if_ne (tgt := 35) hx hb dX2_allRanges_28 (by decide) (fun c28 => ?_) (fun c28 => ?_)
      · replace c28 := bIn c28
        refine lv_iconst (v := 0) hx hb dX2_allRanges_35 (by decide) ?_
        refine lv_iadd hx hb dX2_allRanges_36 ?_
        refine lv_istore_n (lv' := [(1, .int (x + 0)), (0, .ref (a 0)), (2, .int (nI i))]) hx hb dX2_allRanges_37 rfl hl (by decide) rfl (fun ls hl => ?_)
        refine lv_iinc (v := nI (i + 1)) (lv' := [(2, .int (nI (i + 1))), (1, .int (x + 0)), (0, .ref (a 0))]) hx hb dX2_allRanges_38 hl (k := 2) rfl (nI_1 _) (by decide) rfl (fun ls hl => ?_)
        refine lv_goto (tgt := 4) hx hb dX2_allRanges_41 (by decide) ?_
        exact ih4 (i + 1) (x + 0) (by omega) (by omega) (by rw [cnt_f (by unfold rsB; rw [← hereI_nI (show i < 200 by omega), c18, c28]; rfl), Int32.add_zero]; exact ex) _ (lv_sub hl [2, 1, 0] rfl)
      replace c28 := bI0 c28
      refine lv_iconst (v := 1) hx hb dX2_allRanges_31 (by decide) ?_
      refine lv_goto (tgt := 36) hx hb dX2_allRanges_32 (by decide) ?_
      refine lv_iadd hx hb dX2_allRanges_36 ?_
      refine lv_istore_n (lv' := [(1, .int (x + 1)), (0, .ref (a 0)), (2, .int (nI i))]) hx hb dX2_allRanges_37 rfl hl (by decide) rfl (fun ls hl => ?_)
      refine lv_iinc (v := nI (i + 1)) (lv' := [(2, .int (nI (i + 1))), (1, .int (x + 1)), (0, .ref (a 0))]) hx hb dX2_allRanges_38 hl (k := 2) rfl (nI_1 _) (by decide) rfl (fun ls hl => ?_)
      refine lv_goto (tgt := 4) hx hb dX2_allRanges_41 (by decide) ?_
      exact ih4 (i + 1) (x + 1) (by omega) (by omega) (by rw [cnt_t (by unfold rsB; rw [← hereI_nI (show i < 200 by omega), c18, c28]; rfl), ex]; exact nI_1 _) _ (lv_sub hl [2, 1, 0] rfl)
  exact loop4 (N + 1) 0 0 (by omega) (by omega) rfl _ (lv_sub hl [2, 1, 0] rfl)
set_option maxHeartbeats 4000000 in
set_option maxRecDepth 100000 in
theorem kX2_ranges (l : Launch) (G : va_G) (a : Nat → Nat) (cI cZ : ClassId) (g : Nat → Int32) (f : Nat → Nat → Int32) (tc : Int32) (hap : apart a 6) (sz : Nat) (hNN : NN g): wri l yX2_ranges wsX2_ranges { frames := 4, cells := 0, slots := 0, locals := 86 } G (wM a cI cZ g f tc) (tyIZ cI cZ) (aS a 6 sz) sz [.ref (a 0)] (fun r u => r = nI (cnt (rsB g f) 200) ∧ u = (g, f, 0)) (wfM a cI cZ) := by
  refine wri_of (cc := cX2_ranges) (nL := 1) (ty := .int) (by decide) rfl (Nat.le_of_ble_eq_true rfl) ?_
  intro p e s m args below meth c H locs ls Q hx hb hml hown hts hP hK hS hret hl
  have hl : lv_has ls 1 [(0, .ref (a 0))] := hl
  have hinX2 : ∀ w ∈ wsX20, w ∈ wsX2_ranges := by decide +kernel
  refine lv_aload_n hx hb dX2_ranges_0 rfl (lv_at hl 0 rfl) ?_
  refine lv_iconst (v := 0) hx hb dX2_ranges_1 (by decide) ?_
  refine mput (index := 49) (v := .int 0) g 0 hx hb hts hinX2 hown hK hP hap hS 17 (by decide) (List.mem_of_getElem? (i := 1) rfl) rfl rfl rfl rfl dX2_ranges_2 (fun H locs hP hS => ?_)
  refine lv_aload_n hx hb dX2_ranges_5 rfl (lv_at hl 0 rfl) ?_
  refine rdr_V (As := []) (rest := []) ⟨hx, hb, hml, hown, hts⟩ (kX2_allRanges l G a cI cZ g f 0  hNN) (cwV 0 hts gX2_ranges_X2_allRanges rfl rfl rfl (by decide +kernel) ⟨Nat.le_of_ble_eq_true rfl, Nat.le_of_ble_eq_true rfl⟩) (va_recv hK hP (ci := 2) (q0 := 0) rfl rfl) hP hK rfl hl.1 rfl (Nat.le_of_ble_eq_true rfl) dX2_ranges_6 (by decide) (fun r6 h6 => ?_)
  replace h6 : r6 = nI (cnt (rsB g f) 200) := h6
  subst h6
  exact hret (nI (cnt (rsB g f) 200)) (g, f, 0) _ _ _ _ dX2_ranges_9 rfl hP hS ⟨rfl, rfl⟩
set_option maxHeartbeats 4000000 in
set_option maxRecDepth 100000 in
theorem kX2_isHeld (l : Launch) (G : va_G) (a : Nat → Nat) (cI cZ : ClassId) (g : Nat → Int32) (f : Nat → Nat → Int32) (tc : Int32) (hap : apart a 6) (sz : Nat) (p0 : Int32) (hNN : NN g): wri l yX2_isHeld wsX2_isHeld { frames := 3, cells := 0, slots := 0, locals := 64 } G (wM a cI cZ g f tc) (tyIZ cI cZ) (aS a 6 sz) sz [.ref (a 0), .int p0] (fun r u => r = bI (hereI g f p0) ∧ u = (g, f, 0)) (wfM a cI cZ) := by
  refine wri_of (cc := cX2_isHeld) (nL := 2) (ty := .boolean) (by decide) rfl (Nat.le_of_ble_eq_true rfl) ?_
  intro p e s m args below meth c H locs ls Q hx hb hml hown hts hP hK hS hret hl
  have hl : lv_has ls 2 [(0, .ref (a 0)), (1, .int p0)] := hl
  have hinX2 : ∀ w ∈ wsX20, w ∈ wsX2_isHeld := by decide +kernel
  refine lv_aload_n hx hb dX2_isHeld_0 rfl (lv_at hl 0 rfl) ?_
  refine lv_iconst (v := 0) hx hb dX2_isHeld_1 (by decide) ?_
  refine mput (index := 49) (v := .int 0) g 0 hx hb hts hinX2 hown hK hP hap hS 17 (by decide) (List.mem_of_getElem? (i := 1) rfl) rfl rfl rfl rfl dX2_isHeld_2 (fun H locs hP hS => ?_)
  refine lv_aload_n hx hb dX2_isHeld_5 rfl (lv_at hl 0 rfl) ?_
  refine lv_iload_n hx hb dX2_isHeld_6 rfl (lv_at hl 1 rfl) ?_
  refine rdr_V (As := [.int p0]) (rest := []) ⟨hx, hb, hml, hown, hts⟩ (kX2_isHere l G a cI cZ g f 0 p0 hNN) (cwV 1 hts gX2_isHeld_X2_isHere rfl rfl rfl (by decide +kernel) ⟨Nat.le_of_ble_eq_true rfl, Nat.le_of_ble_eq_true rfl⟩) (va_recv hK hP (ci := 2) (q0 := 0) rfl rfl) hP hK rfl hl.1 rfl (Nat.le_of_ble_eq_true rfl) dX2_isHeld_7 (by decide) (fun r7 h7 => ?_)
  replace h7 : r7 = bI (hereI g f p0) := h7
  subst h7
  exact hret (bI (hereI g f p0)) (g, f, 0) _ _ _ _ dX2_isHeld_10 (bIr _) hP hS ⟨rfl, rfl⟩
set_option maxHeartbeats 4000000 in
set_option maxRecDepth 100000 in
theorem kX2_find (l : Launch) (G : va_G) (a : Nat → Nat) (cI cZ : ClassId) (g : Nat → Int32) (f : Nat → Nat → Int32) (tc : Int32) (hap : apart a 6) (sz : Nat) (p0 p1 : Int32) (hp : inPat g): wri l yX2_find wsX2_find { frames := 1, cells := 0, slots := 0, locals := 21 } G (wM a cI cZ g f tc) (tyIZ cI cZ) (aS a 6 sz) sz [.ref (a 0), .int p0, .int p1] (fun r u => r = lastR (fdB g p0 p1) 200 ∧ u = (g, f, 0)) (wfM a cI cZ) := by
  refine wri_of (cc := cX2_find) (nL := 5) (ty := .int) (by decide) rfl (Nat.le_of_ble_eq_true rfl) ?_
  intro p e s m args below meth c H locs ls Q hx hb hml hown hts hP hK hS hret hl
  have hl : lv_has ls 5 [(0, .ref (a 0)), (1, .int p0), (2, .int p1)] := hl
  have hinX2 : ∀ w ∈ wsX20, w ∈ wsX2_find := by decide +kernel
  refine lv_aload_n hx hb dX2_find_0 rfl (lv_at hl 0 rfl) ?_
  refine lv_iconst (v := 0) hx hb dX2_find_1 (by decide) ?_
  refine mput (index := 49) (v := .int 0) g 0 hx hb hts hinX2 hown hK hP hap hS 17 (by decide) (List.mem_of_getElem? (i := 1) rfl) rfl rfl rfl rfl dX2_find_2 (fun H locs hP hS => ?_)
  refine lv_iconst (v := (-1)) hx hb dX2_find_5 (by decide) ?_
  refine lv_istore_n (lv' := [(3, .int (-1)), (0, .ref (a 0)), (1, .int p0), (2, .int p1)]) hx hb dX2_find_6 rfl hl (by decide) rfl (fun ls hl => ?_)
  refine lv_iconst (v := 0) hx hb dX2_find_7 (by decide) ?_
  refine lv_istore (lv' := [(4, .int 0), (3, .int (-1)), (0, .ref (a 0)), (1, .int p0), (2, .int p1)]) hx hb dX2_find_8 hl (by decide) rfl (fun ls hl => ?_)
  have loop10 : ∀ (n : Nat) (i : Nat) (x : Int32), i ≤ 200 → 200 - i < n → x = lastR (fdB g p0 p1) i → ∀ (H : Heap) (locs : List Loc), va_P G vwCl (wM a cI cZ g f 0) H → va_S (aS a 6 s.heap.size) s.heap H locs → ∀ (ls : Array Slot), lv_has ls 5 [(0, .ref (a 0)), (1, .int p0), (2, .int p1), (3, .int x), (4, .int (nI i))] → W p l e { frames := 1, cells := 0, slots := 0, locals := 21 } s m args below meth c H locs 0 0 Q (F0 m 10 ls []) := by
    intro n
    induction n with
    | zero => intro i x hi hn ex; intros; exact absurd hn (Nat.not_lt_zero _)
    | succ n ih10 =>
      intro i x hi hn ex H locs hP hS ls hl
      refine lv_iload hx hb dX2_find_10 (lv_at hl 4 rfl) ?_
      refine lv_sipush (v := 200) hx hb dX2_find_12 (by decide) ?_
      refine lv_icmp_ge (tgt := 51) hx hb dX2_find_15 (by decide) (fun c15 => ?_) (fun c15 => ?_)
      · have ei := ge_200 c15 (by omega)
        refine lv_iload_n hx hb dX2_find_51 rfl (lv_at hl 3 rfl) ?_
        exact hret x (g, f, 0) _ _ _ _ dX2_find_52 rfl hP hS ⟨by rw [ex, ei], rfl⟩
      have hi2 := nge_200 c15 (by omega)
      refine lv_aload_n hx hb dX2_find_18 rfl (lv_at hl 0 rfl) ?_
      refine lv_iload hx hb dX2_find_19 (lv_at hl 4 rfl) ?_
      refine rdr_V (As := [.int (nI i)]) (rest := []) ⟨hx, hb, hml, hown, hts⟩ (kX2_volume l G a cI cZ g f 0 (nI i) hp) (cwV 1 hts gX2_find_X2_volume rfl rfl rfl (by decide +kernel) ⟨Nat.le_of_ble_eq_true rfl, Nat.le_of_ble_eq_true rfl⟩) (va_recv hK hP (ci := 2) (q0 := 0) rfl rfl) hP hK rfl hl.1 rfl (Nat.le_of_ble_eq_true rfl) dX2_find_21 (by decide) (fun r21 h21 => ?_)
      replace h21 : r21 = volD g (nI i) := h21
      subst h21
      refine lv_iload_n hx hb dX2_find_24 rfl (lv_at hl 1 rfl) ?_
      refine lv_icmp_ne (tgt := 43) hx hb dX2_find_25 (by decide) (fun c25 => ?_) (fun c25 => ?_)
      · refine lv_iload_n hx hb dX2_find_43 rfl (lv_at hl 3 rfl) ?_
        refine lv_istore_n (lv' := [(3, .int x), (0, .ref (a 0)), (1, .int p0), (2, .int p1), (4, .int (nI i))]) hx hb dX2_find_44 rfl hl (by decide) rfl (fun ls hl => ?_)
        refine lv_iinc (v := nI (i + 1)) (lv' := [(4, .int (nI (i + 1))), (3, .int x), (0, .ref (a 0)), (1, .int p0), (2, .int p1)]) hx hb dX2_find_45 hl (k := 4) rfl (nI_1 _) (by decide) rfl (fun ls hl => ?_)
        refine lv_goto (tgt := 10) hx hb dX2_find_48 (by decide) ?_
        exact ih10 (i + 1) x (by omega) (by omega) (by rw [lastR_f (by simp [fdB, c25])]; exact ex) _ _ hP hS _ (lv_sub hl [2, 3, 4, 1, 0] rfl)
      refine lv_aload_n hx hb dX2_find_28 rfl (lv_at hl 0 rfl) ?_
      refine lv_iload hx hb dX2_find_29 (lv_at hl 4 rfl) ?_
      refine rdr_V (As := [.int (nI i)]) (rest := []) ⟨hx, hb, hml, hown, hts⟩ (kX2_number l G a cI cZ g f 0 (nI i) hp) (cwV 1 hts gX2_find_X2_number rfl rfl rfl (by decide +kernel) ⟨Nat.le_of_ble_eq_true rfl, Nat.le_of_ble_eq_true rfl⟩) (va_recv hK hP (ci := 2) (q0 := 0) rfl rfl) hP hK rfl hl.1 rfl (Nat.le_of_ble_eq_true rfl) dX2_find_31 (by decide) (fun r31 h31 => ?_)
      replace h31 : r31 = numD g (nI i) := h31
      subst h31
      refine lv_iload_n hx hb dX2_find_34 rfl (lv_at hl 2 rfl) ?_
      refine lv_icmp_ne (tgt := 43) hx hb dX2_find_35 (by decide) (fun c35 => ?_) (fun c35 => ?_)
      · refine lv_iload_n hx hb dX2_find_43 rfl (lv_at hl 3 rfl) ?_
        refine lv_istore_n (lv' := [(3, .int x), (0, .ref (a 0)), (1, .int p0), (2, .int p1), (4, .int (nI i))]) hx hb dX2_find_44 rfl hl (by decide) rfl (fun ls hl => ?_)
        refine lv_iinc (v := nI (i + 1)) (lv' := [(4, .int (nI (i + 1))), (3, .int x), (0, .ref (a 0)), (1, .int p0), (2, .int p1)]) hx hb dX2_find_45 hl (k := 4) rfl (nI_1 _) (by decide) rfl (fun ls hl => ?_)
        refine lv_goto (tgt := 10) hx hb dX2_find_48 (by decide) ?_
        exact ih10 (i + 1) x (by omega) (by omega) (by rw [lastR_f (by simp [fdB, c35])]; exact ex) _ _ hP hS _ (lv_sub hl [2, 3, 4, 1, 0] rfl)
      refine lv_iload hx hb dX2_find_38 (lv_at hl 4 rfl) ?_
      refine lv_goto (tgt := 44) hx hb dX2_find_40 (by decide) ?_
      refine lv_istore_n (lv' := [(3, .int (nI i)), (0, .ref (a 0)), (1, .int p0), (2, .int p1), (4, .int (nI i))]) hx hb dX2_find_44 rfl hl (by decide) rfl (fun ls hl => ?_)
      refine lv_iinc (v := nI (i + 1)) (lv' := [(4, .int (nI (i + 1))), (3, .int (nI i)), (0, .ref (a 0)), (1, .int p0), (2, .int p1)]) hx hb dX2_find_45 hl (k := 4) rfl (nI_1 _) (by decide) rfl (fun ls hl => ?_)
      refine lv_goto (tgt := 10) hx hb dX2_find_48 (by decide) ?_
      exact ih10 (i + 1) (nI i) (by omega) (by omega) (lastR_t (by simp [fdB, c25, c35])).symm _ _ hP hS _ (lv_sub hl [2, 3, 4, 1, 0] rfl)
  exact loop10 201 0 (-1) (by omega) (by omega) rfl _ _ hP hS _ (lv_sub hl [2, 3, 4, 1, 0] rfl)
set_option maxHeartbeats 4000000 in
set_option maxRecDepth 100000 in
theorem kX2_day (l : Launch) (G : va_G) (a : Nat → Nat) (cI cZ : ClassId) (g : Nat → Int32) (f : Nat → Nat → Int32) (tc : Int32) (hap : apart a 6) (sz : Nat) : wri l yX2_day wsX2_day { frames := 0, cells := 0, slots := 0, locals := 0 } G (wM a cI cZ g f tc) (tyIZ cI cZ) (aS a 6 sz) sz [.ref (a 0)] (fun r u => r = g 0 ∧ u = (g, f, 0)) (wfM a cI cZ) := by
  refine wri_of (cc := cX2_day) (nL := 1) (ty := .int) (by decide) rfl (Nat.le_of_ble_eq_true rfl) ?_
  intro p e s m args below meth c H locs ls Q hx hb hml hown hts hP hK hS hret hl
  have hl : lv_has ls 1 [(0, .ref (a 0))] := hl
  have hinX2 : ∀ w ∈ wsX20, w ∈ wsX2_day := by decide +kernel
  refine lv_aload_n hx hb dX2_day_0 rfl (lv_at hl 0 rfl) ?_
  refine lv_iconst (v := 0) hx hb dX2_day_1 (by decide) ?_
  refine mput (index := 49) (v := .int 0) g 0 hx hb hts hinX2 hown hK hP hap hS 17 (by decide) (List.mem_of_getElem? (i := 1) rfl) rfl rfl rfl rfl dX2_day_2 (fun H locs hP hS => ?_)
  refine lv_aload_n hx hb dX2_day_5 rfl (lv_at hl 0 rfl) ?_
  refine mget (index := 70) (v := .int (g 0)) hx hb hts hinX2 hown hK hP 0 (by decide) (List.mem_of_getElem? (i := 2) rfl) rfl dX2_day_6 ?_
  exact hret (g 0) (g, f, 0) _ _ _ _ dX2_day_9 rfl hP hS ⟨rfl, rfl⟩
set_option maxHeartbeats 4000000 in
set_option maxRecDepth 100000 in
theorem kX2_foretold (l : Launch) (G : va_G) (a : Nat → Nat) (cI cZ : ClassId) (g : Nat → Int32) (f : Nat → Nat → Int32) (tc : Int32) (hap : apart a 6) (sz : Nat) : wri l yX2_foretold wsX2_foretold { frames := 0, cells := 0, slots := 0, locals := 0 } G (wM a cI cZ g f tc) (tyIZ cI cZ) (aS a 6 sz) sz [.ref (a 0)] (fun r u => r = g 7 ∧ u = (g, f, 0)) (wfM a cI cZ) := by
  refine wri_of (cc := cX2_foretold) (nL := 1) (ty := .int) (by decide) rfl (Nat.le_of_ble_eq_true rfl) ?_
  intro p e s m args below meth c H locs ls Q hx hb hml hown hts hP hK hS hret hl
  have hl : lv_has ls 1 [(0, .ref (a 0))] := hl
  have hinX2 : ∀ w ∈ wsX20, w ∈ wsX2_foretold := by decide +kernel
  refine lv_aload_n hx hb dX2_foretold_0 rfl (lv_at hl 0 rfl) ?_
  refine lv_iconst (v := 0) hx hb dX2_foretold_1 (by decide) ?_
  refine mput (index := 49) (v := .int 0) g 0 hx hb hts hinX2 hown hK hP hap hS 17 (by decide) (List.mem_of_getElem? (i := 1) rfl) rfl rfl rfl rfl dX2_foretold_2 (fun H locs hP hS => ?_)
  refine lv_aload_n hx hb dX2_foretold_5 rfl (lv_at hl 0 rfl) ?_
  refine mget (index := 46) (v := .int (g 7)) hx hb hts hinX2 hown hK hP 7 (by decide) (List.mem_of_getElem? (i := 2) rfl) rfl dX2_foretold_6 ?_
  exact hret (g 7) (g, f, 0) _ _ _ _ dX2_foretold_9 rfl hP hS ⟨rfl, rfl⟩
set_option maxHeartbeats 4000000 in
set_option maxRecDepth 100000 in
theorem kX2_shift (l : Launch) (G : va_G) (a : Nat → Nat) (cI cZ : ClassId) (g : Nat → Int32) (f : Nat → Nat → Int32) (tc : Int32) (hap : apart a 6) (sz : Nat) : wri l yX2_shift wsX2_shift { frames := 0, cells := 0, slots := 0, locals := 0 } G (wM a cI cZ g f tc) (tyIZ cI cZ) (aS a 6 sz) sz [.ref (a 0)] (fun r u => r = g 8 ∧ u = (g, f, 0)) (wfM a cI cZ) := by
  refine wri_of (cc := cX2_shift) (nL := 1) (ty := .int) (by decide) rfl (Nat.le_of_ble_eq_true rfl) ?_
  intro p e s m args below meth c H locs ls Q hx hb hml hown hts hP hK hS hret hl
  have hl : lv_has ls 1 [(0, .ref (a 0))] := hl
  have hinX2 : ∀ w ∈ wsX20, w ∈ wsX2_shift := by decide +kernel
  refine lv_aload_n hx hb dX2_shift_0 rfl (lv_at hl 0 rfl) ?_
  refine lv_iconst (v := 0) hx hb dX2_shift_1 (by decide) ?_
  refine mput (index := 49) (v := .int 0) g 0 hx hb hts hinX2 hown hK hP hap hS 17 (by decide) (List.mem_of_getElem? (i := 1) rfl) rfl rfl rfl rfl dX2_shift_2 (fun H locs hP hS => ?_)
  refine lv_aload_n hx hb dX2_shift_5 rfl (lv_at hl 0 rfl) ?_
  refine mget (index := 59) (v := .int (g 8)) hx hb hts hinX2 hown hK hP 13 (by decide) (List.mem_of_getElem? (i := 2) rfl) rfl dX2_shift_6 ?_
  exact hret (g 8) (g, f, 0) _ _ _ _ dX2_shift_9 rfl hP hS ⟨rfl, rfl⟩
set_option maxHeartbeats 4000000 in
set_option maxRecDepth 100000 in
theorem kX2_thrown (l : Launch) (G : va_G) (a : Nat → Nat) (cI cZ : ClassId) (g : Nat → Int32) (f : Nat → Nat → Int32) (tc : Int32) : rdr l yX2_thrown wsX2_thrown { frames := 0, cells := 0, slots := 0, locals := 0 } G (wM a cI cZ g f tc) (tyIZ cI cZ) [.ref (a 0)] (fun r => r = tc) := by
  refine rdr_of (cc := cX2_thrown) (nL := 1) (ty := .int) (by decide) rfl (Nat.le_of_ble_eq_true rfl) ?_
  intro p e s m args below meth c H ls Q hx hb hml hown hts hP hK hret hl
  have hl : lv_has ls 1 [(0, .ref (a 0))] := hl
  have hinX2 : ∀ w ∈ wsX20, w ∈ wsX2_thrown := by decide +kernel
  refine lv_aload_n hx hb dX2_thrown_0 rfl (lv_at hl 0 rfl) ?_
  refine mget (index := 49) (v := .int tc) hx hb hts hinX2 hown hK hP 17 (by decide) (List.mem_of_getElem? (i := 1) rfl) rfl dX2_thrown_1 ?_
  exact hret tc _ _ dX2_thrown_4 rfl rfl
set_option maxHeartbeats 4000000 in
set_option maxRecDepth 100000 in
theorem kX2_isAsked (l : Launch) (G : va_G) (a : Nat → Nat) (cI cZ : ClassId) (g : Nat → Int32) (f : Nat → Nat → Int32) (tc : Int32) (hap : apart a 6) (sz : Nat) (p0 : Int32) (hNN : NN g): wri l yX2_isAsked wsX2_isAsked { frames := 2, cells := 0, slots := 0, locals := 43 } G (wM a cI cZ g f tc) (tyIZ cI cZ) (aS a 6 sz) sz [.ref (a 0), .int p0] (fun r u => r = bI (isF g p0) ∧ u = (g, f, askT g p0)) (wfM a cI cZ) := by
  refine wri_of (cc := cX2_isAsked) (nL := 2) (ty := .boolean) (by decide) rfl (Nat.le_of_ble_eq_true rfl) ?_
  intro p e s m args below meth c H locs ls Q hx hb hml hown hts hP hK hS hret hl
  have hl : lv_has ls 2 [(0, .ref (a 0)), (1, .int p0)] := hl
  refine lv_aload_n hx hb dX2_isAsked_0 rfl (lv_at hl 0 rfl) ?_
  refine lv_aload_n hx hb dX2_isAsked_1 rfl (lv_at hl 0 rfl) ?_
  refine lv_iload_n hx hb dX2_isAsked_2 rfl (lv_at hl 1 rfl) ?_
  refine rdr_V (As := [.int p0]) (rest := [.ref (a 0)]) ⟨hx, hb, hml, hown, hts⟩ (kX2_isForetold l G a cI cZ g f tc p0 hNN) (cwV 1 hts gX2_isAsked_X2_isForetold rfl rfl rfl (by decide +kernel) ⟨Nat.le_of_ble_eq_true rfl, Nat.le_of_ble_eq_true rfl⟩) (va_recv hK hP (ci := 2) (q0 := 0) rfl rfl) hP hK rfl hl.1 rfl (Nat.le_of_ble_eq_true rfl) dX2_isAsked_3 (by decide) (fun r3 h3 => ?_)
  replace h3 : r3 = bI (isF g p0) := h3
  subst h3
  refine lv_if_eq (tgt := 13) hx hb dX2_isAsked_6 (by decide) (fun c6 => ?_) (fun c6 => ?_)
  · replace c6 := bI0 c6
    refine lv_iconst (v := 1) hx hb dX2_isAsked_13 (by decide) ?_
    refine wri_V (As := [.int 1]) (rest := []) ⟨hx, hb, hml, hown, hts⟩ (kX2_can l G a cI cZ g f tc hap _ 1 ) (cwV 1 hts gX2_isAsked_X2_can rfl rfl rfl (by decide +kernel) ⟨Nat.le_of_ble_eq_true rfl, Nat.le_of_ble_eq_true rfl⟩) (va_recv hK hP (ci := 2) (q0 := 0) rfl rfl) hP hK hS rfl hl.1 rfl (Nat.le_of_ble_eq_true rfl) dX2_isAsked_14 (by decide) (fun r14 u14 H locs h14 hP hS => ?_)
    obtain ⟨h14_1, h14_2⟩ := h14
    replace h14_1 : r14 = bI false := h14_1.trans (by decide)
    subst h14_1
    subst h14_2
    have hP : va_P G vwCl (wM a cI cZ g f 1) H := hP
    exact hret (bI false) (g, f, 1) _ _ _ _ dX2_isAsked_17 (bIr _) hP hS ⟨by rw [c6], by unfold askT; rw [c6]; rfl⟩
  replace c6 := bIn c6
  refine lv_iconst (v := 0) hx hb dX2_isAsked_9 (by decide) ?_
  refine lv_goto (tgt := 14) hx hb dX2_isAsked_10 (by decide) ?_
  refine wri_V (As := [.int 0]) (rest := []) ⟨hx, hb, hml, hown, hts⟩ (kX2_can l G a cI cZ g f tc hap _ 0 ) (cwV 1 hts gX2_isAsked_X2_can rfl rfl rfl (by decide +kernel) ⟨Nat.le_of_ble_eq_true rfl, Nat.le_of_ble_eq_true rfl⟩) (va_recv hK hP (ci := 2) (q0 := 0) rfl rfl) hP hK hS rfl hl.1 rfl (Nat.le_of_ble_eq_true rfl) dX2_isAsked_14 (by decide) (fun r14 u14 H locs h14 hP hS => ?_)
  obtain ⟨h14_1, h14_2⟩ := h14
  replace h14_1 : r14 = bI true := h14_1.trans (by decide)
  subst h14_1
  subst h14_2
  have hP : va_P G vwCl (wM a cI cZ g f 0) H := hP
  exact hret (bI true) (g, f, 0) _ _ _ _ dX2_isAsked_17 (bIr _) hP hS ⟨by rw [c6], by unfold askT; rw [c6]; rfl⟩
set_option maxHeartbeats 4000000 in
set_option maxRecDepth 100000 in
theorem kX2_dayOf (l : Launch) (G : va_G) (a : Nat → Nat) (cI cZ : ClassId) (g : Nat → Int32) (f : Nat → Nat → Int32) (tc : Int32) (hap : apart a 6) (sz : Nat) (p0 : Int32) (hNN : NN g): wri l yX2_dayOf wsX2_dayOf { frames := 3, cells := 0, slots := 0, locals := 64 } G (wM a cI cZ g f tc) (tyIZ cI cZ) (aS a 6 sz) sz [.ref (a 0), .int p0] (fun r u => r = askV g (f 0) p0 ∧ u = (g, f, askT g p0)) (wfM a cI cZ) := by
  refine wri_of (cc := cX2_dayOf) (nL := 2) (ty := .int) (by decide) rfl (Nat.le_of_ble_eq_true rfl) ?_
  intro p e s m args below meth c H locs ls Q hx hb hml hown hts hP hK hS hret hl
  have hl : lv_has ls 2 [(0, .ref (a 0)), (1, .int p0)] := hl
  have hinX2 : ∀ w ∈ wsX20, w ∈ wsX2_dayOf := by decide +kernel
  refine lv_aload_n hx hb dX2_dayOf_0 rfl (lv_at hl 0 rfl) ?_
  refine lv_iload_n hx hb dX2_dayOf_1 rfl (lv_at hl 1 rfl) ?_
  refine wri_V (As := [.int p0]) (rest := []) ⟨hx, hb, hml, hown, hts⟩ (kX2_isAsked l G a cI cZ g f tc hap _ p0 hNN) (cwV 1 hts gX2_dayOf_X2_isAsked rfl rfl rfl (by decide +kernel) ⟨Nat.le_of_ble_eq_true rfl, Nat.le_of_ble_eq_true rfl⟩) (va_recv hK hP (ci := 2) (q0 := 0) rfl rfl) hP hK hS rfl hl.1 rfl (Nat.le_of_ble_eq_true rfl) dX2_dayOf_2 (by decide) (fun r2 u2 H locs h2 hP hS => ?_)
  obtain ⟨h2_1, h2_2⟩ := h2
  subst h2_1
  subst h2_2
  have hP : va_P G vwCl (wM a cI cZ g f (askT g p0)) H := hP
  refine lv_if_eq (tgt := 17) hx hb dX2_dayOf_5 (by decide) (fun c5 => ?_) (fun c5 => ?_)
  · replace c5 := bI0 c5
    refine lv_iconst (v := 0) hx hb dX2_dayOf_17 (by decide) ?_
    exact hret 0 (g, f, (askT g p0)) _ _ _ _ dX2_dayOf_18 rfl hP hS ⟨by unfold askV; rw [if_neg (by rw [c5]; decide)], rfl⟩
  replace c5 := bIn c5
  obtain ⟨k, hk, ek, ec⟩ := isF_k c5
  refine lv_aload_n hx hb dX2_dayOf_8 rfl (lv_at hl 0 rfl) ?_
  refine mget (index := 26) (v := .ref (a 1)) hx hb hts hinX2 hown hK hP 8 (by decide) (List.mem_of_getElem? (i := 1) rfl) rfl dX2_dayOf_9 ?_
  refine lv_iload_n hx hb dX2_dayOf_12 rfl (lv_at hl 1 rfl) ?_
  refine arI (j := k) (h := (f 0)) hx hb hK hP 1 rfl ek hk dX2_dayOf_13 ?_
  refine lv_goto (tgt := 18) hx hb dX2_dayOf_14 (by decide) ?_
  exact hret ((f 0) k) (g, f, (askT g p0)) _ _ _ _ dX2_dayOf_18 rfl hP hS ⟨by unfold askV; rw [if_pos c5, ec], rfl⟩
set_option maxHeartbeats 4000000 in
set_option maxRecDepth 100000 in
theorem kX2_stateOf (l : Launch) (G : va_G) (a : Nat → Nat) (cI cZ : ClassId) (g : Nat → Int32) (f : Nat → Nat → Int32) (tc : Int32) (hap : apart a 6) (sz : Nat) (p0 : Int32) (hNN : NN g): wri l yX2_stateOf wsX2_stateOf { frames := 3, cells := 0, slots := 0, locals := 64 } G (wM a cI cZ g f tc) (tyIZ cI cZ) (aS a 6 sz) sz [.ref (a 0), .int p0] (fun r u => r = askV g (f 1) p0 ∧ u = (g, f, askT g p0)) (wfM a cI cZ) := by
  refine wri_of (cc := cX2_stateOf) (nL := 2) (ty := .int) (by decide) rfl (Nat.le_of_ble_eq_true rfl) ?_
  intro p e s m args below meth c H locs ls Q hx hb hml hown hts hP hK hS hret hl
  have hl : lv_has ls 2 [(0, .ref (a 0)), (1, .int p0)] := hl
  have hinX2 : ∀ w ∈ wsX20, w ∈ wsX2_stateOf := by decide +kernel
  refine lv_aload_n hx hb dX2_stateOf_0 rfl (lv_at hl 0 rfl) ?_
  refine lv_iload_n hx hb dX2_stateOf_1 rfl (lv_at hl 1 rfl) ?_
  refine wri_V (As := [.int p0]) (rest := []) ⟨hx, hb, hml, hown, hts⟩ (kX2_isAsked l G a cI cZ g f tc hap _ p0 hNN) (cwV 1 hts gX2_stateOf_X2_isAsked rfl rfl rfl (by decide +kernel) ⟨Nat.le_of_ble_eq_true rfl, Nat.le_of_ble_eq_true rfl⟩) (va_recv hK hP (ci := 2) (q0 := 0) rfl rfl) hP hK hS rfl hl.1 rfl (Nat.le_of_ble_eq_true rfl) dX2_stateOf_2 (by decide) (fun r2 u2 H locs h2 hP hS => ?_)
  obtain ⟨h2_1, h2_2⟩ := h2
  subst h2_1
  subst h2_2
  have hP : va_P G vwCl (wM a cI cZ g f (askT g p0)) H := hP
  refine lv_if_eq (tgt := 17) hx hb dX2_stateOf_5 (by decide) (fun c5 => ?_) (fun c5 => ?_)
  · replace c5 := bI0 c5
    refine lv_iconst (v := 0) hx hb dX2_stateOf_17 (by decide) ?_
    exact hret 0 (g, f, (askT g p0)) _ _ _ _ dX2_stateOf_18 rfl hP hS ⟨by unfold askV; rw [if_neg (by rw [c5]; decide)], rfl⟩
  replace c5 := bIn c5
  obtain ⟨k, hk, ek, ec⟩ := isF_k c5
  refine lv_aload_n hx hb dX2_stateOf_8 rfl (lv_at hl 0 rfl) ?_
  refine mget (index := 30) (v := .ref (a 2)) hx hb hts hinX2 hown hK hP 9 (by decide) (List.mem_of_getElem? (i := 1) rfl) rfl dX2_stateOf_9 ?_
  refine lv_iload_n hx hb dX2_stateOf_12 rfl (lv_at hl 1 rfl) ?_
  refine arI (j := k) (h := (f 1)) hx hb hK hP 2 rfl ek hk dX2_stateOf_13 ?_
  refine lv_goto (tgt := 18) hx hb dX2_stateOf_14 (by decide) ?_
  exact hret ((f 1) k) (g, f, (askT g p0)) _ _ _ _ dX2_stateOf_18 rfl hP hS ⟨by unfold askV; rw [if_pos c5, ec], rfl⟩
set_option maxHeartbeats 4000000 in
set_option maxRecDepth 100000 in
theorem kX2_claimsOf (l : Launch) (G : va_G) (a : Nat → Nat) (cI cZ : ClassId) (g : Nat → Int32) (f : Nat → Nat → Int32) (tc : Int32) (hap : apart a 6) (sz : Nat) (p0 : Int32) (hNN : NN g): wri l yX2_claimsOf wsX2_claimsOf { frames := 3, cells := 0, slots := 0, locals := 64 } G (wM a cI cZ g f tc) (tyIZ cI cZ) (aS a 6 sz) sz [.ref (a 0), .int p0] (fun r u => r = askV g (f 2) p0 ∧ u = (g, f, askT g p0)) (wfM a cI cZ) := by
  refine wri_of (cc := cX2_claimsOf) (nL := 2) (ty := .int) (by decide) rfl (Nat.le_of_ble_eq_true rfl) ?_
  intro p e s m args below meth c H locs ls Q hx hb hml hown hts hP hK hS hret hl
  have hl : lv_has ls 2 [(0, .ref (a 0)), (1, .int p0)] := hl
  have hinX2 : ∀ w ∈ wsX20, w ∈ wsX2_claimsOf := by decide +kernel
  refine lv_aload_n hx hb dX2_claimsOf_0 rfl (lv_at hl 0 rfl) ?_
  refine lv_iload_n hx hb dX2_claimsOf_1 rfl (lv_at hl 1 rfl) ?_
  refine wri_V (As := [.int p0]) (rest := []) ⟨hx, hb, hml, hown, hts⟩ (kX2_isAsked l G a cI cZ g f tc hap _ p0 hNN) (cwV 1 hts gX2_claimsOf_X2_isAsked rfl rfl rfl (by decide +kernel) ⟨Nat.le_of_ble_eq_true rfl, Nat.le_of_ble_eq_true rfl⟩) (va_recv hK hP (ci := 2) (q0 := 0) rfl rfl) hP hK hS rfl hl.1 rfl (Nat.le_of_ble_eq_true rfl) dX2_claimsOf_2 (by decide) (fun r2 u2 H locs h2 hP hS => ?_)
  obtain ⟨h2_1, h2_2⟩ := h2
  subst h2_1
  subst h2_2
  have hP : va_P G vwCl (wM a cI cZ g f (askT g p0)) H := hP
  refine lv_if_eq (tgt := 17) hx hb dX2_claimsOf_5 (by decide) (fun c5 => ?_) (fun c5 => ?_)
  · replace c5 := bI0 c5
    refine lv_iconst (v := 0) hx hb dX2_claimsOf_17 (by decide) ?_
    exact hret 0 (g, f, (askT g p0)) _ _ _ _ dX2_claimsOf_18 rfl hP hS ⟨by unfold askV; rw [if_neg (by rw [c5]; decide)], rfl⟩
  replace c5 := bIn c5
  obtain ⟨k, hk, ek, ec⟩ := isF_k c5
  refine lv_aload_n hx hb dX2_claimsOf_8 rfl (lv_at hl 0 rfl) ?_
  refine mget (index := 33) (v := .ref (a 3)) hx hb hts hinX2 hown hK hP 10 (by decide) (List.mem_of_getElem? (i := 1) rfl) rfl dX2_claimsOf_9 ?_
  refine lv_iload_n hx hb dX2_claimsOf_12 rfl (lv_at hl 1 rfl) ?_
  refine arI (j := k) (h := (f 2)) hx hb hK hP 3 rfl ek hk dX2_claimsOf_13 ?_
  refine lv_goto (tgt := 18) hx hb dX2_claimsOf_14 (by decide) ?_
  exact hret ((f 2) k) (g, f, (askT g p0)) _ _ _ _ dX2_claimsOf_18 rfl hP hS ⟨by unfold askV; rw [if_pos c5, ec], rfl⟩
set_option maxHeartbeats 4000000 in
set_option maxRecDepth 100000 in
theorem kX2_labelOf (l : Launch) (G : va_G) (a : Nat → Nat) (cI cZ : ClassId) (g : Nat → Int32) (f : Nat → Nat → Int32) (tc : Int32) (hap : apart a 6) (sz : Nat) (p0 : Int32) (hp : inPat g): wri l yX2_labelOf wsX2_labelOf { frames := 2, cells := 0, slots := 0, locals := 42 } G (wM a cI cZ g f tc) (tyIZ cI cZ) (aS a 6 sz) sz [.ref (a 0), .int p0] (fun r u => r = (if isI p0 = true then 1000 * volD g p0 + numD g p0 else 0) ∧ u = (g, f, if isI p0 = true then 0 else 1)) (wfM a cI cZ) := by
  refine wri_of (cc := cX2_labelOf) (nL := 2) (ty := .int) (by decide) rfl (Nat.le_of_ble_eq_true rfl) ?_
  intro p e s m args below meth c H locs ls Q hx hb hml hown hts hP hK hS hret hl
  have hl : lv_has ls 2 [(0, .ref (a 0)), (1, .int p0)] := hl
  refine lv_aload_n hx hb dX2_labelOf_0 rfl (lv_at hl 0 rfl) ?_
  refine lv_iload_n hx hb dX2_labelOf_1 rfl (lv_at hl 1 rfl) ?_
  refine rdr_S (As := [.int p0]) (rest := [.ref (a 0)]) ⟨hx, hb, hml, hown, hts⟩ (kX2_isIssue l G _ _ p0 ) (va_cwS 1 hts gX2_labelOf_X2_isIssue rfl rfl rfl (by decide +kernel) ⟨Nat.le_of_ble_eq_true rfl, Nat.le_of_ble_eq_true rfl⟩)  hP hK rfl hl.1 rfl (Nat.le_of_ble_eq_true rfl) dX2_labelOf_2 (by decide) (fun r2 h2 => ?_)
  replace h2 : r2 = bI (isI p0) := h2
  subst h2
  refine lv_if_eq (tgt := 12) hx hb dX2_labelOf_5 (by decide) (fun c5 => ?_) (fun c5 => ?_)
  · replace c5 := bI0 c5
    refine lv_iconst (v := 1) hx hb dX2_labelOf_12 (by decide) ?_
    refine wri_V (As := [.int 1]) (rest := []) ⟨hx, hb, hml, hown, hts⟩ (kX2_can l G a cI cZ g f tc hap _ 1 ) (cwV 1 hts gX2_labelOf_X2_can rfl rfl rfl (by decide +kernel) ⟨Nat.le_of_ble_eq_true rfl, Nat.le_of_ble_eq_true rfl⟩) (va_recv hK hP (ci := 2) (q0 := 0) rfl rfl) hP hK hS rfl hl.1 rfl (Nat.le_of_ble_eq_true rfl) dX2_labelOf_13 (by decide) (fun r13 u13 H locs h13 hP hS => ?_)
    obtain ⟨h13_1, h13_2⟩ := h13
    replace h13_1 : r13 = bI false := h13_1.trans (by decide)
    subst h13_1
    subst h13_2
    have hP : va_P G vwCl (wM a cI cZ g f 1) H := hP
    refine lv_if_eq (tgt := 37) hx hb dX2_labelOf_16 (by decide) (fun c16 => ?_) (fun c16 => ?_)
    · replace c16 := bI0 c16
      refine lv_iconst (v := 0) hx hb dX2_labelOf_37 (by decide) ?_
      exact hret 0 (g, f, 1) _ _ _ _ dX2_labelOf_38 rfl hP hS ⟨by rw [if_neg (by rw [c5]; decide)], by rw [if_neg (by rw [c5]; decide)]⟩
    replace c16 := bIn c16
    exact absurd c16 (by decide)
  replace c5 := bIn c5
  refine lv_iconst (v := 0) hx hb dX2_labelOf_8 (by decide) ?_
  refine lv_goto (tgt := 13) hx hb dX2_labelOf_9 (by decide) ?_
  refine wri_V (As := [.int 0]) (rest := []) ⟨hx, hb, hml, hown, hts⟩ (kX2_can l G a cI cZ g f tc hap _ 0 ) (cwV 1 hts gX2_labelOf_X2_can rfl rfl rfl (by decide +kernel) ⟨Nat.le_of_ble_eq_true rfl, Nat.le_of_ble_eq_true rfl⟩) (va_recv hK hP (ci := 2) (q0 := 0) rfl rfl) hP hK hS rfl hl.1 rfl (Nat.le_of_ble_eq_true rfl) dX2_labelOf_13 (by decide) (fun r13 u13 H locs h13 hP hS => ?_)
  obtain ⟨h13_1, h13_2⟩ := h13
  replace h13_1 : r13 = bI true := h13_1.trans (by decide)
  subst h13_1
  subst h13_2
  have hP : va_P G vwCl (wM a cI cZ g f 0) H := hP
  refine lv_if_eq (tgt := 37) hx hb dX2_labelOf_16 (by decide) (fun c16 => ?_) (fun c16 => ?_)
  · replace c16 := bI0 c16
    exact absurd c16 (by decide)
  replace c16 := bIn c16
  refine lv_sipush (v := 1000) hx hb dX2_labelOf_19 (by decide) ?_
  refine lv_aload_n hx hb dX2_labelOf_22 rfl (lv_at hl 0 rfl) ?_
  refine lv_iload_n hx hb dX2_labelOf_23 rfl (lv_at hl 1 rfl) ?_
  refine rdr_V (As := [.int p0]) (rest := [.int 1000]) ⟨hx, hb, hml, hown, hts⟩ (kX2_volume l G a cI cZ g f 0 p0 hp) (cwV 1 hts gX2_labelOf_X2_volume rfl rfl rfl (by decide +kernel) ⟨Nat.le_of_ble_eq_true rfl, Nat.le_of_ble_eq_true rfl⟩) (va_recv hK hP (ci := 2) (q0 := 0) rfl rfl) hP hK rfl hl.1 rfl (Nat.le_of_ble_eq_true rfl) dX2_labelOf_24 (by decide) (fun r24 h24 => ?_)
  replace h24 : r24 = volD g p0 := h24
  subst h24
  refine lv_imul hx hb dX2_labelOf_27 ?_
  refine lv_aload_n hx hb dX2_labelOf_28 rfl (lv_at hl 0 rfl) ?_
  refine lv_iload_n hx hb dX2_labelOf_29 rfl (lv_at hl 1 rfl) ?_
  refine rdr_V (As := [.int p0]) (rest := [.int (1000 * (volD g p0))]) ⟨hx, hb, hml, hown, hts⟩ (kX2_number l G a cI cZ g f 0 p0 hp) (cwV 1 hts gX2_labelOf_X2_number rfl rfl rfl (by decide +kernel) ⟨Nat.le_of_ble_eq_true rfl, Nat.le_of_ble_eq_true rfl⟩) (va_recv hK hP (ci := 2) (q0 := 0) rfl rfl) hP hK rfl hl.1 rfl (Nat.le_of_ble_eq_true rfl) dX2_labelOf_30 (by decide) (fun r30 h30 => ?_)
  replace h30 : r30 = numD g p0 := h30
  subst h30
  refine lv_iadd hx hb dX2_labelOf_33 ?_
  refine lv_goto (tgt := 38) hx hb dX2_labelOf_34 (by decide) ?_
  exact hret ((1000 * (volD g p0)) + (numD g p0)) (g, f, 0) _ _ _ _ dX2_labelOf_38 rfl hP hS ⟨by rw [if_pos c5], by rw [if_pos c5]⟩
set_option maxHeartbeats 4000000 in
set_option maxRecDepth 100000 in
theorem kX2_setClaims (l : Launch) (G : va_G) (a : Nat → Nat) (cI cZ : ClassId) (g : Nat → Int32) (f : Nat → Nat → Int32) (tc : Int32) (hap : apart a 6) (sz : Nat) (p0 p1 : Int32): wrv l yX2_setClaims wsX2_setClaims { frames := 1, cells := 0, slots := 0, locals := 22 } G (wM a cI cZ g f tc) (tyIZ cI cZ) (aS a 6 sz) sz [.ref (a 0), .int p0, .int p1] (fun u => u = if okSC p0 p1 = true then (upd (upd g 5 p0) 6 p1, f, 0) else (g, f, 1)) (wfM a cI cZ) := by
  refine wrv_of (cc := cX2_setClaims) (nL := 3) (by decide) rfl (Nat.le_of_ble_eq_true rfl) ?_
  intro p e s m args below meth c H locs ls Q hx hb hml hown hts hP hK hS hret hl
  have hl : lv_has ls 3 [(0, .ref (a 0)), (1, .int p0), (2, .int p1)] := hl
  have hinX2 : ∀ w ∈ wsX20, w ∈ wsX2_setClaims := by decide +kernel
  refine lv_aload_n hx hb dX2_setClaims_0 rfl (lv_at hl 0 rfl) ?_
  refine lv_iload_n hx hb dX2_setClaims_1 rfl (lv_at hl 1 rfl) ?_
  refine lv_iconst (v := 0) hx hb dX2_setClaims_2 (by decide) ?_
  refine lv_bipush (v := 100) hx hb dX2_setClaims_3 (by decide) ?_
  refine rdr_S (As := [.int p0, .int 0, .int 100]) (rest := [.ref (a 0)]) ⟨hx, hb, hml, hown, hts⟩ (kX2_isIn l G _ _ p0 0 100 ) (va_cwS 3 hts gX2_setClaims_X2_isIn rfl rfl rfl (by decide +kernel) ⟨Nat.le_of_ble_eq_true rfl, Nat.le_of_ble_eq_true rfl⟩)  hP hK rfl hl.1 rfl (Nat.le_of_ble_eq_true rfl) dX2_setClaims_5 (by decide) (fun r5 h5 => ?_)
  replace h5 : r5 = bI (isW p0 0 100) := h5
  subst h5
  refine lv_if_eq (tgt := 25) hx hb dX2_setClaims_8 (by decide) (fun c8 => ?_) (fun c8 => ?_)
  · replace c8 := bI0 c8
    refine lv_iconst (v := 1) hx hb dX2_setClaims_25 (by decide) ?_
    refine wri_V (As := [.int 1]) (rest := []) ⟨hx, hb, hml, hown, hts⟩ (kX2_can l G a cI cZ g f tc hap _ 1 ) (cwV 1 hts gX2_setClaims_X2_can rfl rfl rfl (by decide +kernel) ⟨Nat.le_of_ble_eq_true rfl, Nat.le_of_ble_eq_true rfl⟩) (va_recv hK hP (ci := 2) (q0 := 0) rfl rfl) hP hK hS rfl hl.1 rfl (Nat.le_of_ble_eq_true rfl) dX2_setClaims_26 (by decide) (fun r26 u26 H locs h26 hP hS => ?_)
    obtain ⟨h26_1, h26_2⟩ := h26
    replace h26_1 : r26 = bI false := h26_1.trans (by decide)
    subst h26_1
    subst h26_2
    have hP : va_P G vwCl (wM a cI cZ g f 1) H := hP
    refine lv_if_eq (tgt := 42) hx hb dX2_setClaims_29 (by decide) (fun c29 => ?_) (fun c29 => ?_)
    · replace c29 := bI0 c29
      exact hret (g, f, 1) _ _ _ _ dX2_setClaims_42 hP hS (by rw [if_neg (by simp [okSC, c8])])
    replace c29 := bIn c29
    exact absurd c29 (by decide)
  replace c8 := bIn c8
  refine lv_iload_n hx hb dX2_setClaims_11 rfl (lv_at hl 2 rfl) ?_
  refine lv_iconst (v := 1) hx hb dX2_setClaims_12 (by decide) ?_
  refine lv_bipush (v := 100) hx hb dX2_setClaims_13 (by decide) ?_
  refine rdr_S (As := [.int p1, .int 1, .int 100]) (rest := [.ref (a 0)]) ⟨hx, hb, hml, hown, hts⟩ (kX2_isIn l G _ _ p1 1 100 ) (va_cwS 3 hts gX2_setClaims_X2_isIn rfl rfl rfl (by decide +kernel) ⟨Nat.le_of_ble_eq_true rfl, Nat.le_of_ble_eq_true rfl⟩)  hP hK rfl hl.1 rfl (Nat.le_of_ble_eq_true rfl) dX2_setClaims_15 (by decide) (fun r15 h15 => ?_)
  replace h15 : r15 = bI (isW p1 1 100) := h15
  subst h15
  refine lv_if_eq (tgt := 25) hx hb dX2_setClaims_18 (by decide) (fun c18 => ?_) (fun c18 => ?_)
  · replace c18 := bI0 c18
    refine lv_iconst (v := 1) hx hb dX2_setClaims_25 (by decide) ?_
    refine wri_V (As := [.int 1]) (rest := []) ⟨hx, hb, hml, hown, hts⟩ (kX2_can l G a cI cZ g f tc hap _ 1 ) (cwV 1 hts gX2_setClaims_X2_can rfl rfl rfl (by decide +kernel) ⟨Nat.le_of_ble_eq_true rfl, Nat.le_of_ble_eq_true rfl⟩) (va_recv hK hP (ci := 2) (q0 := 0) rfl rfl) hP hK hS rfl hl.1 rfl (Nat.le_of_ble_eq_true rfl) dX2_setClaims_26 (by decide) (fun r26 u26 H locs h26 hP hS => ?_)
    obtain ⟨h26_1, h26_2⟩ := h26
    replace h26_1 : r26 = bI false := h26_1.trans (by decide)
    subst h26_1
    subst h26_2
    have hP : va_P G vwCl (wM a cI cZ g f 1) H := hP
    refine lv_if_eq (tgt := 42) hx hb dX2_setClaims_29 (by decide) (fun c29 => ?_) (fun c29 => ?_)
    · replace c29 := bI0 c29
      exact hret (g, f, 1) _ _ _ _ dX2_setClaims_42 hP hS (by rw [if_neg (by simp [okSC, c8, c18])])
    replace c29 := bIn c29
    exact absurd c29 (by decide)
  replace c18 := bIn c18
  refine lv_iconst (v := 0) hx hb dX2_setClaims_21 (by decide) ?_
  refine lv_goto (tgt := 26) hx hb dX2_setClaims_22 (by decide) ?_
  refine wri_V (As := [.int 0]) (rest := []) ⟨hx, hb, hml, hown, hts⟩ (kX2_can l G a cI cZ g f tc hap _ 0 ) (cwV 1 hts gX2_setClaims_X2_can rfl rfl rfl (by decide +kernel) ⟨Nat.le_of_ble_eq_true rfl, Nat.le_of_ble_eq_true rfl⟩) (va_recv hK hP (ci := 2) (q0 := 0) rfl rfl) hP hK hS rfl hl.1 rfl (Nat.le_of_ble_eq_true rfl) dX2_setClaims_26 (by decide) (fun r26 u26 H locs h26 hP hS => ?_)
  obtain ⟨h26_1, h26_2⟩ := h26
  replace h26_1 : r26 = bI true := h26_1.trans (by decide)
  subst h26_1
  subst h26_2
  have hP : va_P G vwCl (wM a cI cZ g f 0) H := hP
  refine lv_if_eq (tgt := 42) hx hb dX2_setClaims_29 (by decide) (fun c29 => ?_) (fun c29 => ?_)
  · replace c29 := bI0 c29
    exact absurd c29 (by decide)
  replace c29 := bIn c29
  refine lv_aload_n hx hb dX2_setClaims_32 rfl (lv_at hl 0 rfl) ?_
  refine lv_iload_n hx hb dX2_setClaims_33 rfl (lv_at hl 1 rfl) ?_
  refine mput (index := 20) (v := .int p0) (upd g 5 p0) 0 hx hb hts hinX2 hown hK hP hap hS 5 (by decide) (List.mem_of_getElem? (i := 1) rfl) rfl rfl rfl rfl dX2_setClaims_34 (fun H locs hP hS => ?_)
  refine lv_aload_n hx hb dX2_setClaims_37 rfl (lv_at hl 0 rfl) ?_
  refine lv_iload_n hx hb dX2_setClaims_38 rfl (lv_at hl 2 rfl) ?_
  refine mput (index := 23) (v := .int p1) (upd (upd g 5 p0) 6 p1) 0 hx hb hts hinX2 hown hK hP hap hS 6 (by decide) (List.mem_of_getElem? (i := 2) rfl) rfl rfl rfl rfl dX2_setClaims_39 (fun H locs hP hS => ?_)
  exact hret ((upd (upd g 5 p0) 6 p1), f, 0) _ _ _ _ dX2_setClaims_42 hP hS (by rw [if_pos (by unfold okSC; rw [c8, c18]; rfl)])
set_option maxHeartbeats 4000000 in
set_option maxRecDepth 100000 in
theorem kX2_setPattern (l : Launch) (G : va_G) (a : Nat → Nat) (cI cZ : ClassId) (g : Nat → Int32) (f : Nat → Nat → Int32) (tc : Int32) (hap : apart a 6) (sz : Nat) (p0 p1 p2 p3 : Int32) (ct : Nat) (hc : ct ≤ 512) (hI : Inv ct g f) (hp2 : p2 = 0 ∨ p2 = 1): wrv l yX2_setPattern wsX2_setPattern { frames := 4, cells := 0, slots := 0, locals := 83 } G (wM a cI cZ g f tc) (tyIZ cI cZ) (aS a 6 sz) sz [.ref (a 0), .int p0, .int p1, .int p2, .int p3] (fun u => u = if okSP p0 p1 p3 = true then ((lkS (gSP g p0 p1 p2 p3) f).1, (lkS (gSP g p0 p1 p2 p3) f).2, 0) else (g, f, 1)) (wfM a cI cZ) := by
  refine wrv_of (cc := cX2_setPattern) (nL := 5) (by decide) rfl (Nat.le_of_ble_eq_true rfl) ?_
  intro p e s m args below meth c H locs ls Q hx hb hml hown hts hP hK hS hret hl
  have hl : lv_has ls 5 [(0, .ref (a 0)), (1, .int p0), (2, .int p1), (3, .int p2), (4, .int p3)] := hl
  have hinX2 : ∀ w ∈ wsX20, w ∈ wsX2_setPattern := by decide +kernel
  refine lv_aload_n hx hb dX2_setPattern_0 rfl (lv_at hl 0 rfl) ?_
  refine lv_iload_n hx hb dX2_setPattern_1 rfl (lv_at hl 1 rfl) ?_
  refine lv_iconst (v := 1) hx hb dX2_setPattern_2 (by decide) ?_
  refine lv_bipush (v := 90) hx hb dX2_setPattern_3 (by decide) ?_
  refine rdr_S (As := [.int p0, .int 1, .int 90]) (rest := [.ref (a 0)]) ⟨hx, hb, hml, hown, hts⟩ (kX2_isIn l G _ _ p0 1 90 ) (va_cwS 3 hts gX2_setPattern_X2_isIn rfl rfl rfl (by decide +kernel) ⟨Nat.le_of_ble_eq_true rfl, Nat.le_of_ble_eq_true rfl⟩)  hP hK rfl hl.1 rfl (Nat.le_of_ble_eq_true rfl) dX2_setPattern_5 (by decide) (fun r5 h5 => ?_)
  replace h5 : r5 = bI (isW p0 1 90) := h5
  subst h5
  refine lv_if_eq (tgt := 37) hx hb dX2_setPattern_8 (by decide) (fun c8 => ?_) (fun c8 => ?_)
  · replace c8 := bI0 c8
    refine lv_iconst (v := 1) hx hb dX2_setPattern_37 (by decide) ?_
    refine wri_V (As := [.int 1]) (rest := []) ⟨hx, hb, hml, hown, hts⟩ (kX2_can l G a cI cZ g f tc hap _ 1 ) (cwV 1 hts gX2_setPattern_X2_can rfl rfl rfl (by decide +kernel) ⟨Nat.le_of_ble_eq_true rfl, Nat.le_of_ble_eq_true rfl⟩) (va_recv hK hP (ci := 2) (q0 := 0) rfl rfl) hP hK hS rfl hl.1 rfl (Nat.le_of_ble_eq_true rfl) dX2_setPattern_38 (by decide) (fun r38 u38 H locs h38 hP hS => ?_)
    obtain ⟨h38_1, h38_2⟩ := h38
    replace h38_1 : r38 = bI false := h38_1.trans (by decide)
    subst h38_1
    subst h38_2
    have hP : va_P G vwCl (wM a cI cZ g f 1) H := hP
    refine lv_if_eq (tgt := 69) hx hb dX2_setPattern_41 (by decide) (fun c41 => ?_) (fun c41 => ?_)
    · replace c41 := bI0 c41
      exact hret (g, f, 1) _ _ _ _ dX2_setPattern_69 hP hS (by rw [if_neg (by simp [okSP, c8])])
    replace c41 := bIn c41
    exact absurd c41 (by decide)
  replace c8 := bIn c8
  refine lv_iload_n hx hb dX2_setPattern_11 rfl (lv_at hl 2 rfl) ?_
  refine lv_iconst (v := 1) hx hb dX2_setPattern_12 (by decide) ?_
  refine lv_bipush (v := 20) hx hb dX2_setPattern_13 (by decide) ?_
  refine rdr_S (As := [.int p1, .int 1, .int 20]) (rest := [.ref (a 0)]) ⟨hx, hb, hml, hown, hts⟩ (kX2_isIn l G _ _ p1 1 20 ) (va_cwS 3 hts gX2_setPattern_X2_isIn rfl rfl rfl (by decide +kernel) ⟨Nat.le_of_ble_eq_true rfl, Nat.le_of_ble_eq_true rfl⟩)  hP hK rfl hl.1 rfl (Nat.le_of_ble_eq_true rfl) dX2_setPattern_15 (by decide) (fun r15 h15 => ?_)
  replace h15 : r15 = bI (isW p1 1 20) := h15
  subst h15
  refine lv_if_eq (tgt := 37) hx hb dX2_setPattern_18 (by decide) (fun c18 => ?_) (fun c18 => ?_)
  · replace c18 := bI0 c18
    refine lv_iconst (v := 1) hx hb dX2_setPattern_37 (by decide) ?_
    refine wri_V (As := [.int 1]) (rest := []) ⟨hx, hb, hml, hown, hts⟩ (kX2_can l G a cI cZ g f tc hap _ 1 ) (cwV 1 hts gX2_setPattern_X2_can rfl rfl rfl (by decide +kernel) ⟨Nat.le_of_ble_eq_true rfl, Nat.le_of_ble_eq_true rfl⟩) (va_recv hK hP (ci := 2) (q0 := 0) rfl rfl) hP hK hS rfl hl.1 rfl (Nat.le_of_ble_eq_true rfl) dX2_setPattern_38 (by decide) (fun r38 u38 H locs h38 hP hS => ?_)
    obtain ⟨h38_1, h38_2⟩ := h38
    replace h38_1 : r38 = bI false := h38_1.trans (by decide)
    subst h38_1
    subst h38_2
    have hP : va_P G vwCl (wM a cI cZ g f 1) H := hP
    refine lv_if_eq (tgt := 69) hx hb dX2_setPattern_41 (by decide) (fun c41 => ?_) (fun c41 => ?_)
    · replace c41 := bI0 c41
      exact hret (g, f, 1) _ _ _ _ dX2_setPattern_69 hP hS (by rw [if_neg (by simp [okSP, c8, c18])])
    replace c41 := bIn c41
    exact absurd c41 (by decide)
  replace c18 := bIn c18
  refine lv_iload hx hb dX2_setPattern_21 (lv_at hl 4 rfl) ?_
  refine lv_iconst (v := 0) hx hb dX2_setPattern_23 (by decide) ?_
  refine lv_sipush (v := 4094) hx hb dX2_setPattern_24 (by decide) ?_
  refine rdr_S (As := [.int p3, .int 0, .int 4094]) (rest := [.ref (a 0)]) ⟨hx, hb, hml, hown, hts⟩ (kX2_isIn l G _ _ p3 0 4094 ) (va_cwS 3 hts gX2_setPattern_X2_isIn rfl rfl rfl (by decide +kernel) ⟨Nat.le_of_ble_eq_true rfl, Nat.le_of_ble_eq_true rfl⟩)  hP hK rfl hl.1 rfl (Nat.le_of_ble_eq_true rfl) dX2_setPattern_27 (by decide) (fun r27 h27 => ?_)
  replace h27 : r27 = bI (isW p3 0 4094) := h27
  subst h27
  refine lv_if_eq (tgt := 37) hx hb dX2_setPattern_30 (by decide) (fun c30 => ?_) (fun c30 => ?_)
  · replace c30 := bI0 c30
    refine lv_iconst (v := 1) hx hb dX2_setPattern_37 (by decide) ?_
    refine wri_V (As := [.int 1]) (rest := []) ⟨hx, hb, hml, hown, hts⟩ (kX2_can l G a cI cZ g f tc hap _ 1 ) (cwV 1 hts gX2_setPattern_X2_can rfl rfl rfl (by decide +kernel) ⟨Nat.le_of_ble_eq_true rfl, Nat.le_of_ble_eq_true rfl⟩) (va_recv hK hP (ci := 2) (q0 := 0) rfl rfl) hP hK hS rfl hl.1 rfl (Nat.le_of_ble_eq_true rfl) dX2_setPattern_38 (by decide) (fun r38 u38 H locs h38 hP hS => ?_)
    obtain ⟨h38_1, h38_2⟩ := h38
    replace h38_1 : r38 = bI false := h38_1.trans (by decide)
    subst h38_1
    subst h38_2
    have hP : va_P G vwCl (wM a cI cZ g f 1) H := hP
    refine lv_if_eq (tgt := 69) hx hb dX2_setPattern_41 (by decide) (fun c41 => ?_) (fun c41 => ?_)
    · replace c41 := bI0 c41
      exact hret (g, f, 1) _ _ _ _ dX2_setPattern_69 hP hS (by rw [if_neg (by simp [okSP, c8, c18, c30])])
    replace c41 := bIn c41
    exact absurd c41 (by decide)
  replace c30 := bIn c30
  refine lv_iconst (v := 0) hx hb dX2_setPattern_33 (by decide) ?_
  refine lv_goto (tgt := 38) hx hb dX2_setPattern_34 (by decide) ?_
  refine wri_V (As := [.int 0]) (rest := []) ⟨hx, hb, hml, hown, hts⟩ (kX2_can l G a cI cZ g f tc hap _ 0 ) (cwV 1 hts gX2_setPattern_X2_can rfl rfl rfl (by decide +kernel) ⟨Nat.le_of_ble_eq_true rfl, Nat.le_of_ble_eq_true rfl⟩) (va_recv hK hP (ci := 2) (q0 := 0) rfl rfl) hP hK hS rfl hl.1 rfl (Nat.le_of_ble_eq_true rfl) dX2_setPattern_38 (by decide) (fun r38 u38 H locs h38 hP hS => ?_)
  obtain ⟨h38_1, h38_2⟩ := h38
  replace h38_1 : r38 = bI true := h38_1.trans (by decide)
  subst h38_1
  subst h38_2
  have hP : va_P G vwCl (wM a cI cZ g f 0) H := hP
  refine lv_if_eq (tgt := 69) hx hb dX2_setPattern_41 (by decide) (fun c41 => ?_) (fun c41 => ?_)
  · replace c41 := bI0 c41
    exact absurd c41 (by decide)
  replace c41 := bIn c41
  have hok : okSP p0 p1 p3 = true := by unfold okSP; rw [c8, c18, c30]; rfl
  refine lv_aload_n hx hb dX2_setPattern_44 rfl (lv_at hl 0 rfl) ?_
  refine lv_iload_n hx hb dX2_setPattern_45 rfl (lv_at hl 1 rfl) ?_
  refine mput (index := 7) (v := .int p0) (upd g 1 p0) 0 hx hb hts hinX2 hown hK hP hap hS 1 (by decide) (List.mem_of_getElem? (i := 1) rfl) rfl rfl rfl rfl dX2_setPattern_46 (fun H locs hP hS => ?_)
  refine lv_aload_n hx hb dX2_setPattern_49 rfl (lv_at hl 0 rfl) ?_
  refine lv_iload_n hx hb dX2_setPattern_50 rfl (lv_at hl 2 rfl) ?_
  refine mput (index := 13) (v := .int p1) (upd (upd g 1 p0) 2 p1) 0 hx hb hts hinX2 hown hK hP hap hS 2 (by decide) (List.mem_of_getElem? (i := 2) rfl) rfl rfl rfl rfl dX2_setPattern_51 (fun H locs hP hS => ?_)
  refine lv_aload_n hx hb dX2_setPattern_54 rfl (lv_at hl 0 rfl) ?_
  refine lv_iload_n hx hb dX2_setPattern_55 rfl (lv_at hl 3 rfl) ?_
  refine mput (index := 16) (v := .int p2) (upd (upd (upd g 1 p0) 2 p1) 3 p2) 0 hx hb hts hinX2 hown hK hP hap hS 3 (by decide) (List.mem_of_getElem? (i := 3) rfl) rfl (by rcases hp2 with q | q <;> rw [q] <;> rfl) (by rcases hp2 with q | q <;> rw [q] <;> rfl) rfl dX2_setPattern_56 (fun H locs hP hS => ?_)
  refine lv_aload_n hx hb dX2_setPattern_59 rfl (lv_at hl 0 rfl) ?_
  refine lv_iload hx hb dX2_setPattern_60 (lv_at hl 4 rfl) ?_
  refine mput (index := 56) (v := .int p3) (upd (upd (upd (upd g 1 p0) 2 p1) 3 p2) 4 p3) 0 hx hb hts hinX2 hown hK hP hap hS 4 (by decide) (List.mem_of_getElem? (i := 4) rfl) rfl rfl rfl rfl dX2_setPattern_62 (fun H locs hP hS => ?_)
  refine lv_aload_n hx hb dX2_setPattern_65 rfl (lv_at hl 0 rfl) ?_
  refine wrv_V (As := []) (rest := []) ⟨hx, hb, hml, hown, hts⟩ (kX2_looks l G a cI cZ (upd (upd (upd (upd g 1 p0) 2 p1) 3 p2) 4 p3) f 0 hap _  ct hc (inv_SP hI hok hp2)) (cwV 0 hts gX2_setPattern_X2_looks rfl rfl rfl (by decide +kernel) ⟨Nat.le_of_ble_eq_true rfl, Nat.le_of_ble_eq_true rfl⟩) (va_recv hK hP (ci := 2) (q0 := 0) rfl rfl) hP hK hS rfl hl.1 rfl (Nat.le_of_ble_eq_true rfl) dX2_setPattern_66 (by decide) (fun u66 H locs h66 hP hS => ?_)
  subst h66
  have hP : va_P G vwCl (wM a cI cZ (lkS (gSP g p0 p1 p2 p3) f).1 (lkS (gSP g p0 p1 p2 p3) f).2 0) H := hP
  exact hret ((lkS (gSP g p0 p1 p2 p3) f).1, (lkS (gSP g p0 p1 p2 p3) f).2, 0) _ _ _ _ dX2_setPattern_69 hP hS (by rw [if_pos hok])
set_option maxHeartbeats 4000000 in
set_option maxRecDepth 100000 in
theorem kX2_advance (l : Launch) (G : va_G) (a : Nat → Nat) (cI cZ : ClassId) (g : Nat → Int32) (f : Nat → Nat → Int32) (tc : Int32) (hap : apart a 6) (sz : Nat) (p0 : Int32) (ct : Nat) (hc : ct ≤ 512) (hI : Inv ct g f): wri l yX2_advance wsX2_advance { frames := 4, cells := 0, slots := 0, locals := 83 } G (wM a cI cZ g f tc) (tyIZ cI cZ) (aS a 6 sz) sz [.ref (a 0), .int p0] (fun r u => r = (if thA g p0 = 0 then (lkS (upd g 0 (g 0 + p0)) f).1 0 else 0) ∧ u = if thA g p0 = 0 then ((lkS (upd g 0 (g 0 + p0)) f).1, (lkS (upd g 0 (g 0 + p0)) f).2, 0) else (g, f, thA g p0)) (wfM a cI cZ) := by
  refine wri_of (cc := cX2_advance) (nL := 2) (ty := .int) (by decide) rfl (Nat.le_of_ble_eq_true rfl) ?_
  intro p e s m args below meth c H locs ls Q hx hb hml hown hts hP hK hS hret hl
  have hl : lv_has ls 2 [(0, .ref (a 0)), (1, .int p0)] := hl
  have hinX2 : ∀ w ∈ wsX20, w ∈ wsX2_advance := by decide +kernel
  refine lv_aload_n hx hb dX2_advance_0 rfl (lv_at hl 0 rfl) ?_
  refine lv_iload_n hx hb dX2_advance_1 rfl (lv_at hl 1 rfl) ?_
  refine lv_iconst (v := 1) hx hb dX2_advance_2 (by decide) ?_
  refine lv_sipush (v := 400) hx hb dX2_advance_3 (by decide) ?_
  refine rdr_S (As := [.int p0, .int 1, .int 400]) (rest := [.ref (a 0)]) ⟨hx, hb, hml, hown, hts⟩ (kX2_isIn l G _ _ p0 1 400 ) (va_cwS 3 hts gX2_advance_X2_isIn rfl rfl rfl (by decide +kernel) ⟨Nat.le_of_ble_eq_true rfl, Nat.le_of_ble_eq_true rfl⟩)  hP hK rfl hl.1 rfl (Nat.le_of_ble_eq_true rfl) dX2_advance_6 (by decide) (fun r6 h6 => ?_)
  replace h6 : r6 = bI (isW p0 1 400) := h6
  subst h6
  refine lv_if_ne (tgt := 16) hx hb dX2_advance_9 (by decide) (fun c9 => ?_) (fun c9 => ?_)
  · replace c9 := bIn c9
    refine lv_aload_n hx hb dX2_advance_16 rfl (lv_at hl 0 rfl) ?_
    refine mget (index := 70) (v := .int (g 0)) hx hb hts hinX2 hown hK hP 0 (by decide) (List.mem_of_getElem? (i := 1) rfl) rfl dX2_advance_17 ?_
    refine lv_iload_n hx hb dX2_advance_20 rfl (lv_at hl 1 rfl) ?_
    refine lv_iadd hx hb dX2_advance_21 ?_
    refine lv_sipush (v := 7200) hx hb dX2_advance_22 (by decide) ?_
    refine lv_icmp_le (tgt := 32) hx hb dX2_advance_25 (by decide) (fun c25 => ?_) (fun c25 => ?_)
    · have ht : thA g p0 = 0 := by unfold thA; rw [if_neg (by rw [c9]; decide), if_neg (Int32.not_lt.mpr c25)]
      refine lv_iconst (v := 0) hx hb dX2_advance_32 (by decide) ?_
      refine wri_V (As := [.int 0]) (rest := []) ⟨hx, hb, hml, hown, hts⟩ (kX2_can l G a cI cZ g f tc hap _ 0 ) (cwV 1 hts gX2_advance_X2_can rfl rfl rfl (by decide +kernel) ⟨Nat.le_of_ble_eq_true rfl, Nat.le_of_ble_eq_true rfl⟩) (va_recv hK hP (ci := 2) (q0 := 0) rfl rfl) hP hK hS rfl hl.1 rfl (Nat.le_of_ble_eq_true rfl) dX2_advance_33 (by decide) (fun r33 u33 H locs h33 hP hS => ?_)
      obtain ⟨h33_1, h33_2⟩ := h33
      replace h33_1 : r33 = bI true := h33_1.trans (by decide)
      subst h33_1
      subst h33_2
      have hP : va_P G vwCl (wM a cI cZ g f 0) H := hP
      refine lv_if_ne (tgt := 41) hx hb dX2_advance_36 (by decide) (fun c36 => ?_) (fun c36 => ?_)
      · replace c36 := bIn c36
        refine lv_aload_n hx hb dX2_advance_41 rfl (lv_at hl 0 rfl) ?_
        refine lv_dup hx hb dX2_advance_42 rfl ?_
        refine mget (index := 70) (v := .int (g 0)) hx hb hts hinX2 hown hK hP 0 (by decide) (List.mem_of_getElem? (i := 1) rfl) rfl dX2_advance_43 ?_
        refine lv_iload_n hx hb dX2_advance_46 rfl (lv_at hl 1 rfl) ?_
        refine lv_iadd hx hb dX2_advance_47 ?_
        refine mput (index := 70) (v := .int ((g 0) + p0)) (upd g 0 ((g 0) + p0)) 0 hx hb hts hinX2 hown hK hP hap hS 0 (by decide) (List.mem_of_getElem? (i := 1) rfl) rfl rfl rfl rfl dX2_advance_48 (fun H locs hP hS => ?_)
        refine lv_aload_n hx hb dX2_advance_51 rfl (lv_at hl 0 rfl) ?_
        refine wrv_V (As := []) (rest := []) ⟨hx, hb, hml, hown, hts⟩ (kX2_looks l G a cI cZ (upd g 0 ((g 0) + p0)) f 0 hap _  ct hc (inv_A hI c9 (Int32.not_lt.mpr c25))) (cwV 0 hts gX2_advance_X2_looks rfl rfl rfl (by decide +kernel) ⟨Nat.le_of_ble_eq_true rfl, Nat.le_of_ble_eq_true rfl⟩) (va_recv hK hP (ci := 2) (q0 := 0) rfl rfl) hP hK hS rfl hl.1 rfl (Nat.le_of_ble_eq_true rfl) dX2_advance_52 (by decide) (fun u52 H locs h52 hP hS => ?_)
        subst h52
        have hP : va_P G vwCl (wM a cI cZ (lkS (upd g 0 (g 0 + p0)) f).1 (lkS (upd g 0 (g 0 + p0)) f).2 0) H := hP
        refine lv_aload_n hx hb dX2_advance_55 rfl (lv_at hl 0 rfl) ?_
        refine mget (index := 70) (v := .int ((lkS (upd g 0 (g 0 + p0)) f).1 0)) hx hb hts hinX2 hown hK hP 0 (by decide) (List.mem_of_getElem? (i := 1) rfl) rfl dX2_advance_56 ?_
        exact hret ((lkS (upd g 0 (g 0 + p0)) f).1 0) ((lkS (upd g 0 (g 0 + p0)) f).1, (lkS (upd g 0 (g 0 + p0)) f).2, 0) _ _ _ _ dX2_advance_59 rfl hP hS ⟨by rw [if_pos ht], by rw [if_pos ht]⟩
      replace c36 := bI0 c36
      exact absurd c36 (by decide)
    have ht : thA g p0 = 2 := by unfold thA; rw [if_neg (by rw [c9]; decide), if_pos (Int32.not_le.mp c25)]
    refine lv_iconst (v := 2) hx hb dX2_advance_28 (by decide) ?_
    refine lv_goto (tgt := 33) hx hb dX2_advance_29 (by decide) ?_
    refine wri_V (As := [.int 2]) (rest := []) ⟨hx, hb, hml, hown, hts⟩ (kX2_can l G a cI cZ g f tc hap _ 2 ) (cwV 1 hts gX2_advance_X2_can rfl rfl rfl (by decide +kernel) ⟨Nat.le_of_ble_eq_true rfl, Nat.le_of_ble_eq_true rfl⟩) (va_recv hK hP (ci := 2) (q0 := 0) rfl rfl) hP hK hS rfl hl.1 rfl (Nat.le_of_ble_eq_true rfl) dX2_advance_33 (by decide) (fun r33 u33 H locs h33 hP hS => ?_)
    obtain ⟨h33_1, h33_2⟩ := h33
    replace h33_1 : r33 = bI false := h33_1.trans (by decide)
    subst h33_1
    subst h33_2
    have hP : va_P G vwCl (wM a cI cZ g f 2) H := hP
    refine lv_if_ne (tgt := 41) hx hb dX2_advance_36 (by decide) (fun c36 => ?_) (fun c36 => ?_)
    · replace c36 := bIn c36
      exact absurd c36 (by decide)
    replace c36 := bI0 c36
    refine lv_iconst (v := 0) hx hb dX2_advance_39 (by decide) ?_
    exact hret 0 (g, f, 2) _ _ _ _ dX2_advance_40 rfl hP hS ⟨by rw [if_neg (by rw [ht]; decide)], by rw [if_neg (by rw [ht]; decide), ht]⟩
  replace c9 := bI0 c9
  have ht : thA g p0 = 1 := by unfold thA; rw [if_pos c9]
  refine lv_iconst (v := 1) hx hb dX2_advance_12 (by decide) ?_
  refine lv_goto (tgt := 33) hx hb dX2_advance_13 (by decide) ?_
  refine wri_V (As := [.int 1]) (rest := []) ⟨hx, hb, hml, hown, hts⟩ (kX2_can l G a cI cZ g f tc hap _ 1 ) (cwV 1 hts gX2_advance_X2_can rfl rfl rfl (by decide +kernel) ⟨Nat.le_of_ble_eq_true rfl, Nat.le_of_ble_eq_true rfl⟩) (va_recv hK hP (ci := 2) (q0 := 0) rfl rfl) hP hK hS rfl hl.1 rfl (Nat.le_of_ble_eq_true rfl) dX2_advance_33 (by decide) (fun r33 u33 H locs h33 hP hS => ?_)
  obtain ⟨h33_1, h33_2⟩ := h33
  replace h33_1 : r33 = bI false := h33_1.trans (by decide)
  subst h33_1
  subst h33_2
  have hP : va_P G vwCl (wM a cI cZ g f 1) H := hP
  refine lv_if_ne (tgt := 41) hx hb dX2_advance_36 (by decide) (fun c36 => ?_) (fun c36 => ?_)
  · replace c36 := bIn c36
    exact absurd c36 (by decide)
  replace c36 := bI0 c36
  refine lv_iconst (v := 0) hx hb dX2_advance_39 (by decide) ?_
  exact hret 0 (g, f, 1) _ _ _ _ dX2_advance_40 rfl hP hS ⟨by rw [if_neg (by rw [ht]; decide)], by rw [if_neg (by rw [ht]; decide), ht]⟩
set_option maxHeartbeats 4000000 in
set_option maxRecDepth 100000 in
theorem kX2_skip (l : Launch) (G : va_G) (a : Nat → Nat) (cI cZ : ClassId) (g : Nat → Int32) (f : Nat → Nat → Int32) (tc : Int32) (hap : apart a 6) (sz : Nat) (p0 : Int32) (hNN : NN g): wrv l yX2_skip wsX2_skip { frames := 2, cells := 0, slots := 0, locals := 43 } G (wM a cI cZ g f tc) (tyIZ cI cZ) (aS a 6 sz) sz [.ref (a 0), .int p0] (fun u => u = if skT g f p0 = 0 then (g, up2 f 1 (upd (f 1) p0.toNatClampNeg 3), 0) else (g, f, skT g f p0)) (wfM a cI cZ) := by
  refine wrv_of (cc := cX2_skip) (nL := 2) (by decide) rfl (Nat.le_of_ble_eq_true rfl) ?_
  intro p e s m args below meth c H locs ls Q hx hb hml hown hts hP hK hS hret hl
  have hl : lv_has ls 2 [(0, .ref (a 0)), (1, .int p0)] := hl
  have hinX2 : ∀ w ∈ wsX20, w ∈ wsX2_skip := by decide +kernel
  refine lv_aload_n hx hb dX2_skip_0 rfl (lv_at hl 0 rfl) ?_
  refine lv_aload_n hx hb dX2_skip_1 rfl (lv_at hl 0 rfl) ?_
  refine lv_iload_n hx hb dX2_skip_2 rfl (lv_at hl 1 rfl) ?_
  refine rdr_V (As := [.int p0]) (rest := [.ref (a 0)]) ⟨hx, hb, hml, hown, hts⟩ (kX2_isForetold l G a cI cZ g f tc p0 hNN) (cwV 1 hts gX2_skip_X2_isForetold rfl rfl rfl (by decide +kernel) ⟨Nat.le_of_ble_eq_true rfl, Nat.le_of_ble_eq_true rfl⟩) (va_recv hK hP (ci := 2) (q0 := 0) rfl rfl) hP hK rfl hl.1 rfl (Nat.le_of_ble_eq_true rfl) dX2_skip_3 (by decide) (fun r3 h3 => ?_)
  replace h3 : r3 = bI (isF g p0) := h3
  subst h3
  refine lv_if_ne (tgt := 13) hx hb dX2_skip_6 (by decide) (fun c6 => ?_) (fun c6 => ?_)
  · replace c6 := bIn c6
    obtain ⟨k, hk, ek, ec⟩ := isF_k c6
    refine lv_aload_n hx hb dX2_skip_13 rfl (lv_at hl 0 rfl) ?_
    refine mget (index := 30) (v := .ref (a 2)) hx hb hts hinX2 hown hK hP 9 (by decide) (List.mem_of_getElem? (i := 1) rfl) rfl dX2_skip_14 ?_
    refine lv_iload_n hx hb dX2_skip_17 rfl (lv_at hl 1 rfl) ?_
    refine arI (j := k) (h := (f 1)) hx hb hK hP 2 rfl ek hk dX2_skip_18 ?_
    refine lv_if_ne (tgt := 26) hx hb dX2_skip_19 (by decide) (fun c19 => ?_) (fun c19 => ?_)
    · have ht : skT g f p0 = 2 := by unfold skT; rw [if_neg (by rw [c6]; decide), ec, if_neg c19]
      refine lv_iconst (v := 2) hx hb dX2_skip_26 (by decide) ?_
      refine wri_V (As := [.int 2]) (rest := []) ⟨hx, hb, hml, hown, hts⟩ (kX2_can l G a cI cZ g f tc hap _ 2 ) (cwV 1 hts gX2_skip_X2_can rfl rfl rfl (by decide +kernel) ⟨Nat.le_of_ble_eq_true rfl, Nat.le_of_ble_eq_true rfl⟩) (va_recv hK hP (ci := 2) (q0 := 0) rfl rfl) hP hK hS rfl hl.1 rfl (Nat.le_of_ble_eq_true rfl) dX2_skip_27 (by decide) (fun r27 u27 H locs h27 hP hS => ?_)
      obtain ⟨h27_1, h27_2⟩ := h27
      replace h27_1 : r27 = bI false := h27_1.trans (by decide)
      subst h27_1
      subst h27_2
      have hP : va_P G vwCl (wM a cI cZ g f 2) H := hP
      refine lv_if_eq (tgt := 40) hx hb dX2_skip_30 (by decide) (fun c30 => ?_) (fun c30 => ?_)
      · replace c30 := bI0 c30
        exact hret (g, f, 2) _ _ _ _ dX2_skip_40 hP hS (by rw [if_neg (by rw [ht]; decide), ht])
      replace c30 := bIn c30
      exact absurd c30 (by decide)
    have ht : skT g f p0 = 0 := by unfold skT; rw [if_neg (by rw [c6]; decide), ec, if_pos c19]
    refine lv_iconst (v := 0) hx hb dX2_skip_22 (by decide) ?_
    refine lv_goto (tgt := 27) hx hb dX2_skip_23 (by decide) ?_
    refine wri_V (As := [.int 0]) (rest := []) ⟨hx, hb, hml, hown, hts⟩ (kX2_can l G a cI cZ g f tc hap _ 0 ) (cwV 1 hts gX2_skip_X2_can rfl rfl rfl (by decide +kernel) ⟨Nat.le_of_ble_eq_true rfl, Nat.le_of_ble_eq_true rfl⟩) (va_recv hK hP (ci := 2) (q0 := 0) rfl rfl) hP hK hS rfl hl.1 rfl (Nat.le_of_ble_eq_true rfl) dX2_skip_27 (by decide) (fun r27 u27 H locs h27 hP hS => ?_)
    obtain ⟨h27_1, h27_2⟩ := h27
    replace h27_1 : r27 = bI true := h27_1.trans (by decide)
    subst h27_1
    subst h27_2
    have hP : va_P G vwCl (wM a cI cZ g f 0) H := hP
    refine lv_if_eq (tgt := 40) hx hb dX2_skip_30 (by decide) (fun c30 => ?_) (fun c30 => ?_)
    · replace c30 := bI0 c30
      exact absurd c30 (by decide)
    replace c30 := bIn c30
    refine lv_aload_n hx hb dX2_skip_33 rfl (lv_at hl 0 rfl) ?_
    refine mget (index := 30) (v := .ref (a 2)) hx hb hts hinX2 hown hK hP 9 (by decide) (List.mem_of_getElem? (i := 1) rfl) rfl dX2_skip_34 ?_
    refine lv_iload_n hx hb dX2_skip_37 rfl (lv_at hl 1 rfl) ?_
    refine lv_iconst (v := 3) hx hb dX2_skip_38 (by decide) ?_
    refine asI (j := k) (h := (f 1)) (x := 3) (wM a cI cZ g (up2 f 1 (upd (f 1) k 3)) 0) hx hb hK hP (wM_D hap _) hS 2 rfl ek hk rfl dX2_skip_39 (fun H locs hP hS => ?_)
    exact hret (g, (up2 f 1 (upd (f 1) k 3)), 0) _ _ _ _ dX2_skip_40 hP hS (by rw [if_pos ht, ec])
  replace c6 := bI0 c6
  have ht : skT g f p0 = 1 := by unfold skT; rw [if_pos c6]
  refine lv_iconst (v := 1) hx hb dX2_skip_9 (by decide) ?_
  refine lv_goto (tgt := 27) hx hb dX2_skip_10 (by decide) ?_
  refine wri_V (As := [.int 1]) (rest := []) ⟨hx, hb, hml, hown, hts⟩ (kX2_can l G a cI cZ g f tc hap _ 1 ) (cwV 1 hts gX2_skip_X2_can rfl rfl rfl (by decide +kernel) ⟨Nat.le_of_ble_eq_true rfl, Nat.le_of_ble_eq_true rfl⟩) (va_recv hK hP (ci := 2) (q0 := 0) rfl rfl) hP hK hS rfl hl.1 rfl (Nat.le_of_ble_eq_true rfl) dX2_skip_27 (by decide) (fun r27 u27 H locs h27 hP hS => ?_)
  obtain ⟨h27_1, h27_2⟩ := h27
  replace h27_1 : r27 = bI false := h27_1.trans (by decide)
  subst h27_1
  subst h27_2
  have hP : va_P G vwCl (wM a cI cZ g f 1) H := hP
  refine lv_if_eq (tgt := 40) hx hb dX2_skip_30 (by decide) (fun c30 => ?_) (fun c30 => ?_)
  · replace c30 := bI0 c30
    exact hret (g, f, 1) _ _ _ _ dX2_skip_40 hP hS (by rw [if_neg (by rw [ht]; decide), ht])
  replace c30 := bIn c30
  exact absurd c30 (by decide)
set_option maxHeartbeats 4000000 in
set_option maxRecDepth 100000 in
theorem kX2_counts (l : Launch) (G : va_G) (a : Nat → Nat) (cI cZ : ClassId) (g : Nat → Int32) (f : Nat → Nat → Int32) (tc : Int32) (hap : apart a 6) (sz : Nat) (i ct : Nat) (hi : i < 200) (hI : Inv ct g f): wrv l yX2_counts wsX2_counts { frames := 1, cells := 0, slots := 0, locals := 23 } G (wM a cI cZ g f tc) (tyIZ cI cZ) (aS a 6 sz) sz [.ref (a 0), .int (nI i)] (fun u => u = (cntG g (g 0 - f 0 i) (rowD g f i) i, f, tc)) (wfM a cI cZ) := by
  obtain ⟨B, b1, b2, b3, b4, b5⟩ := inv_B hI
  have hro := row_eq hI hi
  have hfo : foM g f i = (!decide (g 9 = -1) && (!decide (nI i ≤ g 9) && allR (foB f) B (i - B))) := by unfold foM; rw [b5]
  refine wrv_of (cc := cX2_counts) (nL := 3) (by decide) rfl (Nat.le_of_ble_eq_true rfl) ?_
  intro p e s m args below meth c H locs ls Q hx hb hml hown hts hP hK hS hret hl
  have hl : lv_has ls 3 [(0, .ref (a 0)), (1, .int (nI i))] := hl
  have hinX2 : ∀ w ∈ wsX20, w ∈ wsX2_counts := by decide +kernel
  refine lv_aload_n hx hb dX2_counts_0 rfl (lv_at hl 0 rfl) ?_
  refine mget (index := 70) (v := .int (g 0)) hx hb hts hinX2 hown hK hP 0 (by decide) (List.mem_of_getElem? (i := 1) rfl) rfl dX2_counts_1 ?_
  refine lv_aload_n hx hb dX2_counts_4 rfl (lv_at hl 0 rfl) ?_
  refine mget (index := 26) (v := .ref (a 1)) hx hb hts hinX2 hown hK hP 8 (by decide) (List.mem_of_getElem? (i := 2) rfl) rfl dX2_counts_5 ?_
  refine lv_iload_n hx hb dX2_counts_8 rfl (lv_at hl 1 rfl) ?_
  refine arI (j := i) (h := (f 0)) hx hb hK hP 1 rfl rfl (by omega) dX2_counts_9 ?_
  refine lv_isub hx hb dX2_counts_10 ?_
  refine lv_istore_n (lv' := [(2, .int ((g 0) - ((f 0) i))), (0, .ref (a 0)), (1, .int (nI i))]) hx hb dX2_counts_11 rfl hl (by decide) rfl (fun ls hl => ?_)
  refine lv_aload_n hx hb dX2_counts_12 rfl (lv_at hl 1 rfl) ?_
  refine lv_aload_n hx hb dX2_counts_13 rfl (lv_at hl 1 rfl) ?_
  refine mget (index := 82) (v := .int (g 11)) hx hb hts hinX2 hown hK hP 16 (by decide) (List.mem_of_getElem? (i := 3) rfl) rfl dX2_counts_14 ?_
  refine lv_if_le (tgt := 45) hx hb dX2_counts_17 (by decide) (fun c17 => ?_) (fun c17 => ?_)
  · refine lv_iconst (v := 1) hx hb dX2_counts_45 (by decide) ?_
    refine mput (index := 82) (v := .int 1) (upd g 11 1) tc hx hb hts hinX2 hown hK hP hap hS 16 (by decide) (List.mem_of_getElem? (i := 3) rfl) rfl rfl rfl rfl dX2_counts_46 (fun H locs hP hS => ?_)
    refine lv_aload_n hx hb dX2_counts_49 rfl (lv_at hl 1 rfl) ?_
    refine lv_iload_n hx hb dX2_counts_50 rfl (lv_at hl 2 rfl) ?_
    refine mput (index := 43) (v := .int (nI i)) (upd (upd g 11 1) 9 (nI i)) tc hx hb hts hinX2 hown hK hP hap hS 14 (by decide) (List.mem_of_getElem? (i := 5) rfl) rfl rfl rfl rfl dX2_counts_51 (fun H locs hP hS => ?_)
    refine lv_aload_n hx hb dX2_counts_54 rfl (lv_at hl 1 rfl) ?_
    refine lv_iload_n hx hb dX2_counts_55 rfl (lv_at hl 0 rfl) ?_
    refine mput (index := 88) (v := .int ((g 0) - ((f 0) i))) (upd (upd (upd g 11 1) 9 (nI i)) 10 ((g 0) - ((f 0) i))) tc hx hb hts hinX2 hown hK hP hap hS 15 (by decide) (List.mem_of_getElem? (i := 4) rfl) rfl rfl rfl rfl dX2_counts_56 (fun H locs hP hS => ?_)
    refine lv_aload_n hx hb dX2_counts_59 rfl (lv_at hl 1 rfl) ?_
    refine mget (index := 82) (v := .int 1) hx hb hts hinX2 hown hK hP 16 (by decide) (List.mem_of_getElem? (i := 3) rfl) rfl dX2_counts_60 ?_
    refine lv_iconst (v := 3) hx hb dX2_counts_63 (by decide) ?_
    refine lv_icmp_lt (tgt := 97) hx hb dX2_counts_64 (by decide) (fun c64 => ?_) (fun c64 => ?_)
    · have hrow : rowM g f i = 1 := by unfold rowM; rw [if_neg (fun q => q.1 c17)]
      have hP : va_P G vwCl (wM a cI cZ (cntG g (g 0 - f 0 i) 1 i) f tc) H := by unfold cntG; rw [if_pos (Or.inl c64)]; exact hP
      exact hret (cntG g (g 0 - f 0 i) 1 i, f, tc) _ _ _ _ dX2_counts_97 hP hS (by rw [← hro, hrow])
    refine lv_iload_n hx hb dX2_counts_67 rfl (lv_at hl 0 rfl) ?_
    refine lv_if_eq (tgt := 97) hx hb dX2_counts_68 (by decide) (fun c68 => ?_) (fun c68 => ?_)
    · have hrow : rowM g f i = 1 := by unfold rowM; rw [if_neg (fun q => q.1 c17)]
      have hP : va_P G vwCl (wM a cI cZ (cntG g (g 0 - f 0 i) 1 i) f tc) H := by unfold cntG; rw [if_pos (Or.inr (by unfold okS; rw [decide_eq_true c68]; rfl))]; exact hP
      exact hret (cntG g (g 0 - f 0 i) 1 i, f, tc) _ _ _ _ dX2_counts_97 hP hS (by rw [← hro, hrow])
    refine lv_iload_n hx hb dX2_counts_71 rfl (lv_at hl 0 rfl) ?_
    refine lv_bipush (v := (-15)) hx hb dX2_counts_72 (by decide) ?_
    refine lv_bipush (v := 15) hx hb dX2_counts_74 (by decide) ?_
    refine rdr_S (As := [.int ((g 0) - ((f 0) i)), .int (-15), .int 15]) (rest := []) ⟨hx, hb, hml, hown, hts⟩ (kX2_isIn l G _ _ ((g 0) - ((f 0) i)) (-15) 15 ) (va_cwS 3 hts gX2_counts_X2_isIn rfl rfl rfl (by decide +kernel) ⟨Nat.le_of_ble_eq_true rfl, Nat.le_of_ble_eq_true rfl⟩)  hP hK rfl hl.1 rfl (Nat.le_of_ble_eq_true rfl) dX2_counts_76 (by decide) (fun r76 h76 => ?_)
    replace h76 : r76 = bI (isW ((g 0) - ((f 0) i)) (-15) 15) := h76
    subst h76
    refine lv_if_eq (tgt := 97) hx hb dX2_counts_79 (by decide) (fun c79 => ?_) (fun c79 => ?_)
    · replace c79 := bI0 c79
      have hrow : rowM g f i = 1 := by unfold rowM; rw [if_neg (fun q => q.1 c17)]
      have hP : va_P G vwCl (wM a cI cZ (cntG g (g 0 - f 0 i) 1 i) f tc) H := by unfold cntG; rw [if_pos (Or.inr (by unfold okS; rw [c79]; simp))]; exact hP
      exact hret (cntG g (g 0 - f 0 i) 1 i, f, tc) _ _ _ _ dX2_counts_97 hP hS (by rw [← hro, hrow])
    replace c79 := bIn c79
    refine lv_aload_n hx hb dX2_counts_82 rfl (lv_at hl 1 rfl) ?_
    refine lv_dup hx hb dX2_counts_83 rfl ?_
    refine mget (index := 59) (v := .int (g 8)) hx hb hts hinX2 hown hK hP 13 (by decide) (List.mem_of_getElem? (i := 6) rfl) rfl dX2_counts_84 ?_
    refine lv_iload_n hx hb dX2_counts_87 rfl (lv_at hl 0 rfl) ?_
    refine lv_iadd hx hb dX2_counts_88 ?_
    refine mput (index := 59) (v := .int ((g 8) + ((g 0) - ((f 0) i)))) (upd (upd (upd (upd g 11 1) 9 (nI i)) 10 ((g 0) - ((f 0) i))) 8 ((g 8) + ((g 0) - ((f 0) i)))) tc hx hb hts hinX2 hown hK hP hap hS 13 (by decide) (List.mem_of_getElem? (i := 6) rfl) rfl rfl rfl rfl dX2_counts_89 (fun H locs hP hS => ?_)
    refine lv_aload_n hx hb dX2_counts_92 rfl (lv_at hl 1 rfl) ?_
    refine lv_iconst (v := 0) hx hb dX2_counts_93 (by decide) ?_
    refine mput (index := 82) (v := .int 0) (upd (upd (upd (upd g 9 (nI i)) 10 ((g 0) - ((f 0) i))) 8 ((g 8) + ((g 0) - ((f 0) i)))) 11 0) tc hx hb hts hinX2 hown hK hP hap hS 16 (by decide) (List.mem_of_getElem? (i := 3) rfl) rfl rfl rfl rfl dX2_counts_94 (fun H locs hP hS => ?_)
    have hrow : rowM g f i = 1 := by unfold rowM; rw [if_neg (fun q => q.1 c17)]
    have hP : va_P G vwCl (wM a cI cZ (cntG g (g 0 - f 0 i) 1 i) f tc) H := by unfold cntG; rw [if_neg (fun q => q.elim c64 (by unfold okS; rw [c79, decide_eq_false c68]; decide))]; exact hP
    exact hret (cntG g (g 0 - f 0 i) 1 i, f, tc) _ _ _ _ dX2_counts_97 hP hS (by rw [← hro, hrow])
  refine lv_aload_n hx hb dX2_counts_20 rfl (lv_at hl 1 rfl) ?_
  refine lv_iload_n hx hb dX2_counts_21 rfl (lv_at hl 2 rfl) ?_
  refine rdr_V (As := [.int (nI i)]) (rest := [.ref (a 0)]) ⟨hx, hb, hml, hown, hts⟩ (kX2_follows l G a cI cZ g f tc i B hi b4 b2 (fun q => (lt_pred b2 hi).mp (by rw [← b1]; exact Int32.not_le.mp q))) (cwV 1 hts gX2_counts_X2_follows rfl rfl rfl (by decide +kernel) ⟨Nat.le_of_ble_eq_true rfl, Nat.le_of_ble_eq_true rfl⟩) (va_recv hK hP (ci := 2) (q0 := 0) rfl rfl) hP hK rfl hl.1 rfl (Nat.le_of_ble_eq_true rfl) dX2_counts_22 (by decide) (fun r22 h22 => ?_)
  replace h22 : r22 = bI (!decide (g 9 = -1) && (!decide (nI i ≤ g 9) && allR (foB f) B (i - B))) := h22
  subst h22
  refine lv_if_eq (tgt := 45) hx hb dX2_counts_25 (by decide) (fun c25 => ?_) (fun c25 => ?_)
  · replace c25 := bI0 c25
    rw [← hfo] at c25
    refine lv_iconst (v := 1) hx hb dX2_counts_45 (by decide) ?_
    refine mput (index := 82) (v := .int 1) (upd g 11 1) tc hx hb hts hinX2 hown hK hP hap hS 16 (by decide) (List.mem_of_getElem? (i := 3) rfl) rfl rfl rfl rfl dX2_counts_46 (fun H locs hP hS => ?_)
    refine lv_aload_n hx hb dX2_counts_49 rfl (lv_at hl 1 rfl) ?_
    refine lv_iload_n hx hb dX2_counts_50 rfl (lv_at hl 2 rfl) ?_
    refine mput (index := 43) (v := .int (nI i)) (upd (upd g 11 1) 9 (nI i)) tc hx hb hts hinX2 hown hK hP hap hS 14 (by decide) (List.mem_of_getElem? (i := 5) rfl) rfl rfl rfl rfl dX2_counts_51 (fun H locs hP hS => ?_)
    refine lv_aload_n hx hb dX2_counts_54 rfl (lv_at hl 1 rfl) ?_
    refine lv_iload_n hx hb dX2_counts_55 rfl (lv_at hl 0 rfl) ?_
    refine mput (index := 88) (v := .int ((g 0) - ((f 0) i))) (upd (upd (upd g 11 1) 9 (nI i)) 10 ((g 0) - ((f 0) i))) tc hx hb hts hinX2 hown hK hP hap hS 15 (by decide) (List.mem_of_getElem? (i := 4) rfl) rfl rfl rfl rfl dX2_counts_56 (fun H locs hP hS => ?_)
    refine lv_aload_n hx hb dX2_counts_59 rfl (lv_at hl 1 rfl) ?_
    refine mget (index := 82) (v := .int 1) hx hb hts hinX2 hown hK hP 16 (by decide) (List.mem_of_getElem? (i := 3) rfl) rfl dX2_counts_60 ?_
    refine lv_iconst (v := 3) hx hb dX2_counts_63 (by decide) ?_
    refine lv_icmp_lt (tgt := 97) hx hb dX2_counts_64 (by decide) (fun c64 => ?_) (fun c64 => ?_)
    · have hrow : rowM g f i = 1 := by unfold rowM; rw [if_neg (fun q => by rw [c25] at q; exact absurd q.2.1 (by decide))]
      have hP : va_P G vwCl (wM a cI cZ (cntG g (g 0 - f 0 i) 1 i) f tc) H := by unfold cntG; rw [if_pos (Or.inl c64)]; exact hP
      exact hret (cntG g (g 0 - f 0 i) 1 i, f, tc) _ _ _ _ dX2_counts_97 hP hS (by rw [← hro, hrow])
    refine lv_iload_n hx hb dX2_counts_67 rfl (lv_at hl 0 rfl) ?_
    refine lv_if_eq (tgt := 97) hx hb dX2_counts_68 (by decide) (fun c68 => ?_) (fun c68 => ?_)
    · have hrow : rowM g f i = 1 := by unfold rowM; rw [if_neg (fun q => by rw [c25] at q; exact absurd q.2.1 (by decide))]
      have hP : va_P G vwCl (wM a cI cZ (cntG g (g 0 - f 0 i) 1 i) f tc) H := by unfold cntG; rw [if_pos (Or.inr (by unfold okS; rw [decide_eq_true c68]; rfl))]; exact hP
      exact hret (cntG g (g 0 - f 0 i) 1 i, f, tc) _ _ _ _ dX2_counts_97 hP hS (by rw [← hro, hrow])
    refine lv_iload_n hx hb dX2_counts_71 rfl (lv_at hl 0 rfl) ?_
    refine lv_bipush (v := (-15)) hx hb dX2_counts_72 (by decide) ?_
    refine lv_bipush (v := 15) hx hb dX2_counts_74 (by decide) ?_
    refine rdr_S (As := [.int ((g 0) - ((f 0) i)), .int (-15), .int 15]) (rest := []) ⟨hx, hb, hml, hown, hts⟩ (kX2_isIn l G _ _ ((g 0) - ((f 0) i)) (-15) 15 ) (va_cwS 3 hts gX2_counts_X2_isIn rfl rfl rfl (by decide +kernel) ⟨Nat.le_of_ble_eq_true rfl, Nat.le_of_ble_eq_true rfl⟩)  hP hK rfl hl.1 rfl (Nat.le_of_ble_eq_true rfl) dX2_counts_76 (by decide) (fun r76 h76 => ?_)
    replace h76 : r76 = bI (isW ((g 0) - ((f 0) i)) (-15) 15) := h76
    subst h76
    refine lv_if_eq (tgt := 97) hx hb dX2_counts_79 (by decide) (fun c79 => ?_) (fun c79 => ?_)
    · replace c79 := bI0 c79
      have hrow : rowM g f i = 1 := by unfold rowM; rw [if_neg (fun q => by rw [c25] at q; exact absurd q.2.1 (by decide))]
      have hP : va_P G vwCl (wM a cI cZ (cntG g (g 0 - f 0 i) 1 i) f tc) H := by unfold cntG; rw [if_pos (Or.inr (by unfold okS; rw [c79]; simp))]; exact hP
      exact hret (cntG g (g 0 - f 0 i) 1 i, f, tc) _ _ _ _ dX2_counts_97 hP hS (by rw [← hro, hrow])
    replace c79 := bIn c79
    refine lv_aload_n hx hb dX2_counts_82 rfl (lv_at hl 1 rfl) ?_
    refine lv_dup hx hb dX2_counts_83 rfl ?_
    refine mget (index := 59) (v := .int (g 8)) hx hb hts hinX2 hown hK hP 13 (by decide) (List.mem_of_getElem? (i := 6) rfl) rfl dX2_counts_84 ?_
    refine lv_iload_n hx hb dX2_counts_87 rfl (lv_at hl 0 rfl) ?_
    refine lv_iadd hx hb dX2_counts_88 ?_
    refine mput (index := 59) (v := .int ((g 8) + ((g 0) - ((f 0) i)))) (upd (upd (upd (upd g 11 1) 9 (nI i)) 10 ((g 0) - ((f 0) i))) 8 ((g 8) + ((g 0) - ((f 0) i)))) tc hx hb hts hinX2 hown hK hP hap hS 13 (by decide) (List.mem_of_getElem? (i := 6) rfl) rfl rfl rfl rfl dX2_counts_89 (fun H locs hP hS => ?_)
    refine lv_aload_n hx hb dX2_counts_92 rfl (lv_at hl 1 rfl) ?_
    refine lv_iconst (v := 0) hx hb dX2_counts_93 (by decide) ?_
    refine mput (index := 82) (v := .int 0) (upd (upd (upd (upd g 9 (nI i)) 10 ((g 0) - ((f 0) i))) 8 ((g 8) + ((g 0) - ((f 0) i)))) 11 0) tc hx hb hts hinX2 hown hK hP hap hS 16 (by decide) (List.mem_of_getElem? (i := 3) rfl) rfl rfl rfl rfl dX2_counts_94 (fun H locs hP hS => ?_)
    have hrow : rowM g f i = 1 := by unfold rowM; rw [if_neg (fun q => by rw [c25] at q; exact absurd q.2.1 (by decide))]
    have hP : va_P G vwCl (wM a cI cZ (cntG g (g 0 - f 0 i) 1 i) f tc) H := by unfold cntG; rw [if_neg (fun q => q.elim c64 (by unfold okS; rw [c79, decide_eq_false c68]; decide))]; exact hP
    exact hret (cntG g (g 0 - f 0 i) 1 i, f, tc) _ _ _ _ dX2_counts_97 hP hS (by rw [← hro, hrow])
  replace c25 := bIn c25
  rw [← hfo] at c25
  refine lv_iload_n hx hb dX2_counts_28 rfl (lv_at hl 0 rfl) ?_
  refine lv_aload_n hx hb dX2_counts_29 rfl (lv_at hl 1 rfl) ?_
  refine mget (index := 88) (v := .int (g 10)) hx hb hts hinX2 hown hK hP 15 (by decide) (List.mem_of_getElem? (i := 4) rfl) rfl dX2_counts_30 ?_
  refine lv_icmp_ne (tgt := 45) hx hb dX2_counts_33 (by decide) (fun c33 => ?_) (fun c33 => ?_)
  · refine lv_iconst (v := 1) hx hb dX2_counts_45 (by decide) ?_
    refine mput (index := 82) (v := .int 1) (upd g 11 1) tc hx hb hts hinX2 hown hK hP hap hS 16 (by decide) (List.mem_of_getElem? (i := 3) rfl) rfl rfl rfl rfl dX2_counts_46 (fun H locs hP hS => ?_)
    refine lv_aload_n hx hb dX2_counts_49 rfl (lv_at hl 1 rfl) ?_
    refine lv_iload_n hx hb dX2_counts_50 rfl (lv_at hl 2 rfl) ?_
    refine mput (index := 43) (v := .int (nI i)) (upd (upd g 11 1) 9 (nI i)) tc hx hb hts hinX2 hown hK hP hap hS 14 (by decide) (List.mem_of_getElem? (i := 5) rfl) rfl rfl rfl rfl dX2_counts_51 (fun H locs hP hS => ?_)
    refine lv_aload_n hx hb dX2_counts_54 rfl (lv_at hl 1 rfl) ?_
    refine lv_iload_n hx hb dX2_counts_55 rfl (lv_at hl 0 rfl) ?_
    refine mput (index := 88) (v := .int ((g 0) - ((f 0) i))) (upd (upd (upd g 11 1) 9 (nI i)) 10 ((g 0) - ((f 0) i))) tc hx hb hts hinX2 hown hK hP hap hS 15 (by decide) (List.mem_of_getElem? (i := 4) rfl) rfl rfl rfl rfl dX2_counts_56 (fun H locs hP hS => ?_)
    refine lv_aload_n hx hb dX2_counts_59 rfl (lv_at hl 1 rfl) ?_
    refine mget (index := 82) (v := .int 1) hx hb hts hinX2 hown hK hP 16 (by decide) (List.mem_of_getElem? (i := 3) rfl) rfl dX2_counts_60 ?_
    refine lv_iconst (v := 3) hx hb dX2_counts_63 (by decide) ?_
    refine lv_icmp_lt (tgt := 97) hx hb dX2_counts_64 (by decide) (fun c64 => ?_) (fun c64 => ?_)
    · have hrow : rowM g f i = 1 := by unfold rowM; rw [if_neg (fun q => c33 q.2.2)]
      have hP : va_P G vwCl (wM a cI cZ (cntG g (g 0 - f 0 i) 1 i) f tc) H := by unfold cntG; rw [if_pos (Or.inl c64)]; exact hP
      exact hret (cntG g (g 0 - f 0 i) 1 i, f, tc) _ _ _ _ dX2_counts_97 hP hS (by rw [← hro, hrow])
    refine lv_iload_n hx hb dX2_counts_67 rfl (lv_at hl 0 rfl) ?_
    refine lv_if_eq (tgt := 97) hx hb dX2_counts_68 (by decide) (fun c68 => ?_) (fun c68 => ?_)
    · have hrow : rowM g f i = 1 := by unfold rowM; rw [if_neg (fun q => c33 q.2.2)]
      have hP : va_P G vwCl (wM a cI cZ (cntG g (g 0 - f 0 i) 1 i) f tc) H := by unfold cntG; rw [if_pos (Or.inr (by unfold okS; rw [decide_eq_true c68]; rfl))]; exact hP
      exact hret (cntG g (g 0 - f 0 i) 1 i, f, tc) _ _ _ _ dX2_counts_97 hP hS (by rw [← hro, hrow])
    refine lv_iload_n hx hb dX2_counts_71 rfl (lv_at hl 0 rfl) ?_
    refine lv_bipush (v := (-15)) hx hb dX2_counts_72 (by decide) ?_
    refine lv_bipush (v := 15) hx hb dX2_counts_74 (by decide) ?_
    refine rdr_S (As := [.int ((g 0) - ((f 0) i)), .int (-15), .int 15]) (rest := []) ⟨hx, hb, hml, hown, hts⟩ (kX2_isIn l G _ _ ((g 0) - ((f 0) i)) (-15) 15 ) (va_cwS 3 hts gX2_counts_X2_isIn rfl rfl rfl (by decide +kernel) ⟨Nat.le_of_ble_eq_true rfl, Nat.le_of_ble_eq_true rfl⟩)  hP hK rfl hl.1 rfl (Nat.le_of_ble_eq_true rfl) dX2_counts_76 (by decide) (fun r76 h76 => ?_)
    replace h76 : r76 = bI (isW ((g 0) - ((f 0) i)) (-15) 15) := h76
    subst h76
    refine lv_if_eq (tgt := 97) hx hb dX2_counts_79 (by decide) (fun c79 => ?_) (fun c79 => ?_)
    · replace c79 := bI0 c79
      have hrow : rowM g f i = 1 := by unfold rowM; rw [if_neg (fun q => c33 q.2.2)]
      have hP : va_P G vwCl (wM a cI cZ (cntG g (g 0 - f 0 i) 1 i) f tc) H := by unfold cntG; rw [if_pos (Or.inr (by unfold okS; rw [c79]; simp))]; exact hP
      exact hret (cntG g (g 0 - f 0 i) 1 i, f, tc) _ _ _ _ dX2_counts_97 hP hS (by rw [← hro, hrow])
    replace c79 := bIn c79
    refine lv_aload_n hx hb dX2_counts_82 rfl (lv_at hl 1 rfl) ?_
    refine lv_dup hx hb dX2_counts_83 rfl ?_
    refine mget (index := 59) (v := .int (g 8)) hx hb hts hinX2 hown hK hP 13 (by decide) (List.mem_of_getElem? (i := 6) rfl) rfl dX2_counts_84 ?_
    refine lv_iload_n hx hb dX2_counts_87 rfl (lv_at hl 0 rfl) ?_
    refine lv_iadd hx hb dX2_counts_88 ?_
    refine mput (index := 59) (v := .int ((g 8) + ((g 0) - ((f 0) i)))) (upd (upd (upd (upd g 11 1) 9 (nI i)) 10 ((g 0) - ((f 0) i))) 8 ((g 8) + ((g 0) - ((f 0) i)))) tc hx hb hts hinX2 hown hK hP hap hS 13 (by decide) (List.mem_of_getElem? (i := 6) rfl) rfl rfl rfl rfl dX2_counts_89 (fun H locs hP hS => ?_)
    refine lv_aload_n hx hb dX2_counts_92 rfl (lv_at hl 1 rfl) ?_
    refine lv_iconst (v := 0) hx hb dX2_counts_93 (by decide) ?_
    refine mput (index := 82) (v := .int 0) (upd (upd (upd (upd g 9 (nI i)) 10 ((g 0) - ((f 0) i))) 8 ((g 8) + ((g 0) - ((f 0) i)))) 11 0) tc hx hb hts hinX2 hown hK hP hap hS 16 (by decide) (List.mem_of_getElem? (i := 3) rfl) rfl rfl rfl rfl dX2_counts_94 (fun H locs hP hS => ?_)
    have hrow : rowM g f i = 1 := by unfold rowM; rw [if_neg (fun q => c33 q.2.2)]
    have hP : va_P G vwCl (wM a cI cZ (cntG g (g 0 - f 0 i) 1 i) f tc) H := by unfold cntG; rw [if_neg (fun q => q.elim c64 (by unfold okS; rw [c79, decide_eq_false c68]; decide))]; exact hP
    exact hret (cntG g (g 0 - f 0 i) 1 i, f, tc) _ _ _ _ dX2_counts_97 hP hS (by rw [← hro, hrow])
  refine lv_aload_n hx hb dX2_counts_36 rfl (lv_at hl 1 rfl) ?_
  refine mget (index := 82) (v := .int (g 11)) hx hb hts hinX2 hown hK hP 16 (by decide) (List.mem_of_getElem? (i := 3) rfl) rfl dX2_counts_37 ?_
  refine lv_iconst (v := 1) hx hb dX2_counts_40 (by decide) ?_
  refine lv_iadd hx hb dX2_counts_41 ?_
  refine lv_goto (tgt := 46) hx hb dX2_counts_42 (by decide) ?_
  refine mput (index := 82) (v := .int ((g 11) + 1)) (upd g 11 ((g 11) + 1)) tc hx hb hts hinX2 hown hK hP hap hS 16 (by decide) (List.mem_of_getElem? (i := 3) rfl) rfl rfl rfl rfl dX2_counts_46 (fun H locs hP hS => ?_)
  refine lv_aload_n hx hb dX2_counts_49 rfl (lv_at hl 1 rfl) ?_
  refine lv_iload_n hx hb dX2_counts_50 rfl (lv_at hl 2 rfl) ?_
  refine mput (index := 43) (v := .int (nI i)) (upd (upd g 11 ((g 11) + 1)) 9 (nI i)) tc hx hb hts hinX2 hown hK hP hap hS 14 (by decide) (List.mem_of_getElem? (i := 5) rfl) rfl rfl rfl rfl dX2_counts_51 (fun H locs hP hS => ?_)
  refine lv_aload_n hx hb dX2_counts_54 rfl (lv_at hl 1 rfl) ?_
  refine lv_iload_n hx hb dX2_counts_55 rfl (lv_at hl 0 rfl) ?_
  refine mput (index := 88) (v := .int ((g 0) - ((f 0) i))) (upd (upd (upd g 11 ((g 11) + 1)) 9 (nI i)) 10 ((g 0) - ((f 0) i))) tc hx hb hts hinX2 hown hK hP hap hS 15 (by decide) (List.mem_of_getElem? (i := 4) rfl) rfl rfl rfl rfl dX2_counts_56 (fun H locs hP hS => ?_)
  refine lv_aload_n hx hb dX2_counts_59 rfl (lv_at hl 1 rfl) ?_
  refine mget (index := 82) (v := .int ((g 11) + 1)) hx hb hts hinX2 hown hK hP 16 (by decide) (List.mem_of_getElem? (i := 3) rfl) rfl dX2_counts_60 ?_
  refine lv_iconst (v := 3) hx hb dX2_counts_63 (by decide) ?_
  refine lv_icmp_lt (tgt := 97) hx hb dX2_counts_64 (by decide) (fun c64 => ?_) (fun c64 => ?_)
  · have hrow : rowM g f i = (g 11 + 1) := by unfold rowM; rw [if_pos ⟨c17, c25, c33⟩]
    have hP : va_P G vwCl (wM a cI cZ (cntG g (g 0 - f 0 i) (g 11 + 1) i) f tc) H := by unfold cntG; rw [if_pos (Or.inl c64)]; exact hP
    exact hret (cntG g (g 0 - f 0 i) (g 11 + 1) i, f, tc) _ _ _ _ dX2_counts_97 hP hS (by rw [← hro, hrow])
  refine lv_iload_n hx hb dX2_counts_67 rfl (lv_at hl 0 rfl) ?_
  refine lv_if_eq (tgt := 97) hx hb dX2_counts_68 (by decide) (fun c68 => ?_) (fun c68 => ?_)
  · have hrow : rowM g f i = (g 11 + 1) := by unfold rowM; rw [if_pos ⟨c17, c25, c33⟩]
    have hP : va_P G vwCl (wM a cI cZ (cntG g (g 0 - f 0 i) (g 11 + 1) i) f tc) H := by unfold cntG; rw [if_pos (Or.inr (by unfold okS; rw [decide_eq_true c68]; rfl))]; exact hP
    exact hret (cntG g (g 0 - f 0 i) (g 11 + 1) i, f, tc) _ _ _ _ dX2_counts_97 hP hS (by rw [← hro, hrow])
  refine lv_iload_n hx hb dX2_counts_71 rfl (lv_at hl 0 rfl) ?_
  refine lv_bipush (v := (-15)) hx hb dX2_counts_72 (by decide) ?_
  refine lv_bipush (v := 15) hx hb dX2_counts_74 (by decide) ?_
  refine rdr_S (As := [.int ((g 0) - ((f 0) i)), .int (-15), .int 15]) (rest := []) ⟨hx, hb, hml, hown, hts⟩ (kX2_isIn l G _ _ ((g 0) - ((f 0) i)) (-15) 15 ) (va_cwS 3 hts gX2_counts_X2_isIn rfl rfl rfl (by decide +kernel) ⟨Nat.le_of_ble_eq_true rfl, Nat.le_of_ble_eq_true rfl⟩)  hP hK rfl hl.1 rfl (Nat.le_of_ble_eq_true rfl) dX2_counts_76 (by decide) (fun r76 h76 => ?_)
  replace h76 : r76 = bI (isW ((g 0) - ((f 0) i)) (-15) 15) := h76
  subst h76
  refine lv_if_eq (tgt := 97) hx hb dX2_counts_79 (by decide) (fun c79 => ?_) (fun c79 => ?_)
  · replace c79 := bI0 c79
    have hrow : rowM g f i = (g 11 + 1) := by unfold rowM; rw [if_pos ⟨c17, c25, c33⟩]
    have hP : va_P G vwCl (wM a cI cZ (cntG g (g 0 - f 0 i) (g 11 + 1) i) f tc) H := by unfold cntG; rw [if_pos (Or.inr (by unfold okS; rw [c79]; simp))]; exact hP
    exact hret (cntG g (g 0 - f 0 i) (g 11 + 1) i, f, tc) _ _ _ _ dX2_counts_97 hP hS (by rw [← hro, hrow])
  replace c79 := bIn c79
  refine lv_aload_n hx hb dX2_counts_82 rfl (lv_at hl 1 rfl) ?_
  refine lv_dup hx hb dX2_counts_83 rfl ?_
  refine mget (index := 59) (v := .int (g 8)) hx hb hts hinX2 hown hK hP 13 (by decide) (List.mem_of_getElem? (i := 6) rfl) rfl dX2_counts_84 ?_
  refine lv_iload_n hx hb dX2_counts_87 rfl (lv_at hl 0 rfl) ?_
  refine lv_iadd hx hb dX2_counts_88 ?_
  refine mput (index := 59) (v := .int ((g 8) + ((g 0) - ((f 0) i)))) (upd (upd (upd (upd g 11 ((g 11) + 1)) 9 (nI i)) 10 ((g 0) - ((f 0) i))) 8 ((g 8) + ((g 0) - ((f 0) i)))) tc hx hb hts hinX2 hown hK hP hap hS 13 (by decide) (List.mem_of_getElem? (i := 6) rfl) rfl rfl rfl rfl dX2_counts_89 (fun H locs hP hS => ?_)
  refine lv_aload_n hx hb dX2_counts_92 rfl (lv_at hl 1 rfl) ?_
  refine lv_iconst (v := 0) hx hb dX2_counts_93 (by decide) ?_
  refine mput (index := 82) (v := .int 0) (upd (upd (upd (upd g 9 (nI i)) 10 ((g 0) - ((f 0) i))) 8 ((g 8) + ((g 0) - ((f 0) i)))) 11 0) tc hx hb hts hinX2 hown hK hP hap hS 16 (by decide) (List.mem_of_getElem? (i := 3) rfl) rfl rfl rfl rfl dX2_counts_94 (fun H locs hP hS => ?_)
  have hrow : rowM g f i = (g 11 + 1) := by unfold rowM; rw [if_pos ⟨c17, c25, c33⟩]
  have hP : va_P G vwCl (wM a cI cZ (cntG g (g 0 - f 0 i) (g 11 + 1) i) f tc) H := by unfold cntG; rw [if_neg (fun q => q.elim c64 (by unfold okS; rw [c79, decide_eq_false c68]; decide))]; exact hP
  exact hret (cntG g (g 0 - f 0 i) (g 11 + 1) i, f, tc) _ _ _ _ dX2_counts_97 hP hS (by rw [← hro, hrow])
