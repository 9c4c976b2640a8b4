set_option maxHeartbeats 4000000 in
set_option maxRecDepth 100000 in
theorem kX1_startOfRange (l : Launch) (G : va_G) (a : Nat → Nat) (cI cZ : ClassId) (g : Nat → Int32) (f : Nat → Nat → Int32) (cd : Nat → Int32) (tc : Int32) (p0 : Int32): rdr l yX1_startOfRange wsX1_startOfRange { frames := 4, cells := 0, slots := 0, locals := 83 } G (wD a cI cZ g f cd tc) (tyIZ cI cZ) [.ref (a 0), .int p0] (fun r => r = scan (rsB g f) p0 0 200 0) := by
  refine rdr_of (cc := cX1_startOfRange) (nL := 4) (ty := .int) (by decide) rfl (Nat.le_of_ble_eq_true rfl) ?_
  intro p e s m args below meth c H ls Q hx hb hml hown hts hP hK hret hl
  have hl : lv_has ls 4 [(0, .ref (a 0)), (1, .int p0)] := hl
  refine lv_iconst (v := 0) hx hb dX1_startOfRange_0 (by decide) ?_
  refine lv_istore_n (lv' := [(2, .int 0), (0, .ref (a 0)), (1, .int p0)]) hx hb dX1_startOfRange_1 rfl hl (by decide) rfl (fun ls hl => ?_)
  refine lv_iconst (v := 0) hx hb dX1_startOfRange_2 (by decide) ?_
  refine lv_istore_n (lv' := [(3, .int 0), (2, .int 0), (0, .ref (a 0)), (1, .int p0)]) hx hb dX1_startOfRange_3 rfl hl (by decide) rfl (fun ls hl => ?_)
  have loop4 : ∀ (n : Nat) (i sN : Nat) (x : Int32), i ≤ 200 → 200 - i < n → x = nI sN → scan (rsB g f) p0 i (200 - i) sN = scan (rsB g f) p0 0 200 0 → ∀ (ls : Array Slot), lv_has ls 4 [(0, .ref (a 0)), (1, .int p0), (2, .int x), (3, .int (nI i))] → W p l e { frames := 4, cells := 0, slots := 0, locals := 83 } s m args below meth c H [] 0 0 Q (F0 m 4 ls []) := by
    intro n
    induction n with
    | zero => intro i sN x hi hn ex hq; exact absurd hn (Nat.not_lt_zero _)
    | succ n ih4 =>
      intro i sN x hi hn ex hq ls hl
      refine lv_iload_n hx hb dX1_startOfRange_4 rfl (lv_at hl 3 rfl) ?_
      refine lv_sipush (v := 200) hx hb dX1_startOfRange_5 (by decide) ?_
      refine lv_icmp_ge (tgt := 35) hx hb dX1_startOfRange_8 (by decide) (fun c8 => ?_) (fun c8 => ?_)
      · have ei := ge_200 c8 (by omega)
        refine lv_iconst (v := (-1)) hx hb dX1_startOfRange_35 (by decide) ?_
        exact hret (-1) _ _ dX1_startOfRange_36 rfl (by rw [← hq, ei]; rfl)
      have hi2 := nge_200 c8 (by omega)
      refine lv_aload_n hx hb dX1_startOfRange_11 rfl (lv_at hl 0 rfl) ?_
      refine lv_iload_n hx hb dX1_startOfRange_12 rfl (lv_at hl 3 rfl) ?_
      refine rdr_V (As := [.int (nI i)]) (rest := []) ⟨hx, hb, hml, hown, hts⟩ (kX1_isRangeStart l G a cI cZ g f cd tc i hi2) (cwV 1 hts gX1_startOfRange_X1_isRangeStart rfl rfl rfl (by decide +kernel) ⟨Nat.le_of_ble_eq_true rfl, Nat.le_of_ble_eq_true rfl⟩) (va_recv hK hP (ci := 1) (q0 := 0) rfl rfl) hP hK rfl hl.1 rfl (Nat.le_of_ble_eq_true rfl) dX1_startOfRange_13 (by decide) (fun r13 h13 => ?_)
      replace h13 : r13 = bI (rsB g f i) := h13
      subst h13
      refine lv_if_eq (tgt := 29) hx hb dX1_startOfRange_16 (by decide) (fun c16 => ?_) (fun c16 => ?_)
      · replace c16 := bI0 c16
        refine lv_iinc (v := nI (i + 1)) (lv' := [(3, .int (nI (i + 1))), (0, .ref (a 0)), (1, .int p0), (2, .int x)]) hx hb dX1_startOfRange_29 hl (k := 3) rfl (nI_1 _) (by decide) rfl (fun ls hl => ?_)
        refine lv_goto (tgt := 4) hx hb dX1_startOfRange_32 (by decide) ?_
        exact ih4 (i + 1) sN x (by omega) (by omega) ex (by rw [← hq, scan_step hi2, if_neg (by rw [c16]; decide)]) _ (lv_sub hl [1, 2, 3, 0] rfl)
      replace c16 := bIn c16
      refine lv_iload_n hx hb dX1_startOfRange_19 rfl (lv_at hl 2 rfl) ?_
      refine lv_iload_n hx hb dX1_startOfRange_20 rfl (lv_at hl 1 rfl) ?_
      refine lv_icmp_ne (tgt := 26) hx hb dX1_startOfRange_21 (by decide) (fun c21 => ?_) (fun c21 => ?_)
      · refine lv_iinc (v := x + 1) (lv' := [(2, .int (x + 1)), (0, .ref (a 0)), (1, .int p0), (3, .int (nI i))]) hx hb dX1_startOfRange_26 hl (k := 2) rfl rfl (by decide) rfl (fun ls hl => ?_)
        refine lv_iinc (v := nI (i + 1)) (lv' := [(3, .int (nI (i + 1))), (2, .int (x + 1)), (0, .ref (a 0)), (1, .int p0)]) hx hb dX1_startOfRange_29 hl (k := 3) rfl (nI_1 _) (by decide) rfl (fun ls hl => ?_)
        refine lv_goto (tgt := 4) hx hb dX1_startOfRange_32 (by decide) ?_
        exact ih4 (i + 1) (sN + 1) (x + 1) (by omega) (by omega) (by rw [ex]; exact nI_1 _) (by rw [← hq, scan_step hi2, if_pos c16, if_neg (by rw [← ex]; exact c21)]) _ (lv_sub hl [2, 3, 1, 0] rfl)
      refine lv_iload_n hx hb dX1_startOfRange_24 rfl (lv_at hl 3 rfl) ?_
      exact hret (nI i) _ _ dX1_startOfRange_25 rfl (by rw [← hq, scan_step hi2, if_pos c16, if_pos (by rw [← ex]; exact c21)])
  exact loop4 201 0 0 0 (by omega) (by omega) rfl rfl _ (lv_sub hl [2, 3, 1, 0] rfl)
set_option maxHeartbeats 4000000 in
set_option maxRecDepth 100000 in
theorem kX1_endOfRange (l : Launch) (G : va_G) (a : Nat → Nat) (cI cZ : ClassId) (g : Nat → Int32) (f : Nat → Nat → Int32) (cd : Nat → Int32) (tc : Int32) (k : Nat) (hk : k < 200): rdr l yX1_endOfRange wsX1_endOfRange { frames := 3, cells := 0, slots := 0, locals := 62 } G (wD a cI cZ g f cd tc) (tyIZ cI cZ) [.ref (a 0), .int (nI k)] (fun r => r = nI (eoR g f (199 - k) k)) := by
  refine rdr_of (cc := cX1_endOfRange) (nL := 3) (ty := .int) (by decide) rfl (Nat.le_of_ble_eq_true rfl) ?_
  intro p e s m args below meth c H ls Q hx hb hml hown hts hP hK hret hl
  have hl : lv_has ls 3 [(0, .ref (a 0)), (1, .int (nI k))] := hl
  refine lv_iload_n hx hb dX1_endOfRange_0 rfl (lv_at hl 1 rfl) ?_
  refine lv_istore_n (lv' := [(2, .int (nI k)), (0, .ref (a 0)), (1, .int (nI k))]) hx hb dX1_endOfRange_1 rfl hl (by decide) rfl (fun ls hl => ?_)
  have loop2 : ∀ (n : Nat) (j : Nat), j ≤ 199 → 199 - j < n → eoR g f (199 - j) j = eoR g f (199 - k) k → ∀ (ls : Array Slot), lv_has ls 3 [(0, .ref (a 0)), (1, .int (nI k)), (2, .int (nI j))] → W p l e { frames := 3, cells := 0, slots := 0, locals := 62 } s m args below meth c H [] 0 0 Q (F0 m 2 ls []) := by
    intro n
    induction n with
    | zero => intro j hj hn hq; exact absurd hn (Nat.not_lt_zero _)
    | succ n ih2 =>
      intro j hj hn hq ls hl
      refine lv_iload_n hx hb dX1_endOfRange_2 rfl (lv_at hl 2 rfl) ?_
      refine lv_sipush (v := 199) hx hb dX1_endOfRange_3 (by decide) ?_
      refine lv_icmp_ge (tgt := 25) hx hb dX1_endOfRange_6 (by decide) (fun c6 => ?_) (fun c6 => ?_)
      · have ej : j = 199 := by have := (nI_leI (a := 199) (b := j) (by decide) (by omega)).mp c6; omega
        refine lv_iload_n hx hb dX1_endOfRange_25 rfl (lv_at hl 2 rfl) ?_
        exact hret (nI j) _ _ dX1_endOfRange_26 rfl (by rw [← hq, ej]; rfl)
      have hj2 : j < 199 := nle_nI (a := 199) (by omega) (by omega) c6
      refine lv_aload_n hx hb dX1_endOfRange_9 rfl (lv_at hl 0 rfl) ?_
      refine lv_iload_n hx hb dX1_endOfRange_10 rfl (lv_at hl 2 rfl) ?_
      refine lv_iconst (v := 1) hx hb dX1_endOfRange_11 (by decide) ?_
      refine lv_iadd hx hb dX1_endOfRange_12 ?_
      refine top_eq (z := nI (j + 1)) (nI_1 _) ?_
      refine rdr_V (As := [.int (nI (j + 1))]) (rest := []) ⟨hx, hb, hml, hown, hts⟩ (kX1_isInHouse l G a cI cZ g f cd tc (nI (j + 1)) ) (cwV 1 hts gX1_endOfRange_X1_isInHouse rfl rfl rfl (by decide +kernel) ⟨Nat.le_of_ble_eq_true rfl, Nat.le_of_ble_eq_true rfl⟩) (va_recv hK hP (ci := 1) (q0 := 0) rfl rfl) hP hK rfl hl.1 rfl (Nat.le_of_ble_eq_true rfl) dX1_endOfRange_13 (by decide) (fun r13 h13 => ?_)
      replace h13 : r13 = bI (hereI g f (nI (j + 1))) := h13
      subst h13
      refine lv_if_eq (tgt := 25) hx hb dX1_endOfRange_16 (by decide) (fun c16 => ?_) (fun c16 => ?_)
      · replace c16 := bI0 c16
        refine lv_iload_n hx hb dX1_endOfRange_25 rfl (lv_at hl 2 rfl) ?_
        exact hret (nI j) _ _ dX1_endOfRange_26 rfl (by rw [← hq, eoR_step hj2, if_neg (by rw [← hereI_nI (show j + 1 < 200 by omega), c16]; decide)])
      replace c16 := bIn c16
      refine lv_iinc (v := nI (j + 1)) (lv' := [(2, .int (nI (j + 1))), (0, .ref (a 0)), (1, .int (nI k))]) hx hb dX1_endOfRange_19 hl (k := 2) rfl (nI_1 _) (by decide) rfl (fun ls hl => ?_)
      refine lv_goto (tgt := 2) hx hb dX1_endOfRange_22 (by decide) ?_
      exact ih2 (j + 1) (by omega) (by omega) (by rw [← hq, eoR_step hj2, if_pos (by rw [← hereI_nI (show j + 1 < 200 by omega), c16])]) _ (lv_sub hl [1, 2, 0] rfl)
  exact loop2 200 k (by omega) (by omega) rfl _ (lv_sub hl [1, 2, 0] rfl)
set_option maxHeartbeats 4000000 in
set_option maxRecDepth 100000 in
theorem kX1_isHeld (l : Launch) (G : va_G) (a : Nat → Nat) (cI cZ : ClassId) (g : Nat → Int32) (f : Nat → Nat → Int32) (cd : Nat → Int32) (tc : Int32) (p0 : Int32): rdr l yX1_isHeld wsX1_isHeld { frames := 4, cells := 0, slots := 0, locals := 84 } G (wD a cI cZ g f cd tc) (tyIZ cI cZ) [.ref (a 0), .int p0] (fun r => r = bI (anyR (hdB g f p0) 0 200)) := by
  refine rdr_of (cc := cX1_isHeld) (nL := 3) (ty := .boolean) (by decide) rfl (Nat.le_of_ble_eq_true rfl) ?_
  intro p e s m args below meth c H ls Q hx hb hml hown hts hP hK hret hl
  have hl : lv_has ls 3 [(0, .ref (a 0)), (1, .int p0)] := hl
  refine lv_iconst (v := 0) hx hb dX1_isHeld_0 (by decide) ?_
  refine lv_istore_n (lv' := [(2, .int 0), (0, .ref (a 0)), (1, .int p0)]) hx hb dX1_isHeld_1 rfl hl (by decide) rfl (fun ls hl => ?_)
  have loop2 : ∀ (n : Nat) (i : Nat), i ≤ 200 → 200 - i < n → anyR (hdB g f p0) i (200 - i) = anyR (hdB g f p0) 0 200 → ∀ (ls : Array Slot), lv_has ls 3 [(0, .ref (a 0)), (1, .int p0), (2, .int (nI i))] → W p l e { frames := 4, cells := 0, slots := 0, locals := 84 } s m args below meth c H [] 0 0 Q (F0 m 2 ls []) := by
    intro n
    induction n with
    | zero => intro i hi hn hq; exact absurd hn (Nat.not_lt_zero _)
    | succ n ih2 =>
      intro i hi hn hq ls hl
      refine lv_iload_n hx hb dX1_isHeld_2 rfl (lv_at hl 2 rfl) ?_
      refine lv_sipush (v := 200) hx hb dX1_isHeld_3 (by decide) ?_
      refine lv_icmp_ge (tgt := 38) hx hb dX1_isHeld_6 (by decide) (fun c6 => ?_) (fun c6 => ?_)
      · have ei := ge_200 c6 (by omega)
        refine lv_iconst (v := 0) hx hb dX1_isHeld_38 (by decide) ?_
        exact hret 0 _ _ dX1_isHeld_39 rfl (by rw [← hq, ei]; rfl)
      have hi2 := nge_200 c6 (by omega)
      refine lv_aload_n hx hb dX1_isHeld_9 rfl (lv_at hl 0 rfl) ?_
      refine lv_iload_n hx hb dX1_isHeld_10 rfl (lv_at hl 2 rfl) ?_
      refine rdr_V (As := [.int (nI i)]) (rest := []) ⟨hx, hb, hml, hown, hts⟩ (kX1_isRangeStart l G a cI cZ g f cd tc i hi2) (cwV 1 hts gX1_isHeld_X1_isRangeStart rfl rfl rfl (by decide +kernel) ⟨Nat.le_of_ble_eq_true rfl, Nat.le_of_ble_eq_true rfl⟩) (va_recv hK hP (ci := 1) (q0 := 0) rfl rfl) hP hK rfl hl.1 rfl (Nat.le_of_ble_eq_true rfl) dX1_isHeld_11 (by decide) (fun r11 h11 => ?_)
      replace h11 : r11 = bI (rsB g f i) := h11
      subst h11
      refine lv_if_eq (tgt := 32) hx hb dX1_isHeld_14 (by decide) (fun c14 => ?_) (fun c14 => ?_)
      · replace c14 := bI0 c14
        refine lv_iinc (v := nI (i + 1)) (lv' := [(2, .int (nI (i + 1))), (0, .ref (a 0)), (1, .int p0)]) hx hb dX1_isHeld_32 hl (k := 2) rfl (nI_1 _) (by decide) rfl (fun ls hl => ?_)
        refine lv_goto (tgt := 2) hx hb dX1_isHeld_35 (by decide) ?_
        exact ih2 (i + 1) (by omega) (by omega) (by rw [← hq, anyR_step hi2]; simp [hdB, c14]) _ (lv_sub hl [1, 2, 0] rfl)
      replace c14 := bIn c14
      refine lv_iload_n hx hb dX1_isHeld_17 rfl (lv_at hl 1 rfl) ?_
      refine lv_iload_n hx hb dX1_isHeld_18 rfl (lv_at hl 2 rfl) ?_
      refine lv_aload_n hx hb dX1_isHeld_19 rfl (lv_at hl 0 rfl) ?_
      refine lv_iload_n hx hb dX1_isHeld_20 rfl (lv_at hl 2 rfl) ?_
      refine rdr_V (As := [.int (nI i)]) (rest := [.int (nI i), .int p0]) ⟨hx, hb, hml, hown, hts⟩ (kX1_endOfRange l G a cI cZ g f cd tc i hi2) (cwV 1 hts gX1_isHeld_X1_endOfRange rfl rfl rfl (by decide +kernel) ⟨Nat.le_of_ble_eq_true rfl, Nat.le_of_ble_eq_true rfl⟩) (va_recv hK hP (ci := 1) (q0 := 0) rfl rfl) hP hK rfl hl.1 rfl (Nat.le_of_ble_eq_true rfl) dX1_isHeld_21 (by decide) (fun r21 h21 => ?_)
      replace h21 : r21 = nI (eoR g f (199 - i) i) := h21
      subst h21
      refine rdr_S (As := [.int p0, .int (nI i), .int (nI (eoR g f (199 - i) i))]) (rest := []) ⟨hx, hb, hml, hown, hts⟩ (kX1_isWithin l G _ _ p0 (nI i) (nI (eoR g f (199 - i) i)) ) (va_cwS 3 hts gX1_isHeld_X1_isWithin rfl rfl rfl (by decide +kernel) ⟨Nat.le_of_ble_eq_true rfl, Nat.le_of_ble_eq_true rfl⟩)  hP hK rfl hl.1 rfl (Nat.le_of_ble_eq_true rfl) dX1_isHeld_24 (by decide) (fun r24 h24 => ?_)
      replace h24 : r24 = bI (isW p0 (nI i) (nI (eoR g f (199 - i) i))) := h24
      subst h24
      refine lv_if_eq (tgt := 32) hx hb dX1_isHeld_27 (by decide) (fun c27 => ?_) (fun c27 => ?_)
      · replace c27 := bI0 c27
        refine lv_iinc (v := nI (i + 1)) (lv' := [(2, .int (nI (i + 1))), (0, .ref (a 0)), (1, .int p0)]) hx hb dX1_isHeld_32 hl (k := 2) rfl (nI_1 _) (by decide) rfl (fun ls hl => ?_)
        refine lv_goto (tgt := 2) hx hb dX1_isHeld_35 (by decide) ?_
        exact ih2 (i + 1) (by omega) (by omega) (by rw [← hq, anyR_step hi2]; simp [hdB, c14, c27]) _ (lv_sub hl [1, 2, 0] rfl)
      replace c27 := bIn c27
      refine lv_iconst (v := 1) hx hb dX1_isHeld_30 (by decide) ?_
      exact hret 1 _ _ dX1_isHeld_31 rfl (by rw [← hq, anyR_step hi2]; simp [hdB, c14, c27, bI])
  exact loop2 201 0 (by omega) (by omega) rfl _ (lv_sub hl [1, 2, 0] rfl)
set_option maxHeartbeats 4000000 in
set_option maxRecDepth 100000 in
theorem kX1_find (l : Launch) (G : va_G) (a : Nat → Nat) (cI cZ : ClassId) (g : Nat → Int32) (f : Nat → Nat → Int32) (cd : Nat → Int32) (tc : Int32) (p0 p1 : Int32): rdr l yX1_find wsX1_find { frames := 1, cells := 0, slots := 0, locals := 21 } G (wD a cI cZ g f cd tc) (tyIZ cI cZ) [.ref (a 0), .int p0, .int p1] (fun r => r = firstR (fdB g p0 p1) 0 200) := by
  refine rdr_of (cc := cX1_find) (nL := 4) (ty := .int) (by decide) rfl (Nat.le_of_ble_eq_true rfl) ?_
  intro p e s m args below meth c H ls Q hx hb hml hown hts hP hK hret hl
  have hl : lv_has ls 4 [(0, .ref (a 0)), (1, .int p0), (2, .int p1)] := hl
  have hinX1 : ∀ w ∈ wsX10, w ∈ wsX1_find := by decide +kernel
  refine lv_iconst (v := 0) hx hb dX1_find_0 (by decide) ?_
  refine lv_istore_n (lv' := [(3, .int 0), (0, .ref (a 0)), (1, .int p0), (2, .int p1)]) hx hb dX1_find_1 rfl hl (by decide) rfl (fun ls hl => ?_)
  have loop2 : ∀ (n : Nat) (i : Nat), i ≤ 200 → 200 - i < n → firstR (fdB g p0 p1) i (200 - i) = firstR (fdB g p0 p1) 0 200 → ∀ (ls : Array Slot), lv_has ls 4 [(0, .ref (a 0)), (1, .int p0), (2, .int p1), (3, .int (nI i))] → W p l e { frames := 1, cells := 0, slots := 0, locals := 21 } s m args below meth c H [] 0 0 Q (F0 m 2 ls []) := by
    intro n
    induction n with
    | zero => intro i hi hn hq; exact absurd hn (Nat.not_lt_zero _)
    | succ n ih2 =>
      intro i hi hn hq ls hl
      refine lv_iload_n hx hb dX1_find_2 rfl (lv_at hl 3 rfl) ?_
      refine lv_sipush (v := 200) hx hb dX1_find_3 (by decide) ?_
      refine lv_icmp_ge (tgt := 41) hx hb dX1_find_6 (by decide) (fun c6 => ?_) (fun c6 => ?_)
      · have ei := ge_200 c6 (by omega)
        refine lv_iconst (v := (-1)) hx hb dX1_find_41 (by decide) ?_
        exact hret (-1) _ _ dX1_find_42 rfl (by rw [← hq, ei]; rfl)
      have hi2 := nge_200 c6 (by omega)
      refine lv_aload_n hx hb dX1_find_9 rfl (lv_at hl 0 rfl) ?_
      refine dget (index := 10) (v := .ref (a 1)) hx hb hts hinX1 hown hK hP 0 (by decide) (List.mem_of_getElem? (i := 1) rfl) rfl dX1_find_10 ?_
      refine lv_iload_n hx hb dX1_find_13 rfl (lv_at hl 3 rfl) ?_
      refine rdr_V (As := [.int (nI i)]) (rest := []) ⟨hx, hb, hml, hown, hts⟩ (kX0_volumeOf l G a cI cZ g f cd tc (nI i) ) (cwV 1 hts gX1_find_X0_volumeOf rfl rfl rfl (by decide +kernel) ⟨Nat.le_of_ble_eq_true rfl, Nat.le_of_ble_eq_true rfl⟩) (va_recv hK hP (ci := 0) (q0 := 1) rfl rfl) hP hK rfl hl.1 rfl (Nat.le_of_ble_eq_true rfl) dX1_find_14 (by decide) (fun r14 h14 => ?_)
      replace h14 : r14 = volD g (nI i) := h14
      subst h14
      refine lv_iload_n hx hb dX1_find_17 rfl (lv_at hl 1 rfl) ?_
      refine lv_icmp_ne (tgt := 35) hx hb dX1_find_18 (by decide) (fun c18 => ?_) (fun c18 => ?_)
      · refine lv_iinc (v := nI (i + 1)) (lv' := [(3, .int (nI (i + 1))), (0, .ref (a 0)), (1, .int p0), (2, .int p1)]) hx hb dX1_find_35 hl (k := 3) rfl (nI_1 _) (by decide) rfl (fun ls hl => ?_)
        refine lv_goto (tgt := 2) hx hb dX1_find_38 (by decide) ?_
        exact ih2 (i + 1) (by omega) (by omega) (by rw [← hq, firstR_step hi2]; simp [fdB, c18]) _ (lv_sub hl [1, 2, 3, 0] rfl)
      refine lv_aload_n hx hb dX1_find_21 rfl (lv_at hl 0 rfl) ?_
      refine dget (index := 10) (v := .ref (a 1)) hx hb hts hinX1 hown hK hP 0 (by decide) (List.mem_of_getElem? (i := 1) rfl) rfl dX1_find_22 ?_
      refine lv_iload_n hx hb dX1_find_25 rfl (lv_at hl 3 rfl) ?_
      refine rdr_V (As := [.int (nI i)]) (rest := []) ⟨hx, hb, hml, hown, hts⟩ (kX0_numberOf l G a cI cZ g f cd tc (nI i) ) (cwV 1 hts gX1_find_X0_numberOf rfl rfl rfl (by decide +kernel) ⟨Nat.le_of_ble_eq_true rfl, Nat.le_of_ble_eq_true rfl⟩) (va_recv hK hP (ci := 0) (q0 := 1) rfl rfl) hP hK rfl hl.1 rfl (Nat.le_of_ble_eq_true rfl) dX1_find_26 (by decide) (fun r26 h26 => ?_)
      replace h26 : r26 = numD g (nI i) := h26
      subst h26
      refine lv_iload_n hx hb dX1_find_29 rfl (lv_at hl 2 rfl) ?_
      refine lv_icmp_ne (tgt := 35) hx hb dX1_find_30 (by decide) (fun c30 => ?_) (fun c30 => ?_)
      · refine lv_iinc (v := nI (i + 1)) (lv' := [(3, .int (nI (i + 1))), (0, .ref (a 0)), (1, .int p0), (2, .int p1)]) hx hb dX1_find_35 hl (k := 3) rfl (nI_1 _) (by decide) rfl (fun ls hl => ?_)
        refine lv_goto (tgt := 2) hx hb dX1_find_38 (by decide) ?_
        exact ih2 (i + 1) (by omega) (by omega) (by rw [← hq, firstR_step hi2]; simp [fdB, c18, c30]) _ (lv_sub hl [1, 2, 3, 0] rfl)
      refine lv_iload_n hx hb dX1_find_33 rfl (lv_at hl 3 rfl) ?_
      exact hret (nI i) _ _ dX1_find_34 rfl (by rw [← hq, firstR_step hi2]; simp [fdB, c18, c30])
  exact loop2 201 0 (by omega) (by omega) rfl _ (lv_sub hl [1, 2, 3, 0] rfl)
set_option maxHeartbeats 4000000 in
set_option maxRecDepth 100000 in
theorem kX1_canAllCome (l : Launch) (G : va_G) (a : Nat → Nat) (cI cZ : ClassId) (g : Nat → Int32) (f : Nat → Nat → Int32) (cd : Nat → Int32) (tc : Int32) (F L : Nat) (hF : F ≤ L) (hL : L < 200): rdr l yX1_canAllCome wsX1_canAllCome { frames := 2, cells := 0, slots := 0, locals := 41 } G (wD a cI cZ g f cd tc) (tyIZ cI cZ) [.ref (a 0), .int (nI F), .int (nI L)] (fun r => r = bI (allR (opB g f) F (L + 1 - F))) := by
  refine rdr_of (cc := cX1_canAllCome) (nL := 4) (ty := .boolean) (by decide) rfl (Nat.le_of_ble_eq_true rfl) ?_
  intro p e s m args below meth c H ls Q hx hb hml hown hts hP hK hret hl
  have hl : lv_has ls 4 [(0, .ref (a 0)), (1, .int (nI F)), (2, .int (nI L))] := hl
  have hinX1 : ∀ w ∈ wsX10, w ∈ wsX1_canAllCome := by decide +kernel
  refine lv_iload_n hx hb dX1_canAllCome_0 rfl (lv_at hl 1 rfl) ?_
  refine lv_istore_n (lv' := [(3, .int (nI F)), (0, .ref (a 0)), (1, .int (nI F)), (2, .int (nI L))]) hx hb dX1_canAllCome_1 rfl hl (by decide) rfl (fun ls hl => ?_)
  have loop2 : ∀ (n : Nat) (i : Nat), F ≤ i → i ≤ L + 1 → L + 1 - i < n → allR (opB g f) i (L + 1 - i) = allR (opB g f) F (L + 1 - F) → ∀ (ls : Array Slot), lv_has ls 4 [(0, .ref (a 0)), (1, .int (nI F)), (2, .int (nI L)), (3, .int (nI i))] → W p l e { frames := 2, cells := 0, slots := 0, locals := 41 } s m args below meth c H [] 0 0 Q (F0 m 2 ls []) := by
    intro n
    induction n with
    | zero => intro i hi0 hi hn hq; exact absurd hn (Nat.not_lt_zero _)
    | succ n ih2 =>
      intro i hi0 hi hn hq ls hl
      refine lv_iload_n hx hb dX1_canAllCome_2 rfl (lv_at hl 3 rfl) ?_
      refine lv_iload_n hx hb dX1_canAllCome_3 rfl (lv_at hl 2 rfl) ?_
      refine lv_icmp_gt (tgt := 39) hx hb dX1_canAllCome_4 (by decide) (fun c4 => ?_) (fun c4 => ?_)
      · have ei : i = L + 1 := by have := lt_nI (a := L) (b := i) (by omega) (by omega) c4; omega
        refine lv_iconst (v := 1) hx hb dX1_canAllCome_39 (by decide) ?_
        exact hret 1 _ _ dX1_canAllCome_40 rfl (by rw [← hq, ei, Nat.sub_self]; rfl)
      have hi2 : i ≤ L := nlt_nI (by omega) (by omega) c4
      refine lv_iload_n hx hb dX1_canAllCome_7 rfl (lv_at hl 3 rfl) ?_
      refine lv_sipush (v := 200) hx hb dX1_canAllCome_8 (by decide) ?_
      refine lv_icmp_ge (tgt := 39) hx hb dX1_canAllCome_11 (by decide) (fun c11 => ?_) (fun c11 => ?_)
      · exact absurd (ge_200 c11 (by omega)) (by omega)
      refine lv_aload_n hx hb dX1_canAllCome_14 rfl (lv_at hl 0 rfl) ?_
      refine lv_iload_n hx hb dX1_canAllCome_15 rfl (lv_at hl 3 rfl) ?_
      refine rdr_V (As := [.int (nI i)]) (rest := []) ⟨hx, hb, hml, hown, hts⟩ (kX1_isForetold l G a cI cZ g f cd tc (nI i) ) (cwV 1 hts gX1_canAllCome_X1_isForetold rfl rfl rfl (by decide +kernel) ⟨Nat.le_of_ble_eq_true rfl, Nat.le_of_ble_eq_true rfl⟩) (va_recv hK hP (ci := 1) (q0 := 0) rfl rfl) hP hK rfl hl.1 rfl (Nat.le_of_ble_eq_true rfl) dX1_canAllCome_16 (by decide) (fun r16 h16 => ?_)
      replace h16 : r16 = bI (isF g (nI i)) := h16
      subst h16
      refine lv_if_eq (tgt := 33) hx hb dX1_canAllCome_19 (by decide) (fun c19 => ?_) (fun c19 => ?_)
      · replace c19 := bI0 c19
        replace c19 := isF_f (by omega) c19
        refine lv_iinc (v := nI (i + 1)) (lv' := [(3, .int (nI (i + 1))), (0, .ref (a 0)), (1, .int (nI F)), (2, .int (nI L))]) hx hb dX1_canAllCome_33 hl (k := 3) rfl (nI_1 _) (by decide) rfl (fun ls hl => ?_)
        refine lv_goto (tgt := 2) hx hb dX1_canAllCome_36 (by decide) ?_
        exact ih2 (i + 1) (by omega) (by omega) (by omega) (by rw [← hq, allR_step (show i < L + 1 by omega)]; simp [opB, c19]) _ (lv_sub hl [1, 2, 3, 0] rfl)
      replace c19 := bIn c19
      replace c19 := isF_t (by omega) c19
      refine lv_aload_n hx hb dX1_canAllCome_22 rfl (lv_at hl 0 rfl) ?_
      refine dget (index := 27) (v := .ref (a 3)) hx hb hts hinX1 hown hK hP 7 (by decide) (List.mem_of_getElem? (i := 1) rfl) rfl dX1_canAllCome_23 ?_
      refine lv_iload_n hx hb dX1_canAllCome_26 rfl (lv_at hl 3 rfl) ?_
      refine arI (j := i) (h := (f 1)) hx hb hK hP 3 rfl rfl (by omega) dX1_canAllCome_27 ?_
      refine lv_if_eq (tgt := 33) hx hb dX1_canAllCome_28 (by decide) (fun c28 => ?_) (fun c28 => ?_)
      · refine lv_iinc (v := nI (i + 1)) (lv' := [(3, .int (nI (i + 1))), (0, .ref (a 0)), (1, .int (nI F)), (2, .int (nI L))]) hx hb dX1_canAllCome_33 hl (k := 3) rfl (nI_1 _) (by decide) rfl (fun ls hl => ?_)
        refine lv_goto (tgt := 2) hx hb dX1_canAllCome_36 (by decide) ?_
        exact ih2 (i + 1) (by omega) (by omega) (by omega) (by rw [← hq, allR_step (show i < L + 1 by omega)]; simp [opB, c28]) _ (lv_sub hl [1, 2, 3, 0] rfl)
      refine lv_iconst (v := 0) hx hb dX1_canAllCome_31 (by decide) ?_
      exact hret 0 _ _ dX1_canAllCome_32 rfl (by rw [← hq, allR_step (show i < L + 1 by omega)]; simp only [opB, decide_eq_false c19, decide_eq_false c28]; rfl)
  exact loop2 (L + 2) F (by omega) (by omega) (by omega) rfl _ (lv_sub hl [1, 2, 3, 0] rfl)
set_option maxHeartbeats 4000000 in
set_option maxRecDepth 100000 in
theorem kX1_followsStreak (l : Launch) (G : va_G) (a : Nat → Nat) (cI cZ : ClassId) (g : Nat → Int32) (f : Nat → Nat → Int32) (cd : Nat → Int32) (tc : Int32) (i B : Nat) (hi : i < 200) (hf : ¬ g 7 ≤ nI i) (hB : g 9 = nI B - 1) (hB2 : B ≤ 200): rdr l yX1_followsStreak wsX1_followsStreak { frames := 2, cells := 0, slots := 0, locals := 41 } G (wD a cI cZ g f cd tc) (tyIZ cI cZ) [.ref (a 0), .int (nI i)] (fun r => r = bI (decide (B ≤ i) && allR (foB f) B (i - B))) := by
  refine rdr_of (cc := cX1_followsStreak) (nL := 3) (ty := .boolean) (by decide) rfl (Nat.le_of_ble_eq_true rfl) ?_
  intro p e s m args below meth c H ls Q hx hb hml hown hts hP hK hret hl
  have hl : lv_has ls 3 [(0, .ref (a 0)), (1, .int (nI i))] := hl
  have hinX1 : ∀ w ∈ wsX10, w ∈ wsX1_followsStreak := by decide +kernel
  refine lv_iload_n hx hb dX1_followsStreak_0 rfl (lv_at hl 1 rfl) ?_
  refine lv_aload_n hx hb dX1_followsStreak_1 rfl (lv_at hl 0 rfl) ?_
  refine dget (index := 43) (v := .int (g 9)) hx hb hts hinX1 hown hK hP 12 (by decide) (List.mem_of_getElem? (i := 1) rfl) rfl dX1_followsStreak_2 ?_
  refine lv_icmp_gt (tgt := 10) hx hb dX1_followsStreak_5 (by decide) (fun c5 => ?_) (fun c5 => ?_)
  · have hBi : B ≤ i := (lt_pred hB2 hi).mp (by rw [← hB]; exact c5)
    refine lv_aload_n hx hb dX1_followsStreak_10 rfl (lv_at hl 0 rfl) ?_
    refine dget (index := 43) (v := .int (g 9)) hx hb hts hinX1 hown hK hP 12 (by decide) (List.mem_of_getElem? (i := 1) rfl) rfl dX1_followsStreak_11 ?_
    refine lv_iconst (v := 1) hx hb dX1_followsStreak_14 (by decide) ?_
    refine lv_iadd hx hb dX1_followsStreak_15 ?_
    refine top_eq (z := nI B) (by rw [hB]; exact Int32.sub_add_cancel _ _) ?_
    refine lv_istore_n (lv' := [(2, .int (nI B)), (0, .ref (a 0)), (1, .int (nI i))]) hx hb dX1_followsStreak_16 rfl hl (by decide) rfl (fun ls hl => ?_)
    have loop17 : ∀ (n : Nat) (k : Nat), B ≤ k → k ≤ i → i - k < n → allR (foB f) k (i - k) = allR (foB f) B (i - B) → ∀ (ls : Array Slot), lv_has ls 3 [(0, .ref (a 0)), (1, .int (nI i)), (2, .int (nI k))] → W p l e { frames := 2, cells := 0, slots := 0, locals := 41 } s m args below meth c H [] 0 0 Q (F0 m 17 ls []) := by
      intro n
      induction n with
      | zero => intro k hk0 hk hn hq; exact absurd hn (Nat.not_lt_zero _)
      | succ n ih17 =>
        intro k hk0 hk hn hq ls hl
        refine lv_iload_n hx hb dX1_followsStreak_17 rfl (lv_at hl 2 rfl) ?_
        refine lv_iload_n hx hb dX1_followsStreak_18 rfl (lv_at hl 1 rfl) ?_
        refine lv_icmp_ge (tgt := 65) hx hb dX1_followsStreak_19 (by decide) (fun c19 => ?_) (fun c19 => ?_)
        · have ei : k = i := by have := le_nI (a := i) (b := k) (by omega) (by omega) c19; omega
          refine lv_iconst (v := 1) hx hb dX1_followsStreak_65 (by decide) ?_
          exact hret 1 _ _ dX1_followsStreak_66 rfl (by rw [← hq, ei, Nat.sub_self]; simp [bI, allR, hBi])
        have hk2 : k < i := nle_nI (by omega) (by omega) c19
        refine lv_iload_n hx hb dX1_followsStreak_22 rfl (lv_at hl 2 rfl) ?_
        refine lv_sipush (v := 200) hx hb dX1_followsStreak_23 (by decide) ?_
        refine lv_icmp_ge (tgt := 65) hx hb dX1_followsStreak_26 (by decide) (fun c26 => ?_) (fun c26 => ?_)
        · exact absurd (ge_200 c26 (by omega)) (by omega)
        refine lv_aload_n hx hb dX1_followsStreak_29 rfl (lv_at hl 0 rfl) ?_
        refine lv_iload_n hx hb dX1_followsStreak_30 rfl (lv_at hl 2 rfl) ?_
        refine rdr_V (As := [.int (nI k)]) (rest := []) ⟨hx, hb, hml, hown, hts⟩ (kX1_isForetold l G a cI cZ g f cd tc (nI k) ) (cwV 1 hts gX1_followsStreak_X1_isForetold rfl rfl rfl (by decide +kernel) ⟨Nat.le_of_ble_eq_true rfl, Nat.le_of_ble_eq_true rfl⟩) (va_recv hK hP (ci := 1) (q0 := 0) rfl rfl) hP hK rfl hl.1 rfl (Nat.le_of_ble_eq_true rfl) dX1_followsStreak_31 (by decide) (fun r31 h31 => ?_)
        replace h31 : r31 = bI (isF g (nI k)) := h31
        subst h31
        refine lv_if_eq (tgt := 57) hx hb dX1_followsStreak_34 (by decide) (fun c34 => ?_) (fun c34 => ?_)
        · replace c34 := bI0 c34
          exact absurd (Int32.le_trans (isF_f (by omega) c34) (nI_le (by omega) (by omega))) hf
        replace c34 := bIn c34
        refine lv_aload_n hx hb dX1_followsStreak_37 rfl (lv_at hl 0 rfl) ?_
        refine dget (index := 27) (v := .ref (a 3)) hx hb hts hinX1 hown hK hP 7 (by decide) (List.mem_of_getElem? (i := 2) rfl) rfl dX1_followsStreak_38 ?_
        refine lv_iload_n hx hb dX1_followsStreak_41 rfl (lv_at hl 2 rfl) ?_
        refine arI (j := k) (h := (f 1)) hx hb hK hP 3 rfl rfl (by omega) dX1_followsStreak_42 ?_
        refine lv_iconst (v := 2) hx hb dX1_followsStreak_43 (by decide) ?_
        refine lv_icmp_eq (tgt := 59) hx hb dX1_followsStreak_44 (by decide) (fun c44 => ?_) (fun c44 => ?_)
        · refine lv_iinc (v := nI (k + 1)) (lv' := [(2, .int (nI (k + 1))), (0, .ref (a 0)), (1, .int (nI i))]) hx hb dX1_followsStreak_59 hl (k := 2) rfl (nI_1 _) (by decide) rfl (fun ls hl => ?_)
          refine lv_goto (tgt := 17) hx hb dX1_followsStreak_62 (by decide) ?_
          exact ih17 (k + 1) (by omega) (by omega) (by omega) (by rw [← hq, allR_step hk2]; simp [foB, c44]) _ (lv_sub hl [1, 2, 0] rfl)
        refine lv_aload_n hx hb dX1_followsStreak_47 rfl (lv_at hl 0 rfl) ?_
        refine dget (index := 27) (v := .ref (a 3)) hx hb hts hinX1 hown hK hP 7 (by decide) (List.mem_of_getElem? (i := 2) rfl) rfl dX1_followsStreak_48 ?_
        refine lv_iload_n hx hb dX1_followsStreak_51 rfl (lv_at hl 2 rfl) ?_
        refine arI (j := k) (h := (f 1)) hx hb hK hP 3 rfl rfl (by omega) dX1_followsStreak_52 ?_
        refine lv_iconst (v := 3) hx hb dX1_followsStreak_53 (by decide) ?_
        refine lv_icmp_eq (tgt := 59) hx hb dX1_followsStreak_54 (by decide) (fun c54 => ?_) (fun c54 => ?_)
        · refine lv_iinc (v := nI (k + 1)) (lv' := [(2, .int (nI (k + 1))), (0, .ref (a 0)), (1, .int (nI i))]) hx hb dX1_followsStreak_59 hl (k := 2) rfl (nI_1 _) (by decide) rfl (fun ls hl => ?_)
          refine lv_goto (tgt := 17) hx hb dX1_followsStreak_62 (by decide) ?_
          exact ih17 (k + 1) (by omega) (by omega) (by omega) (by rw [← hq, allR_step hk2]; simp [foB, c54]) _ (lv_sub hl [1, 2, 0] rfl)
        refine lv_iconst (v := 0) hx hb dX1_followsStreak_57 (by decide) ?_
        exact hret 0 _ _ dX1_followsStreak_58 rfl (by rw [← hq, allR_step hk2]; simp [foB, bI, c44, c54])
    exact loop17 (i + 1) B (by omega) hBi (by omega) rfl _ (lv_sub hl [1, 2, 0] rfl)
  have hBi : ¬ B ≤ i := fun q => c5 (by rw [hB]; exact (lt_pred hB2 hi).mpr q)
  refine lv_iconst (v := 0) hx hb dX1_followsStreak_8 (by decide) ?_
  exact hret 0 _ _ dX1_followsStreak_9 rfl (by simp [bI, hBi])
set_option maxHeartbeats 4000000 in
set_option maxRecDepth 100000 in
theorem kX1_canShift (l : Launch) (G : va_G) (ws : va_W) (tys : List (ClassId × FieldType)) (p0 : Int32): rdr l yX1_canShift wsX1_canShift { frames := 1, cells := 0, slots := 0, locals := 22 } G ws tys [.int p0] (fun r => r = bI (okS p0)) := by
  refine rdr_of (cc := cX1_canShift) (nL := 1) (ty := .boolean) (by decide) rfl (Nat.le_of_ble_eq_true rfl) ?_
  intro p e s m args below meth c H ls Q hx hb hml hown hts hP hK hret hl
  have hl : lv_has ls 1 [(0, .int p0)] := hl
  refine lv_iload_n hx hb dX1_canShift_0 rfl (lv_at hl 0 rfl) ?_
  refine lv_if_eq (tgt := 19) hx hb dX1_canShift_1 (by decide) (fun c1 => ?_) (fun c1 => ?_)
  · refine lv_iconst (v := 0) hx hb dX1_canShift_19 (by decide) ?_
    exact hret 0 _ _ dX1_canShift_20 rfl (by simp [bI, okS, c1])
  refine lv_iload_n hx hb dX1_canShift_4 rfl (lv_at hl 0 rfl) ?_
  refine lv_bipush (v := (-15)) hx hb dX1_canShift_5 (by decide) ?_
  refine lv_bipush (v := 15) hx hb dX1_canShift_7 (by decide) ?_
  refine rdr_S (As := [.int p0, .int (-15), .int 15]) (rest := []) ⟨hx, hb, hml, hown, hts⟩ (kX1_isWithin l G _ _ p0 (-15) 15 ) (va_cwS 3 hts gX1_canShift_X1_isWithin rfl rfl rfl (by decide +kernel) ⟨Nat.le_of_ble_eq_true rfl, Nat.le_of_ble_eq_true rfl⟩)  hP hK rfl hl.1 rfl (Nat.le_of_ble_eq_true rfl) dX1_canShift_9 (by decide) (fun r9 h9 => ?_)
  replace h9 : r9 = bI (isW p0 (-15) 15) := h9
  subst h9
  refine lv_if_eq (tgt := 19) hx hb dX1_canShift_12 (by decide) (fun c12 => ?_) (fun c12 => ?_)
  · replace c12 := bI0 c12
    refine lv_iconst (v := 0) hx hb dX1_canShift_19 (by decide) ?_
    exact hret 0 _ _ dX1_canShift_20 rfl (by simp [bI, okS, c1, c12])
  replace c12 := bIn c12
  refine lv_iconst (v := 1) hx hb dX1_canShift_15 (by decide) ?_
  refine lv_goto (tgt := 20) hx hb dX1_canShift_16 (by decide) ?_
  exact hret 1 _ _ dX1_canShift_20 rfl (by simp [bI, okS, c1, c12])
set_option maxHeartbeats 4000000 in
set_option maxRecDepth 100000 in
theorem kX0_dayBehind (l : Launch) (G : va_G) (a : Nat → Nat) (cI cZ : ClassId) (g : Nat → Int32) (f : Nat → Nat → Int32) (cd : Nat → Int32) (tc : Int32) (p0 p1 : Int32) (n0 K : Nat) (hd : (if p0 + g 1 + p1 < p0 + 1 then p0 + 1 else p0 + g 1 + p1) = nI n0) (hn0 : n0 ≤ 2000000) (hKn : g 4 = nI K) (hk : K ≤ 4094): rdr l yX0_dayBehind wsX0_dayBehind { frames := 1, cells := 0, slots := 0, locals := 22 } G (wD a cI cZ g f cd tc) (tyIZ cI cZ) [.ref (a 1), .int p0, .int p1] (fun r => r = nI (nx g n0)) := by
  refine rdr_of (cc := cX0_dayBehind) (nL := 5) (ty := .int) (by decide) rfl (Nat.le_of_ble_eq_true rfl) ?_
  intro p e s m args below meth c H ls Q hx hb hml hown hts hP hK hret hl
  have hl : lv_has ls 5 [(0, .ref (a 1)), (1, .int p0), (2, .int p1)] := hl
  have hinX0 : ∀ w ∈ wsX00, w ∈ wsX0_dayBehind := by decide +kernel
  refine lv_iload_n hx hb dX0_dayBehind_0 rfl (lv_at hl 1 rfl) ?_
  refine lv_aload_n hx hb dX0_dayBehind_1 rfl (lv_at hl 0 rfl) ?_
  refine pget (index := 9) (v := .int (g 1)) hx hb hts hinX0 hown hK hP 0 (by decide) (List.mem_of_getElem? (i := 1) rfl) rfl dX0_dayBehind_2 ?_
  refine lv_iadd hx hb dX0_dayBehind_5 ?_
  refine lv_iload_n hx hb dX0_dayBehind_6 rfl (lv_at hl 2 rfl) ?_
  refine lv_iadd hx hb dX0_dayBehind_7 ?_
  refine lv_iload_n hx hb dX0_dayBehind_8 rfl (lv_at hl 1 rfl) ?_
  refine lv_iconst (v := 1) hx hb dX0_dayBehind_9 (by decide) ?_
  refine lv_iadd hx hb dX0_dayBehind_10 ?_
  refine va_mmax hx hb (hml.trans hl.1.symm) hown (hts _ (List.mem_of_getElem? (i := 2) rfl)) (hts _ (List.mem_of_getElem? (i := 3) rfl)) (hts _ (List.mem_of_getElem? (i := 4) rfl)) (hts _ (List.mem_of_getElem? (i := 5) rfl)) (by decide) (by decide) (by decide) (by decide) dX0_dayBehind_11 ?_
  refine top_eq (z := nI n0) hd ?_
  refine lv_istore_n (lv' := [(3, .int (nI n0)), (0, .ref (a 1)), (1, .int p0), (2, .int p1)]) hx hb dX0_dayBehind_14 rfl hl (by decide) rfl (fun ls hl => ?_)
  refine lv_iconst (v := 0) hx hb dX0_dayBehind_15 (by decide) ?_
  refine lv_istore (lv' := [(4, .int 0), (3, .int (nI n0)), (0, .ref (a 1)), (1, .int p0), (2, .int p1)]) hx hb dX0_dayBehind_16 hl (by decide) rfl (fun ls hl => ?_)
  have loop18 : ∀ (n : Nat) (k d : Nat), k ≤ 12 → 12 - k < n → d / 30 = n0 / 30 + k → (0 < k → d = 30 * (n0 / 30 + k)) → (k = 0 → d = n0) → (∀ e, n0 ≤ e → e < d → bar g (nI e) = true) → (∀ j, j < k → K / 2 ^ ((n0 / 30 + j) % 12) % 2 = 1) → ∀ (ls : Array Slot), lv_has ls 5 [(0, .ref (a 1)), (1, .int p0), (2, .int p1), (3, .int (nI d)), (4, .int (nI k))] → W p l e { frames := 1, cells := 0, slots := 0, locals := 22 } s m args below meth c H [] 0 0 Q (F0 m 18 ls []) := by
    intro n
    induction n with
    | zero => intro k d hk12 hn hd30 hkp hk0 hall hmon; exact absurd hn (Nat.not_lt_zero _)
    | succ n ih18 =>
      intro k d hk12 hn hd30 hkp hk0 hall hmon ls hl
      have hdn : n0 ≤ d ∧ d ≤ n0 + 360 := by rcases Nat.eq_zero_or_pos k with q | q; (have := hk0 q; omega); (have := hkp q; omega)
      refine lv_iload hx hb dX0_dayBehind_18 (lv_at hl 4 rfl) ?_
      refine lv_bipush (v := 12) hx hb dX0_dayBehind_20 (by decide) ?_
      refine lv_icmp_ge (tgt := 49) hx hb dX0_dayBehind_22 (by decide) (fun c22 => ?_) (fun c22 => ?_)
      · have ek : k = 12 := by have := le_nI (a := 12) (b := k) (by omega) (by omega) c22; omega
        subst ek
        exact (bar_12 hk hmon).elim
      have hk2 : k < 12 := nle_nI (a := 12) (by omega) (by omega) c22
      refine lv_aload_n hx hb dX0_dayBehind_25 rfl (lv_at hl 0 rfl) ?_
      refine lv_iload_n hx hb dX0_dayBehind_26 rfl (lv_at hl 3 rfl) ?_
      refine rdr_V (As := [.int (nI d)]) (rest := []) ⟨hx, hb, hml, hown, hts⟩ (kX0_isInSkippedMonth l G a cI cZ g f cd tc (nI d) ) (cwV 1 hts gX0_dayBehind_X0_isInSkippedMonth rfl rfl rfl (by decide +kernel) ⟨Nat.le_of_ble_eq_true rfl, Nat.le_of_ble_eq_true rfl⟩) (va_recv hK hP (ci := 0) (q0 := 1) rfl rfl) hP hK rfl hl.1 rfl (Nat.le_of_ble_eq_true rfl) dX0_dayBehind_27 (by decide) (fun r27 h27 => ?_)
      replace h27 : r27 = bI (bar g (nI d)) := h27
      subst h27
      refine lv_if_eq (tgt := 49) hx hb dX0_dayBehind_30 (by decide) (fun c30 => ?_) (fun c30 => ?_)
      · replace c30 := bI0 c30
        refine lv_iload_n hx hb dX0_dayBehind_49 rfl (lv_at hl 3 rfl) ?_
        exact hret (nI d) _ _ dX0_dayBehind_50 rfl (by rw [nx_eq c30 hdn.1 (by omega) hall])
      replace c30 := bIn c30
      refine lv_iload_n hx hb dX0_dayBehind_33 rfl (lv_at hl 3 rfl) ?_
      refine lv_bipush (v := 30) hx hb dX0_dayBehind_34 (by decide) ?_
      refine lv_idiv hx hb dX0_dayBehind_36 (by decide) ?_
      refine top_eq (z := nI (d / 30)) (dv30 (by omega)) ?_
      refine lv_iconst (v := 1) hx hb dX0_dayBehind_37 (by decide) ?_
      refine lv_iadd hx hb dX0_dayBehind_38 ?_
      refine top_eq (z := nI (d / 30 + 1)) (nI_1 _) ?_
      refine lv_bipush (v := 30) hx hb dX0_dayBehind_39 (by decide) ?_
      refine lv_imul hx hb dX0_dayBehind_41 ?_
      refine top_eq (z := nI ((d / 30 + 1) * 30)) (pk_mul _ 30) ?_
      refine lv_istore_n (lv' := [(3, .int (nI ((d / 30 + 1) * 30))), (0, .ref (a 1)), (1, .int p0), (2, .int p1), (4, .int (nI k))]) hx hb dX0_dayBehind_42 rfl hl (by decide) rfl (fun ls hl => ?_)
      refine lv_iinc (v := nI (k + 1)) (lv' := [(4, .int (nI (k + 1))), (3, .int (nI ((d / 30 + 1) * 30))), (0, .ref (a 1)), (1, .int p0), (2, .int p1)]) hx hb dX0_dayBehind_43 hl (k := 4) rfl (nI_1 _) (by decide) rfl (fun ls hl => ?_)
      refine lv_goto (tgt := 18) hx hb dX0_dayBehind_46 (by decide) ?_
      exact ih18 (k + 1) ((d / 30 + 1) * 30) (by omega) (by omega) (by omega) (by omega) (by omega) (fun e h1 h2 => by rcases Nat.lt_or_ge e d with q | q; exact hall e h1 q; rw [bar_same hKn hk (by omega) q h2, c30]) (fun j hj => by rcases Nat.lt_or_ge j k with q | q; exact hmon j q; (have ej : j = k := by omega); rw [ej, ← hd30]; exact bar_t hKn hk (by omega) c30) _ (lv_sub hl [2, 3, 4, 1, 0] rfl)
  exact loop18 13 0 n0 (by omega) (by omega) (by omega) (by omega) (by omega) (by omega) (by omega) _ (lv_sub hl [2, 3, 4, 1, 0] rfl)
set_option maxHeartbeats 4000000 in
set_option maxRecDepth 100000 in
theorem kX1_nextDay (l : Launch) (G : va_G) (a : Nat → Nat) (cI cZ : ClassId) (g : Nat → Int32) (f : Nat → Nat → Int32) (cd : Nat → Int32) (tc : Int32) (ct : Nat) (hc : ct ≤ 512) (hI : Inv ct g f): rdr l yX1_nextDay wsX1_nextDay { frames := 2, cells := 0, slots := 0, locals := 46 } G (wD a cI cZ g f cd tc) (tyIZ cI cZ) [.ref (a 0)] (fun r => r = nd g f) := by
  obtain ⟨N, d, e7, h1, h2, e0, ed, hd2, hd3, hD, -⟩ := inv_d0 hc hI
  obtain ⟨K, hKn, hk⟩ := hI.2.2.2.1
  refine rdr_of (cc := cX1_nextDay) (nL := 2) (ty := .int) (by decide) rfl (Nat.le_of_ble_eq_true rfl) ?_
  intro p e s m args below meth c H ls Q hx hb hml hown hts hP hK hret hl
  have hl : lv_has ls 2 [(0, .ref (a 0))] := hl
  have hinX1 : ∀ w ∈ wsX10, w ∈ wsX1_nextDay := by decide +kernel
  refine lv_aload_n hx hb dX1_nextDay_0 rfl (lv_at hl 0 rfl) ?_
  refine dget (index := 40) (v := .int (g 7)) hx hb hts hinX1 hown hK hP 4 (by decide) (List.mem_of_getElem? (i := 1) rfl) rfl dX1_nextDay_1 ?_
  refine lv_iconst (v := 1) hx hb dX1_nextDay_4 (by decide) ?_
  refine lv_isub hx hb dX1_nextDay_5 ?_
  refine top_eq (z := nI (N - 1)) (by rw [e7]; exact pk_sub (b := 1) h1) ?_
  refine lv_istore_n (lv' := [(1, .int (nI (N - 1))), (0, .ref (a 0))]) hx hb dX1_nextDay_6 rfl hl (by decide) rfl (fun ls hl => ?_)
  refine lv_iload_n hx hb dX1_nextDay_7 rfl (lv_at hl 0 rfl) ?_
  refine rdr_S (As := [.int (nI (N - 1))]) (rest := []) ⟨hx, hb, hml, hown, hts⟩ (kX1_isIssue l G _ _ (nI (N - 1)) ) (va_cwS 1 hts gX1_nextDay_X1_isIssue rfl rfl rfl (by decide +kernel) ⟨Nat.le_of_ble_eq_true rfl, Nat.le_of_ble_eq_true rfl⟩)  hP hK rfl hl.1 rfl (Nat.le_of_ble_eq_true rfl) dX1_nextDay_8 (by decide) (fun r8 h8 => ?_)
  replace h8 : r8 = bI (isI (nI (N - 1))) := h8
  subst h8
  refine lv_if_eq (tgt := 34) hx hb dX1_nextDay_11 (by decide) (fun c11 => ?_) (fun c11 => ?_)
  · replace c11 := bI0 c11
    exact absurd c11 (by simp [isI_nI (show N - 1 < 200 by omega)])
  replace c11 := bIn c11
  refine lv_aload_n hx hb dX1_nextDay_14 rfl (lv_at hl 1 rfl) ?_
  refine dget (index := 10) (v := .ref (a 1)) hx hb hts hinX1 hown hK hP 0 (by decide) (List.mem_of_getElem? (i := 2) rfl) rfl dX1_nextDay_15 ?_
  refine lv_aload_n hx hb dX1_nextDay_18 rfl (lv_at hl 1 rfl) ?_
  refine dget (index := 23) (v := .ref (a 2)) hx hb hts hinX1 hown hK hP 6 (by decide) (List.mem_of_getElem? (i := 3) rfl) rfl dX1_nextDay_19 ?_
  refine lv_iload_n hx hb dX1_nextDay_22 rfl (lv_at hl 0 rfl) ?_
  refine arI (j := (N - 1)) (h := (f 0)) hx hb hK hP 2 rfl rfl (by omega) dX1_nextDay_23 ?_
  refine lv_aload_n hx hb dX1_nextDay_24 rfl (lv_at hl 1 rfl) ?_
  refine dget (index := 123) (v := .int (g 8)) hx hb hts hinX1 hown hK hP 5 (by decide) (List.mem_of_getElem? (i := 4) rfl) rfl dX1_nextDay_25 ?_
  refine rdr_V (As := [.int ((f 0) (N - 1)), .int (g 8)]) (rest := []) ⟨hx, hb, hml, hown, hts⟩ (kX0_dayBehind l G a cI cZ g f cd tc ((f 0) (N - 1)) (g 8) (d0N g f) K hD (by omega) hKn hk) (cwV 2 hts gX1_nextDay_X0_dayBehind rfl rfl rfl (by decide +kernel) ⟨Nat.le_of_ble_eq_true rfl, Nat.le_of_ble_eq_true rfl⟩) (va_recv hK hP (ci := 0) (q0 := 1) rfl rfl) hP hK rfl hl.1 rfl (Nat.le_of_ble_eq_true rfl) dX1_nextDay_28 (by decide) (fun r28 h28 => ?_)
  replace h28 : r28 = nI (nx g (d0N g f)) := h28
  subst h28
  refine lv_goto (tgt := 35) hx hb dX1_nextDay_31 (by decide) ?_
  exact hret (nI (nx g (d0N g f))) _ _ dX1_nextDay_35 rfl rfl
set_option maxHeartbeats 4000000 in
set_option maxRecDepth 100000 in
theorem kX1_foretellNext (l : Launch) (G : va_G) (a : Nat → Nat) (cI cZ : ClassId) (g : Nat → Int32) (f : Nat → Nat → Int32) (cd : Nat → Int32) (tc : Int32) (hap : apart a 7) (sz : Nat) (N ct : Nat) (hc : ct ≤ 512) (hI : Inv ct g f) (hN : g 7 = nI N) (hlt : N < 200): wrv l yX1_foretellNext wsX1_foretellNext { frames := 3, cells := 0, slots := 0, locals := 67 } G (wD a cI cZ g f cd tc) (tyIZ cI cZ) (aS a 7 sz) sz [.ref (a 0)] (fun u => u = (foreG g, foreF g f, cd, tc)) (wfD a cI cZ) := by
  have eN : g 7 = nI (g 7).toNatClampNeg := by rw [hN, nI_clamp (by omega)]
  have hjN : (g 7).toNatClampNeg < 200 := by rw [hN, nI_clamp (by omega)]; exact hlt
  refine wrv_of (cc := cX1_foretellNext) (nL := 1) (by decide) rfl (Nat.le_of_ble_eq_true rfl) ?_
  intro p e s m args below meth c H locs ls Q hx hb hml hown hts hP hK hS hret hl
  have hl : lv_has ls 1 [(0, .ref (a 0))] := hl
  have hinX1 : ∀ w ∈ wsX10, w ∈ wsX1_foretellNext := by decide +kernel
  refine lv_aload_n hx hb dX1_foretellNext_0 rfl (lv_at hl 0 rfl) ?_
  refine dget (index := 40) (v := .int (g 7)) hx hb hts hinX1 hown hK hP 4 (by decide) (List.mem_of_getElem? (i := 1) rfl) rfl dX1_foretellNext_1 ?_
  refine rdr_S (As := [.int (g 7)]) (rest := []) ⟨hx, hb, hml, hown, hts⟩ (kX1_isIssue l G _ _ (g 7) ) (va_cwS 1 hts gX1_foretellNext_X1_isIssue rfl rfl rfl (by decide +kernel) ⟨Nat.le_of_ble_eq_true rfl, Nat.le_of_ble_eq_true rfl⟩)  hP hK rfl hl.1 rfl (Nat.le_of_ble_eq_true rfl) dX1_foretellNext_4 (by decide) (fun r4 h4 => ?_)
  replace h4 : r4 = bI (isI (g 7)) := h4
  subst h4
  refine lv_if_eq (tgt := 38) hx hb dX1_foretellNext_7 (by decide) (fun c7 => ?_) (fun c7 => ?_)
  · replace c7 := bI0 c7
    exact absurd c7 (by rw [hN]; simp [isI_nI hlt])
  replace c7 := bIn c7
  refine lv_aload_n hx hb dX1_foretellNext_10 rfl (lv_at hl 0 rfl) ?_
  refine dget (index := 23) (v := .ref (a 2)) hx hb hts hinX1 hown hK hP 6 (by decide) (List.mem_of_getElem? (i := 2) rfl) rfl dX1_foretellNext_11 ?_
  refine lv_aload_n hx hb dX1_foretellNext_14 rfl (lv_at hl 0 rfl) ?_
  refine dget (index := 40) (v := .int (g 7)) hx hb hts hinX1 hown hK hP 4 (by decide) (List.mem_of_getElem? (i := 1) rfl) rfl dX1_foretellNext_15 ?_
  refine lv_aload_n hx hb dX1_foretellNext_18 rfl (lv_at hl 0 rfl) ?_
  refine rdr_V (As := []) (rest := [.int (g 7), .ref (a 2)]) ⟨hx, hb, hml, hown, hts⟩ (kX1_nextDay l G a cI cZ g f cd tc  ct hc hI) (cwV 0 hts gX1_foretellNext_X1_nextDay rfl rfl rfl (by decide +kernel) ⟨Nat.le_of_ble_eq_true rfl, Nat.le_of_ble_eq_true rfl⟩) (va_recv hK hP (ci := 1) (q0 := 0) rfl rfl) hP hK rfl hl.1 rfl (Nat.le_of_ble_eq_true rfl) dX1_foretellNext_19 (by decide) (fun r19 h19 => ?_)
  replace h19 : r19 = nd g f := h19
  subst h19
  refine asI (j := (g 7).toNatClampNeg) (h := (f 0)) (x := nd g f) (wD a cI cZ g (up2 f 0 (upd (f 0) ((g 7).toNatClampNeg) (nd g f))) cd tc) hx hb hK hP (wD_D hap _) hS 2 rfl eN hjN rfl dX1_foretellNext_22 (fun H locs hP hS => ?_)
  refine lv_aload_n hx hb dX1_foretellNext_23 rfl (lv_at hl 0 rfl) ?_
  refine lv_iconst (v := 0) hx hb dX1_foretellNext_24 (by decide) ?_
  refine dput (index := 123) (v := .int 0) (upd g 8 0) tc hx hb hts hinX1 hown hK hP hap hS 5 (by decide) (List.mem_of_getElem? (i := 3) rfl) rfl rfl rfl rfl rfl dX1_foretellNext_25 (fun H locs hP hS => ?_)
  refine lv_aload_n hx hb dX1_foretellNext_28 rfl (lv_at hl 0 rfl) ?_
  refine lv_dup hx hb dX1_foretellNext_29 rfl ?_
  refine dget (index := 40) (v := .int (g 7)) hx hb hts hinX1 hown hK hP 4 (by decide) (List.mem_of_getElem? (i := 1) rfl) rfl dX1_foretellNext_30 ?_
  refine lv_iconst (v := 1) hx hb dX1_foretellNext_33 (by decide) ?_
  refine lv_iadd hx hb dX1_foretellNext_34 ?_
  refine dput (index := 40) (v := .int ((g 7) + 1)) (upd (upd g 8 0) 7 ((g 7) + 1)) tc hx hb hts hinX1 hown hK hP hap hS 4 (by decide) (List.mem_of_getElem? (i := 1) rfl) rfl rfl rfl rfl rfl dX1_foretellNext_35 (fun H locs hP hS => ?_)
  exact hret (foreG g, foreF g f, cd, tc) _ _ _ _ dX1_foretellNext_38 hP hS rfl
set_option maxHeartbeats 4000000 in
set_option maxRecDepth 100000 in
theorem kX1_foretellUpTo (l : Launch) (G : va_G) (a : Nat → Nat) (cI cZ : ClassId) (g : Nat → Int32) (f : Nat → Nat → Int32) (cd : Nat → Int32) (tc : Int32) (hap : apart a 7) (sz : Nat) (L ct : Nat) (hL : L < 200) (hc : ct ≤ 512) (hI : Inv ct g f): wrv l yX1_foretellUpTo wsX1_foretellUpTo { frames := 4, cells := 0, slots := 0, locals := 87 } G (wD a cI cZ g f cd tc) (tyIZ cI cZ) (aS a 7 sz) sz [.ref (a 0), .int (nI L)] (fun u => u = ((itF (L + 1 - (g 7).toNatClampNeg) (g, f)).1, (itF (L + 1 - (g 7).toNatClampNeg) (g, f)).2, cd, tc)) (wfD a cI cZ) := by
  obtain ⟨N, e7, h1, h2, h3, h4⟩ := inv_N hI
  refine wrv_of (cc := cX1_foretellUpTo) (nL := 3) (by decide) rfl (Nat.le_of_ble_eq_true rfl) ?_
  intro p e s m args below meth c H locs ls Q hx hb hml hown hts hP hK hS hret hl
  have hl : lv_has ls 3 [(0, .ref (a 0)), (1, .int (nI L))] := hl
  have hinX1 : ∀ w ∈ wsX10, w ∈ wsX1_foretellUpTo := by decide +kernel
  refine lv_aload_n hx hb dX1_foretellUpTo_0 rfl (lv_at hl 0 rfl) ?_
  refine dget (index := 40) (v := .int (g 7)) hx hb hts hinX1 hown hK hP 4 (by decide) (List.mem_of_getElem? (i := 1) rfl) rfl dX1_foretellUpTo_1 ?_
  refine top_eq (z := nI N) e7 ?_
  refine lv_istore_n (lv' := [(2, .int (nI N)), (0, .ref (a 0)), (1, .int (nI L))]) hx hb dX1_foretellUpTo_4 rfl hl (by decide) rfl (fun ls hl => ?_)
  have loop5 : ∀ (n : Nat) (g1 : Nat → Int32) (f1 : Nat → Nat → Int32) (M : Nat), g1 7 = nI M → M ≤ 200 → Inv ct g1 f1 → itF (L + 1 - M) (g1, f1) = itF (L + 1 - (g 7).toNatClampNeg) (g, f) → 201 - M < n → ∀ (H : Heap) (locs : List Loc), va_P G vwCl (wD a cI cZ g1 f1 cd tc) H → va_S (aS a 7 s.heap.size) s.heap H locs → ∀ (ls : Array Slot), lv_has ls 3 [(0, .ref (a 0)), (1, .int (nI L)), (2, .int (nI M))] → W p l e { frames := 4, cells := 0, slots := 0, locals := 87 } s m args below meth c H locs 0 0 Q (F0 m 5 ls []) := by
    intro n
    induction n with
    | zero => intro g1 f1 M hM hM2 hI1 hq hn; intros; exact absurd hn (Nat.not_lt_zero _)
    | succ n ih5 =>
      intro g1 f1 M hM hM2 hI1 hq hn H locs hP hS ls hl
      refine lv_iload_n hx hb dX1_foretellUpTo_5 rfl (lv_at hl 2 rfl) ?_
      refine lv_iload_n hx hb dX1_foretellUpTo_6 rfl (lv_at hl 1 rfl) ?_
      refine lv_icmp_gt (tgt := 27) hx hb dX1_foretellUpTo_7 (by decide) (fun c7 => ?_) (fun c7 => ?_)
      · have hLM : L < M := lt_nI (by omega) (by omega) c7
        exact hret (g1, f1, cd, tc) _ _ _ _ dX1_foretellUpTo_27 hP hS (by rw [← hq, show L + 1 - M = 0 by omega]; rfl)
      have hLM : M ≤ L := nlt_nI (by omega) (by omega) c7
      refine lv_iload_n hx hb dX1_foretellUpTo_10 rfl (lv_at hl 2 rfl) ?_
      refine lv_sipush (v := 200) hx hb dX1_foretellUpTo_11 (by decide) ?_
      refine lv_icmp_ge (tgt := 27) hx hb dX1_foretellUpTo_14 (by decide) (fun c14 => ?_) (fun c14 => ?_)
      · exact absurd (ge_200 c14 (by omega)) (by omega)
      refine lv_aload_n hx hb dX1_foretellUpTo_17 rfl (lv_at hl 0 rfl) ?_
      refine wrv_V (As := []) (rest := []) ⟨hx, hb, hml, hown, hts⟩ (kX1_foretellNext l G a cI cZ g1 f1 cd tc hap _  M ct hc hI1 hM (by omega)) (cwV 0 hts gX1_foretellUpTo_X1_foretellNext rfl rfl rfl (by decide +kernel) ⟨Nat.le_of_ble_eq_true rfl, Nat.le_of_ble_eq_true rfl⟩) (va_recv hK hP (ci := 1) (q0 := 0) rfl rfl) hP hK hS rfl hl.1 rfl (Nat.le_of_ble_eq_true rfl) dX1_foretellUpTo_18 (by decide) (fun u18 H locs h18 hP hS => ?_)
      subst h18
      have hP : va_P G vwCl (wD a cI cZ (foreG g1) (foreF g1 f1) cd tc) H := hP
      obtain ⟨hI2, e72⟩ := inv_fore hc hI1 hM (show M < 200 by omega)
      refine lv_iinc (v := nI (M + 1)) (lv' := [(2, .int (nI (M + 1))), (0, .ref (a 0)), (1, .int (nI L))]) hx hb dX1_foretellUpTo_21 hl (k := 2) rfl (nI_1 _) (by decide) rfl (fun ls hl => ?_)
      refine lv_goto (tgt := 5) hx hb dX1_foretellUpTo_24 (by decide) ?_
      exact ih5 (foreG g1) (foreF g1 f1) (M + 1) e72 (by omega) hI2 (by rw [← hq, show L + 1 - M = (L + 1 - (M + 1)) + 1 by omega]; rfl) (by omega) _ _ hP hS _ (lv_sub hl [1, 2, 0] rfl)
  exact loop5 202 g f N e7 h2 hI (by rw [h3]) (by omega) _ _ hP hS _ (lv_sub hl [1, 2, 0] rfl)
set_option maxHeartbeats 4000000 in
set_option maxRecDepth 100000 in
theorem kX1_foretellDueIssues (l : Launch) (G : va_G) (a : Nat → Nat) (cI cZ : ClassId) (g : Nat → Int32) (f : Nat → Nat → Int32) (cd : Nat → Int32) (tc : Int32) (hap : apart a 7) (sz : Nat) (ct : Nat) (hc : ct ≤ 512) (hI : Inv ct g f): wrv l yX1_foretellDueIssues wsX1_foretellDueIssues { frames := 4, cells := 0, slots := 0, locals := 87 } G (wD a cI cZ g f cd tc) (tyIZ cI cZ) (aS a 7 sz) sz [.ref (a 0)] (fun u => u = ((lkF (200 - (g 7).toNatClampNeg) (g, f)).1, (lkF (200 - (g 7).toNatClampNeg) (g, f)).2, cd, tc)) (wfD a cI cZ) := by
  obtain ⟨N, e7, h1, h2, h3, h4⟩ := inv_N hI
  refine wrv_of (cc := cX1_foretellDueIssues) (nL := 2) (by decide) rfl (Nat.le_of_ble_eq_true rfl) ?_
  intro p e s m args below meth c H locs ls Q hx hb hml hown hts hP hK hS hret hl
  have hl : lv_has ls 2 [(0, .ref (a 0))] := hl
  have hinX1 : ∀ w ∈ wsX10, w ∈ wsX1_foretellDueIssues := by decide +kernel
  refine lv_aload_n hx hb dX1_foretellDueIssues_0 rfl (lv_at hl 0 rfl) ?_
  refine dget (index := 40) (v := .int (g 7)) hx hb hts hinX1 hown hK hP 4 (by decide) (List.mem_of_getElem? (i := 1) rfl) rfl dX1_foretellDueIssues_1 ?_
  refine top_eq (z := nI N) e7 ?_
  refine lv_istore_n (lv' := [(1, .int (nI N)), (0, .ref (a 0))]) hx hb dX1_foretellDueIssues_4 rfl hl (by decide) rfl (fun ls hl => ?_)
  have loop5 : ∀ (n : Nat) (g1 : Nat → Int32) (f1 : Nat → Nat → Int32) (M : Nat), g1 7 = nI M → M ≤ 200 → Inv ct g1 f1 → lkF (200 - M) (g1, f1) = lkF (200 - (g 7).toNatClampNeg) (g, f) → 200 - M < n → ∀ (H : Heap) (locs : List Loc), va_P G vwCl (wD a cI cZ g1 f1 cd tc) H → va_S (aS a 7 s.heap.size) s.heap H locs → ∀ (ls : Array Slot), lv_has ls 2 [(0, .ref (a 0)), (1, .int (nI M))] → W p l e { frames := 4, cells := 0, slots := 0, locals := 87 } s m args below meth c H locs 0 0 Q (F0 m 5 ls []) := by
    intro n
    induction n with
    | zero => intro g1 f1 M hM hM2 hI1 hq hn; intros; exact absurd hn (Nat.not_lt_zero _)
    | succ n ih5 =>
      intro g1 f1 M hM hM2 hI1 hq hn H locs hP hS ls hl
      refine lv_iload_n hx hb dX1_foretellDueIssues_5 rfl (lv_at hl 1 rfl) ?_
      refine lv_sipush (v := 200) hx hb dX1_foretellDueIssues_6 (by decide) ?_
      refine lv_icmp_ge (tgt := 33) hx hb dX1_foretellDueIssues_9 (by decide) (fun c9 => ?_) (fun c9 => ?_)
      · have ei := ge_200 c9 (by omega)
        exact hret (g1, f1, cd, tc) _ _ _ _ dX1_foretellDueIssues_33 hP hS (by rw [← hq, ei]; rfl)
      have hi2 := nge_200 c9 (by omega)
      refine lv_aload_n hx hb dX1_foretellDueIssues_12 rfl (lv_at hl 0 rfl) ?_
      refine rdr_V (As := []) (rest := []) ⟨hx, hb, hml, hown, hts⟩ (kX1_nextDay l G a cI cZ g1 f1 cd tc  ct hc hI1) (cwV 0 hts gX1_foretellDueIssues_X1_nextDay rfl rfl rfl (by decide +kernel) ⟨Nat.le_of_ble_eq_true rfl, Nat.le_of_ble_eq_true rfl⟩) (va_recv hK hP (ci := 1) (q0 := 0) rfl rfl) hP hK rfl hl.1 rfl (Nat.le_of_ble_eq_true rfl) dX1_foretellDueIssues_13 (by decide) (fun r13 h13 => ?_)
      replace h13 : r13 = nd g1 f1 := h13
      subst h13
      refine lv_aload_n hx hb dX1_foretellDueIssues_16 rfl (lv_at hl 0 rfl) ?_
      refine dget (index := 74) (v := .int (g1 0)) hx hb hts hinX1 hown hK hP 3 (by decide) (List.mem_of_getElem? (i := 2) rfl) rfl dX1_foretellDueIssues_17 ?_
      refine lv_icmp_gt (tgt := 33) hx hb dX1_foretellDueIssues_20 (by decide) (fun c20 => ?_) (fun c20 => ?_)
      · exact hret (g1, f1, cd, tc) _ _ _ _ dX1_foretellDueIssues_33 hP hS (by rw [← hq, show 200 - M = (200 - (M + 1)) + 1 by omega]; rw [lkF_step, if_pos c20])
      refine lv_aload_n hx hb dX1_foretellDueIssues_23 rfl (lv_at hl 0 rfl) ?_
      refine wrv_V (As := []) (rest := []) ⟨hx, hb, hml, hown, hts⟩ (kX1_foretellNext l G a cI cZ g1 f1 cd tc hap _  M ct hc hI1 hM (by omega)) (cwV 0 hts gX1_foretellDueIssues_X1_foretellNext rfl rfl rfl (by decide +kernel) ⟨Nat.le_of_ble_eq_true rfl, Nat.le_of_ble_eq_true rfl⟩) (va_recv hK hP (ci := 1) (q0 := 0) rfl rfl) hP hK hS rfl hl.1 rfl (Nat.le_of_ble_eq_true rfl) dX1_foretellDueIssues_24 (by decide) (fun u24 H locs h24 hP hS => ?_)
      subst h24
      have hP : va_P G vwCl (wD a cI cZ (foreG g1) (foreF g1 f1) cd tc) H := hP
      obtain ⟨hI2, e72⟩ := inv_fore hc hI1 hM (show M < 200 by omega)
      refine lv_iinc (v := nI (M + 1)) (lv' := [(1, .int (nI (M + 1))), (0, .ref (a 0))]) hx hb dX1_foretellDueIssues_27 hl (k := 1) rfl (nI_1 _) (by decide) rfl (fun ls hl => ?_)
      refine lv_goto (tgt := 5) hx hb dX1_foretellDueIssues_30 (by decide) ?_
      exact ih5 (foreG g1) (foreF g1 f1) (M + 1) e72 (by omega) hI2 (by rw [← hq, show 200 - M = (200 - (M + 1)) + 1 by omega]; rw [lkF_step, if_neg c20]) (by omega) _ _ hP hS _ (lv_sub hl [1, 0] rfl)
  exact loop5 201 g f N e7 h2 hI (by rw [h3]) (by omega) _ _ hP hS _ (lv_sub hl [1, 0] rfl)
