set_option maxHeartbeats 4000000 in
set_option maxRecDepth 100000 in
theorem kX1_isWithin (l : Launch) (G : va_G) (ws : va_W) (tys : List (ClassId × FieldType)) (p0 p1 p2 : Int32): rdr l yX1_isWithin wsX1_isWithin { frames := 0, cells := 0, slots := 0, locals := 0 } G ws tys [.int p0, .int p1, .int p2] (fun r => r = bI (isW p0 p1 p2)) := by
  refine rdr_of (cc := cX1_isWithin) (nL := 3) (ty := .boolean) (by decide) rfl (Nat.le_of_ble_eq_true rfl) ?_
  intro p e s m args below meth c H ls Q hx hb hml hown hts hP hK hret hl
  have hl : lv_has ls 3 [(0, .int p0), (1, .int p1), (2, .int p2)] := hl
  refine lv_iload_n hx hb dX1_isWithin_0 rfl (lv_at hl 0 rfl) ?_
  refine lv_iload_n hx hb dX1_isWithin_1 rfl (lv_at hl 1 rfl) ?_
  refine lv_icmp_lt (tgt := 14) hx hb dX1_isWithin_2 (by decide) (fun c2 => ?_) (fun c2 => ?_)
  · refine lv_iconst (v := 0) hx hb dX1_isWithin_14 (by decide) ?_
    exact hret 0 _ _ dX1_isWithin_15 rfl (by simp [bI, isW, c2])
  refine lv_iload_n hx hb dX1_isWithin_5 rfl (lv_at hl 0 rfl) ?_
  refine lv_iload_n hx hb dX1_isWithin_6 rfl (lv_at hl 2 rfl) ?_
  refine lv_icmp_gt (tgt := 14) hx hb dX1_isWithin_7 (by decide) (fun c7 => ?_) (fun c7 => ?_)
  · refine lv_iconst (v := 0) hx hb dX1_isWithin_14 (by decide) ?_
    exact hret 0 _ _ dX1_isWithin_15 rfl (by simp [bI, isW, c2, c7])
  refine lv_iconst (v := 1) hx hb dX1_isWithin_10 (by decide) ?_
  refine lv_goto (tgt := 15) hx hb dX1_isWithin_11 (by decide) ?_
  exact hret 1 _ _ dX1_isWithin_15 rfl (by simp [bI, isW, c2, c7])
set_option maxHeartbeats 4000000 in
set_option maxRecDepth 100000 in
theorem kX1_isIssue (l : Launch) (G : va_G) (ws : va_W) (tys : List (ClassId × FieldType)) (p0 : Int32): rdr l yX1_isIssue wsX1_isIssue { frames := 0, cells := 0, slots := 0, locals := 0 } G ws tys [.int p0] (fun r => r = bI (isI p0)) := by
  refine rdr_of (cc := cX1_isIssue) (nL := 1) (ty := .boolean) (by decide) rfl (Nat.le_of_ble_eq_true rfl) ?_
  intro p e s m args below meth c H ls Q hx hb hml hown hts hP hK hret hl
  have hl : lv_has ls 1 [(0, .int p0)] := hl
  refine lv_iload_n hx hb dX1_isIssue_0 rfl (lv_at hl 0 rfl) ?_
  refine lv_if_lt (tgt := 15) hx hb dX1_isIssue_1 (by decide) (fun c1 => ?_) (fun c1 => ?_)
  · refine lv_iconst (v := 0) hx hb dX1_isIssue_15 (by decide) ?_
    exact hret 0 _ _ dX1_isIssue_16 rfl (by simp [bI, isI, c1])
  refine lv_iload_n hx hb dX1_isIssue_4 rfl (lv_at hl 0 rfl) ?_
  refine lv_sipush (v := 200) hx hb dX1_isIssue_5 (by decide) ?_
  refine lv_icmp_ge (tgt := 15) hx hb dX1_isIssue_8 (by decide) (fun c8 => ?_) (fun c8 => ?_)
  · refine lv_iconst (v := 0) hx hb dX1_isIssue_15 (by decide) ?_
    exact hret 0 _ _ dX1_isIssue_16 rfl (by simp [bI, isI, c1, c8])
  refine lv_iconst (v := 1) hx hb dX1_isIssue_11 (by decide) ?_
  refine lv_goto (tgt := 16) hx hb dX1_isIssue_12 (by decide) ?_
  exact hret 1 _ _ dX1_isIssue_16 rfl (by simp [bI, isI, c1, c8])
set_option maxHeartbeats 4000000 in
set_option maxRecDepth 100000 in
theorem kX1_isForetold (l : Launch) (G : va_G) (a : Nat → Nat) (cI cZ : ClassId) (g : Nat → Int32) (f : Nat → Nat → Int32) (cd : Nat → Int32) (tc : Int32) (p0 : Int32): rdr l yX1_isForetold wsX1_isForetold { frames := 1, cells := 0, slots := 0, locals := 20 } G (wD a cI cZ g f cd tc) (tyIZ cI cZ) [.ref (a 0), .int p0] (fun r => r = bI (isF g p0)) := by
  refine rdr_of (cc := cX1_isForetold) (nL := 2) (ty := .boolean) (by decide) rfl (Nat.le_of_ble_eq_true rfl) ?_
  intro p e s m args below meth c H ls Q hx hb hml hown hts hP hK hret hl
  have hl : lv_has ls 2 [(0, .ref (a 0)), (1, .int p0)] := hl
  have hinX1 : ∀ w ∈ wsX10, w ∈ wsX1_isForetold := by decide +kernel
  refine lv_iload_n hx hb dX1_isForetold_0 rfl (lv_at hl 1 rfl) ?_
  refine rdr_S (As := [.int p0]) (rest := []) ⟨hx, hb, hml, hown, hts⟩ (kX1_isIssue l G _ _ p0 ) (va_cwS 1 hts gX1_isForetold_X1_isIssue rfl rfl rfl (by decide +kernel) ⟨Nat.le_of_ble_eq_true rfl, Nat.le_of_ble_eq_true rfl⟩)  hP hK rfl hl.1 rfl (Nat.le_of_ble_eq_true rfl) dX1_isForetold_1 (by decide) (fun r1 h1 => ?_)
  replace h1 : r1 = bI (isI p0) := h1
  subst h1
  refine lv_if_eq (tgt := 19) hx hb dX1_isForetold_4 (by decide) (fun c4 => ?_) (fun c4 => ?_)
  · replace c4 := bI0 c4
    refine lv_iconst (v := 0) hx hb dX1_isForetold_19 (by decide) ?_
    exact hret 0 _ _ dX1_isForetold_20 rfl (by simp [bI, isF, c4])
  replace c4 := bIn c4
  refine lv_iload_n hx hb dX1_isForetold_7 rfl (lv_at hl 1 rfl) ?_
  refine lv_aload_n hx hb dX1_isForetold_8 rfl (lv_at hl 0 rfl) ?_
  refine dget (index := 40) (v := .int (g 7)) hx hb hts hinX1 hown hK hP 4 (by decide) (List.mem_of_getElem? (i := 1) rfl) rfl dX1_isForetold_9 ?_
  refine lv_icmp_ge (tgt := 19) hx hb dX1_isForetold_12 (by decide) (fun c12 => ?_) (fun c12 => ?_)
  · refine lv_iconst (v := 0) hx hb dX1_isForetold_19 (by decide) ?_
    exact hret 0 _ _ dX1_isForetold_20 rfl (by simp [bI, isF, c4, c12])
  refine lv_iconst (v := 1) hx hb dX1_isForetold_15 (by decide) ?_
  refine lv_goto (tgt := 20) hx hb dX1_isForetold_16 (by decide) ?_
  exact hret 1 _ _ dX1_isForetold_20 rfl (by simp [bI, isF, c4, c12])
set_option maxHeartbeats 4000000 in
set_option maxRecDepth 100000 in
theorem kX0_isInSkippedMonth (l : Launch) (G : va_G) (a : Nat → Nat) (cI cZ : ClassId) (g : Nat → Int32) (f : Nat → Nat → Int32) (cd : Nat → Int32) (tc : Int32) (p0 : Int32): rdr l yX0_isInSkippedMonth wsX0_isInSkippedMonth { frames := 0, cells := 0, slots := 0, locals := 0 } G (wD a cI cZ g f cd tc) (tyIZ cI cZ) [.ref (a 1), .int p0] (fun r => r = bI (bar g p0)) := by
  refine rdr_of (cc := cX0_isInSkippedMonth) (nL := 3) (ty := .boolean) (by decide) rfl (Nat.le_of_ble_eq_true rfl) ?_
  intro p e s m args below meth c H ls Q hx hb hml hown hts hP hK hret hl
  have hl : lv_has ls 3 [(0, .ref (a 1)), (1, .int p0)] := hl
  have hinX0 : ∀ w ∈ wsX00, w ∈ wsX0_isInSkippedMonth := by decide +kernel
  refine lv_iload_n hx hb dX0_isInSkippedMonth_0 rfl (lv_at hl 1 rfl) ?_
  refine lv_bipush (v := 30) hx hb dX0_isInSkippedMonth_1 (by decide) ?_
  refine lv_idiv hx hb dX0_isInSkippedMonth_3 (by decide) ?_
  refine lv_bipush (v := 12) hx hb dX0_isInSkippedMonth_4 (by decide) ?_
  refine lv_irem hx hb dX0_isInSkippedMonth_6 (by decide) ?_
  refine lv_istore_n (lv' := [(2, .int ((p0 / 30) - (p0 / 30) / 12 * 12)), (0, .ref (a 1)), (1, .int p0)]) hx hb dX0_isInSkippedMonth_7 rfl hl (by decide) rfl (fun ls hl => ?_)
  refine lv_aload_n hx hb dX0_isInSkippedMonth_8 rfl (lv_at hl 1 rfl) ?_
  refine pget (index := 22) (v := .int (g 4)) hx hb hts hinX0 hown hK hP 3 (by decide) (List.mem_of_getElem? (i := 1) rfl) rfl dX0_isInSkippedMonth_9 ?_
  refine lv_iload_n hx hb dX0_isInSkippedMonth_12 rfl (lv_at hl 0 rfl) ?_
  refine lv_ishr hx hb dX0_isInSkippedMonth_13 ?_
  refine lv_iconst (v := 1) hx hb dX0_isInSkippedMonth_14 (by decide) ?_
  refine lv_iand hx hb dX0_isInSkippedMonth_15 ?_
  refine lv_if_eq (tgt := 23) hx hb dX0_isInSkippedMonth_16 (by decide) (fun c16 => ?_) (fun c16 => ?_)
  · refine lv_iconst (v := 0) hx hb dX0_isInSkippedMonth_23 (by decide) ?_
    exact hret 0 _ _ dX0_isInSkippedMonth_24 rfl (by simp only [bI, bar, barV]; simp [c16])
  refine lv_iconst (v := 1) hx hb dX0_isInSkippedMonth_19 (by decide) ?_
  refine lv_goto (tgt := 24) hx hb dX0_isInSkippedMonth_20 (by decide) ?_
  exact hret 1 _ _ dX0_isInSkippedMonth_24 rfl (by simp only [bI, bar, barV]; simp [c16])
set_option maxHeartbeats 4000000 in
set_option maxRecDepth 100000 in
theorem kX0_volumeOf (l : Launch) (G : va_G) (a : Nat → Nat) (cI cZ : ClassId) (g : Nat → Int32) (f : Nat → Nat → Int32) (cd : Nat → Int32) (tc : Int32) (p0 : Int32): rdr l yX0_volumeOf wsX0_volumeOf { frames := 0, cells := 0, slots := 0, locals := 0 } G (wD a cI cZ g f cd tc) (tyIZ cI cZ) [.ref (a 1), .int p0] (fun r => r = volD g p0) := by
  refine rdr_of (cc := cX0_volumeOf) (nL := 2) (ty := .int) (by decide) rfl (Nat.le_of_ble_eq_true rfl) ?_
  intro p e s m args below meth c H ls Q hx hb hml hown hts hP hK hret hl
  have hl : lv_has ls 2 [(0, .ref (a 1)), (1, .int p0)] := hl
  have hinX0 : ∀ w ∈ wsX00, w ∈ wsX0_volumeOf := by decide +kernel
  refine lv_aload_n hx hb dX0_volumeOf_0 rfl (lv_at hl 0 rfl) ?_
  refine pget (index := 15) (v := .int (g 2)) hx hb hts hinX0 hown hK hP 1 (by decide) (List.mem_of_getElem? (i := 1) rfl) rfl dX0_volumeOf_1 ?_
  refine lv_iconst (v := 1) hx hb dX0_volumeOf_4 (by decide) ?_
  refine lv_icmp_ge (tgt := 12) hx hb dX0_volumeOf_5 (by decide) (fun c5 => ?_) (fun c5 => ?_)
  · refine lv_iload_n hx hb dX0_volumeOf_12 rfl (lv_at hl 1 rfl) ?_
    refine lv_aload_n hx hb dX0_volumeOf_13 rfl (lv_at hl 0 rfl) ?_
    refine pget (index := 15) (v := .int (g 2)) hx hb hts hinX0 hown hK hP 1 (by decide) (List.mem_of_getElem? (i := 1) rfl) rfl dX0_volumeOf_14 ?_
    refine lv_idiv hx hb dX0_volumeOf_17 (fun q => by rw [q] at c5; exact absurd c5 (by decide)) ?_
    refine lv_iconst (v := 1) hx hb dX0_volumeOf_18 (by decide) ?_
    refine lv_iadd hx hb dX0_volumeOf_19 ?_
    exact hret ((p0 / (g 2)) + 1) _ _ dX0_volumeOf_20 rfl (by simp [volD, c5])
  refine lv_iconst (v := (-1)) hx hb dX0_volumeOf_8 (by decide) ?_
  refine lv_goto (tgt := 20) hx hb dX0_volumeOf_9 (by decide) ?_
  exact hret (-1) _ _ dX0_volumeOf_20 rfl (by simp [volD, c5])
set_option maxHeartbeats 4000000 in
set_option maxRecDepth 100000 in
theorem kX0_numberOf (l : Launch) (G : va_G) (a : Nat → Nat) (cI cZ : ClassId) (g : Nat → Int32) (f : Nat → Nat → Int32) (cd : Nat → Int32) (tc : Int32) (p0 : Int32): rdr l yX0_numberOf wsX0_numberOf { frames := 0, cells := 0, slots := 0, locals := 0 } G (wD a cI cZ g f cd tc) (tyIZ cI cZ) [.ref (a 1), .int p0] (fun r => r = numD g p0) := by
  refine rdr_of (cc := cX0_numberOf) (nL := 2) (ty := .int) (by decide) rfl (Nat.le_of_ble_eq_true rfl) ?_
  intro p e s m args below meth c H ls Q hx hb hml hown hts hP hK hret hl
  have hl : lv_has ls 2 [(0, .ref (a 1)), (1, .int p0)] := hl
  have hinX0 : ∀ w ∈ wsX00, w ∈ wsX0_numberOf := by decide +kernel
  refine lv_aload_n hx hb dX0_numberOf_0 rfl (lv_at hl 0 rfl) ?_
  refine pget (index := 18) (v := .int (g 3)) hx hb hts hinX0 hown hK hP 2 (by decide) (List.mem_of_getElem? (i := 1) rfl) rfl dX0_numberOf_1 ?_
  refine lv_if_ne (tgt := 11) hx hb dX0_numberOf_4 (by decide) (fun c4 => ?_) (fun c4 => ?_)
  · refine lv_aload_n hx hb dX0_numberOf_11 rfl (lv_at hl 0 rfl) ?_
    refine pget (index := 15) (v := .int (g 2)) hx hb hts hinX0 hown hK hP 1 (by decide) (List.mem_of_getElem? (i := 2) rfl) rfl dX0_numberOf_12 ?_
    refine lv_iconst (v := 1) hx hb dX0_numberOf_15 (by decide) ?_
    refine lv_icmp_ge (tgt := 23) hx hb dX0_numberOf_16 (by decide) (fun c16 => ?_) (fun c16 => ?_)
    · refine lv_iload_n hx hb dX0_numberOf_23 rfl (lv_at hl 1 rfl) ?_
      refine lv_aload_n hx hb dX0_numberOf_24 rfl (lv_at hl 0 rfl) ?_
      refine pget (index := 15) (v := .int (g 2)) hx hb hts hinX0 hown hK hP 1 (by decide) (List.mem_of_getElem? (i := 2) rfl) rfl dX0_numberOf_25 ?_
      refine lv_irem hx hb dX0_numberOf_28 (fun q => by rw [q] at c16; exact absurd c16 (by decide)) ?_
      refine lv_iconst (v := 1) hx hb dX0_numberOf_29 (by decide) ?_
      refine lv_iadd hx hb dX0_numberOf_30 ?_
      exact hret ((p0 - p0 / (g 2) * (g 2)) + 1) _ _ dX0_numberOf_31 rfl (by simp [numD, c4, c16])
    refine lv_iconst (v := (-1)) hx hb dX0_numberOf_19 (by decide) ?_
    refine lv_goto (tgt := 31) hx hb dX0_numberOf_20 (by decide) ?_
    exact hret (-1) _ _ dX0_numberOf_31 rfl (by simp [numD, c4, c16])
  refine lv_iload_n hx hb dX0_numberOf_7 rfl (lv_at hl 1 rfl) ?_
  refine lv_iconst (v := 1) hx hb dX0_numberOf_8 (by decide) ?_
  refine lv_iadd hx hb dX0_numberOf_9 ?_
  exact hret (p0 + 1) _ _ dX0_numberOf_10 rfl (by simp [numD, c4])
set_option maxHeartbeats 4000000 in
set_option maxRecDepth 100000 in
theorem kX1_isLate (l : Launch) (G : va_G) (a : Nat → Nat) (cI cZ : ClassId) (g : Nat → Int32) (f : Nat → Nat → Int32) (cd : Nat → Int32) (tc : Int32) (k : Nat) (hk : k < 200): rdr l yX1_isLate wsX1_isLate { frames := 2, cells := 0, slots := 0, locals := 41 } G (wD a cI cZ g f cd tc) (tyIZ cI cZ) [.ref (a 0), .int (nI k)] (fun r => r = bI (lateB g f k)) := by
  refine rdr_of (cc := cX1_isLate) (nL := 2) (ty := .boolean) (by decide) rfl (Nat.le_of_ble_eq_true rfl) ?_
  intro p e s m args below meth c H ls Q hx hb hml hown hts hP hK hret hl
  have hl : lv_has ls 2 [(0, .ref (a 0)), (1, .int (nI k))] := hl
  have hinX1 : ∀ w ∈ wsX10, w ∈ wsX1_isLate := by decide +kernel
  have b0 : isF g (nI k) = (!decide (g 7 ≤ nI k)) := by simp [isF, isI_nI hk]
  refine lv_aload_n hx hb dX1_isLate_0 rfl (lv_at hl 0 rfl) ?_
  refine lv_iload_n hx hb dX1_isLate_1 rfl (lv_at hl 1 rfl) ?_
  refine rdr_V (As := [.int (nI k)]) (rest := []) ⟨hx, hb, hml, hown, hts⟩ (kX1_isForetold l G a cI cZ g f cd tc (nI k) ) (cwV 1 hts gX1_isLate_X1_isForetold rfl rfl rfl (by decide +kernel) ⟨Nat.le_of_ble_eq_true rfl, Nat.le_of_ble_eq_true rfl⟩) (va_recv hK hP (ci := 1) (q0 := 0) rfl rfl) hP hK rfl hl.1 rfl (Nat.le_of_ble_eq_true rfl) dX1_isLate_2 (by decide) (fun r2 h2 => ?_)
  replace h2 : r2 = bI (isF g (nI k)) := h2
  subst h2
  refine lv_if_eq (tgt := 39) hx hb dX1_isLate_5 (by decide) (fun c5 => ?_) (fun c5 => ?_)
  · replace c5 := bI0 c5
    refine lv_iconst (v := 0) hx hb dX1_isLate_39 (by decide) ?_
    exact hret 0 _ _ dX1_isLate_40 rfl (by rw [b0] at c5; simp [bI, lateB, c5])
  replace c5 := bIn c5
  refine lv_aload_n hx hb dX1_isLate_8 rfl (lv_at hl 0 rfl) ?_
  refine dget (index := 27) (v := .ref (a 3)) hx hb hts hinX1 hown hK hP 7 (by decide) (List.mem_of_getElem? (i := 1) rfl) rfl dX1_isLate_9 ?_
  refine lv_iload_n hx hb dX1_isLate_12 rfl (lv_at hl 1 rfl) ?_
  refine arI (j := k) (h := (f 1)) hx hb hK hP 3 rfl rfl hk dX1_isLate_13 ?_
  refine lv_if_ne (tgt := 39) hx hb dX1_isLate_14 (by decide) (fun c14 => ?_) (fun c14 => ?_)
  · refine lv_iconst (v := 0) hx hb dX1_isLate_39 (by decide) ?_
    exact hret 0 _ _ dX1_isLate_40 rfl (by rw [b0] at c5; simp [bI, lateB, c5, c14])
  refine lv_aload_n hx hb dX1_isLate_17 rfl (lv_at hl 0 rfl) ?_
  refine dget (index := 74) (v := .int (g 0)) hx hb hts hinX1 hown hK hP 3 (by decide) (List.mem_of_getElem? (i := 2) rfl) rfl dX1_isLate_18 ?_
  refine lv_aload_n hx hb dX1_isLate_21 rfl (lv_at hl 0 rfl) ?_
  refine dget (index := 23) (v := .ref (a 2)) hx hb hts hinX1 hown hK hP 6 (by decide) (List.mem_of_getElem? (i := 3) rfl) rfl dX1_isLate_22 ?_
  refine lv_iload_n hx hb dX1_isLate_25 rfl (lv_at hl 1 rfl) ?_
  refine arI (j := k) (h := (f 0)) hx hb hK hP 2 rfl rfl hk dX1_isLate_26 ?_
  refine lv_isub hx hb dX1_isLate_27 ?_
  refine lv_aload_n hx hb dX1_isLate_28 rfl (lv_at hl 0 rfl) ?_
  refine dget (index := 16) (v := .int (g 5)) hx hb hts hinX1 hown hK hP 1 (by decide) (List.mem_of_getElem? (i := 4) rfl) rfl dX1_isLate_29 ?_
  refine lv_icmp_le (tgt := 39) hx hb dX1_isLate_32 (by decide) (fun c32 => ?_) (fun c32 => ?_)
  · refine lv_iconst (v := 0) hx hb dX1_isLate_39 (by decide) ?_
    exact hret 0 _ _ dX1_isLate_40 rfl (by rw [b0] at c5; simp [bI, lateB, c5, c14, c32])
  refine lv_iconst (v := 1) hx hb dX1_isLate_35 (by decide) ?_
  refine lv_goto (tgt := 40) hx hb dX1_isLate_36 (by decide) ?_
  exact hret 1 _ _ dX1_isLate_40 rfl (by rw [b0] at c5; simp [bI, lateB, c5, c14, c32])
set_option maxHeartbeats 4000000 in
set_option maxRecDepth 100000 in
theorem kX1_isTimeToClaim (l : Launch) (G : va_G) (a : Nat → Nat) (cI cZ : ClassId) (g : Nat → Int32) (f : Nat → Nat → Int32) (cd : Nat → Int32) (tc : Int32) (k : Nat) (hk : k < 200): rdr l yX1_isTimeToClaim wsX1_isTimeToClaim { frames := 1, cells := 0, slots := 0, locals := 20 } G (wD a cI cZ g f cd tc) (tyIZ cI cZ) [.ref (a 0), .int (nI k)] (fun r => r = bI (dueB g f cd k)) := by
  refine rdr_of (cc := cX1_isTimeToClaim) (nL := 2) (ty := .boolean) (by decide) rfl (Nat.le_of_ble_eq_true rfl) ?_
  intro p e s m args below meth c H ls Q hx hb hml hown hts hP hK hret hl
  have hl : lv_has ls 2 [(0, .ref (a 0)), (1, .int (nI k))] := hl
  have hinX1 : ∀ w ∈ wsX10, w ∈ wsX1_isTimeToClaim := by decide +kernel
  refine lv_iload_n hx hb dX1_isTimeToClaim_0 rfl (lv_at hl 1 rfl) ?_
  refine rdr_S (As := [.int (nI k)]) (rest := []) ⟨hx, hb, hml, hown, hts⟩ (kX1_isIssue l G _ _ (nI k) ) (va_cwS 1 hts gX1_isTimeToClaim_X1_isIssue rfl rfl rfl (by decide +kernel) ⟨Nat.le_of_ble_eq_true rfl, Nat.le_of_ble_eq_true rfl⟩)  hP hK rfl hl.1 rfl (Nat.le_of_ble_eq_true rfl) dX1_isTimeToClaim_1 (by decide) (fun r1 h1 => ?_)
  replace h1 : r1 = bI (isI (nI k)) := h1
  subst h1
  refine lv_if_eq (tgt := 38) hx hb dX1_isTimeToClaim_4 (by decide) (fun c4 => ?_) (fun c4 => ?_)
  · replace c4 := bI0 c4
    exact absurd c4 (by simp [isI_nI hk])
  replace c4 := bIn c4
  refine lv_aload_n hx hb dX1_isTimeToClaim_7 rfl (lv_at hl 0 rfl) ?_
  refine dget (index := 30) (v := .ref (a 4)) hx hb hts hinX1 hown hK hP 8 (by decide) (List.mem_of_getElem? (i := 1) rfl) rfl dX1_isTimeToClaim_8 ?_
  refine lv_iload_n hx hb dX1_isTimeToClaim_11 rfl (lv_at hl 1 rfl) ?_
  refine arI (j := k) (h := (f 2)) hx hb hK hP 4 rfl rfl hk dX1_isTimeToClaim_12 ?_
  refine lv_if_eq (tgt := 34) hx hb dX1_isTimeToClaim_13 (by decide) (fun c13 => ?_) (fun c13 => ?_)
  · refine lv_iconst (v := 1) hx hb dX1_isTimeToClaim_34 (by decide) ?_
    refine lv_goto (tgt := 39) hx hb dX1_isTimeToClaim_35 (by decide) ?_
    exact hret 1 _ _ dX1_isTimeToClaim_39 rfl (by simp [bI, dueB, c13])
  refine lv_aload_n hx hb dX1_isTimeToClaim_16 rfl (lv_at hl 0 rfl) ?_
  refine dget (index := 74) (v := .int (g 0)) hx hb hts hinX1 hown hK hP 3 (by decide) (List.mem_of_getElem? (i := 2) rfl) rfl dX1_isTimeToClaim_17 ?_
  refine lv_aload_n hx hb dX1_isTimeToClaim_20 rfl (lv_at hl 0 rfl) ?_
  refine dget (index := 33) (v := .ref (a 5)) hx hb hts hinX1 hown hK hP 9 (by decide) (List.mem_of_getElem? (i := 3) rfl) rfl dX1_isTimeToClaim_21 ?_
  refine lv_iload_n hx hb dX1_isTimeToClaim_24 rfl (lv_at hl 1 rfl) ?_
  refine arI (j := k) (h := cd) hx hb hK hP 5 rfl rfl hk dX1_isTimeToClaim_25 ?_
  refine lv_isub hx hb dX1_isTimeToClaim_26 ?_
  refine lv_aload_n hx hb dX1_isTimeToClaim_27 rfl (lv_at hl 0 rfl) ?_
  refine dget (index := 20) (v := .int (g 6)) hx hb hts hinX1 hown hK hP 2 (by decide) (List.mem_of_getElem? (i := 4) rfl) rfl dX1_isTimeToClaim_28 ?_
  refine lv_icmp_lt (tgt := 38) hx hb dX1_isTimeToClaim_31 (by decide) (fun c31 => ?_) (fun c31 => ?_)
  · refine lv_iconst (v := 0) hx hb dX1_isTimeToClaim_38 (by decide) ?_
    exact hret 0 _ _ dX1_isTimeToClaim_39 rfl (by simp [bI, dueB, c13, c31])
  refine lv_iconst (v := 1) hx hb dX1_isTimeToClaim_34 (by decide) ?_
  refine lv_goto (tgt := 39) hx hb dX1_isTimeToClaim_35 (by decide) ?_
  exact hret 1 _ _ dX1_isTimeToClaim_39 rfl (by simp [bI, dueB, c13, c31])
set_option maxHeartbeats 4000000 in
set_option maxRecDepth 100000 in
theorem kX1_isInHouse (l : Launch) (G : va_G) (a : Nat → Nat) (cI cZ : ClassId) (g : Nat → Int32) (f : Nat → Nat → Int32) (cd : Nat → Int32) (tc : Int32) (p0 : Int32): rdr l yX1_isInHouse wsX1_isInHouse { frames := 2, cells := 0, slots := 0, locals := 41 } G (wD a cI cZ g f cd tc) (tyIZ cI cZ) [.ref (a 0), .int p0] (fun r => r = bI (hereI g f p0)) := by
  refine rdr_of (cc := cX1_isInHouse) (nL := 2) (ty := .boolean) (by decide) rfl (Nat.le_of_ble_eq_true rfl) ?_
  intro p e s m args below meth c H ls Q hx hb hml hown hts hP hK hret hl
  have hl : lv_has ls 2 [(0, .ref (a 0)), (1, .int p0)] := hl
  have hinX1 : ∀ w ∈ wsX10, w ∈ wsX1_isInHouse := by decide +kernel
  refine lv_aload_n hx hb dX1_isInHouse_0 rfl (lv_at hl 0 rfl) ?_
  refine lv_iload_n hx hb dX1_isInHouse_1 rfl (lv_at hl 1 rfl) ?_
  refine rdr_V (As := [.int p0]) (rest := []) ⟨hx, hb, hml, hown, hts⟩ (kX1_isForetold l G a cI cZ g f cd tc p0 ) (cwV 1 hts gX1_isInHouse_X1_isForetold rfl rfl rfl (by decide +kernel) ⟨Nat.le_of_ble_eq_true rfl, Nat.le_of_ble_eq_true rfl⟩) (va_recv hK hP (ci := 1) (q0 := 0) rfl rfl) hP hK rfl hl.1 rfl (Nat.le_of_ble_eq_true rfl) dX1_isInHouse_2 (by decide) (fun r2 h2 => ?_)
  replace h2 : r2 = bI (isF g p0) := h2
  subst h2
  refine lv_if_eq (tgt := 32) hx hb dX1_isInHouse_5 (by decide) (fun c5 => ?_) (fun c5 => ?_)
  · replace c5 := bI0 c5
    refine lv_iconst (v := 0) hx hb dX1_isInHouse_32 (by decide) ?_
    exact hret 0 _ _ dX1_isInHouse_33 rfl (by simp [bI, hereI, c5])
  replace c5 := bIn c5
  obtain ⟨k, hk, ek⟩ : ∃ k, k < 200 ∧ p0 = nI k := isI_of (by simp only [isF, Bool.and_eq_true] at c5; exact c5.1)
  have ec : p0.toNatClampNeg = k := by rw [ek]; exact nI_clamp (by omega)
  refine lv_aload_n hx hb dX1_isInHouse_8 rfl (lv_at hl 0 rfl) ?_
  refine dget (index := 27) (v := .ref (a 3)) hx hb hts hinX1 hown hK hP 7 (by decide) (List.mem_of_getElem? (i := 1) rfl) rfl dX1_isInHouse_9 ?_
  refine lv_iload_n hx hb dX1_isInHouse_12 rfl (lv_at hl 1 rfl) ?_
  refine arI (j := k) (h := (f 1)) hx hb hK hP 3 rfl ek hk dX1_isInHouse_13 ?_
  refine lv_iconst (v := 1) hx hb dX1_isInHouse_14 (by decide) ?_
  refine lv_icmp_eq (tgt := 28) hx hb dX1_isInHouse_15 (by decide) (fun c15 => ?_) (fun c15 => ?_)
  · refine lv_iconst (v := 1) hx hb dX1_isInHouse_28 (by decide) ?_
    refine lv_goto (tgt := 33) hx hb dX1_isInHouse_29 (by decide) ?_
    exact hret 1 _ _ dX1_isInHouse_33 rfl (by simp [bI, hereI, ec, c5, c15])
  refine lv_aload_n hx hb dX1_isInHouse_18 rfl (lv_at hl 0 rfl) ?_
  refine dget (index := 27) (v := .ref (a 3)) hx hb hts hinX1 hown hK hP 7 (by decide) (List.mem_of_getElem? (i := 1) rfl) rfl dX1_isInHouse_19 ?_
  refine lv_iload_n hx hb dX1_isInHouse_22 rfl (lv_at hl 1 rfl) ?_
  refine arI (j := k) (h := (f 1)) hx hb hK hP 3 rfl ek hk dX1_isInHouse_23 ?_
  refine lv_iconst (v := 2) hx hb dX1_isInHouse_24 (by decide) ?_
  refine lv_icmp_ne (tgt := 32) hx hb dX1_isInHouse_25 (by decide) (fun c25 => ?_) (fun c25 => ?_)
  · refine lv_iconst (v := 0) hx hb dX1_isInHouse_32 (by decide) ?_
    exact hret 0 _ _ dX1_isInHouse_33 rfl (by simp [bI, hereI, ec, c5, c15, c25])
  refine lv_iconst (v := 1) hx hb dX1_isInHouse_28 (by decide) ?_
  refine lv_goto (tgt := 33) hx hb dX1_isInHouse_29 (by decide) ?_
  exact hret 1 _ _ dX1_isInHouse_33 rfl (by simp [bI, hereI, ec, c5, c15, c25])
set_option maxHeartbeats 4000000 in
set_option maxRecDepth 100000 in
theorem kX1_isRangeStart (l : Launch) (G : va_G) (a : Nat → Nat) (cI cZ : ClassId) (g : Nat → Int32) (f : Nat → Nat → Int32) (cd : Nat → Int32) (tc : Int32) (k : Nat) (hk : k < 200): rdr l yX1_isRangeStart wsX1_isRangeStart { frames := 3, cells := 0, slots := 0, locals := 62 } G (wD a cI cZ g f cd tc) (tyIZ cI cZ) [.ref (a 0), .int (nI k)] (fun r => r = bI (rsB g f k)) := by
  refine rdr_of (cc := cX1_isRangeStart) (nL := 2) (ty := .boolean) (by decide) rfl (Nat.le_of_ble_eq_true rfl) ?_
  intro p e s m args below meth c H ls Q hx hb hml hown hts hP hK hret hl
  have hl : lv_has ls 2 [(0, .ref (a 0)), (1, .int (nI k))] := hl
  refine lv_aload_n hx hb dX1_isRangeStart_0 rfl (lv_at hl 0 rfl) ?_
  refine lv_iload_n hx hb dX1_isRangeStart_1 rfl (lv_at hl 1 rfl) ?_
  refine rdr_V (As := [.int (nI k)]) (rest := []) ⟨hx, hb, hml, hown, hts⟩ (kX1_isInHouse l G a cI cZ g f cd tc (nI k) ) (cwV 1 hts gX1_isRangeStart_X1_isInHouse rfl rfl rfl (by decide +kernel) ⟨Nat.le_of_ble_eq_true rfl, Nat.le_of_ble_eq_true rfl⟩) (va_recv hK hP (ci := 1) (q0 := 0) rfl rfl) hP hK rfl hl.1 rfl (Nat.le_of_ble_eq_true rfl) dX1_isRangeStart_2 (by decide) (fun r2 h2 => ?_)
  replace h2 : r2 = bI (hereI g f (nI k)) := h2
  subst h2
  refine lv_if_eq (tgt := 22) hx hb dX1_isRangeStart_5 (by decide) (fun c5 => ?_) (fun c5 => ?_)
  · replace c5 := bI0 c5
    refine lv_iconst (v := 0) hx hb dX1_isRangeStart_22 (by decide) ?_
    exact hret 0 _ _ dX1_isRangeStart_23 rfl (by rw [hereI_nI hk] at c5; simp [bI, rsB, c5])
  replace c5 := bIn c5
  refine lv_aload_n hx hb dX1_isRangeStart_8 rfl (lv_at hl 0 rfl) ?_
  refine lv_iload_n hx hb dX1_isRangeStart_9 rfl (lv_at hl 1 rfl) ?_
  refine lv_iconst (v := 1) hx hb dX1_isRangeStart_10 (by decide) ?_
  refine lv_isub hx hb dX1_isRangeStart_11 ?_
  refine rdr_V (As := [.int ((nI k) - 1)]) (rest := []) ⟨hx, hb, hml, hown, hts⟩ (kX1_isInHouse l G a cI cZ g f cd tc ((nI k) - 1) ) (cwV 1 hts gX1_isRangeStart_X1_isInHouse rfl rfl rfl (by decide +kernel) ⟨Nat.le_of_ble_eq_true rfl, Nat.le_of_ble_eq_true rfl⟩) (va_recv hK hP (ci := 1) (q0 := 0) rfl rfl) hP hK rfl hl.1 rfl (Nat.le_of_ble_eq_true rfl) dX1_isRangeStart_12 (by decide) (fun r12 h12 => ?_)
  replace h12 : r12 = bI (hereI g f ((nI k) - 1)) := h12
  subst h12
  refine lv_if_ne (tgt := 22) hx hb dX1_isRangeStart_15 (by decide) (fun c15 => ?_) (fun c15 => ?_)
  · replace c15 := bIn c15
    refine lv_iconst (v := 0) hx hb dX1_isRangeStart_22 (by decide) ?_
    exact hret 0 _ _ dX1_isRangeStart_23 rfl (by rw [hereI_nI hk] at c5; simp [bI, rsB, c5, c15])
  replace c15 := bI0 c15
  refine lv_iconst (v := 1) hx hb dX1_isRangeStart_18 (by decide) ?_
  refine lv_goto (tgt := 23) hx hb dX1_isRangeStart_19 (by decide) ?_
  exact hret 1 _ _ dX1_isRangeStart_23 rfl (by rw [hereI_nI hk] at c5; simp [bI, rsB, c5, c15])
set_option maxHeartbeats 4000000 in
set_option maxRecDepth 100000 in
theorem kX1_late (l : Launch) (G : va_G) (a : Nat → Nat) (cI cZ : ClassId) (g : Nat → Int32) (f : Nat → Nat → Int32) (cd : Nat → Int32) (tc : Int32) : rdr l yX1_late wsX1_late { frames := 3, cells := 0, slots := 0, locals := 62 } G (wD a cI cZ g f cd tc) (tyIZ cI cZ) [.ref (a 0)] (fun r => r = nI (cnt (lateB g f) 200)) := by
  refine rdr_of (cc := cX1_late) (nL := 3) (ty := .int) (by decide) rfl (Nat.le_of_ble_eq_true rfl) ?_
  intro p e s m args below meth c H ls Q hx hb hml hown hts hP hK hret hl
  have hl : lv_has ls 3 [(0, .ref (a 0))] := hl
  refine lv_iconst (v := 0) hx hb dX1_late_0 (by decide) ?_
  refine lv_istore_n (lv' := [(1, .int 0), (0, .ref (a 0))]) hx hb dX1_late_1 rfl hl (by decide) rfl (fun ls hl => ?_)
  refine lv_iconst (v := 0) hx hb dX1_late_2 (by decide) ?_
  refine lv_istore_n (lv' := [(2, .int 0), (1, .int 0), (0, .ref (a 0))]) hx hb dX1_late_3 rfl hl (by decide) rfl (fun ls hl => ?_)
  have loop4 : ∀ (n : Nat) (i : Nat) (x : Int32), i ≤ 200 → 200 - i < n → x = nI (cnt (lateB g f) i) → ∀ (ls : Array Slot), lv_has ls 3 [(0, .ref (a 0)), (1, .int x), (2, .int (nI i))] → W p l e { frames := 3, cells := 0, slots := 0, locals := 62 } s m args below meth c H [] 0 0 Q (F0 m 4 ls []) := by
    intro n
    induction n with
    | zero => intro i x hi hn ex; exact absurd hn (Nat.not_lt_zero _)
    | succ n ih4 =>
      intro i x hi hn ex ls hl
      refine lv_iload_n hx hb dX1_late_4 rfl (lv_at hl 2 rfl) ?_
      refine lv_sipush (v := 200) hx hb dX1_late_5 (by decide) ?_
      refine lv_icmp_ge (tgt := 28) hx hb dX1_late_8 (by decide) (fun c8 => ?_) (fun c8 => ?_)
      · have ei : i = 200 := by have := (nI_leI (a := 200) (b := i) (by decide) (by omega)).mp c8; omega
        refine lv_iload_n hx hb dX1_late_28 rfl (lv_at hl 1 rfl) ?_
        exact hret x _ _ dX1_late_29 rfl (by rw [ex, ei])
      have hi2 : i < 200 := by rcases Nat.lt_or_ge i 200 with q | q; exact q; exact absurd ((nI_leI (a := 200) (b := i) (by decide) (by omega)).mpr q) c8
      refine lv_aload_n hx hb dX1_late_11 rfl (lv_at hl 0 rfl) ?_
      refine lv_iload_n hx hb dX1_late_12 rfl (lv_at hl 2 rfl) ?_
      refine rdr_V (As := [.int (nI i)]) (rest := []) ⟨hx, hb, hml, hown, hts⟩ (kX1_isLate l G a cI cZ g f cd tc i hi2) (cwV 1 hts gX1_late_X1_isLate rfl rfl rfl (by decide +kernel) ⟨Nat.le_of_ble_eq_true rfl, Nat.le_of_ble_eq_true rfl⟩) (va_recv hK hP (ci := 1) (q0 := 0) rfl rfl) hP hK rfl hl.1 rfl (Nat.le_of_ble_eq_true rfl) dX1_late_13 (by decide) (fun r13 h13 => ?_)
      replace h13 : r13 = bI (lateB g f i) := h13
      subst h13
      refine lv_if_eq (tgt := 22) hx hb dX1_late_16 (by decide) (fun c16 => ?_) (fun c16 => ?_)
      · replace c16 := bI0 c16
        refine lv_iinc (v := nI (i + 1)) (lv' := [(2, .int (nI (i + 1))), (0, .ref (a 0)), (1, .int x)]) hx hb dX1_late_22 hl (k := 2) rfl (nI_1 _) (by decide) rfl (fun ls hl => ?_)
        refine lv_goto (tgt := 4) hx hb dX1_late_25 (by decide) ?_
        exact ih4 (i + 1) x (by omega) (by omega) (by rw [cnt_f c16]; exact ex) _ (lv_sub hl [1, 2, 0] rfl)
      replace c16 := bIn c16
      refine lv_iinc (v := x + 1) (lv' := [(1, .int (x + 1)), (0, .ref (a 0)), (2, .int (nI i))]) hx hb dX1_late_19 hl (k := 1) rfl rfl (by decide) rfl (fun ls hl => ?_)
      refine lv_iinc (v := nI (i + 1)) (lv' := [(2, .int (nI (i + 1))), (1, .int (x + 1)), (0, .ref (a 0))]) hx hb dX1_late_22 hl (k := 2) rfl (nI_1 _) (by decide) rfl (fun ls hl => ?_)
      refine lv_goto (tgt := 4) hx hb dX1_late_25 (by decide) ?_
      exact ih4 (i + 1) (x + 1) (by omega) (by omega) (by rw [cnt_t c16, ex]; exact nI_1 _) _ (lv_sub hl [2, 1, 0] rfl)
  exact loop4 201 0 0 (by omega) (by omega) rfl _ (lv_sub hl [2, 1, 0] rfl)
set_option maxHeartbeats 4000000 in
set_option maxRecDepth 100000 in
theorem kX1_ranges (l : Launch) (G : va_G) (a : Nat → Nat) (cI cZ : ClassId) (g : Nat → Int32) (f : Nat → Nat → Int32) (cd : Nat → Int32) (tc : Int32) : rdr l yX1_ranges wsX1_ranges { frames := 4, cells := 0, slots := 0, locals := 83 } G (wD a cI cZ g f cd tc) (tyIZ cI cZ) [.ref (a 0)] (fun r => r = nI (cnt (rsB g f) 200)) := by
  refine rdr_of (cc := cX1_ranges) (nL := 3) (ty := .int) (by decide) rfl (Nat.le_of_ble_eq_true rfl) ?_
  intro p e s m args below meth c H ls Q hx hb hml hown hts hP hK hret hl
  have hl : lv_has ls 3 [(0, .ref (a 0))] := hl
  refine lv_iconst (v := 0) hx hb dX1_ranges_0 (by decide) ?_
  refine lv_istore_n (lv' := [(1, .int 0), (0, .ref (a 0))]) hx hb dX1_ranges_1 rfl hl (by decide) rfl (fun ls hl => ?_)
  refine lv_iconst (v := 0) hx hb dX1_ranges_2 (by decide) ?_
  refine lv_istore_n (lv' := [(2, .int 0), (1, .int 0), (0, .ref (a 0))]) hx hb dX1_ranges_3 rfl hl (by decide) rfl (fun ls hl => ?_)
  have loop4 : ∀ (n : Nat) (i : Nat) (x : Int32), i ≤ 200 → 200 - i < n → x = nI (cnt (rsB g f) i) → ∀ (ls : Array Slot), lv_has ls 3 [(0, .ref (a 0)), (1, .int x), (2, .int (nI i))] → W p l e { frames := 4, cells := 0, slots := 0, locals := 83 } s m args below meth c H [] 0 0 Q (F0 m 4 ls []) := by
    intro n
    induction n with
    | zero => intro i x hi hn ex; exact absurd hn (Nat.not_lt_zero _)
    | succ n ih4 =>
      intro i x hi hn ex ls hl
      refine lv_iload_n hx hb dX1_ranges_4 rfl (lv_at hl 2 rfl) ?_
      refine lv_sipush (v := 200) hx hb dX1_ranges_5 (by decide) ?_
      refine lv_icmp_ge (tgt := 28) hx hb dX1_ranges_8 (by decide) (fun c8 => ?_) (fun c8 => ?_)
      · have ei : i = 200 := by have := (nI_leI (a := 200) (b := i) (by decide) (by omega)).mp c8; omega
        refine lv_iload_n hx hb dX1_ranges_28 rfl (lv_at hl 1 rfl) ?_
        exact hret x _ _ dX1_ranges_29 rfl (by rw [ex, ei])
      have hi2 : i < 200 := by rcases Nat.lt_or_ge i 200 with q | q; exact q; exact absurd ((nI_leI (a := 200) (b := i) (by decide) (by omega)).mpr q) c8
      refine lv_aload_n hx hb dX1_ranges_11 rfl (lv_at hl 0 rfl) ?_
      refine lv_iload_n hx hb dX1_ranges_12 rfl (lv_at hl 2 rfl) ?_
      refine rdr_V (As := [.int (nI i)]) (rest := []) ⟨hx, hb, hml, hown, hts⟩ (kX1_isRangeStart l G a cI cZ g f cd tc i hi2) (cwV 1 hts gX1_ranges_X1_isRangeStart rfl rfl rfl (by decide +kernel) ⟨Nat.le_of_ble_eq_true rfl, Nat.le_of_ble_eq_true rfl⟩) (va_recv hK hP (ci := 1) (q0 := 0) rfl rfl) hP hK rfl hl.1 rfl (Nat.le_of_ble_eq_true rfl) dX1_ranges_13 (by decide) (fun r13 h13 => ?_)
      replace h13 : r13 = bI (rsB g f i) := h13
      subst h13
      refine lv_if_eq (tgt := 22) hx hb dX1_ranges_16 (by decide) (fun c16 => ?_) (fun c16 => ?_)
      · replace c16 := bI0 c16
        refine lv_iinc (v := nI (i + 1)) (lv' := [(2, .int (nI (i + 1))), (0, .ref (a 0)), (1, .int x)]) hx hb dX1_ranges_22 hl (k := 2) rfl (nI_1 _) (by decide) rfl (fun ls hl => ?_)
        refine lv_goto (tgt := 4) hx hb dX1_ranges_25 (by decide) ?_
        exact ih4 (i + 1) x (by omega) (by omega) (by rw [cnt_f c16]; exact ex) _ (lv_sub hl [1, 2, 0] rfl)
      replace c16 := bIn c16
      refine lv_iinc (v := x + 1) (lv' := [(1, .int (x + 1)), (0, .ref (a 0)), (2, .int (nI i))]) hx hb dX1_ranges_19 hl (k := 1) rfl rfl (by decide) rfl (fun ls hl => ?_)
      refine lv_iinc (v := nI (i + 1)) (lv' := [(2, .int (nI (i + 1))), (1, .int (x + 1)), (0, .ref (a 0))]) hx hb dX1_ranges_22 hl (k := 2) rfl (nI_1 _) (by decide) rfl (fun ls hl => ?_)
      refine lv_goto (tgt := 4) hx hb dX1_ranges_25 (by decide) ?_
      exact ih4 (i + 1) (x + 1) (by omega) (by omega) (by rw [cnt_t c16, ex]; exact nI_1 _) _ (lv_sub hl [2, 1, 0] rfl)
  exact loop4 201 0 0 (by omega) (by omega) rfl _ (lv_sub hl [2, 1, 0] rfl)
