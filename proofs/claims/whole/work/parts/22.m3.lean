set_option maxHeartbeats 4000000 in
set_option maxRecDepth 100000 in
theorem kX1_takeIn (l : Launch) (G : va_G) (a : Nat → Nat) (cI cZ : ClassId) (g : Nat → Int32) (f : Nat → Nat → Int32) (cd : Nat → Int32) (tc : Int32) (hap : apart a 7) (sz : Nat) (F L N : Nat) (hF : F ≤ L) (hL : L < N) (hN : g 7 = nI N) (hN2 : N ≤ 200): wrv l yX1_takeIn wsX1_takeIn { frames := 2, cells := 0, slots := 0, locals := 41 } G (wD a cI cZ g f cd tc) (tyIZ cI cZ) (aS a 7 sz) sz [.ref (a 0), .int (nI F), .int (nI L)] (fun u => u = (g, up2 f 1 (tkU (f 1) F (L + 1)), cd, tc)) (wfD a cI cZ) := by
  refine wrv_of (cc := cX1_takeIn) (nL := 4) (by decide) rfl (Nat.le_of_ble_eq_true rfl) ?_
  intro p e s m args below meth c H locs ls Q hx hb hml hown hts hP hK hS hret hl
  have hl : lv_has ls 4 [(0, .ref (a 0)), (1, .int (nI F)), (2, .int (nI L))] := hl
  have hinX1 : ∀ w ∈ wsX10, w ∈ wsX1_takeIn := by decide +kernel
  refine lv_iload_n hx hb dX1_takeIn_0 rfl (lv_at hl 1 rfl) ?_
  refine lv_istore_n (lv' := [(3, .int (nI F)), (0, .ref (a 0)), (1, .int (nI F)), (2, .int (nI L))]) hx hb dX1_takeIn_1 rfl hl (by decide) rfl (fun ls hl => ?_)
  have loop2 : ∀ (n : Nat) (i : Nat) (h1 : Nat → Int32), F ≤ i → i ≤ L + 1 → L + 1 - i < n → h1 = tkU (f 1) F i → ∀ (H : Heap) (locs : List Loc), va_P G vwCl (wD a cI cZ g (up2 f 1 h1) cd tc) H → va_S (aS a 7 s.heap.size) s.heap H locs → ∀ (ls : Array Slot), lv_has ls 4 [(0, .ref (a 0)), (1, .int (nI F)), (2, .int (nI L)), (3, .int (nI i))] → W p l e { frames := 2, cells := 0, slots := 0, locals := 41 } s m args below meth c H locs 0 0 Q (F0 m 2 ls []) := by
    intro n
    induction n with
    | zero => intro i h1 hi0 hi hn hq; intros; exact absurd hn (Nat.not_lt_zero _)
    | succ n ih2 =>
      intro i h1 hi0 hi hn hq H locs hP hS ls hl
      refine lv_iload_n hx hb dX1_takeIn_2 rfl (lv_at hl 3 rfl) ?_
      refine lv_iload_n hx hb dX1_takeIn_3 rfl (lv_at hl 2 rfl) ?_
      refine lv_icmp_gt (tgt := 37) hx hb dX1_takeIn_4 (by decide) (fun c4 => ?_) (fun c4 => ?_)
      · have ei : i = L + 1 := by have := lt_nI (a := L) (b := i) (by omega) (by omega) c4; omega
        rw [hq, ei] at hP
        exact hret (g, up2 f 1 (tkU (f 1) F (L + 1)), cd, tc) _ _ _ _ dX1_takeIn_37 hP hS rfl
      have hi2 : i ≤ L := nlt_nI (by omega) (by omega) c4
      refine lv_aload_n hx hb dX1_takeIn_7 rfl (lv_at hl 0 rfl) ?_
      refine lv_iload_n hx hb dX1_takeIn_8 rfl (lv_at hl 3 rfl) ?_
      refine rdr_V (As := [.int (nI i)]) (rest := []) ⟨hx, hb, hml, hown, hts⟩ (kX1_isForetold l G a cI cZ g (up2 f 1 h1) cd tc (nI i) ) (cwV 1 hts gX1_takeIn_X1_isForetold rfl rfl rfl (by decide +kernel) ⟨Nat.le_of_ble_eq_true rfl, Nat.le_of_ble_eq_true rfl⟩) (va_recv hK hP (ci := 1) (q0 := 0) rfl rfl) hP hK rfl hl.1 rfl (Nat.le_of_ble_eq_true rfl) dX1_takeIn_9 (by decide) (fun r9 h9 => ?_)
      replace h9 : r9 = bI (isF g (nI i)) := h9
      subst h9
      refine lv_if_eq (tgt := 31) hx hb dX1_takeIn_12 (by decide) (fun c12 => ?_) (fun c12 => ?_)
      · replace c12 := bI0 c12
        exact absurd (isF_f (by omega) c12) (by rw [hN]; exact nI_ge (by omega) (by omega))
      replace c12 := bIn c12
      refine lv_aload_n hx hb dX1_takeIn_15 rfl (lv_at hl 0 rfl) ?_
      refine dget (index := 27) (v := .ref (a 3)) hx hb hts hinX1 hown hK hP 7 (by decide) (List.mem_of_getElem? (i := 1) rfl) rfl dX1_takeIn_16 ?_
      refine lv_iload_n hx hb dX1_takeIn_19 rfl (lv_at hl 3 rfl) ?_
      refine lv_iload_n hx hb dX1_takeIn_20 rfl (lv_at hl 3 rfl) ?_
      refine lv_iload_n hx hb dX1_takeIn_21 rfl (lv_at hl 1 rfl) ?_
      refine lv_icmp_ne (tgt := 29) hx hb dX1_takeIn_22 (by decide) (fun c22 => ?_) (fun c22 => ?_)
      · have ei : ¬ i = F := fun q => c22 (by rw [q])
        refine lv_iconst (v := 2) hx hb dX1_takeIn_29 (by decide) ?_
        refine asI (j := i) (h := h1) (x := 2) (wD a cI cZ g (up2 f 1 (upd h1 i 2)) cd tc) hx hb hK hP (wD_D hap _) hS 3 rfl rfl (by omega) rfl dX1_takeIn_30 (fun H locs hP hS => ?_)
        refine lv_iinc (v := nI (i + 1)) (lv' := [(3, .int (nI (i + 1))), (0, .ref (a 0)), (1, .int (nI F)), (2, .int (nI L))]) hx hb dX1_takeIn_31 hl (k := 3) rfl (nI_1 _) (by decide) rfl (fun ls hl => ?_)
        refine lv_goto (tgt := 2) hx hb dX1_takeIn_34 (by decide) ?_
        exact ih2 (i + 1) (upd h1 i 2) (by omega) (by omega) (by omega) (by rw [hq]; exact tkU_s _ hi0 _ (by rw [if_neg ei])) _ _ hP hS _ (lv_sub hl [1, 2, 3, 0] rfl)
      have ei : i = F := (nI_eq (by omega) (by omega)).mp c22
      refine lv_iconst (v := 1) hx hb dX1_takeIn_25 (by decide) ?_
      refine lv_goto (tgt := 30) hx hb dX1_takeIn_26 (by decide) ?_
      refine asI (j := i) (h := h1) (x := 1) (wD a cI cZ g (up2 f 1 (upd h1 i 1)) cd tc) hx hb hK hP (wD_D hap _) hS 3 rfl rfl (by omega) rfl dX1_takeIn_30 (fun H locs hP hS => ?_)
      refine lv_iinc (v := nI (i + 1)) (lv' := [(3, .int (nI (i + 1))), (0, .ref (a 0)), (1, .int (nI F)), (2, .int (nI L))]) hx hb dX1_takeIn_31 hl (k := 3) rfl (nI_1 _) (by decide) rfl (fun ls hl => ?_)
      refine lv_goto (tgt := 2) hx hb dX1_takeIn_34 (by decide) ?_
      exact ih2 (i + 1) (upd h1 i 1) (by omega) (by omega) (by omega) (by rw [hq]; exact tkU_s _ hi0 _ (by rw [if_pos ei])) _ _ hP hS _ (lv_sub hl [1, 2, 3, 0] rfl)
  exact loop2 (L + 2) F (f 1) (by omega) (by omega) (by omega) (tkU_0 _ _) _ _ hP hS _ (lv_sub hl [1, 2, 3, 0] rfl)
set_option maxHeartbeats 4000000 in
set_option maxRecDepth 100000 in
theorem kX1_noteDifference (l : Launch) (G : va_G) (a : Nat → Nat) (cI cZ : ClassId) (g : Nat → Int32) (f : Nat → Nat → Int32) (cd : Nat → Int32) (tc : Int32) (hap : apart a 7) (sz : Nat) (i N ct : Nat) (hi : i < N) (hN : g 7 = nI N) (hN2 : N ≤ 200) (hI : Inv ct g f): wrv l yX1_noteDifference wsX1_noteDifference { frames := 3, cells := 0, slots := 0, locals := 63 } G (wD a cI cZ g f cd tc) (tyIZ cI cZ) (aS a 7 sz) sz [.ref (a 0), .int (nI i)] (fun u => u = (cntG g (g 0 - f 0 i) (rowD g f i) i, f, cd, tc)) (wfD a cI cZ) := by
  obtain ⟨B, b1, b2, b3, b4, b5⟩ := inv_B hI
  have hnf : ¬ g 7 ≤ nI i := by rw [hN]; exact nI_ge hi (by omega)
  have hfo : foD g f i = (decide (B ≤ i) && allR (foB f) B (i - B)) := by unfold foD; rw [b5]
  refine wrv_of (cc := cX1_noteDifference) (nL := 4) (by decide) rfl (Nat.le_of_ble_eq_true rfl) ?_
  intro p e s m args below meth c H locs ls Q hx hb hml hown hts hP hK hS hret hl
  have hl : lv_has ls 4 [(0, .ref (a 0)), (1, .int (nI i))] := hl
  have hinX1 : ∀ w ∈ wsX10, w ∈ wsX1_noteDifference := by decide +kernel
  refine lv_aload_n hx hb dX1_noteDifference_0 rfl (lv_at hl 0 rfl) ?_
  refine lv_iload_n hx hb dX1_noteDifference_1 rfl (lv_at hl 1 rfl) ?_
  refine rdr_V (As := [.int (nI i)]) (rest := []) ⟨hx, hb, hml, hown, hts⟩ (kX1_isForetold l G a cI cZ g f cd tc (nI i) ) (cwV 1 hts gX1_noteDifference_X1_isForetold rfl rfl rfl (by decide +kernel) ⟨Nat.le_of_ble_eq_true rfl, Nat.le_of_ble_eq_true rfl⟩) (va_recv hK hP (ci := 1) (q0 := 0) rfl rfl) hP hK rfl hl.1 rfl (Nat.le_of_ble_eq_true rfl) dX1_noteDifference_2 (by decide) (fun r2 h2 => ?_)
  replace h2 : r2 = bI (isF g (nI i)) := h2
  subst h2
  refine lv_if_ne (tgt := 9) hx hb dX1_noteDifference_5 (by decide) (fun c5 => ?_) (fun c5 => ?_)
  · replace c5 := bIn c5
    refine lv_aload_n hx hb dX1_noteDifference_9 rfl (lv_at hl 0 rfl) ?_
    refine dget (index := 74) (v := .int (g 0)) hx hb hts hinX1 hown hK hP 3 (by decide) (List.mem_of_getElem? (i := 1) rfl) rfl dX1_noteDifference_10 ?_
    refine lv_aload_n hx hb dX1_noteDifference_13 rfl (lv_at hl 0 rfl) ?_
    refine dget (index := 23) (v := .ref (a 2)) hx hb hts hinX1 hown hK hP 6 (by decide) (List.mem_of_getElem? (i := 2) rfl) rfl dX1_noteDifference_14 ?_
    refine lv_iload_n hx hb dX1_noteDifference_17 rfl (lv_at hl 1 rfl) ?_
    refine arI (j := i) (h := (f 0)) hx hb hK hP 2 rfl rfl (by omega) dX1_noteDifference_18 ?_
    refine lv_isub hx hb dX1_noteDifference_19 ?_
    refine lv_istore_n (lv' := [(2, .int ((g 0) - ((f 0) i))), (0, .ref (a 0)), (1, .int (nI i))]) hx hb dX1_noteDifference_20 rfl hl (by decide) rfl (fun ls hl => ?_)
    refine lv_iload_n hx hb dX1_noteDifference_21 rfl (lv_at hl 0 rfl) ?_
    refine lv_aload_n hx hb dX1_noteDifference_22 rfl (lv_at hl 1 rfl) ?_
    refine dget (index := 167) (v := .int (g 10)) hx hb hts hinX1 hown hK hP 11 (by decide) (List.mem_of_getElem? (i := 3) rfl) rfl dX1_noteDifference_23 ?_
    refine lv_icmp_ne (tgt := 41) hx hb dX1_noteDifference_26 (by decide) (fun c26 => ?_) (fun c26 => ?_)
    · refine lv_iconst (v := 0) hx hb dX1_noteDifference_41 (by decide) ?_
      refine lv_istore_n (lv' := [(3, .int 0), (2, .int ((g 0) - ((f 0) i))), (0, .ref (a 0)), (1, .int (nI i))]) hx hb dX1_noteDifference_42 rfl hl (by decide) rfl (fun ls hl => ?_)
      refine lv_aload_n hx hb dX1_noteDifference_43 rfl (lv_at hl 2 rfl) ?_
      refine lv_iload_n hx hb dX1_noteDifference_44 rfl (lv_at hl 0 rfl) ?_
      refine lv_if_eq (tgt := 57) hx hb dX1_noteDifference_45 (by decide) (fun c45 => ?_) (fun c45 => ?_)
      · refine lv_iconst (v := 1) hx hb dX1_noteDifference_57 (by decide) ?_
        refine dput (index := 173) (v := .int 1) (upd g 11 1) tc hx hb hts hinX1 hown hK hP hap hS 10 (by decide) (List.mem_of_getElem? (i := 4) rfl) rfl rfl rfl rfl rfl dX1_noteDifference_58 (fun H locs hP hS => ?_)
        refine lv_aload_n hx hb dX1_noteDifference_61 rfl (lv_at hl 2 rfl) ?_
        refine lv_iload_n hx hb dX1_noteDifference_62 rfl (lv_at hl 1 rfl) ?_
        refine dput (index := 167) (v := .int ((g 0) - ((f 0) i))) (upd (upd g 11 1) 10 ((g 0) - ((f 0) i))) tc hx hb hts hinX1 hown hK hP hap hS 11 (by decide) (List.mem_of_getElem? (i := 3) rfl) rfl rfl rfl rfl rfl dX1_noteDifference_63 (fun H locs hP hS => ?_)
        refine lv_aload_n hx hb dX1_noteDifference_66 rfl (lv_at hl 2 rfl) ?_
        refine lv_iload_n hx hb dX1_noteDifference_67 rfl (lv_at hl 3 rfl) ?_
        refine dput (index := 43) (v := .int (nI i)) (upd (upd (upd g 11 1) 10 ((g 0) - ((f 0) i))) 9 (nI i)) tc hx hb hts hinX1 hown hK hP hap hS 12 (by decide) (List.mem_of_getElem? (i := 5) rfl) rfl rfl rfl rfl rfl dX1_noteDifference_68 (fun H locs hP hS => ?_)
        refine lv_aload_n hx hb dX1_noteDifference_71 rfl (lv_at hl 2 rfl) ?_
        refine dget (index := 173) (v := .int 1) hx hb hts hinX1 hown hK hP 10 (by decide) (List.mem_of_getElem? (i := 4) rfl) rfl dX1_noteDifference_72 ?_
        refine lv_iconst (v := 3) hx hb dX1_noteDifference_75 (by decide) ?_
        refine lv_icmp_lt (tgt := 101) hx hb dX1_noteDifference_76 (by decide) (fun c76 => ?_) (fun c76 => ?_)
        · have hrow : rowD g f i = 1 := by unfold rowD; rw [if_neg (fun q => c26 q.1)]
          have hP : va_P G vwCl (wD a cI cZ (cntG g (g 0 - f 0 i) 1 i) f cd tc) H := by unfold cntG; rw [if_pos (Or.inl c76)]; exact hP
          exact hret (cntG g (g 0 - f 0 i) 1 i, f, cd, tc) _ _ _ _ dX1_noteDifference_101 hP hS (by rw [hrow])
        refine lv_iload_n hx hb dX1_noteDifference_79 rfl (lv_at hl 1 rfl) ?_
        refine rdr_S (As := [.int ((g 0) - ((f 0) i))]) (rest := []) ⟨hx, hb, hml, hown, hts⟩ (kX1_canShift l G _ _ ((g 0) - ((f 0) i)) ) (va_cwS 1 hts gX1_noteDifference_X1_canShift rfl rfl rfl (by decide +kernel) ⟨Nat.le_of_ble_eq_true rfl, Nat.le_of_ble_eq_true rfl⟩)  hP hK rfl hl.1 rfl (Nat.le_of_ble_eq_true rfl) dX1_noteDifference_80 (by decide) (fun r80 h80 => ?_)
        replace h80 : r80 = bI (okS ((g 0) - ((f 0) i))) := h80
        subst h80
        refine lv_if_eq (tgt := 101) hx hb dX1_noteDifference_83 (by decide) (fun c83 => ?_) (fun c83 => ?_)
        · replace c83 := bI0 c83
          have hrow : rowD g f i = 1 := by unfold rowD; rw [if_neg (fun q => c26 q.1)]
          have hP : va_P G vwCl (wD a cI cZ (cntG g (g 0 - f 0 i) 1 i) f cd tc) H := by unfold cntG; rw [if_pos (Or.inr c83)]; exact hP
          exact hret (cntG g (g 0 - f 0 i) 1 i, f, cd, tc) _ _ _ _ dX1_noteDifference_101 hP hS (by rw [hrow])
        replace c83 := bIn c83
        refine lv_aload_n hx hb dX1_noteDifference_86 rfl (lv_at hl 2 rfl) ?_
        refine lv_dup hx hb dX1_noteDifference_87 rfl ?_
        refine dget (index := 123) (v := .int (g 8)) hx hb hts hinX1 hown hK hP 5 (by decide) (List.mem_of_getElem? (i := 6) rfl) rfl dX1_noteDifference_88 ?_
        refine lv_iload_n hx hb dX1_noteDifference_91 rfl (lv_at hl 1 rfl) ?_
        refine lv_iadd hx hb dX1_noteDifference_92 ?_
        refine dput (index := 123) (v := .int ((g 8) + ((g 0) - ((f 0) i)))) (upd (upd (upd (upd g 11 1) 10 ((g 0) - ((f 0) i))) 9 (nI i)) 8 ((g 8) + ((g 0) - ((f 0) i)))) tc hx hb hts hinX1 hown hK hP hap hS 5 (by decide) (List.mem_of_getElem? (i := 6) rfl) rfl rfl rfl rfl rfl dX1_noteDifference_93 (fun H locs hP hS => ?_)
        refine lv_aload_n hx hb dX1_noteDifference_96 rfl (lv_at hl 2 rfl) ?_
        refine lv_iconst (v := 0) hx hb dX1_noteDifference_97 (by decide) ?_
        refine dput (index := 173) (v := .int 0) (upd (upd (upd (upd g 10 ((g 0) - ((f 0) i))) 9 (nI i)) 8 ((g 8) + ((g 0) - ((f 0) i)))) 11 0) tc hx hb hts hinX1 hown hK hP hap hS 10 (by decide) (List.mem_of_getElem? (i := 4) rfl) rfl rfl rfl rfl rfl dX1_noteDifference_98 (fun H locs hP hS => ?_)
        have hrow : rowD g f i = 1 := by unfold rowD; rw [if_neg (fun q => c26 q.1)]
        have hP : va_P G vwCl (wD a cI cZ (cntG g (g 0 - f 0 i) 1 i) f cd tc) H := by unfold cntG; rw [if_neg (fun q => q.elim c76 (by rw [c83]; decide))]; exact hP
        exact hret (cntG g (g 0 - f 0 i) 1 i, f, cd, tc) _ _ _ _ dX1_noteDifference_101 hP hS (by rw [hrow])
      exact absurd rfl c45
    refine lv_aload_n hx hb dX1_noteDifference_29 rfl (lv_at hl 1 rfl) ?_
    refine lv_iload_n hx hb dX1_noteDifference_30 rfl (lv_at hl 2 rfl) ?_
    refine rdr_V (As := [.int (nI i)]) (rest := []) ⟨hx, hb, hml, hown, hts⟩ (kX1_followsStreak l G a cI cZ g f cd tc i B (by omega) hnf b1 b2) (cwV 1 hts gX1_noteDifference_X1_followsStreak rfl rfl rfl (by decide +kernel) ⟨Nat.le_of_ble_eq_true rfl, Nat.le_of_ble_eq_true rfl⟩) (va_recv hK hP (ci := 1) (q0 := 0) rfl rfl) hP hK rfl hl.1 rfl (Nat.le_of_ble_eq_true rfl) dX1_noteDifference_31 (by decide) (fun r31 h31 => ?_)
    replace h31 : r31 = bI (decide (B ≤ i) && allR (foB f) B (i - B)) := h31
    subst h31
    refine lv_if_eq (tgt := 41) hx hb dX1_noteDifference_34 (by decide) (fun c34 => ?_) (fun c34 => ?_)
    · replace c34 := bI0 c34
      rw [← hfo] at c34
      refine lv_iconst (v := 0) hx hb dX1_noteDifference_41 (by decide) ?_
      refine lv_istore_n (lv' := [(3, .int 0), (2, .int ((g 0) - ((f 0) i))), (0, .ref (a 0)), (1, .int (nI i))]) hx hb dX1_noteDifference_42 rfl hl (by decide) rfl (fun ls hl => ?_)
      refine lv_aload_n hx hb dX1_noteDifference_43 rfl (lv_at hl 2 rfl) ?_
      refine lv_iload_n hx hb dX1_noteDifference_44 rfl (lv_at hl 0 rfl) ?_
      refine lv_if_eq (tgt := 57) hx hb dX1_noteDifference_45 (by decide) (fun c45 => ?_) (fun c45 => ?_)
      · refine lv_iconst (v := 1) hx hb dX1_noteDifference_57 (by decide) ?_
        refine dput (index := 173) (v := .int 1) (upd g 11 1) tc hx hb hts hinX1 hown hK hP hap hS 10 (by decide) (List.mem_of_getElem? (i := 4) rfl) rfl rfl rfl rfl rfl dX1_noteDifference_58 (fun H locs hP hS => ?_)
        refine lv_aload_n hx hb dX1_noteDifference_61 rfl (lv_at hl 2 rfl) ?_
        refine lv_iload_n hx hb dX1_noteDifference_62 rfl (lv_at hl 1 rfl) ?_
        refine dput (index := 167) (v := .int ((g 0) - ((f 0) i))) (upd (upd g 11 1) 10 ((g 0) - ((f 0) i))) tc hx hb hts hinX1 hown hK hP hap hS 11 (by decide) (List.mem_of_getElem? (i := 3) rfl) rfl rfl rfl rfl rfl dX1_noteDifference_63 (fun H locs hP hS => ?_)
        refine lv_aload_n hx hb dX1_noteDifference_66 rfl (lv_at hl 2 rfl) ?_
        refine lv_iload_n hx hb dX1_noteDifference_67 rfl (lv_at hl 3 rfl) ?_
        refine dput (index := 43) (v := .int (nI i)) (upd (upd (upd g 11 1) 10 ((g 0) - ((f 0) i))) 9 (nI i)) tc hx hb hts hinX1 hown hK hP hap hS 12 (by decide) (List.mem_of_getElem? (i := 5) rfl) rfl rfl rfl rfl rfl dX1_noteDifference_68 (fun H locs hP hS => ?_)
        refine lv_aload_n hx hb dX1_noteDifference_71 rfl (lv_at hl 2 rfl) ?_
        refine dget (index := 173) (v := .int 1) hx hb hts hinX1 hown hK hP 10 (by decide) (List.mem_of_getElem? (i := 4) rfl) rfl dX1_noteDifference_72 ?_
        refine lv_iconst (v := 3) hx hb dX1_noteDifference_75 (by decide) ?_
        refine lv_icmp_lt (tgt := 101) hx hb dX1_noteDifference_76 (by decide) (fun c76 => ?_) (fun c76 => ?_)
        · have hrow : rowD g f i = 1 := by unfold rowD; rw [if_neg (fun q => by rw [q.2] at c34; exact absurd c34 (by decide))]
          have hP : va_P G vwCl (wD a cI cZ (cntG g (g 0 - f 0 i) 1 i) f cd tc) H := by unfold cntG; rw [if_pos (Or.inl c76)]; exact hP
          exact hret (cntG g (g 0 - f 0 i) 1 i, f, cd, tc) _ _ _ _ dX1_noteDifference_101 hP hS (by rw [hrow])
        refine lv_iload_n hx hb dX1_noteDifference_79 rfl (lv_at hl 1 rfl) ?_
        refine rdr_S (As := [.int ((g 0) - ((f 0) i))]) (rest := []) ⟨hx, hb, hml, hown, hts⟩ (kX1_canShift l G _ _ ((g 0) - ((f 0) i)) ) (va_cwS 1 hts gX1_noteDifference_X1_canShift rfl rfl rfl (by decide +kernel) ⟨Nat.le_of_ble_eq_true rfl, Nat.le_of_ble_eq_true rfl⟩)  hP hK rfl hl.1 rfl (Nat.le_of_ble_eq_true rfl) dX1_noteDifference_80 (by decide) (fun r80 h80 => ?_)
        replace h80 : r80 = bI (okS ((g 0) - ((f 0) i))) := h80
        subst h80
        refine lv_if_eq (tgt := 101) hx hb dX1_noteDifference_83 (by decide) (fun c83 => ?_) (fun c83 => ?_)
        · replace c83 := bI0 c83
          have hrow : rowD g f i = 1 := by unfold rowD; rw [if_neg (fun q => by rw [q.2] at c34; exact absurd c34 (by decide))]
          have hP : va_P G vwCl (wD a cI cZ (cntG g (g 0 - f 0 i) 1 i) f cd tc) H := by unfold cntG; rw [if_pos (Or.inr c83)]; exact hP
          exact hret (cntG g (g 0 - f 0 i) 1 i, f, cd, tc) _ _ _ _ dX1_noteDifference_101 hP hS (by rw [hrow])
        replace c83 := bIn c83
        refine lv_aload_n hx hb dX1_noteDifference_86 rfl (lv_at hl 2 rfl) ?_
        refine lv_dup hx hb dX1_noteDifference_87 rfl ?_
        refine dget (index := 123) (v := .int (g 8)) hx hb hts hinX1 hown hK hP 5 (by decide) (List.mem_of_getElem? (i := 6) rfl) rfl dX1_noteDifference_88 ?_
        refine lv_iload_n hx hb dX1_noteDifference_91 rfl (lv_at hl 1 rfl) ?_
        refine lv_iadd hx hb dX1_noteDifference_92 ?_
        refine dput (index := 123) (v := .int ((g 8) + ((g 0) - ((f 0) i)))) (upd (upd (upd (upd g 11 1) 10 ((g 0) - ((f 0) i))) 9 (nI i)) 8 ((g 8) + ((g 0) - ((f 0) i)))) tc hx hb hts hinX1 hown hK hP hap hS 5 (by decide) (List.mem_of_getElem? (i := 6) rfl) rfl rfl rfl rfl rfl dX1_noteDifference_93 (fun H locs hP hS => ?_)
        refine lv_aload_n hx hb dX1_noteDifference_96 rfl (lv_at hl 2 rfl) ?_
        refine lv_iconst (v := 0) hx hb dX1_noteDifference_97 (by decide) ?_
        refine dput (index := 173) (v := .int 0) (upd (upd (upd (upd g 10 ((g 0) - ((f 0) i))) 9 (nI i)) 8 ((g 8) + ((g 0) - ((f 0) i)))) 11 0) tc hx hb hts hinX1 hown hK hP hap hS 10 (by decide) (List.mem_of_getElem? (i := 4) rfl) rfl rfl rfl rfl rfl dX1_noteDifference_98 (fun H locs hP hS => ?_)
        have hrow : rowD g f i = 1 := by unfold rowD; rw [if_neg (fun q => by rw [q.2] at c34; exact absurd c34 (by decide))]
        have hP : va_P G vwCl (wD a cI cZ (cntG g (g 0 - f 0 i) 1 i) f cd tc) H := by unfold cntG; rw [if_neg (fun q => q.elim c76 (by rw [c83]; decide))]; exact hP
        exact hret (cntG g (g 0 - f 0 i) 1 i, f, cd, tc) _ _ _ _ dX1_noteDifference_101 hP hS (by rw [hrow])
      exact absurd rfl c45
    replace c34 := bIn c34
    rw [← hfo] at c34
    refine lv_iconst (v := 1) hx hb dX1_noteDifference_37 (by decide) ?_
    refine lv_goto (tgt := 42) hx hb dX1_noteDifference_38 (by decide) ?_
    refine lv_istore_n (lv' := [(3, .int 1), (2, .int ((g 0) - ((f 0) i))), (0, .ref (a 0)), (1, .int (nI i))]) hx hb dX1_noteDifference_42 rfl hl (by decide) rfl (fun ls hl => ?_)
    refine lv_aload_n hx hb dX1_noteDifference_43 rfl (lv_at hl 2 rfl) ?_
    refine lv_iload_n hx hb dX1_noteDifference_44 rfl (lv_at hl 0 rfl) ?_
    refine lv_if_eq (tgt := 57) hx hb dX1_noteDifference_45 (by decide) (fun c45 => ?_) (fun c45 => ?_)
    · exact absurd c45 (by decide)
    refine lv_aload_n hx hb dX1_noteDifference_48 rfl (lv_at hl 2 rfl) ?_
    refine dget (index := 173) (v := .int (g 11)) hx hb hts hinX1 hown hK hP 10 (by decide) (List.mem_of_getElem? (i := 4) rfl) rfl dX1_noteDifference_49 ?_
    refine lv_iconst (v := 1) hx hb dX1_noteDifference_52 (by decide) ?_
    refine lv_iadd hx hb dX1_noteDifference_53 ?_
    refine lv_goto (tgt := 58) hx hb dX1_noteDifference_54 (by decide) ?_
    refine dput (index := 173) (v := .int ((g 11) + 1)) (upd g 11 ((g 11) + 1)) tc hx hb hts hinX1 hown hK hP hap hS 10 (by decide) (List.mem_of_getElem? (i := 4) rfl) rfl rfl rfl rfl rfl dX1_noteDifference_58 (fun H locs hP hS => ?_)
    refine lv_aload_n hx hb dX1_noteDifference_61 rfl (lv_at hl 2 rfl) ?_
    refine lv_iload_n hx hb dX1_noteDifference_62 rfl (lv_at hl 1 rfl) ?_
    refine dput (index := 167) (v := .int ((g 0) - ((f 0) i))) (upd (upd g 11 ((g 11) + 1)) 10 ((g 0) - ((f 0) i))) tc hx hb hts hinX1 hown hK hP hap hS 11 (by decide) (List.mem_of_getElem? (i := 3) rfl) rfl rfl rfl rfl rfl dX1_noteDifference_63 (fun H locs hP hS => ?_)
    refine lv_aload_n hx hb dX1_noteDifference_66 rfl (lv_at hl 2 rfl) ?_
    refine lv_iload_n hx hb dX1_noteDifference_67 rfl (lv_at hl 3 rfl) ?_
    refine dput (index := 43) (v := .int (nI i)) (upd (upd (upd g 11 ((g 11) + 1)) 10 ((g 0) - ((f 0) i))) 9 (nI i)) tc hx hb hts hinX1 hown hK hP hap hS 12 (by decide) (List.mem_of_getElem? (i := 5) rfl) rfl rfl rfl rfl rfl dX1_noteDifference_68 (fun H locs hP hS => ?_)
    refine lv_aload_n hx hb dX1_noteDifference_71 rfl (lv_at hl 2 rfl) ?_
    refine dget (index := 173) (v := .int ((g 11) + 1)) hx hb hts hinX1 hown hK hP 10 (by decide) (List.mem_of_getElem? (i := 4) rfl) rfl dX1_noteDifference_72 ?_
    refine lv_iconst (v := 3) hx hb dX1_noteDifference_75 (by decide) ?_
    refine lv_icmp_lt (tgt := 101) hx hb dX1_noteDifference_76 (by decide) (fun c76 => ?_) (fun c76 => ?_)
    · have hrow : rowD g f i = (g 11 + 1) := by unfold rowD; rw [if_pos ⟨c26, c34⟩]
      have hP : va_P G vwCl (wD a cI cZ (cntG g (g 0 - f 0 i) (g 11 + 1) i) f cd tc) H := by unfold cntG; rw [if_pos (Or.inl c76)]; exact hP
      exact hret (cntG g (g 0 - f 0 i) (g 11 + 1) i, f, cd, tc) _ _ _ _ dX1_noteDifference_101 hP hS (by rw [hrow])
    refine lv_iload_n hx hb dX1_noteDifference_79 rfl (lv_at hl 1 rfl) ?_
    refine rdr_S (As := [.int ((g 0) - ((f 0) i))]) (rest := []) ⟨hx, hb, hml, hown, hts⟩ (kX1_canShift l G _ _ ((g 0) - ((f 0) i)) ) (va_cwS 1 hts gX1_noteDifference_X1_canShift rfl rfl rfl (by decide +kernel) ⟨Nat.le_of_ble_eq_true rfl, Nat.le_of_ble_eq_true rfl⟩)  hP hK rfl hl.1 rfl (Nat.le_of_ble_eq_true rfl) dX1_noteDifference_80 (by decide) (fun r80 h80 => ?_)
    replace h80 : r80 = bI (okS ((g 0) - ((f 0) i))) := h80
    subst h80
    refine lv_if_eq (tgt := 101) hx hb dX1_noteDifference_83 (by decide) (fun c83 => ?_) (fun c83 => ?_)
    · replace c83 := bI0 c83
      have hrow : rowD g f i = (g 11 + 1) := by unfold rowD; rw [if_pos ⟨c26, c34⟩]
      have hP : va_P G vwCl (wD a cI cZ (cntG g (g 0 - f 0 i) (g 11 + 1) i) f cd tc) H := by unfold cntG; rw [if_pos (Or.inr c83)]; exact hP
      exact hret (cntG g (g 0 - f 0 i) (g 11 + 1) i, f, cd, tc) _ _ _ _ dX1_noteDifference_101 hP hS (by rw [hrow])
    replace c83 := bIn c83
    refine lv_aload_n hx hb dX1_noteDifference_86 rfl (lv_at hl 2 rfl) ?_
    refine lv_dup hx hb dX1_noteDifference_87 rfl ?_
    refine dget (index := 123) (v := .int (g 8)) hx hb hts hinX1 hown hK hP 5 (by decide) (List.mem_of_getElem? (i := 6) rfl) rfl dX1_noteDifference_88 ?_
    refine lv_iload_n hx hb dX1_noteDifference_91 rfl (lv_at hl 1 rfl) ?_
    refine lv_iadd hx hb dX1_noteDifference_92 ?_
    refine dput (index := 123) (v := .int ((g 8) + ((g 0) - ((f 0) i)))) (upd (upd (upd (upd g 11 ((g 11) + 1)) 10 ((g 0) - ((f 0) i))) 9 (nI i)) 8 ((g 8) + ((g 0) - ((f 0) i)))) tc hx hb hts hinX1 hown hK hP hap hS 5 (by decide) (List.mem_of_getElem? (i := 6) rfl) rfl rfl rfl rfl rfl dX1_noteDifference_93 (fun H locs hP hS => ?_)
    refine lv_aload_n hx hb dX1_noteDifference_96 rfl (lv_at hl 2 rfl) ?_
    refine lv_iconst (v := 0) hx hb dX1_noteDifference_97 (by decide) ?_
    refine dput (index := 173) (v := .int 0) (upd (upd (upd (upd g 10 ((g 0) - ((f 0) i))) 9 (nI i)) 8 ((g 8) + ((g 0) - ((f 0) i)))) 11 0) tc hx hb hts hinX1 hown hK hP hap hS 10 (by decide) (List.mem_of_getElem? (i := 4) rfl) rfl rfl rfl rfl rfl dX1_noteDifference_98 (fun H locs hP hS => ?_)
    have hrow : rowD g f i = (g 11 + 1) := by unfold rowD; rw [if_pos ⟨c26, c34⟩]
    have hP : va_P G vwCl (wD a cI cZ (cntG g (g 0 - f 0 i) (g 11 + 1) i) f cd tc) H := by unfold cntG; rw [if_neg (fun q => q.elim c76 (by rw [c83]; decide))]; exact hP
    exact hret (cntG g (g 0 - f 0 i) (g 11 + 1) i, f, cd, tc) _ _ _ _ dX1_noteDifference_101 hP hS (by rw [hrow])
  replace c5 := bI0 c5
  exact absurd c5 (by simp [isF_nI (show i < 200 by omega), hnf])
set_option maxHeartbeats 4000000 in
set_option maxRecDepth 100000 in
theorem kX0_change (l : Launch) (G : va_G) (a : Nat → Nat) (cI cZ : ClassId) (g : Nat → Int32) (f : Nat → Nat → Int32) (cd : Nat → Int32) (tc : Int32) (hap : apart a 7) (sz : Nat) (p0 p1 p2 p3 : Int32) (hp2 : p2 = 0 ∨ p2 = 1): wrv l yX0_change wsX0_change { frames := 0, cells := 0, slots := 0, locals := 0 } G (wD a cI cZ g f cd tc) (tyIZ cI cZ) (aS a 7 sz) sz [.ref (a 1), .int p0, .int p1, .int p2, .int p3] (fun u => u = (upd (upd (upd (upd g 1 p0) 2 p1) 3 p2) 4 p3, f, cd, tc)) (wfD a cI cZ) := by
  refine wrv_of (cc := cX0_change) (nL := 5) (by decide) rfl (Nat.le_of_ble_eq_true rfl) ?_
  intro p e s m args below meth c H locs ls Q hx hb hml hown hts hP hK hS hret hl
  have hl : lv_has ls 5 [(0, .ref (a 1)), (1, .int p0), (2, .int p1), (3, .int p2), (4, .int p3)] := hl
  have hinX0 : ∀ w ∈ wsX00, w ∈ wsX0_change := by decide +kernel
  refine lv_aload_n hx hb dX0_change_0 rfl (lv_at hl 0 rfl) ?_
  refine lv_iload_n hx hb dX0_change_1 rfl (lv_at hl 1 rfl) ?_
  refine pput (index := 9) (v := .int p0) (upd g 1 p0) hx hb hts hinX0 hown hK hP hap hS 0 (by decide) (List.mem_of_getElem? (i := 1) rfl) rfl rfl rfl rfl rfl dX0_change_2 (fun H locs hP hS => ?_)
  refine lv_aload_n hx hb dX0_change_5 rfl (lv_at hl 0 rfl) ?_
  refine lv_iload_n hx hb dX0_change_6 rfl (lv_at hl 2 rfl) ?_
  refine pput (index := 15) (v := .int p1) (upd (upd g 1 p0) 2 p1) hx hb hts hinX0 hown hK hP hap hS 1 (by decide) (List.mem_of_getElem? (i := 2) rfl) rfl rfl rfl rfl rfl dX0_change_7 (fun H locs hP hS => ?_)
  refine lv_aload_n hx hb dX0_change_10 rfl (lv_at hl 0 rfl) ?_
  refine lv_iload_n hx hb dX0_change_11 rfl (lv_at hl 3 rfl) ?_
  refine pput (index := 18) (v := .int p2) (upd (upd (upd g 1 p0) 2 p1) 3 p2) hx hb hts hinX0 hown hK hP hap hS 2 (by decide) (List.mem_of_getElem? (i := 3) rfl) rfl (by rcases hp2 with q | q <;> rw [q] <;> rfl) (by rcases hp2 with q | q <;> rw [q] <;> rfl) rfl rfl dX0_change_12 (fun H locs hP hS => ?_)
  refine lv_aload_n hx hb dX0_change_15 rfl (lv_at hl 0 rfl) ?_
  refine lv_iload hx hb dX0_change_16 (lv_at hl 4 rfl) ?_
  refine pput (index := 22) (v := .int p3) (upd (upd (upd (upd g 1 p0) 2 p1) 3 p2) 4 p3) hx hb hts hinX0 hown hK hP hap hS 3 (by decide) (List.mem_of_getElem? (i := 4) rfl) rfl rfl rfl rfl rfl dX0_change_18 (fun H locs hP hS => ?_)
  exact hret ((upd (upd (upd (upd g 1 p0) 2 p1) 3 p2) 4 p3), f, cd, tc) _ _ _ _ dX0_change_21 hP hS rfl
set_option maxHeartbeats 4000000 in
set_option maxRecDepth 100000 in
theorem kX2_isIn (l : Launch) (G : va_G) (ws : va_W) (tys : List (ClassId × FieldType)) (p0 p1 p2 : Int32): rdr l yX2_isIn wsX2_isIn { frames := 0, cells := 0, slots := 0, locals := 0 } G ws tys [.int p0, .int p1, .int p2] (fun r => r = bI (isW p0 p1 p2)) := by
  refine rdr_of (cc := cX2_isIn) (nL := 3) (ty := .boolean) (by decide) rfl (Nat.le_of_ble_eq_true rfl) ?_
  intro p e s m args below meth c H ls Q hx hb hml hown hts hP hK hret hl
  have hl : lv_has ls 3 [(0, .int p0), (1, .int p1), (2, .int p2)] := hl
  refine lv_iload_n hx hb dX2_isIn_0 rfl (lv_at hl 0 rfl) ?_
  refine lv_iload_n hx hb dX2_isIn_1 rfl (lv_at hl 1 rfl) ?_
  refine lv_icmp_lt (tgt := 14) hx hb dX2_isIn_2 (by decide) (fun c2 => ?_) (fun c2 => ?_)
  · refine lv_iconst (v := 0) hx hb dX2_isIn_14 (by decide) ?_
    exact hret 0 _ _ dX2_isIn_15 rfl (by simp [bI, isW, c2])
  refine lv_iload_n hx hb dX2_isIn_5 rfl (lv_at hl 0 rfl) ?_
  refine lv_iload_n hx hb dX2_isIn_6 rfl (lv_at hl 2 rfl) ?_
  refine lv_icmp_gt (tgt := 14) hx hb dX2_isIn_7 (by decide) (fun c7 => ?_) (fun c7 => ?_)
  · refine lv_iconst (v := 0) hx hb dX2_isIn_14 (by decide) ?_
    exact hret 0 _ _ dX2_isIn_15 rfl (by simp [bI, isW, c2, c7])
  refine lv_iconst (v := 1) hx hb dX2_isIn_10 (by decide) ?_
  refine lv_goto (tgt := 15) hx hb dX2_isIn_11 (by decide) ?_
  exact hret 1 _ _ dX2_isIn_15 rfl (by simp [bI, isW, c2, c7])
set_option maxHeartbeats 4000000 in
set_option maxRecDepth 100000 in
theorem kX2_isIssue (l : Launch) (G : va_G) (ws : va_W) (tys : List (ClassId × FieldType)) (p0 : Int32): rdr l yX2_isIssue wsX2_isIssue { frames := 1, cells := 0, slots := 0, locals := 22 } G ws tys [.int p0] (fun r => r = bI (isI p0)) := by
  refine rdr_of (cc := cX2_isIssue) (nL := 1) (ty := .boolean) (by decide) rfl (Nat.le_of_ble_eq_true rfl) ?_
  intro p e s m args below meth c H ls Q hx hb hml hown hts hP hK hret hl
  have hl : lv_has ls 1 [(0, .int p0)] := hl
  refine lv_iload_n hx hb dX2_isIssue_0 rfl (lv_at hl 0 rfl) ?_
  refine lv_iconst (v := 0) hx hb dX2_isIssue_1 (by decide) ?_
  refine lv_sipush (v := 199) hx hb dX2_isIssue_2 (by decide) ?_
  refine rdr_S (As := [.int p0, .int 0, .int 199]) (rest := []) ⟨hx, hb, hml, hown, hts⟩ (kX2_isIn l G _ _ p0 0 199 ) (va_cwS 3 hts gX2_isIssue_X2_isIn rfl rfl rfl (by decide +kernel) ⟨Nat.le_of_ble_eq_true rfl, Nat.le_of_ble_eq_true rfl⟩)  hP hK rfl hl.1 rfl (Nat.le_of_ble_eq_true rfl) dX2_isIssue_5 (by decide) (fun r5 h5 => ?_)
  replace h5 : r5 = bI (isW p0 0 199) := h5
  subst h5
  exact hret (bI (isW p0 0 199)) _ _ dX2_isIssue_8 (bIr _) (by rw [isW_I])
set_option maxHeartbeats 4000000 in
set_option maxRecDepth 100000 in
theorem kX2_isForetold (l : Launch) (G : va_G) (a : Nat → Nat) (cI cZ : ClassId) (g : Nat → Int32) (f : Nat → Nat → Int32) (tc : Int32) (p0 : Int32) (hNN : NN g): rdr l yX2_isForetold wsX2_isForetold { frames := 1, cells := 0, slots := 0, locals := 22 } G (wM a cI cZ g f tc) (tyIZ cI cZ) [.ref (a 0), .int p0] (fun r => r = bI (isF g p0)) := by
  refine rdr_of (cc := cX2_isForetold) (nL := 2) (ty := .boolean) (by decide) rfl (Nat.le_of_ble_eq_true rfl) ?_
  intro p e s m args below meth c H ls Q hx hb hml hown hts hP hK hret hl
  have hl : lv_has ls 2 [(0, .ref (a 0)), (1, .int p0)] := hl
  have hinX2 : ∀ w ∈ wsX20, w ∈ wsX2_isForetold := by decide +kernel
  refine lv_iload_n hx hb dX2_isForetold_0 rfl (lv_at hl 1 rfl) ?_
  refine lv_iconst (v := 0) hx hb dX2_isForetold_1 (by decide) ?_
  refine lv_aload_n hx hb dX2_isForetold_2 rfl (lv_at hl 0 rfl) ?_
  refine mget (index := 46) (v := .int (g 7)) hx hb hts hinX2 hown hK hP 7 (by decide) (List.mem_of_getElem? (i := 1) rfl) rfl dX2_isForetold_3 ?_
  refine lv_iconst (v := 1) hx hb dX2_isForetold_6 (by decide) ?_
  refine lv_isub hx hb dX2_isForetold_7 ?_
  refine rdr_S (As := [.int p0, .int 0, .int ((g 7) - 1)]) (rest := []) ⟨hx, hb, hml, hown, hts⟩ (kX2_isIn l G _ _ p0 0 ((g 7) - 1) ) (va_cwS 3 hts gX2_isForetold_X2_isIn rfl rfl rfl (by decide +kernel) ⟨Nat.le_of_ble_eq_true rfl, Nat.le_of_ble_eq_true rfl⟩)  hP hK rfl hl.1 rfl (Nat.le_of_ble_eq_true rfl) dX2_isForetold_8 (by decide) (fun r8 h8 => ?_)
  replace h8 : r8 = bI (isW p0 0 ((g 7) - 1)) := h8
  subst h8
  exact hret (bI (isW p0 0 ((g 7) - 1))) _ _ dX2_isForetold_11 (bIr _) (by rw [isW_F hNN])
set_option maxHeartbeats 4000000 in
set_option maxRecDepth 100000 in
theorem kX2_can (l : Launch) (G : va_G) (a : Nat → Nat) (cI cZ : ClassId) (g : Nat → Int32) (f : Nat → Nat → Int32) (tc : Int32) (hap : apart a 6) (sz : Nat) (p0 : Int32): wri l yX2_can wsX2_can { frames := 0, cells := 0, slots := 0, locals := 0 } G (wM a cI cZ g f tc) (tyIZ cI cZ) (aS a 6 sz) sz [.ref (a 0), .int p0] (fun r u => r = bI (decide (p0 = 0)) ∧ u = (g, f, p0)) (wfM a cI cZ) := by
  refine wri_of (cc := cX2_can) (nL := 2) (ty := .boolean) (by decide) rfl (Nat.le_of_ble_eq_true rfl) ?_
  intro p e s m args below meth c H locs ls Q hx hb hml hown hts hP hK hS hret hl
  have hl : lv_has ls 2 [(0, .ref (a 0)), (1, .int p0)] := hl
  have hinX2 : ∀ w ∈ wsX20, w ∈ wsX2_can := by decide +kernel
  refine lv_aload_n hx hb dX2_can_0 rfl (lv_at hl 0 rfl) ?_
  refine lv_iload_n hx hb dX2_can_1 rfl (lv_at hl 1 rfl) ?_
  refine mput (index := 49) (v := .int p0) g p0 hx hb hts hinX2 hown hK hP hap hS 17 (by decide) (List.mem_of_getElem? (i := 1) rfl) rfl rfl rfl rfl dX2_can_2 (fun H locs hP hS => ?_)
  refine lv_iload_n hx hb dX2_can_5 rfl (lv_at hl 1 rfl) ?_
  refine lv_if_ne (tgt := 13) hx hb dX2_can_6 (by decide) (fun c6 => ?_) (fun c6 => ?_)
  · refine lv_iconst (v := 0) hx hb dX2_can_13 (by decide) ?_
    exact hret 0 (g, f, p0) _ _ _ _ dX2_can_14 rfl hP hS ⟨by simp [bI, c6], rfl⟩
  refine lv_iconst (v := 1) hx hb dX2_can_9 (by decide) ?_
  refine lv_goto (tgt := 14) hx hb dX2_can_10 (by decide) ?_
  exact hret 1 (g, f, p0) _ _ _ _ dX2_can_14 rfl hP hS ⟨by simp [bI, c6], rfl⟩
set_option maxHeartbeats 4000000 in
set_option maxRecDepth 100000 in
theorem kX2_isBarred (l : Launch) (G : va_G) (a : Nat → Nat) (cI cZ : ClassId) (g : Nat → Int32) (f : Nat → Nat → Int32) (tc : Int32) (p0 : Int32): rdr l yX2_isBarred wsX2_isBarred { frames := 0, cells := 0, slots := 0, locals := 0 } G (wM a cI cZ g f tc) (tyIZ cI cZ) [.ref (a 0), .int p0] (fun r => r = bI (bar g p0)) := by
  refine rdr_of (cc := cX2_isBarred) (nL := 2) (ty := .boolean) (by decide) rfl (Nat.le_of_ble_eq_true rfl) ?_
  intro p e s m args below meth c H ls Q hx hb hml hown hts hP hK hret hl
  have hl : lv_has ls 2 [(0, .ref (a 0)), (1, .int p0)] := hl
  have hinX2 : ∀ w ∈ wsX20, w ∈ wsX2_isBarred := by decide +kernel
  refine lv_aload_n hx hb dX2_isBarred_0 rfl (lv_at hl 0 rfl) ?_
  refine mget (index := 56) (v := .int (g 4)) hx hb hts hinX2 hown hK hP 4 (by decide) (List.mem_of_getElem? (i := 1) rfl) rfl dX2_isBarred_1 ?_
  refine lv_iload_n hx hb dX2_isBarred_4 rfl (lv_at hl 1 rfl) ?_
  refine lv_bipush (v := 30) hx hb dX2_isBarred_5 (by decide) ?_
  refine lv_idiv hx hb dX2_isBarred_7 (by decide) ?_
  refine lv_bipush (v := 12) hx hb dX2_isBarred_8 (by decide) ?_
  refine lv_irem hx hb dX2_isBarred_10 (by decide) ?_
  refine lv_ishr hx hb dX2_isBarred_11 ?_
  refine lv_iconst (v := 1) hx hb dX2_isBarred_12 (by decide) ?_
  refine lv_iand hx hb dX2_isBarred_13 ?_
  refine lv_iconst (v := 1) hx hb dX2_isBarred_14 (by decide) ?_
  refine lv_icmp_ne (tgt := 22) hx hb dX2_isBarred_15 (by decide) (fun c15 => ?_) (fun c15 => ?_)
  · refine lv_iconst (v := 0) hx hb dX2_isBarred_22 (by decide) ?_
    exact hret 0 _ _ dX2_isBarred_23 rfl (by have e : barV g p0 = 0 := ((and1 _).resolve_right c15); simp [bI, bar, e])
  refine lv_iconst (v := 1) hx hb dX2_isBarred_18 (by decide) ?_
  refine lv_goto (tgt := 23) hx hb dX2_isBarred_19 (by decide) ?_
  exact hret 1 _ _ dX2_isBarred_23 rfl (by have e : barV g p0 = 1 := (c15); simp [bI, bar, e])
set_option maxHeartbeats 4000000 in
set_option maxRecDepth 100000 in
theorem kX2_nextDay (l : Launch) (G : va_G) (a : Nat → Nat) (cI cZ : ClassId) (g : Nat → Int32) (f : Nat → Nat → Int32) (tc : Int32) (ct : Nat) (hc : ct ≤ 512) (hI : Inv ct g f): rdr l yX2_nextDay wsX2_nextDay { frames := 1, cells := 0, slots := 0, locals := 21 } G (wM a cI cZ g f tc) (tyIZ cI cZ) [.ref (a 0)] (fun r => r = nd g f) := by
  obtain ⟨N, d, e7, h1, h2, e0, ed, hd2, hd3, -, hD1, hD2⟩ := inv_d0 hc hI
  obtain ⟨K, hKn, hk⟩ := hI.2.2.2.1
  obtain ⟨r0, hr1, hr2, hr3⟩ := num_unbar (n := d0N g f) hKn hk (by omega)
  refine rdr_of (cc := cX2_nextDay) (nL := 3) (ty := .int) (by decide) rfl (Nat.le_of_ble_eq_true rfl) ?_
  intro p e s m args below meth c H ls Q hx hb hml hown hts hP hK hret hl
  have hl : lv_has ls 3 [(0, .ref (a 0))] := hl
  have hinX2 : ∀ w ∈ wsX20, w ∈ wsX2_nextDay := by decide +kernel
  refine lv_aload_n hx hb dX2_nextDay_0 rfl (lv_at hl 0 rfl) ?_
  refine mget (index := 26) (v := .ref (a 1)) hx hb hts hinX2 hown hK hP 8 (by decide) (List.mem_of_getElem? (i := 1) rfl) rfl dX2_nextDay_1 ?_
  refine lv_aload_n hx hb dX2_nextDay_4 rfl (lv_at hl 0 rfl) ?_
  refine mget (index := 46) (v := .int (g 7)) hx hb hts hinX2 hown hK hP 7 (by decide) (List.mem_of_getElem? (i := 2) rfl) rfl dX2_nextDay_5 ?_
  refine lv_iconst (v := 1) hx hb dX2_nextDay_8 (by decide) ?_
  refine lv_isub hx hb dX2_nextDay_9 ?_
  refine top_eq (z := nI (N - 1)) (by rw [e7]; exact pk_sub (b := 1) h1) ?_
  refine arI (j := (N - 1)) (h := (f 0)) hx hb hK hP 1 rfl rfl (by omega) dX2_nextDay_10 ?_
  refine lv_istore_n (lv' := [(1, .int ((f 0) (N - 1))), (0, .ref (a 0))]) hx hb dX2_nextDay_11 rfl hl (by decide) rfl (fun ls hl => ?_)
  refine lv_iload_n hx hb dX2_nextDay_12 rfl (lv_at hl 0 rfl) ?_
  refine lv_aload_n hx hb dX2_nextDay_13 rfl (lv_at hl 1 rfl) ?_
  refine mget (index := 7) (v := .int (g 1)) hx hb hts hinX2 hown hK hP 1 (by decide) (List.mem_of_getElem? (i := 3) rfl) rfl dX2_nextDay_14 ?_
  refine lv_iadd hx hb dX2_nextDay_17 ?_
  refine lv_aload_n hx hb dX2_nextDay_18 rfl (lv_at hl 1 rfl) ?_
  refine mget (index := 59) (v := .int (g 8)) hx hb hts hinX2 hown hK hP 13 (by decide) (List.mem_of_getElem? (i := 4) rfl) rfl dX2_nextDay_19 ?_
  refine lv_iadd hx hb dX2_nextDay_22 ?_
  refine lv_istore_n (lv' := [(2, .int ((((f 0) (N - 1)) + (g 1)) + (g 8))), (1, .int ((f 0) (N - 1))), (0, .ref (a 0))]) hx hb dX2_nextDay_23 rfl hl (by decide) rfl (fun ls hl => ?_)
  refine lv_iload_n hx hb dX2_nextDay_24 rfl (lv_at hl 0 rfl) ?_
  refine lv_iload_n hx hb dX2_nextDay_25 rfl (lv_at hl 1 rfl) ?_
  refine lv_icmp_le (tgt := 33) hx hb dX2_nextDay_26 (by decide) (fun c26 => ?_) (fun c26 => ?_)
  · refine lv_iload_n hx hb dX2_nextDay_33 rfl (lv_at hl 1 rfl) ?_
    refine lv_iconst (v := 1) hx hb dX2_nextDay_34 (by decide) ?_
    refine lv_iadd hx hb dX2_nextDay_35 ?_
    refine top_eq (z := nI (d0N g f)) (hD2 (Int32.not_lt.mpr c26)) ?_
    refine lv_istore_n (lv' := [(2, .int (nI (d0N g f))), (1, .int ((f 0) (N - 1))), (0, .ref (a 0))]) hx hb dX2_nextDay_36 rfl hl (by decide) rfl (fun ls hl => ?_)
    have loop37 : ∀ (n : Nat) (d : Nat), d0N g f ≤ d → d ≤ r0 → (∀ e, d0N g f ≤ e → e < d → bar g (nI e) = true) → r0 - d < n → ∀ (ls : Array Slot), lv_has ls 3 [(0, .ref (a 0)), (1, .int (f 0 (N - 1))), (2, .int (nI d))] → W p l e { frames := 1, cells := 0, slots := 0, locals := 21 } s m args below meth c H [] 0 0 Q (F0 m 37 ls []) := by
      intro n
      induction n with
      | zero => intro d h3 h4 hall hn; exact absurd hn (Nat.not_lt_zero _)
      | succ n ih37 =>
        intro d h3 h4 hall hn ls hl
        refine lv_aload_n hx hb dX2_nextDay_37 rfl (lv_at hl 0 rfl) ?_
        refine lv_iload_n hx hb dX2_nextDay_38 rfl (lv_at hl 2 rfl) ?_
        refine rdr_V (As := [.int (nI d)]) (rest := []) ⟨hx, hb, hml, hown, hts⟩ (kX2_isBarred l G a cI cZ g f tc (nI d) ) (cwV 1 hts gX2_nextDay_X2_isBarred rfl rfl rfl (by decide +kernel) ⟨Nat.le_of_ble_eq_true rfl, Nat.le_of_ble_eq_true rfl⟩) (va_recv hK hP (ci := 2) (q0 := 0) rfl rfl) hP hK rfl hl.1 rfl (Nat.le_of_ble_eq_true rfl) dX2_nextDay_39 (by decide) (fun r39 h39 => ?_)
        replace h39 : r39 = bI (bar g (nI d)) := h39
        subst h39
        refine lv_if_eq (tgt := 51) hx hb dX2_nextDay_42 (by decide) (fun c42 => ?_) (fun c42 => ?_)
        · replace c42 := bI0 c42
          refine lv_iload_n hx hb dX2_nextDay_51 rfl (lv_at hl 2 rfl) ?_
          exact hret (nI d) _ _ dX2_nextDay_52 rfl (by unfold nd; rw [nx_eq c42 h3 (by omega) hall])
        replace c42 := bIn c42
        refine lv_iinc (v := nI (d + 1)) (lv' := [(2, .int (nI (d + 1))), (0, .ref (a 0)), (1, .int (f 0 (N - 1)))]) hx hb dX2_nextDay_45 hl (k := 2) rfl (nI_1 _) (by decide) rfl (fun ls hl => ?_)
        refine lv_goto (tgt := 37) hx hb dX2_nextDay_48 (by decide) ?_
        exact ih37 (d + 1) (by omega) (by have hne : d ≠ r0 := (fun q => by rw [q, hr3] at c42; exact absurd c42 (by decide)); omega) (fun e h5 h6 => by rcases Nat.lt_or_ge e d with q | q; exact hall e h5 q; rw [show e = d by omega]; exact c42) (by have hne : d ≠ r0 := (fun q => by rw [q, hr3] at c42; exact absurd c42 (by decide)); omega) _ (lv_sub hl [1, 2, 0] rfl)
    exact loop37 (r0 - d0N g f + 1) (d0N g f) (Nat.le_refl _) hr1 (by omega) (by omega) _ (lv_sub hl [2, 1, 0] rfl)
  refine lv_iload_n hx hb dX2_nextDay_29 rfl (lv_at hl 0 rfl) ?_
  refine lv_goto (tgt := 36) hx hb dX2_nextDay_30 (by decide) ?_
  refine top_eq (z := nI (d0N g f)) (hD1 (Int32.not_le.mp c26)) ?_
  refine lv_istore_n (lv' := [(2, .int (nI (d0N g f))), (1, .int ((f 0) (N - 1))), (0, .ref (a 0))]) hx hb dX2_nextDay_36 rfl hl (by decide) rfl (fun ls hl => ?_)
  have loop37 : ∀ (n : Nat) (d : Nat), d0N g f ≤ d → d ≤ r0 → (∀ e, d0N g f ≤ e → e < d → bar g (nI e) = true) → r0 - d < n → ∀ (ls : Array Slot), lv_has ls 3 [(0, .ref (a 0)), (1, .int (f 0 (N - 1))), (2, .int (nI d))] → W p l e { frames := 1, cells := 0, slots := 0, locals := 21 } s m args below meth c H [] 0 0 Q (F0 m 37 ls []) := by
    intro n
    induction n with
    | zero => intro d h3 h4 hall hn; exact absurd hn (Nat.not_lt_zero _)
    | succ n ih37 =>
      intro d h3 h4 hall hn ls hl
      refine lv_aload_n hx hb dX2_nextDay_37 rfl (lv_at hl 0 rfl) ?_
      refine lv_iload_n hx hb dX2_nextDay_38 rfl (lv_at hl 2 rfl) ?_
      refine rdr_V (As := [.int (nI d)]) (rest := []) ⟨hx, hb, hml, hown, hts⟩ (kX2_isBarred l G a cI cZ g f tc (nI d) ) (cwV 1 hts gX2_nextDay_X2_isBarred rfl rfl rfl (by decide +kernel) ⟨Nat.le_of_ble_eq_true rfl, Nat.le_of_ble_eq_true rfl⟩) (va_recv hK hP (ci := 2) (q0 := 0) rfl rfl) hP hK rfl hl.1 rfl (Nat.le_of_ble_eq_true rfl) dX2_nextDay_39 (by decide) (fun r39 h39 => ?_)
      replace h39 : r39 = bI (bar g (nI d)) := h39
      subst h39
      refine lv_if_eq (tgt := 51) hx hb dX2_nextDay_42 (by decide) (fun c42 => ?_) (fun c42 => ?_)
      · replace c42 := bI0 c42
        refine lv_iload_n hx hb dX2_nextDay_51 rfl (lv_at hl 2 rfl) ?_
        exact hret (nI d) _ _ dX2_nextDay_52 rfl (by unfold nd; rw [nx_eq c42 h3 (by omega) hall])
      replace c42 := bIn c42
      refine lv_iinc (v := nI (d + 1)) (lv' := [(2, .int (nI (d + 1))), (0, .ref (a 0)), (1, .int (f 0 (N - 1)))]) hx hb dX2_nextDay_45 hl (k := 2) rfl (nI_1 _) (by decide) rfl (fun ls hl => ?_)
      refine lv_goto (tgt := 37) hx hb dX2_nextDay_48 (by decide) ?_
      exact ih37 (d + 1) (by omega) (by have hne : d ≠ r0 := (fun q => by rw [q, hr3] at c42; exact absurd c42 (by decide)); omega) (fun e h5 h6 => by rcases Nat.lt_or_ge e d with q | q; exact hall e h5 q; rw [show e = d by omega]; exact c42) (by have hne : d ≠ r0 := (fun q => by rw [q, hr3] at c42; exact absurd c42 (by decide)); omega) _ (lv_sub hl [1, 2, 0] rfl)
  exact loop37 (r0 - d0N g f + 1) (d0N g f) (Nat.le_refl _) hr1 (by omega) (by omega) _ (lv_sub hl [2, 1, 0] rfl)
set_option maxHeartbeats 4000000 in
set_option maxRecDepth 100000 in
theorem kX2_foretells (l : Launch) (G : va_G) (a : Nat → Nat) (cI cZ : ClassId) (g : Nat → Int32) (f : Nat → Nat → Int32) (tc : Int32) (hap : apart a 6) (sz : Nat) (N ct : Nat) (hc : ct ≤ 512) (hI : Inv ct g f) (hN : g 7 = nI N) (hlt : N < 200): wrv l yX2_foretells wsX2_foretells { frames := 2, cells := 0, slots := 0, locals := 43 } G (wM a cI cZ g f tc) (tyIZ cI cZ) (aS a 6 sz) sz [.ref (a 0)] (fun u => u = (foreG g, foreF g f, tc)) (wfM a cI cZ) := by
  have eN : g 7 = nI (g 7).toNatClampNeg := by rw [hN, nI_clamp (by omega)]
  have hjN : (g 7).toNatClampNeg < 200 := by rw [hN, nI_clamp (by omega)]; exact hlt
  refine wrv_of (cc := cX2_foretells) (nL := 1) (by decide) rfl (Nat.le_of_ble_eq_true rfl) ?_
  intro p e s m args below meth c H locs ls Q hx hb hml hown hts hP hK hS hret hl
  have hl : lv_has ls 1 [(0, .ref (a 0))] := hl
  have hinX2 : ∀ w ∈ wsX20, w ∈ wsX2_foretells := by decide +kernel
  refine lv_aload_n hx hb dX2_foretells_0 rfl (lv_at hl 0 rfl) ?_
  refine mget (index := 26) (v := .ref (a 1)) hx hb hts hinX2 hown hK hP 8 (by decide) (List.mem_of_getElem? (i := 1) rfl) rfl dX2_foretells_1 ?_
  refine lv_aload_n hx hb dX2_foretells_4 rfl (lv_at hl 0 rfl) ?_
  refine mget (index := 46) (v := .int (g 7)) hx hb hts hinX2 hown hK hP 7 (by decide) (List.mem_of_getElem? (i := 2) rfl) rfl dX2_foretells_5 ?_
  refine lv_aload_n hx hb dX2_foretells_8 rfl (lv_at hl 0 rfl) ?_
  refine rdr_V (As := []) (rest := [.int (g 7), .ref (a 1)]) ⟨hx, hb, hml, hown, hts⟩ (kX2_nextDay l G a cI cZ g f tc  ct hc hI) (cwV 0 hts gX2_foretells_X2_nextDay rfl rfl rfl (by decide +kernel) ⟨Nat.le_of_ble_eq_true rfl, Nat.le_of_ble_eq_true rfl⟩) (va_recv hK hP (ci := 2) (q0 := 0) rfl rfl) hP hK rfl hl.1 rfl (Nat.le_of_ble_eq_true rfl) dX2_foretells_9 (by decide) (fun r9 h9 => ?_)
  replace h9 : r9 = nd g f := h9
  subst h9
  refine asI (j := (g 7).toNatClampNeg) (h := (f 0)) (x := nd g f) (wM a cI cZ g (up2 f 0 (upd (f 0) ((g 7).toNatClampNeg) (nd g f))) tc) hx hb hK hP (wM_D hap _) hS 1 rfl eN hjN rfl dX2_foretells_12 (fun H locs hP hS => ?_)
  refine lv_aload_n hx hb dX2_foretells_13 rfl (lv_at hl 0 rfl) ?_
  refine lv_iconst (v := 0) hx hb dX2_foretells_14 (by decide) ?_
  refine mput (index := 59) (v := .int 0) (upd g 8 0) tc hx hb hts hinX2 hown hK hP hap hS 13 (by decide) (List.mem_of_getElem? (i := 3) rfl) rfl rfl rfl rfl dX2_foretells_15 (fun H locs hP hS => ?_)
  refine lv_aload_n hx hb dX2_foretells_18 rfl (lv_at hl 0 rfl) ?_
  refine lv_dup hx hb dX2_foretells_19 rfl ?_
  refine mget (index := 46) (v := .int (g 7)) hx hb hts hinX2 hown hK hP 7 (by decide) (List.mem_of_getElem? (i := 2) rfl) rfl dX2_foretells_20 ?_
  refine lv_iconst (v := 1) hx hb dX2_foretells_23 (by decide) ?_
  refine lv_iadd hx hb dX2_foretells_24 ?_
  refine mput (index := 46) (v := .int ((g 7) + 1)) (upd (upd g 8 0) 7 ((g 7) + 1)) tc hx hb hts hinX2 hown hK hP hap hS 7 (by decide) (List.mem_of_getElem? (i := 2) rfl) rfl rfl rfl rfl dX2_foretells_25 (fun H locs hP hS => ?_)
  exact hret (foreG g, foreF g f, tc) _ _ _ _ dX2_foretells_28 hP hS rfl
set_option maxHeartbeats 4000000 in
set_option maxRecDepth 100000 in
theorem kX2_looks (l : Launch) (G : va_G) (a : Nat → Nat) (cI cZ : ClassId) (g : Nat → Int32) (f : Nat → Nat → Int32) (tc : Int32) (hap : apart a 6) (sz : Nat) (ct : Nat) (hc : ct ≤ 512) (hI : Inv ct g f): wrv l yX2_looks wsX2_looks { frames := 3, cells := 0, slots := 0, locals := 63 } G (wM a cI cZ g f tc) (tyIZ cI cZ) (aS a 6 sz) sz [.ref (a 0)] (fun u => u = ((lkF (200 - (g 7).toNatClampNeg) (g, f)).1, (lkF (200 - (g 7).toNatClampNeg) (g, f)).2, tc)) (wfM a cI cZ) := by
  obtain ⟨N, e7, h1, h2, h3, h4⟩ := inv_N hI
  refine wrv_of (cc := cX2_looks) (nL := 1) (by decide) rfl (Nat.le_of_ble_eq_true rfl) ?_
  intro p e s m args below meth c H locs ls Q hx hb hml hown hts hP hK hS hret hl
  have hl : lv_has ls 1 [(0, .ref (a 0))] := hl
  have hinX2 : ∀ w ∈ wsX20, w ∈ wsX2_looks := by decide +kernel
  have loop0 : ∀ (n : Nat) (g1 : Nat → Int32) (f1 : Nat → Nat → Int32) (M : Nat), g1 7 = nI M → M ≤ 200 → Inv ct g1 f1 → lkF (200 - M) (g1, f1) = lkF (200 - (g 7).toNatClampNeg) (g, f) → 200 - M < n → ∀ (H : Heap) (locs : List Loc), va_P G vwCl (wM a cI cZ g1 f1 tc) H → va_S (aS a 6 s.heap.size) s.heap H locs → ∀ (ls : Array Slot), lv_has ls 1 [(0, .ref (a 0))] → W p l e { frames := 3, cells := 0, slots := 0, locals := 63 } s m args below meth c H locs 0 0 Q (F0 m 0 ls []) := by
    intro n
    induction n with
    | zero => intro g1 f1 M hM hM2 hI1 hq hn; intros; exact absurd hn (Nat.not_lt_zero _)
    | succ n ih0 =>
      intro g1 f1 M hM hM2 hI1 hq hn H locs hP hS ls hl
      refine lv_aload_n hx hb dX2_looks_0 rfl (lv_at hl 0 rfl) ?_
      refine mget (index := 46) (v := .int (g1 7)) hx hb hts hinX2 hown hK hP 7 (by decide) (List.mem_of_getElem? (i := 1) rfl) rfl dX2_looks_1 ?_
      refine lv_sipush (v := 200) hx hb dX2_looks_4 (by decide) ?_
      refine lv_icmp_ge (tgt := 28) hx hb dX2_looks_7 (by decide) (fun c7 => ?_) (fun c7 => ?_)
      · rw [hM] at c7
        have ei := ge_200 c7 hM2
        exact hret (g1, f1, tc) _ _ _ _ dX2_looks_28 hP hS (by rw [← hq, ei]; rfl)
      rw [hM] at c7
      have hi2 := nge_200 c7 hM2
      refine lv_aload_n hx hb dX2_looks_10 rfl (lv_at hl 0 rfl) ?_
      refine rdr_V (As := []) (rest := []) ⟨hx, hb, hml, hown, hts⟩ (kX2_nextDay l G a cI cZ g1 f1 tc  ct hc hI1) (cwV 0 hts gX2_looks_X2_nextDay rfl rfl rfl (by decide +kernel) ⟨Nat.le_of_ble_eq_true rfl, Nat.le_of_ble_eq_true rfl⟩) (va_recv hK hP (ci := 2) (q0 := 0) rfl rfl) hP hK rfl hl.1 rfl (Nat.le_of_ble_eq_true rfl) dX2_looks_11 (by decide) (fun r11 h11 => ?_)
      replace h11 : r11 = nd g1 f1 := h11
      subst h11
      refine lv_aload_n hx hb dX2_looks_14 rfl (lv_at hl 0 rfl) ?_
      refine mget (index := 70) (v := .int (g1 0)) hx hb hts hinX2 hown hK hP 0 (by decide) (List.mem_of_getElem? (i := 2) rfl) rfl dX2_looks_15 ?_
      refine lv_icmp_gt (tgt := 28) hx hb dX2_looks_18 (by decide) (fun c18 => ?_) (fun c18 => ?_)
      · exact hret (g1, f1, tc) _ _ _ _ dX2_looks_28 hP hS (by rw [← hq, show 200 - M = (200 - (M + 1)) + 1 by omega]; rw [lkF_step, if_pos c18])
      refine lv_aload_n hx hb dX2_looks_21 rfl (lv_at hl 0 rfl) ?_
      refine wrv_V (As := []) (rest := []) ⟨hx, hb, hml, hown, hts⟩ (kX2_foretells l G a cI cZ g1 f1 tc hap _  M ct hc hI1 hM (by omega)) (cwV 0 hts gX2_looks_X2_foretells rfl rfl rfl (by decide +kernel) ⟨Nat.le_of_ble_eq_true rfl, Nat.le_of_ble_eq_true rfl⟩) (va_recv hK hP (ci := 2) (q0 := 0) rfl rfl) hP hK hS rfl hl.1 rfl (Nat.le_of_ble_eq_true rfl) dX2_looks_22 (by decide) (fun u22 H locs h22 hP hS => ?_)
      subst h22
      have hP : va_P G vwCl (wM a cI cZ (foreG g1) (foreF g1 f1) tc) H := hP
      obtain ⟨hI2, e72⟩ := inv_fore hc hI1 hM (show M < 200 by omega)
      refine lv_goto (tgt := 0) hx hb dX2_looks_25 (by decide) ?_
      exact ih0 (foreG g1) (foreF g1 f1) (M + 1) e72 (by omega) hI2 (by rw [← hq, show 200 - M = (200 - (M + 1)) + 1 by omega]; rw [lkF_step, if_neg c18]) (by omega) _ _ hP hS _ (lv_sub hl [0] rfl)
  exact loop0 201 g f N e7 h2 hI (by rw [h3]) (by omega) _ _ hP hS _ (lv_sub hl [0] rfl)
set_option maxHeartbeats 4000000 in
set_option maxRecDepth 100000 in
theorem kX2_isOpen (l : Launch) (G : va_G) (a : Nat → Nat) (cI cZ : ClassId) (g : Nat → Int32) (f : Nat → Nat → Int32) (tc : Int32) (F b : Nat) (hFb : F + b < 200): rdr l yX2_isOpen wsX2_isOpen { frames := 0, cells := 0, slots := 0, locals := 0 } G (wM a cI cZ g f tc) (tyIZ cI cZ) [.ref (a 0), .int (nI F), .int (nI b)] (fun r => r = bI (allR (opB g f) F (F + b + 1 - F))) := by
  refine rdr_of (cc := cX2_isOpen) (nL := 5) (ty := .boolean) (by decide) rfl (Nat.le_of_ble_eq_true rfl) ?_
  intro p e s m args below meth c H ls Q hx hb hml hown hts hP hK hret hl
  have hl : lv_has ls 5 [(0, .ref (a 0)), (1, .int (nI F)), (2, .int (nI b))] := hl
  have hinX2 : ∀ w ∈ wsX20, w ∈ wsX2_isOpen := by decide +kernel
  refine lv_iconst (v := 1) hx hb dX2_isOpen_0 (by decide) ?_
  refine lv_istore_n (lv' := [(3, .int 1), (0, .ref (a 0)), (1, .int (nI F)), (2, .int (nI b))]) hx hb dX2_isOpen_1 rfl hl (by decide) rfl (fun ls hl => ?_)
  refine lv_iload_n hx hb dX2_isOpen_2 rfl (lv_at hl 2 rfl) ?_
  refine lv_istore (lv' := [(4, .int (nI F)), (3, .int 1), (0, .ref (a 0)), (1, .int (nI F)), (2, .int (nI b))]) hx hb dX2_isOpen_3 hl (by decide) rfl (fun ls hl => ?_)
  have loop5 : ∀ (n : Nat) (k : Nat) (y : Bool), F ≤ k → k ≤ F + b + 1 → (y && allR (opB g f) k (F + b + 1 - k)) = allR (opB g f) F (F + b + 1 - F) → F + b + 1 - k < n → ∀ (ls : Array Slot), lv_has ls 5 [(0, .ref (a 0)), (1, .int (nI F)), (2, .int (nI b)), (3, .int (bI y)), (4, .int (nI k))] → W p l e { frames := 0, cells := 0, slots := 0, locals := 0 } s m args below meth c H [] 0 0 Q (F0 m 5 ls []) := by
    intro n
    induction n with
    | zero => intro k y hk0 hk hq hn; exact absurd hn (Nat.not_lt_zero _)
    | succ n ih5 =>
      intro k y hk0 hk hq hn ls hl
      refine lv_iload hx hb dX2_isOpen_5 (lv_at hl 4 rfl) ?_
      refine lv_iload_n hx hb dX2_isOpen_7 rfl (lv_at hl 1 rfl) ?_
      refine lv_iload_n hx hb dX2_isOpen_8 rfl (lv_at hl 2 rfl) ?_
      refine lv_iadd hx hb dX2_isOpen_9 ?_
      refine top_eq (z := nI (F + b)) (nI_add _ _) ?_
      refine lv_icmp_gt (tgt := 48) hx hb dX2_isOpen_10 (by decide) (fun c10 => ?_) (fun c10 => ?_)
      · have ek : k = F + b + 1 := by have := lt_nI (a := F + b) (b := k) (by omega) (by omega) c10; omega
        refine lv_iload_n hx hb dX2_isOpen_48 rfl (lv_at hl 3 rfl) ?_
        exact hret (bI y) _ _ dX2_isOpen_49 (bIr _) (by rw [← hq, ek, Nat.sub_self]; simp [allR])
      have hk2 : k ≤ F + b := nlt_nI (by omega) (by omega) c10
      refine lv_iload_n hx hb dX2_isOpen_13 rfl (lv_at hl 3 rfl) ?_
      refine lv_if_eq (tgt := 40) hx hb dX2_isOpen_14 (by decide) (fun c14 => ?_) (fun c14 => ?_)
      · replace c14 := bI0 c14
        refine lv_iconst (v := 0) hx hb dX2_isOpen_40 (by decide) ?_
        refine lv_istore_n (lv' := [(3, .int 0), (0, .ref (a 0)), (1, .int (nI F)), (2, .int (nI b)), (4, .int (nI k))]) hx hb dX2_isOpen_41 rfl hl (by decide) rfl (fun ls hl => ?_)
        refine lv_iinc (v := nI (k + 1)) (lv' := [(4, .int (nI (k + 1))), (3, .int 0), (0, .ref (a 0)), (1, .int (nI F)), (2, .int (nI b))]) hx hb dX2_isOpen_42 hl (k := 4) rfl (nI_1 _) (by decide) rfl (fun ls hl => ?_)
        refine lv_goto (tgt := 5) hx hb dX2_isOpen_45 (by decide) ?_
        exact ih5 (k + 1) false (by omega) (by omega) (by rw [← hq, allR_step (show k < F + b + 1 by omega), c14]; simp [opB, ]) (by omega) _ (lv_sub hl [2, 3, 4, 1, 0] rfl)
      replace c14 := bIn c14
      refine lv_iload hx hb dX2_isOpen_17 (lv_at hl 4 rfl) ?_
      refine lv_aload_n hx hb dX2_isOpen_19 rfl (lv_at hl 0 rfl) ?_
      refine mget (index := 46) (v := .int (g 7)) hx hb hts hinX2 hown hK hP 7 (by decide) (List.mem_of_getElem? (i := 1) rfl) rfl dX2_isOpen_20 ?_
      refine lv_icmp_ge (tgt := 36) hx hb dX2_isOpen_23 (by decide) (fun c23 => ?_) (fun c23 => ?_)
      · refine lv_iconst (v := 1) hx hb dX2_isOpen_36 (by decide) ?_
        refine lv_goto (tgt := 41) hx hb dX2_isOpen_37 (by decide) ?_
        refine lv_istore_n (lv' := [(3, .int 1), (0, .ref (a 0)), (1, .int (nI F)), (2, .int (nI b)), (4, .int (nI k))]) hx hb dX2_isOpen_41 rfl hl (by decide) rfl (fun ls hl => ?_)
        refine lv_iinc (v := nI (k + 1)) (lv' := [(4, .int (nI (k + 1))), (3, .int 1), (0, .ref (a 0)), (1, .int (nI F)), (2, .int (nI b))]) hx hb dX2_isOpen_42 hl (k := 4) rfl (nI_1 _) (by decide) rfl (fun ls hl => ?_)
        refine lv_goto (tgt := 5) hx hb dX2_isOpen_45 (by decide) ?_
        exact ih5 (k + 1) true (by omega) (by omega) (by rw [← hq, allR_step (show k < F + b + 1 by omega), c14]; simp [opB, c23]) (by omega) _ (lv_sub hl [2, 3, 4, 1, 0] rfl)
      refine lv_aload_n hx hb dX2_isOpen_26 rfl (lv_at hl 0 rfl) ?_
      refine mget (index := 30) (v := .ref (a 2)) hx hb hts hinX2 hown hK hP 9 (by decide) (List.mem_of_getElem? (i := 2) rfl) rfl dX2_isOpen_27 ?_
      refine lv_iload hx hb dX2_isOpen_30 (lv_at hl 4 rfl) ?_
      refine arI (j := k) (h := (f 1)) hx hb hK hP 2 rfl rfl (by omega) dX2_isOpen_32 ?_
      refine lv_if_ne (tgt := 40) hx hb dX2_isOpen_33 (by decide) (fun c33 => ?_) (fun c33 => ?_)
      · refine lv_iconst (v := 0) hx hb dX2_isOpen_40 (by decide) ?_
        refine lv_istore_n (lv' := [(3, .int 0), (0, .ref (a 0)), (1, .int (nI F)), (2, .int (nI b)), (4, .int (nI k))]) hx hb dX2_isOpen_41 rfl hl (by decide) rfl (fun ls hl => ?_)
        refine lv_iinc (v := nI (k + 1)) (lv' := [(4, .int (nI (k + 1))), (3, .int 0), (0, .ref (a 0)), (1, .int (nI F)), (2, .int (nI b))]) hx hb dX2_isOpen_42 hl (k := 4) rfl (nI_1 _) (by decide) rfl (fun ls hl => ?_)
        refine lv_goto (tgt := 5) hx hb dX2_isOpen_45 (by decide) ?_
        exact ih5 (k + 1) false (by omega) (by omega) (by rw [← hq, allR_step (show k < F + b + 1 by omega), c14]; simp [opB, c23, c33]) (by omega) _ (lv_sub hl [2, 3, 4, 1, 0] rfl)
      refine lv_iconst (v := 1) hx hb dX2_isOpen_36 (by decide) ?_
      refine lv_goto (tgt := 41) hx hb dX2_isOpen_37 (by decide) ?_
      refine lv_istore_n (lv' := [(3, .int 1), (0, .ref (a 0)), (1, .int (nI F)), (2, .int (nI b)), (4, .int (nI k))]) hx hb dX2_isOpen_41 rfl hl (by decide) rfl (fun ls hl => ?_)
      refine lv_iinc (v := nI (k + 1)) (lv' := [(4, .int (nI (k + 1))), (3, .int 1), (0, .ref (a 0)), (1, .int (nI F)), (2, .int (nI b))]) hx hb dX2_isOpen_42 hl (k := 4) rfl (nI_1 _) (by decide) rfl (fun ls hl => ?_)
      refine lv_goto (tgt := 5) hx hb dX2_isOpen_45 (by decide) ?_
      exact ih5 (k + 1) true (by omega) (by omega) (by rw [← hq, allR_step (show k < F + b + 1 by omega), c14]; simp [opB, c23, c33]) (by omega) _ (lv_sub hl [2, 3, 4, 1, 0] rfl)
  exact loop5 (b + 2) F true (by omega) (by omega) rfl (by omega) _ (lv_sub hl [2, 3, 4, 1, 0] rfl)
set_option maxHeartbeats 4000000 in
set_option maxRecDepth 100000 in
theorem kX2_follows (l : Launch) (G : va_G) (a : Nat → Nat) (cI cZ : ClassId) (g : Nat → Int32) (f : Nat → Nat → Int32) (tc : Int32) (i B : Nat) (hi : i < 200) (hB1 : (g 9 + 1) = nI B) (hB2 : B ≤ 200) (hlt : ¬ nI i ≤ g 9 → B ≤ i): rdr l yX2_follows wsX2_follows { frames := 0, cells := 0, slots := 0, locals := 0 } G (wM a cI cZ g f tc) (tyIZ cI cZ) [.ref (a 0), .int (nI i)] (fun r => r = bI (!decide (g 9 = -1) && (!decide (nI i ≤ g 9) && allR (foB f) B (i - B)))) := by
  refine rdr_of (cc := cX2_follows) (nL := 4) (ty := .boolean) (by decide) rfl (Nat.le_of_ble_eq_true rfl) ?_
  intro p e s m args below meth c H ls Q hx hb hml hown hts hP hK hret hl
  have hl : lv_has ls 4 [(0, .ref (a 0)), (1, .int (nI i))] := hl
  have hinX2 : ∀ w ∈ wsX20, w ∈ wsX2_follows := by decide +kernel
  refine lv_aload_n hx hb dX2_follows_0 rfl (lv_at hl 0 rfl) ?_
  refine mget (index := 43) (v := .int (g 9)) hx hb hts hinX2 hown hK hP 14 (by decide) (List.mem_of_getElem? (i := 1) rfl) rfl dX2_follows_1 ?_
  refine lv_iconst (v := (-1)) hx hb dX2_follows_4 (by decide) ?_
  refine lv_icmp_eq (tgt := 20) hx hb dX2_follows_5 (by decide) (fun c5 => ?_) (fun c5 => ?_)
  · refine lv_iconst (v := 0) hx hb dX2_follows_20 (by decide) ?_
    refine lv_istore_n (lv' := [(2, .int 0), (0, .ref (a 0)), (1, .int (nI i))]) hx hb dX2_follows_21 rfl hl (by decide) rfl (fun ls hl => ?_)
    refine lv_aload_n hx hb dX2_follows_22 rfl (lv_at hl 1 rfl) ?_
    refine mget (index := 43) (v := .int (g 9)) hx hb hts hinX2 hown hK hP 14 (by decide) (List.mem_of_getElem? (i := 1) rfl) rfl dX2_follows_23 ?_
    refine lv_iconst (v := 1) hx hb dX2_follows_26 (by decide) ?_
    refine lv_iadd hx hb dX2_follows_27 ?_
    refine top_eq (z := nI B) hB1 ?_
    refine lv_istore_n (lv' := [(3, .int (nI B)), (2, .int 0), (0, .ref (a 0)), (1, .int (nI i))]) hx hb dX2_follows_28 rfl hl (by decide) rfl (fun ls hl => ?_)
    have loop29 : ∀ (n : Nat) (k : Nat) (y : Bool), (y = true → B ≤ k ∧ k ≤ i) → k ≤ 200 → (y && allR (foB f) k (i - k)) = (!decide (g 9 = -1) && (!decide (nI i ≤ g 9) && allR (foB f) B (i - B))) → 200 - k < n → ∀ (ls : Array Slot), lv_has ls 4 [(0, .ref (a 0)), (1, .int (nI i)), (2, .int (bI y)), (3, .int (nI k))] → W p l e { frames := 0, cells := 0, slots := 0, locals := 0 } s m args below meth c H [] 0 0 Q (F0 m 29 ls []) := by
      intro n
      induction n with
      | zero => intro k y hy hk hq hn; exact absurd hn (Nat.not_lt_zero _)
      | succ n ih29 =>
        intro k y hy hk hq hn ls hl
        refine lv_iload_n hx hb dX2_follows_29 rfl (lv_at hl 3 rfl) ?_
        refine lv_iload_n hx hb dX2_follows_30 rfl (lv_at hl 1 rfl) ?_
        refine lv_icmp_ge (tgt := 70) hx hb dX2_follows_31 (by decide) (fun c31 => ?_) (fun c31 => ?_)
        · have ek : i ≤ k := le_nI (by omega) (by omega) c31
          refine lv_iload_n hx hb dX2_follows_70 rfl (lv_at hl 2 rfl) ?_
          exact hret (bI y) _ _ dX2_follows_71 (bIr _) (by rw [← hq]; cases y with | false => rfl | true => have := hy rfl; rw [show k = i by omega, Nat.sub_self]; rfl)
        have hk2 : k < i := nle_nI (by omega) (by omega) c31
        refine lv_iload_n hx hb dX2_follows_34 rfl (lv_at hl 2 rfl) ?_
        refine lv_if_eq (tgt := 70) hx hb dX2_follows_35 (by decide) (fun c35 => ?_) (fun c35 => ?_)
        · replace c35 := bI0 c35
          refine lv_iload_n hx hb dX2_follows_70 rfl (lv_at hl 2 rfl) ?_
          exact hret (bI y) _ _ dX2_follows_71 (bIr _) (by rw [← hq, c35]; rfl)
        replace c35 := bIn c35
        refine lv_aload_n hx hb dX2_follows_38 rfl (lv_at hl 0 rfl) ?_
        refine mget (index := 30) (v := .ref (a 2)) hx hb hts hinX2 hown hK hP 9 (by decide) (List.mem_of_getElem? (i := 2) rfl) rfl dX2_follows_39 ?_
        refine lv_iload_n hx hb dX2_follows_42 rfl (lv_at hl 3 rfl) ?_
        refine arI (j := k) (h := (f 1)) hx hb hK hP 2 rfl rfl (by omega) dX2_follows_43 ?_
        refine lv_iconst (v := 2) hx hb dX2_follows_44 (by decide) ?_
        refine lv_icmp_eq (tgt := 58) hx hb dX2_follows_45 (by decide) (fun c45 => ?_) (fun c45 => ?_)
        · refine lv_iconst (v := 1) hx hb dX2_follows_58 (by decide) ?_
          refine lv_goto (tgt := 63) hx hb dX2_follows_59 (by decide) ?_
          refine lv_istore_n (lv' := [(2, .int 1), (0, .ref (a 0)), (1, .int (nI i)), (3, .int (nI k))]) hx hb dX2_follows_63 rfl hl (by decide) rfl (fun ls hl => ?_)
          refine lv_iinc (v := nI (k + 1)) (lv' := [(3, .int (nI (k + 1))), (2, .int 1), (0, .ref (a 0)), (1, .int (nI i))]) hx hb dX2_follows_64 hl (k := 3) rfl (nI_1 _) (by decide) rfl (fun ls hl => ?_)
          refine lv_goto (tgt := 29) hx hb dX2_follows_67 (by decide) ?_
          exact ih29 (k + 1) true (fun _ => by have := hy c35; omega) (by omega) (by rw [← hq, allR_step hk2, c35]; simp [foB, c45]) (by omega) _ (lv_sub hl [2, 3, 1, 0] rfl)
        refine lv_aload_n hx hb dX2_follows_48 rfl (lv_at hl 0 rfl) ?_
        refine mget (index := 30) (v := .ref (a 2)) hx hb hts hinX2 hown hK hP 9 (by decide) (List.mem_of_getElem? (i := 2) rfl) rfl dX2_follows_49 ?_
        refine lv_iload_n hx hb dX2_follows_52 rfl (lv_at hl 3 rfl) ?_
        refine arI (j := k) (h := (f 1)) hx hb hK hP 2 rfl rfl (by omega) dX2_follows_53 ?_
        refine lv_iconst (v := 3) hx hb dX2_follows_54 (by decide) ?_
        refine lv_icmp_ne (tgt := 62) hx hb dX2_follows_55 (by decide) (fun c55 => ?_) (fun c55 => ?_)
        · refine lv_iconst (v := 0) hx hb dX2_follows_62 (by decide) ?_
          refine lv_istore_n (lv' := [(2, .int 0), (0, .ref (a 0)), (1, .int (nI i)), (3, .int (nI k))]) hx hb dX2_follows_63 rfl hl (by decide) rfl (fun ls hl => ?_)
          refine lv_iinc (v := nI (k + 1)) (lv' := [(3, .int (nI (k + 1))), (2, .int 0), (0, .ref (a 0)), (1, .int (nI i))]) hx hb dX2_follows_64 hl (k := 3) rfl (nI_1 _) (by decide) rfl (fun ls hl => ?_)
          refine lv_goto (tgt := 29) hx hb dX2_follows_67 (by decide) ?_
          exact ih29 (k + 1) false (fun _ => by have := hy c35; omega) (by omega) (by rw [← hq, allR_step hk2, c35]; simp [foB, c45, c55]) (by omega) _ (lv_sub hl [2, 3, 1, 0] rfl)
        refine lv_iconst (v := 1) hx hb dX2_follows_58 (by decide) ?_
        refine lv_goto (tgt := 63) hx hb dX2_follows_59 (by decide) ?_
        refine lv_istore_n (lv' := [(2, .int 1), (0, .ref (a 0)), (1, .int (nI i)), (3, .int (nI k))]) hx hb dX2_follows_63 rfl hl (by decide) rfl (fun ls hl => ?_)
        refine lv_iinc (v := nI (k + 1)) (lv' := [(3, .int (nI (k + 1))), (2, .int 1), (0, .ref (a 0)), (1, .int (nI i))]) hx hb dX2_follows_64 hl (k := 3) rfl (nI_1 _) (by decide) rfl (fun ls hl => ?_)
        refine lv_goto (tgt := 29) hx hb dX2_follows_67 (by decide) ?_
        exact ih29 (k + 1) true (fun _ => by have := hy c35; omega) (by omega) (by rw [← hq, allR_step hk2, c35]; simp [foB, c45, c55]) (by omega) _ (lv_sub hl [2, 3, 1, 0] rfl)
    exact loop29 201 B false (fun q => absurd q (by decide)) hB2 (by simp [c5]) (by omega) _ (lv_sub hl [2, 3, 1, 0] rfl)
  refine lv_iload_n hx hb dX2_follows_8 rfl (lv_at hl 1 rfl) ?_
  refine lv_aload_n hx hb dX2_follows_9 rfl (lv_at hl 0 rfl) ?_
  refine mget (index := 43) (v := .int (g 9)) hx hb hts hinX2 hown hK hP 14 (by decide) (List.mem_of_getElem? (i := 1) rfl) rfl dX2_follows_10 ?_
  refine lv_icmp_le (tgt := 20) hx hb dX2_follows_13 (by decide) (fun c13 => ?_) (fun c13 => ?_)
  · refine lv_iconst (v := 0) hx hb dX2_follows_20 (by decide) ?_
    refine lv_istore_n (lv' := [(2, .int 0), (0, .ref (a 0)), (1, .int (nI i))]) hx hb dX2_follows_21 rfl hl (by decide) rfl (fun ls hl => ?_)
    refine lv_aload_n hx hb dX2_follows_22 rfl (lv_at hl 1 rfl) ?_
    refine mget (index := 43) (v := .int (g 9)) hx hb hts hinX2 hown hK hP 14 (by decide) (List.mem_of_getElem? (i := 1) rfl) rfl dX2_follows_23 ?_
    refine lv_iconst (v := 1) hx hb dX2_follows_26 (by decide) ?_
    refine lv_iadd hx hb dX2_follows_27 ?_
    refine top_eq (z := nI B) hB1 ?_
    refine lv_istore_n (lv' := [(3, .int (nI B)), (2, .int 0), (0, .ref (a 0)), (1, .int (nI i))]) hx hb dX2_follows_28 rfl hl (by decide) rfl (fun ls hl => ?_)
    have loop29 : ∀ (n : Nat) (k : Nat) (y : Bool), (y = true → B ≤ k ∧ k ≤ i) → k ≤ 200 → (y && allR (foB f) k (i - k)) = (!decide (g 9 = -1) && (!decide (nI i ≤ g 9) && allR (foB f) B (i - B))) → 200 - k < n → ∀ (ls : Array Slot), lv_has ls 4 [(0, .ref (a 0)), (1, .int (nI i)), (2, .int (bI y)), (3, .int (nI k))] → W p l e { frames := 0, cells := 0, slots := 0, locals := 0 } s m args below meth c H [] 0 0 Q (F0 m 29 ls []) := by
      intro n
      induction n with
      | zero => intro k y hy hk hq hn; exact absurd hn (Nat.not_lt_zero _)
      | succ n ih29 =>
        intro k y hy hk hq hn ls hl
        refine lv_iload_n hx hb dX2_follows_29 rfl (lv_at hl 3 rfl) ?_
        refine lv_iload_n hx hb dX2_follows_30 rfl (lv_at hl 1 rfl) ?_
        refine lv_icmp_ge (tgt := 70) hx hb dX2_follows_31 (by decide) (fun c31 => ?_) (fun c31 => ?_)
        · have ek : i ≤ k := le_nI (by omega) (by omega) c31
          refine lv_iload_n hx hb dX2_follows_70 rfl (lv_at hl 2 rfl) ?_
          exact hret (bI y) _ _ dX2_follows_71 (bIr _) (by rw [← hq]; cases y with | false => rfl | true => have := hy rfl; rw [show k = i by omega, Nat.sub_self]; rfl)
        have hk2 : k < i := nle_nI (by omega) (by omega) c31
        refine lv_iload_n hx hb dX2_follows_34 rfl (lv_at hl 2 rfl) ?_
        refine lv_if_eq (tgt := 70) hx hb dX2_follows_35 (by decide) (fun c35 => ?_) (fun c35 => ?_)
        · replace c35 := bI0 c35
          refine lv_iload_n hx hb dX2_follows_70 rfl (lv_at hl 2 rfl) ?_
          exact hret (bI y) _ _ dX2_follows_71 (bIr _) (by rw [← hq, c35]; rfl)
        replace c35 := bIn c35
        refine lv_aload_n hx hb dX2_follows_38 rfl (lv_at hl 0 rfl) ?_
        refine mget (index := 30) (v := .ref (a 2)) hx hb hts hinX2 hown hK hP 9 (by decide) (List.mem_of_getElem? (i := 2) rfl) rfl dX2_follows_39 ?_
        refine lv_iload_n hx hb dX2_follows_42 rfl (lv_at hl 3 rfl) ?_
        refine arI (j := k) (h := (f 1)) hx hb hK hP 2 rfl rfl (by omega) dX2_follows_43 ?_
        refine lv_iconst (v := 2) hx hb dX2_follows_44 (by decide) ?_
        refine lv_icmp_eq (tgt := 58) hx hb dX2_follows_45 (by decide) (fun c45 => ?_) (fun c45 => ?_)
        · refine lv_iconst (v := 1) hx hb dX2_follows_58 (by decide) ?_
          refine lv_goto (tgt := 63) hx hb dX2_follows_59 (by decide) ?_
          refine lv_istore_n (lv' := [(2, .int 1), (0, .ref (a 0)), (1, .int (nI i)), (3, .int (nI k))]) hx hb dX2_follows_63 rfl hl (by decide) rfl (fun ls hl => ?_)
          refine lv_iinc (v := nI (k + 1)) (lv' := [(3, .int (nI (k + 1))), (2, .int 1), (0, .ref (a 0)), (1, .int (nI i))]) hx hb dX2_follows_64 hl (k := 3) rfl (nI_1 _) (by decide) rfl (fun ls hl => ?_)
          refine lv_goto (tgt := 29) hx hb dX2_follows_67 (by decide) ?_
          exact ih29 (k + 1) true (fun _ => by have := hy c35; omega) (by omega) (by rw [← hq, allR_step hk2, c35]; simp [foB, c45]) (by omega) _ (lv_sub hl [2, 3, 1, 0] rfl)
        refine lv_aload_n hx hb dX2_follows_48 rfl (lv_at hl 0 rfl) ?_
        refine mget (index := 30) (v := .ref (a 2)) hx hb hts hinX2 hown hK hP 9 (by decide) (List.mem_of_getElem? (i := 2) rfl) rfl dX2_follows_49 ?_
        refine lv_iload_n hx hb dX2_follows_52 rfl (lv_at hl 3 rfl) ?_
        refine arI (j := k) (h := (f 1)) hx hb hK hP 2 rfl rfl (by omega) dX2_follows_53 ?_
        refine lv_iconst (v := 3) hx hb dX2_follows_54 (by decide) ?_
        refine lv_icmp_ne (tgt := 62) hx hb dX2_follows_55 (by decide) (fun c55 => ?_) (fun c55 => ?_)
        · refine lv_iconst (v := 0) hx hb dX2_follows_62 (by decide) ?_
          refine lv_istore_n (lv' := [(2, .int 0), (0, .ref (a 0)), (1, .int (nI i)), (3, .int (nI k))]) hx hb dX2_follows_63 rfl hl (by decide) rfl (fun ls hl => ?_)
          refine lv_iinc (v := nI (k + 1)) (lv' := [(3, .int (nI (k + 1))), (2, .int 0), (0, .ref (a 0)), (1, .int (nI i))]) hx hb dX2_follows_64 hl (k := 3) rfl (nI_1 _) (by decide) rfl (fun ls hl => ?_)
          refine lv_goto (tgt := 29) hx hb dX2_follows_67 (by decide) ?_
          exact ih29 (k + 1) false (fun _ => by have := hy c35; omega) (by omega) (by rw [← hq, allR_step hk2, c35]; simp [foB, c45, c55]) (by omega) _ (lv_sub hl [2, 3, 1, 0] rfl)
        refine lv_iconst (v := 1) hx hb dX2_follows_58 (by decide) ?_
        refine lv_goto (tgt := 63) hx hb dX2_follows_59 (by decide) ?_
        refine lv_istore_n (lv' := [(2, .int 1), (0, .ref (a 0)), (1, .int (nI i)), (3, .int (nI k))]) hx hb dX2_follows_63 rfl hl (by decide) rfl (fun ls hl => ?_)
        refine lv_iinc (v := nI (k + 1)) (lv' := [(3, .int (nI (k + 1))), (2, .int 1), (0, .ref (a 0)), (1, .int (nI i))]) hx hb dX2_follows_64 hl (k := 3) rfl (nI_1 _) (by decide) rfl (fun ls hl => ?_)
        refine lv_goto (tgt := 29) hx hb dX2_follows_67 (by decide) ?_
        exact ih29 (k + 1) true (fun _ => by have := hy c35; omega) (by omega) (by rw [← hq, allR_step hk2, c35]; simp [foB, c45, c55]) (by omega) _ (lv_sub hl [2, 3, 1, 0] rfl)
    exact loop29 201 B false (fun q => absurd q (by decide)) hB2 (by simp [c5, c13]) (by omega) _ (lv_sub hl [2, 3, 1, 0] rfl)
  refine lv_iconst (v := 1) hx hb dX2_follows_16 (by decide) ?_
  refine lv_goto (tgt := 21) hx hb dX2_follows_17 (by decide) ?_
  refine lv_istore_n (lv' := [(2, .int 1), (0, .ref (a 0)), (1, .int (nI i))]) hx hb dX2_follows_21 rfl hl (by decide) rfl (fun ls hl => ?_)
  refine lv_aload_n hx hb dX2_follows_22 rfl (lv_at hl 1 rfl) ?_
  refine mget (index := 43) (v := .int (g 9)) hx hb hts hinX2 hown hK hP 14 (by decide) (List.mem_of_getElem? (i := 1) rfl) rfl dX2_follows_23 ?_
  refine lv_iconst (v := 1) hx hb dX2_follows_26 (by decide) ?_
  refine lv_iadd hx hb dX2_follows_27 ?_
  refine top_eq (z := nI B) hB1 ?_
  refine lv_istore_n (lv' := [(3, .int (nI B)), (2, .int 1), (0, .ref (a 0)), (1, .int (nI i))]) hx hb dX2_follows_28 rfl hl (by decide) rfl (fun ls hl => ?_)
  have loop29 : ∀ (n : Nat) (k : Nat) (y : Bool), (y = true → B ≤ k ∧ k ≤ i) → k ≤ 200 → (y && allR (foB f) k (i - k)) = (!decide (g 9 = -1) && (!decide (nI i ≤ g 9) && allR (foB f) B (i - B))) → 200 - k < n → ∀ (ls : Array Slot), lv_has ls 4 [(0, .ref (a 0)), (1, .int (nI i)), (2, .int (bI y)), (3, .int (nI k))] → W p l e { frames := 0, cells := 0, slots := 0, locals := 0 } s m args below meth c H [] 0 0 Q (F0 m 29 ls []) := by
    intro n
    induction n with
    | zero => intro k y hy hk hq hn; exact absurd hn (Nat.not_lt_zero _)
    | succ n ih29 =>
      intro k y hy hk hq hn ls hl
      refine lv_iload_n hx hb dX2_follows_29 rfl (lv_at hl 3 rfl) ?_
      refine lv_iload_n hx hb dX2_follows_30 rfl (lv_at hl 1 rfl) ?_
      refine lv_icmp_ge (tgt := 70) hx hb dX2_follows_31 (by decide) (fun c31 => ?_) (fun c31 => ?_)
      · have ek : i ≤ k := le_nI (by omega) (by omega) c31
        refine lv_iload_n hx hb dX2_follows_70 rfl (lv_at hl 2 rfl) ?_
        exact hret (bI y) _ _ dX2_follows_71 (bIr _) (by rw [← hq]; cases y with | false => rfl | true => have := hy rfl; rw [show k = i by omega, Nat.sub_self]; rfl)
      have hk2 : k < i := nle_nI (by omega) (by omega) c31
      refine lv_iload_n hx hb dX2_follows_34 rfl (lv_at hl 2 rfl) ?_
      refine lv_if_eq (tgt := 70) hx hb dX2_follows_35 (by decide) (fun c35 => ?_) (fun c35 => ?_)
      · replace c35 := bI0 c35
        refine lv_iload_n hx hb dX2_follows_70 rfl (lv_at hl 2 rfl) ?_
        exact hret (bI y) _ _ dX2_follows_71 (bIr _) (by rw [← hq, c35]; rfl)
      replace c35 := bIn c35
      refine lv_aload_n hx hb dX2_follows_38 rfl (lv_at hl 0 rfl) ?_
      refine mget (index := 30) (v := .ref (a 2)) hx hb hts hinX2 hown hK hP 9 (by decide) (List.mem_of_getElem? (i := 2) rfl) rfl dX2_follows_39 ?_
      refine lv_iload_n hx hb dX2_follows_42 rfl (lv_at hl 3 rfl) ?_
      refine arI (j := k) (h := (f 1)) hx hb hK hP 2 rfl rfl (by omega) dX2_follows_43 ?_
      refine lv_iconst (v := 2) hx hb dX2_follows_44 (by decide) ?_
      refine lv_icmp_eq (tgt := 58) hx hb dX2_follows_45 (by decide) (fun c45 => ?_) (fun c45 => ?_)
      · refine lv_iconst (v := 1) hx hb dX2_follows_58 (by decide) ?_
        refine lv_goto (tgt := 63) hx hb dX2_follows_59 (by decide) ?_
        refine lv_istore_n (lv' := [(2, .int 1), (0, .ref (a 0)), (1, .int (nI i)), (3, .int (nI k))]) hx hb dX2_follows_63 rfl hl (by decide) rfl (fun ls hl => ?_)
        refine lv_iinc (v := nI (k + 1)) (lv' := [(3, .int (nI (k + 1))), (2, .int 1), (0, .ref (a 0)), (1, .int (nI i))]) hx hb dX2_follows_64 hl (k := 3) rfl (nI_1 _) (by decide) rfl (fun ls hl => ?_)
        refine lv_goto (tgt := 29) hx hb dX2_follows_67 (by decide) ?_
        exact ih29 (k + 1) true (fun _ => by have := hy c35; omega) (by omega) (by rw [← hq, allR_step hk2, c35]; simp [foB, c45]) (by omega) _ (lv_sub hl [2, 3, 1, 0] rfl)
      refine lv_aload_n hx hb dX2_follows_48 rfl (lv_at hl 0 rfl) ?_
      refine mget (index := 30) (v := .ref (a 2)) hx hb hts hinX2 hown hK hP 9 (by decide) (List.mem_of_getElem? (i := 2) rfl) rfl dX2_follows_49 ?_
      refine lv_iload_n hx hb dX2_follows_52 rfl (lv_at hl 3 rfl) ?_
      refine arI (j := k) (h := (f 1)) hx hb hK hP 2 rfl rfl (by omega) dX2_follows_53 ?_
      refine lv_iconst (v := 3) hx hb dX2_follows_54 (by decide) ?_
      refine lv_icmp_ne (tgt := 62) hx hb dX2_follows_55 (by decide) (fun c55 => ?_) (fun c55 => ?_)
      · refine lv_iconst (v := 0) hx hb dX2_follows_62 (by decide) ?_
        refine lv_istore_n (lv' := [(2, .int 0), (0, .ref (a 0)), (1, .int (nI i)), (3, .int (nI k))]) hx hb dX2_follows_63 rfl hl (by decide) rfl (fun ls hl => ?_)
        refine lv_iinc (v := nI (k + 1)) (lv' := [(3, .int (nI (k + 1))), (2, .int 0), (0, .ref (a 0)), (1, .int (nI i))]) hx hb dX2_follows_64 hl (k := 3) rfl (nI_1 _) (by decide) rfl (fun ls hl => ?_)
        refine lv_goto (tgt := 29) hx hb dX2_follows_67 (by decide) ?_
        exact ih29 (k + 1) false (fun _ => by have := hy c35; omega) (by omega) (by rw [← hq, allR_step hk2, c35]; simp [foB, c45, c55]) (by omega) _ (lv_sub hl [2, 3, 1, 0] rfl)
      refine lv_iconst (v := 1) hx hb dX2_follows_58 (by decide) ?_
      refine lv_goto (tgt := 63) hx hb dX2_follows_59 (by decide) ?_
      refine lv_istore_n (lv' := [(2, .int 1), (0, .ref (a 0)), (1, .int (nI i)), (3, .int (nI k))]) hx hb dX2_follows_63 rfl hl (by decide) rfl (fun ls hl => ?_)
      refine lv_iinc (v := nI (k + 1)) (lv' := [(3, .int (nI (k + 1))), (2, .int 1), (0, .ref (a 0)), (1, .int (nI i))]) hx hb dX2_follows_64 hl (k := 3) rfl (nI_1 _) (by decide) rfl (fun ls hl => ?_)
      refine lv_goto (tgt := 29) hx hb dX2_follows_67 (by decide) ?_
      exact ih29 (k + 1) true (fun _ => by have := hy c35; omega) (by omega) (by rw [← hq, allR_step hk2, c35]; simp [foB, c45, c55]) (by omega) _ (lv_sub hl [2, 3, 1, 0] rfl)
  exact loop29 201 B true (fun _ => ⟨Nat.le_refl _, hlt c13⟩) hB2 (by simp [c5, c13]) (by omega) _ (lv_sub hl [2, 3, 1, 0] rfl)
set_option maxHeartbeats 4000000 in
set_option maxRecDepth 100000 in
theorem kX2_isLate (l : Launch) (G : va_G) (a : Nat → Nat) (cI cZ : ClassId) (g : Nat → Int32) (f : Nat → Nat → Int32) (tc : Int32) (k : Nat) (hk : k < 200): rdr l yX2_isLate wsX2_isLate { frames := 0, cells := 0, slots := 0, locals := 0 } G (wM a cI cZ g f tc) (tyIZ cI cZ) [.ref (a 0), .int (nI k)] (fun r => r = bI (lateM g f k)) := by
  refine rdr_of (cc := cX2_isLate) (nL := 2) (ty := .boolean) (by decide) rfl (Nat.le_of_ble_eq_true rfl) ?_
  intro p e s m args below meth c H ls Q hx hb hml hown hts hP hK hret hl
  have hl : lv_has ls 2 [(0, .ref (a 0)), (1, .int (nI k))] := hl
  have hinX2 : ∀ w ∈ wsX20, w ∈ wsX2_isLate := by decide +kernel
  refine lv_aload_n hx hb dX2_isLate_0 rfl (lv_at hl 0 rfl) ?_
  refine mget (index := 30) (v := .ref (a 2)) hx hb hts hinX2 hown hK hP 9 (by decide) (List.mem_of_getElem? (i := 1) rfl) rfl dX2_isLate_1 ?_
  refine lv_iload_n hx hb dX2_isLate_4 rfl (lv_at hl 1 rfl) ?_
  refine arI (j := k) (h := (f 1)) hx hb hK hP 2 rfl rfl hk dX2_isLate_5 ?_
  refine lv_if_ne (tgt := 31) hx hb dX2_isLate_6 (by decide) (fun c6 => ?_) (fun c6 => ?_)
  · refine lv_iconst (v := 0) hx hb dX2_isLate_31 (by decide) ?_
    exact hret 0 _ _ dX2_isLate_32 rfl (by simp [bI, lateM, c6])
  refine lv_aload_n hx hb dX2_isLate_9 rfl (lv_at hl 0 rfl) ?_
  refine mget (index := 70) (v := .int (g 0)) hx hb hts hinX2 hown hK hP 0 (by decide) (List.mem_of_getElem? (i := 2) rfl) rfl dX2_isLate_10 ?_
  refine lv_aload_n hx hb dX2_isLate_13 rfl (lv_at hl 0 rfl) ?_
  refine mget (index := 26) (v := .ref (a 1)) hx hb hts hinX2 hown hK hP 8 (by decide) (List.mem_of_getElem? (i := 3) rfl) rfl dX2_isLate_14 ?_
  refine lv_iload_n hx hb dX2_isLate_17 rfl (lv_at hl 1 rfl) ?_
  refine arI (j := k) (h := (f 0)) hx hb hK hP 1 rfl rfl hk dX2_isLate_18 ?_
  refine lv_isub hx hb dX2_isLate_19 ?_
  refine lv_aload_n hx hb dX2_isLate_20 rfl (lv_at hl 0 rfl) ?_
  refine mget (index := 20) (v := .int (g 5)) hx hb hts hinX2 hown hK hP 5 (by decide) (List.mem_of_getElem? (i := 4) rfl) rfl dX2_isLate_21 ?_
  refine lv_icmp_le (tgt := 31) hx hb dX2_isLate_24 (by decide) (fun c24 => ?_) (fun c24 => ?_)
  · refine lv_iconst (v := 0) hx hb dX2_isLate_31 (by decide) ?_
    exact hret 0 _ _ dX2_isLate_32 rfl (by simp [bI, lateM, c6, c24])
  refine lv_iconst (v := 1) hx hb dX2_isLate_27 (by decide) ?_
  refine lv_goto (tgt := 32) hx hb dX2_isLate_28 (by decide) ?_
  exact hret 1 _ _ dX2_isLate_32 rfl (by simp [bI, lateM, c6, c24])
set_option maxHeartbeats 4000000 in
set_option maxRecDepth 100000 in
theorem kX2_isHere (l : Launch) (G : va_G) (a : Nat → Nat) (cI cZ : ClassId) (g : Nat → Int32) (f : Nat → Nat → Int32) (tc : Int32) (p0 : Int32) (hNN : NN g): rdr l yX2_isHere wsX2_isHere { frames := 2, cells := 0, slots := 0, locals := 43 } G (wM a cI cZ g f tc) (tyIZ cI cZ) [.ref (a 0), .int p0] (fun r => r = bI (hereI g f p0)) := by
  refine rdr_of (cc := cX2_isHere) (nL := 2) (ty := .boolean) (by decide) rfl (Nat.le_of_ble_eq_true rfl) ?_
  intro p e s m args below meth c H ls Q hx hb hml hown hts hP hK hret hl
  have hl : lv_has ls 2 [(0, .ref (a 0)), (1, .int p0)] := hl
  have hinX2 : ∀ w ∈ wsX20, w ∈ wsX2_isHere := by decide +kernel
  refine lv_aload_n hx hb dX2_isHere_0 rfl (lv_at hl 0 rfl) ?_
  refine lv_iload_n hx hb dX2_isHere_1 rfl (lv_at hl 1 rfl) ?_
  refine rdr_V (As := [.int p0]) (rest := []) ⟨hx, hb, hml, hown, hts⟩ (kX2_isForetold l G a cI cZ g f tc p0 hNN) (cwV 1 hts gX2_isHere_X2_isForetold rfl rfl rfl (by decide +kernel) ⟨Nat.le_of_ble_eq_true rfl, Nat.le_of_ble_eq_true rfl⟩) (va_recv hK hP (ci := 2) (q0 := 0) rfl rfl) hP hK rfl hl.1 rfl (Nat.le_of_ble_eq_true rfl) dX2_isHere_2 (by decide) (fun r2 h2 => ?_)
  replace h2 : r2 = bI (isF g p0) := h2
  subst h2
  refine lv_if_eq (tgt := 32) hx hb dX2_isHere_5 (by decide) (fun c5 => ?_) (fun c5 => ?_)
  · replace c5 := bI0 c5
    refine lv_iconst (v := 0) hx hb dX2_isHere_32 (by decide) ?_
    exact hret 0 _ _ dX2_isHere_33 rfl (by simp [bI, hereI, c5])
  replace c5 := bIn c5
  obtain ⟨k, hk, ek⟩ : ∃ k, k < 200 ∧ p0 = nI k := isI_of (by simp only [isF, Bool.and_eq_true] at c5; exact c5.1)
  have ec : p0.toNatClampNeg = k := by rw [ek]; exact nI_clamp (by omega)
  refine lv_aload_n hx hb dX2_isHere_8 rfl (lv_at hl 0 rfl) ?_
  refine mget (index := 30) (v := .ref (a 2)) hx hb hts hinX2 hown hK hP 9 (by decide) (List.mem_of_getElem? (i := 1) rfl) rfl dX2_isHere_9 ?_
  refine lv_iload_n hx hb dX2_isHere_12 rfl (lv_at hl 1 rfl) ?_
  refine arI (j := k) (h := (f 1)) hx hb hK hP 2 rfl ek hk dX2_isHere_13 ?_
  refine lv_iconst (v := 1) hx hb dX2_isHere_14 (by decide) ?_
  refine lv_icmp_eq (tgt := 28) hx hb dX2_isHere_15 (by decide) (fun c15 => ?_) (fun c15 => ?_)
  · refine lv_iconst (v := 1) hx hb dX2_isHere_28 (by decide) ?_
    refine lv_goto (tgt := 33) hx hb dX2_isHere_29 (by decide) ?_
    exact hret 1 _ _ dX2_isHere_33 rfl (by simp [bI, hereI, ec, c5, c15])
  refine lv_aload_n hx hb dX2_isHere_18 rfl (lv_at hl 0 rfl) ?_
  refine mget (index := 30) (v := .ref (a 2)) hx hb hts hinX2 hown hK hP 9 (by decide) (List.mem_of_getElem? (i := 1) rfl) rfl dX2_isHere_19 ?_
  refine lv_iload_n hx hb dX2_isHere_22 rfl (lv_at hl 1 rfl) ?_
  refine arI (j := k) (h := (f 1)) hx hb hK hP 2 rfl ek hk dX2_isHere_23 ?_
  refine lv_iconst (v := 2) hx hb dX2_isHere_24 (by decide) ?_
  refine lv_icmp_ne (tgt := 32) hx hb dX2_isHere_25 (by decide) (fun c25 => ?_) (fun c25 => ?_)
  · refine lv_iconst (v := 0) hx hb dX2_isHere_32 (by decide) ?_
    exact hret 0 _ _ dX2_isHere_33 rfl (by simp [bI, hereI, ec, c5, c15, c25])
  refine lv_iconst (v := 1) hx hb dX2_isHere_28 (by decide) ?_
  refine lv_goto (tgt := 33) hx hb dX2_isHere_29 (by decide) ?_
  exact hret 1 _ _ dX2_isHere_33 rfl (by simp [bI, hereI, ec, c5, c15, c25])
set_option maxHeartbeats 4000000 in
set_option maxRecDepth 100000 in
theorem kX2_volume (l : Launch) (G : va_G) (a : Nat → Nat) (cI cZ : ClassId) (g : Nat → Int32) (f : Nat → Nat → Int32) (tc : Int32) (p0 : Int32) (hp : inPat g): rdr l yX2_volume wsX2_volume { frames := 0, cells := 0, slots := 0, locals := 0 } G (wM a cI cZ g f tc) (tyIZ cI cZ) [.ref (a 0), .int p0] (fun r => r = volD g p0) := by
  refine rdr_of (cc := cX2_volume) (nL := 2) (ty := .int) (by decide) rfl (Nat.le_of_ble_eq_true rfl) ?_
  intro p e s m args below meth c H ls Q hx hb hml hown hts hP hK hret hl
  have hl : lv_has ls 2 [(0, .ref (a 0)), (1, .int p0)] := hl
  have hinX2 : ∀ w ∈ wsX20, w ∈ wsX2_volume := by decide +kernel
  refine lv_iload_n hx hb dX2_volume_0 rfl (lv_at hl 1 rfl) ?_
  refine lv_aload_n hx hb dX2_volume_1 rfl (lv_at hl 0 rfl) ?_
  refine mget (index := 13) (v := .int (g 2)) hx hb hts hinX2 hown hK hP 2 (by decide) (List.mem_of_getElem? (i := 1) rfl) rfl dX2_volume_2 ?_
  refine lv_idiv hx hb dX2_volume_5 (fun q => by have z := pat_1 hp; rw [q] at z; exact absurd z (by decide)) ?_
  refine lv_iconst (v := 1) hx hb dX2_volume_6 (by decide) ?_
  refine lv_iadd hx hb dX2_volume_7 ?_
  exact hret ((p0 / (g 2)) + 1) _ _ dX2_volume_8 rfl (by unfold volD; rw [if_pos (pat_1 hp)])
set_option maxHeartbeats 4000000 in
set_option maxRecDepth 100000 in
theorem kX2_number (l : Launch) (G : va_G) (a : Nat → Nat) (cI cZ : ClassId) (g : Nat → Int32) (f : Nat → Nat → Int32) (tc : Int32) (p0 : Int32) (hp : inPat g): rdr l yX2_number wsX2_number { frames := 0, cells := 0, slots := 0, locals := 0 } G (wM a cI cZ g f tc) (tyIZ cI cZ) [.ref (a 0), .int p0] (fun r => r = numD g p0) := by
  refine rdr_of (cc := cX2_number) (nL := 2) (ty := .int) (by decide) rfl (Nat.le_of_ble_eq_true rfl) ?_
  intro p e s m args below meth c H ls Q hx hb hml hown hts hP hK hret hl
  have hl : lv_has ls 2 [(0, .ref (a 0)), (1, .int p0)] := hl
  have hinX2 : ∀ w ∈ wsX20, w ∈ wsX2_number := by decide +kernel
  refine lv_aload_n hx hb dX2_number_0 rfl (lv_at hl 0 rfl) ?_
  refine mget (index := 16) (v := .int (g 3)) hx hb hts hinX2 hown hK hP 3 (by decide) (List.mem_of_getElem? (i := 1) rfl) rfl dX2_number_1 ?_
  refine lv_if_eq (tgt := 18) hx hb dX2_number_4 (by decide) (fun c4 => ?_) (fun c4 => ?_)
  · refine lv_iload_n hx hb dX2_number_18 rfl (lv_at hl 1 rfl) ?_
    refine lv_iconst (v := 1) hx hb dX2_number_19 (by decide) ?_
    refine lv_iadd hx hb dX2_number_20 ?_
    exact hret (p0 + 1) _ _ dX2_number_21 rfl (by unfold numD; rw [if_pos c4])
  refine lv_iload_n hx hb dX2_number_7 rfl (lv_at hl 1 rfl) ?_
  refine lv_aload_n hx hb dX2_number_8 rfl (lv_at hl 0 rfl) ?_
  refine mget (index := 13) (v := .int (g 2)) hx hb hts hinX2 hown hK hP 2 (by decide) (List.mem_of_getElem? (i := 2) rfl) rfl dX2_number_9 ?_
  refine lv_irem hx hb dX2_number_12 (fun q => by have z := pat_1 hp; rw [q] at z; exact absurd z (by decide)) ?_
  refine lv_iconst (v := 1) hx hb dX2_number_13 (by decide) ?_
  refine lv_iadd hx hb dX2_number_14 ?_
  refine lv_goto (tgt := 21) hx hb dX2_number_15 (by decide) ?_
  exact hret ((p0 - p0 / (g 2) * (g 2)) + 1) _ _ dX2_number_21 rfl (by unfold numD; rw [if_neg c4, if_pos (pat_1 hp)])
