set_option maxHeartbeats 4000000 in
set_option maxRecDepth 100000 in
theorem kX1_round (l : Launch) (G : va_G) (a : Nat → Nat) (cI cZ : ClassId) (g : Nat → Int32) (f : Nat → Nat → Int32) (cd : Nat → Int32) (tc : Int32) (hap : apart a 7) (sz : Nat) (hCD : CD f cd): wri l yX1_round wsX1_round { frames := 3, cells := 0, slots := 0, locals := 62 } G (wD a cI cZ g f cd tc) (tyIZ cI cZ) (aS a 7 sz) sz [.ref (a 0)] (fun r u => r = nI (rdN g f 200) ∧ u = (g, up2 (up2 f 1 (rd1 g f 200)) 2 (rd2 g f 200), rdc g f cd 200, tc)) (wfD a cI cZ) := by
  refine wri_of (cc := cX1_round) (nL := 3) (ty := .int) (by decide) rfl (Nat.le_of_ble_eq_true rfl) ?_
  intro p e s m args below meth c H locs ls Q hx hb hml hown hts hP hK hS hret hl
  have hl : lv_has ls 3 [(0, .ref (a 0))] := hl
  have hinX1 : ∀ w ∈ wsX10, w ∈ wsX1_round := by decide +kernel
  refine lv_iconst (v := 0) hx hb dX1_round_0 (by decide) ?_
  refine lv_istore_n (lv' := [(1, .int 0), (0, .ref (a 0))]) hx hb dX1_round_1 rfl hl (by decide) rfl (fun ls hl => ?_)
  refine lv_iconst (v := 0) hx hb dX1_round_2 (by decide) ?_
  refine lv_istore_n (lv' := [(2, .int 0), (1, .int 0), (0, .ref (a 0))]) hx hb dX1_round_3 rfl hl (by decide) rfl (fun ls hl => ?_)
  have loop4 : ∀ (n : Nat) (i : Nat) (x : Int32) (h1 h2 c1 : Nat → Int32), i ≤ 200 → 200 - i < n → x = nI (rdN g f i) → h1 = rd1 g f i → h2 = rd2 g f i → c1 = rdc g f cd i → ∀ (H : Heap) (locs : List Loc), va_P G vwCl (wD a cI cZ g (up2 (up2 f 1 h1) 2 h2) c1 tc) H → va_S (aS a 7 s.heap.size) s.heap H locs → ∀ (ls : Array Slot), lv_has ls 3 [(0, .ref (a 0)), (1, .int x), (2, .int (nI i))] → W p l e { frames := 3, cells := 0, slots := 0, locals := 62 } s m args below meth c H locs 0 0 Q (F0 m 4 ls []) := by
    intro n
    induction n with
    | zero => intro i x h1 h2 c1 hi hn ex e1 e2 e3; intros; exact absurd hn (Nat.not_lt_zero _)
    | succ n ih4 =>
      intro i x h1 h2 c1 hi hn ex e1 e2 e3 H locs hP hS ls hl
      have z1 : h1 i = f 1 i := by rw [e1]; unfold rd1; rw [if_neg (by omega)]
      have z2 : h2 i = f 2 i := by rw [e2]; unfold rd2; rw [if_neg (by omega)]
      have z3 : c1 i = cd i := by rw [e3]; unfold rdc; rw [if_neg (by omega)]
      have zl : lateB g (up2 (up2 f 1 h1) 2 h2) i = lateB g f i := by (show (!decide (g 7 ≤ nI i) && decide (h1 i = 0) && _) = _); rw [z1]; rfl
      have zd : dueB g (up2 (up2 f 1 h1) 2 h2) c1 i = dueB g f cd i := by (show (decide (h2 i = 0) || !decide (g 0 - c1 i < g 6)) = _); rw [z2, z3]; rfl
      refine lv_iload_n hx hb dX1_round_4 rfl (lv_at hl 2 rfl) ?_
      refine lv_sipush (v := 200) hx hb dX1_round_5 (by decide) ?_
      refine lv_icmp_ge (tgt := 76) hx hb dX1_round_8 (by decide) (fun c8 => ?_) (fun c8 => ?_)
      · have ei := ge_200 c8 (by omega)
        rw [ei] at e1 e2 e3
        have hP : va_P G vwCl (wD a cI cZ g (up2 (up2 f 1 (rd1 g f 200)) 2 (rd2 g f 200)) (rdc g f cd 200) tc) H := by rw [← e1, ← e2, ← e3]; exact hP
        refine lv_iload_n hx hb dX1_round_76 rfl (lv_at hl 1 rfl) ?_
        exact hret x (g, up2 (up2 f 1 (rd1 g f 200)) 2 (rd2 g f 200), rdc g f cd 200, tc) _ _ _ _ dX1_round_77 rfl hP hS ⟨by rw [ex, ei], rfl⟩
      have hi2 := nge_200 c8 (by omega)
      refine lv_aload_n hx hb dX1_round_11 rfl (lv_at hl 0 rfl) ?_
      refine lv_iload_n hx hb dX1_round_12 rfl (lv_at hl 2 rfl) ?_
      refine rdr_V (As := [.int (nI i)]) (rest := []) ⟨hx, hb, hml, hown, hts⟩ (kX1_isLate l G a cI cZ g (up2 (up2 f 1 h1) 2 h2) c1 tc i hi2) (cwV 1 hts gX1_round_X1_isLate rfl rfl rfl (by decide +kernel) ⟨Nat.le_of_ble_eq_true rfl, Nat.le_of_ble_eq_true rfl⟩) (va_recv hK hP (ci := 1) (q0 := 0) rfl rfl) hP hK rfl hl.1 rfl (Nat.le_of_ble_eq_true rfl) dX1_round_13 (by decide) (fun r13 h13 => ?_)
      replace h13 : r13 = bI (lateB g (up2 (up2 f 1 h1) 2 h2) i) := h13
      subst h13
      refine lv_if_eq (tgt := 70) hx hb dX1_round_16 (by decide) (fun c16 => ?_) (fun c16 => ?_)
      · replace c16 := bI0 c16
        rw [zl] at c16
        refine lv_iinc (v := nI (i + 1)) (lv' := [(2, .int (nI (i + 1))), (0, .ref (a 0)), (1, .int x)]) hx hb dX1_round_70 hl (k := 2) rfl (nI_1 _) (by decide) rfl (fun ls hl => ?_)
        refine lv_goto (tgt := 4) hx hb dX1_round_73 (by decide) ?_
        exact ih4 (i + 1) x h1 h2 c1 (by omega) (by omega) (by rw [ex]; exact congrArg nI (cnt_f (by rw [(show rdB g f i = false from by unfold rdB; rw [c16]; rfl)]; rfl)).symm) (by rw [e1]; exact w_same fun k => by by_cases q : k = i; (rw [q]; unfold rd1; rw [if_neg (fun z => by have := (show rdB g f i = false from by unfold rdB; rw [c16]; rfl); rw [this] at z; exact absurd z.2.1 (by decide)), if_neg (by omega)]); (unfold rd1; simp only [lt_ne q])) (by rw [e2]; exact w_same fun k => by by_cases q : k = i; (rw [q]; unfold rd2; rw [if_neg (fun z => by have := (show rdB g f i = false from by unfold rdB; rw [c16]; rfl); rw [this] at z; exact absurd z.2.1 (by decide)), if_neg (by omega)]); (unfold rd2; simp only [lt_ne q])) (by rw [e3]; exact w_same fun k => by by_cases q : k = i; (rw [q]; unfold rdc; rw [if_neg (fun z => by have := (show rdB g f i = false from by unfold rdB; rw [c16]; rfl); rw [this] at z; exact absurd z.2.1 (by decide)), if_neg (by omega)]); (unfold rdc; simp only [lt_ne q])) _ _ hP hS _ (lv_sub hl [1, 2, 0] rfl)
      replace c16 := bIn c16
      rw [zl] at c16
      refine lv_aload_n hx hb dX1_round_19 rfl (lv_at hl 0 rfl) ?_
      refine lv_iload_n hx hb dX1_round_20 rfl (lv_at hl 2 rfl) ?_
      refine rdr_V (As := [.int (nI i)]) (rest := []) ⟨hx, hb, hml, hown, hts⟩ (kX1_isTimeToClaim l G a cI cZ g (up2 (up2 f 1 h1) 2 h2) c1 tc i hi2) (cwV 1 hts gX1_round_X1_isTimeToClaim rfl rfl rfl (by decide +kernel) ⟨Nat.le_of_ble_eq_true rfl, Nat.le_of_ble_eq_true rfl⟩) (va_recv hK hP (ci := 1) (q0 := 0) rfl rfl) hP hK rfl hl.1 rfl (Nat.le_of_ble_eq_true rfl) dX1_round_21 (by decide) (fun r21 h21 => ?_)
      replace h21 : r21 = bI (dueB g (up2 (up2 f 1 h1) 2 h2) c1 i) := h21
      subst h21
      refine lv_if_eq (tgt := 70) hx hb dX1_round_24 (by decide) (fun c24 => ?_) (fun c24 => ?_)
      · replace c24 := bI0 c24
        rw [zd, due_CD hCD hi2 c16] at c24
        refine lv_iinc (v := nI (i + 1)) (lv' := [(2, .int (nI (i + 1))), (0, .ref (a 0)), (1, .int x)]) hx hb dX1_round_70 hl (k := 2) rfl (nI_1 _) (by decide) rfl (fun ls hl => ?_)
        refine lv_goto (tgt := 4) hx hb dX1_round_73 (by decide) ?_
        exact ih4 (i + 1) x h1 h2 c1 (by omega) (by omega) (by rw [ex]; exact congrArg nI (cnt_f (by rw [(show rdB g f i = false from by unfold rdB; rw [c16, c24]; rfl)]; rfl)).symm) (by rw [e1]; exact w_same fun k => by by_cases q : k = i; (rw [q]; unfold rd1; rw [if_neg (fun z => by have := (show rdB g f i = false from by unfold rdB; rw [c16, c24]; rfl); rw [this] at z; exact absurd z.2.1 (by decide)), if_neg (by omega)]); (unfold rd1; simp only [lt_ne q])) (by rw [e2]; exact w_same fun k => by by_cases q : k = i; (rw [q]; unfold rd2; rw [if_neg (fun z => by have := (show rdB g f i = false from by unfold rdB; rw [c16, c24]; rfl); rw [this] at z; exact absurd z.2.1 (by decide)), if_neg (by omega)]); (unfold rd2; simp only [lt_ne q])) (by rw [e3]; exact w_same fun k => by by_cases q : k = i; (rw [q]; unfold rdc; rw [if_neg (fun z => by have := (show rdB g f i = false from by unfold rdB; rw [c16, c24]; rfl); rw [this] at z; exact absurd z.2.1 (by decide)), if_neg (by omega)]); (unfold rdc; simp only [lt_ne q])) _ _ hP hS _ (lv_sub hl [1, 2, 0] rfl)
      replace c24 := bIn c24
      rw [zd, due_CD hCD hi2 c16] at c24
      refine lv_aload_n hx hb dX1_round_27 rfl (lv_at hl 0 rfl) ?_
      refine dget (index := 30) (v := .ref (a 4)) hx hb hts hinX1 hown hK hP 8 (by decide) (List.mem_of_getElem? (i := 1) rfl) rfl dX1_round_28 ?_
      refine lv_iload_n hx hb dX1_round_31 rfl (lv_at hl 2 rfl) ?_
      refine arI (j := i) (h := h2) hx hb hK hP 4 rfl rfl hi2 dX1_round_32 ?_
      refine lv_iconst (v := 3) hx hb dX1_round_33 (by decide) ?_
      refine lv_icmp_ge (tgt := 63) hx hb dX1_round_34 (by decide) (fun c34 => ?_) (fun c34 => ?_)
      · rw [z2] at c34
        refine lv_aload_n hx hb dX1_round_63 rfl (lv_at hl 0 rfl) ?_
        refine dget (index := 27) (v := .ref (a 3)) hx hb hts hinX1 hown hK hP 7 (by decide) (List.mem_of_getElem? (i := 4) rfl) rfl dX1_round_64 ?_
        refine lv_iload_n hx hb dX1_round_67 rfl (lv_at hl 2 rfl) ?_
        refine lv_iconst (v := 3) hx hb dX1_round_68 (by decide) ?_
        refine asI (j := i) (h := h1) (x := 3) (wD a cI cZ g (up2 (up2 f 2 h2) 1 (upd h1 i 3)) c1 tc) hx hb hK hP (wD_D hap _) hS 3 rfl rfl hi2 rfl dX1_round_69 (fun H locs hP hS => ?_)
        refine lv_iinc (v := nI (i + 1)) (lv' := [(2, .int (nI (i + 1))), (0, .ref (a 0)), (1, .int x)]) hx hb dX1_round_70 hl (k := 2) rfl (nI_1 _) (by decide) rfl (fun ls hl => ?_)
        refine lv_goto (tgt := 4) hx hb dX1_round_73 (by decide) ?_
        exact ih4 (i + 1) x (upd h1 i 3) h2 c1 (by omega) (by omega) (by rw [ex]; exact congrArg nI (cnt_f (by rw [(show rdB g f i = true from by unfold rdB; rw [c16, c24]; rfl), (show clB f i = false from by unfold clB; rw [decide_eq_true c34]; rfl)]; rfl)).symm) (by rw [e1]; exact w_step (by unfold rd1; rw [if_pos ⟨by omega, (show rdB g f i = true from by unfold rdB; rw [c16, c24]; rfl), (show clB f i = false from by unfold clB; rw [decide_eq_true c34]; rfl)⟩]) (fun k q => by unfold rd1; simp only [lt_ne q])) (by rw [e2]; exact w_same fun k => by by_cases q : k = i; (rw [q]; unfold rd2; rw [if_neg (fun z => by have := (show clB f i = false from by unfold clB; rw [decide_eq_true c34]; rfl); rw [this] at z; exact absurd z.2.2 (by decide)), if_neg (by omega)]); (unfold rd2; simp only [lt_ne q])) (by rw [e3]; exact w_same fun k => by by_cases q : k = i; (rw [q]; unfold rdc; rw [if_neg (fun z => by have := (show clB f i = false from by unfold clB; rw [decide_eq_true c34]; rfl); rw [this] at z; exact absurd z.2.2 (by decide)), if_neg (by omega)]); (unfold rdc; simp only [lt_ne q])) _ _ hP hS _ (lv_sub hl [1, 2, 0] rfl)
      rw [z2] at c34
      refine lv_aload_n hx hb dX1_round_37 rfl (lv_at hl 0 rfl) ?_
      refine dget (index := 30) (v := .ref (a 4)) hx hb hts hinX1 hown hK hP 8 (by decide) (List.mem_of_getElem? (i := 1) rfl) rfl dX1_round_38 ?_
      refine lv_iload_n hx hb dX1_round_41 rfl (lv_at hl 2 rfl) ?_
      refine lv_dup2_11 hx hb dX1_round_42 rfl rfl ?_
      refine arI (j := i) (h := h2) hx hb hK hP 4 rfl rfl hi2 dX1_round_43 ?_
      refine lv_iconst (v := 1) hx hb dX1_round_44 (by decide) ?_
      refine lv_iadd hx hb dX1_round_45 ?_
      refine asI (j := i) (h := h2) (x := (h2 i) + 1) (wD a cI cZ g (up2 (up2 f 1 h1) 2 (upd h2 i ((h2 i) + 1))) c1 tc) hx hb hK hP (wD_D hap _) hS 4 rfl rfl hi2 rfl dX1_round_46 (fun H locs hP hS => ?_)
      refine lv_aload_n hx hb dX1_round_47 rfl (lv_at hl 0 rfl) ?_
      refine dget (index := 33) (v := .ref (a 5)) hx hb hts hinX1 hown hK hP 9 (by decide) (List.mem_of_getElem? (i := 2) rfl) rfl dX1_round_48 ?_
      refine lv_iload_n hx hb dX1_round_51 rfl (lv_at hl 2 rfl) ?_
      refine lv_aload_n hx hb dX1_round_52 rfl (lv_at hl 0 rfl) ?_
      refine dget (index := 74) (v := .int (g 0)) hx hb hts hinX1 hown hK hP 3 (by decide) (List.mem_of_getElem? (i := 3) rfl) rfl dX1_round_53 ?_
      refine asI (j := i) (h := c1) (x := g 0) (wD a cI cZ g (up2 (up2 f 1 h1) 2 (upd h2 i ((h2 i) + 1))) (upd c1 i (g 0)) tc) hx hb hK hP (wD_D hap _) hS 5 rfl rfl hi2 rfl dX1_round_56 (fun H locs hP hS => ?_)
      refine lv_iinc (v := x + 1) (lv' := [(1, .int (x + 1)), (0, .ref (a 0)), (2, .int (nI i))]) hx hb dX1_round_57 hl (k := 1) rfl rfl (by decide) rfl (fun ls hl => ?_)
      refine lv_goto (tgt := 70) hx hb dX1_round_60 (by decide) ?_
      refine lv_iinc (v := nI (i + 1)) (lv' := [(2, .int (nI (i + 1))), (1, .int (x + 1)), (0, .ref (a 0))]) hx hb dX1_round_70 hl (k := 2) rfl (nI_1 _) (by decide) rfl (fun ls hl => ?_)
      refine lv_goto (tgt := 4) hx hb dX1_round_73 (by decide) ?_
      exact ih4 (i + 1) (x + 1) h1 (upd h2 i ((h2 i) + 1)) (upd c1 i (g 0)) (by omega) (by omega) (by rw [ex]; exact (nI_1 _).trans (congrArg nI (cnt_t (by rw [(show rdB g f i = true from by unfold rdB; rw [c16, c24]; rfl), (show clB f i = true from by unfold clB; rw [decide_eq_false c34]; rfl)]; rfl)).symm)) (by rw [e1]; exact w_same fun k => by by_cases q : k = i; (rw [q]; unfold rd1; rw [if_neg (fun z => by have := (show clB f i = true from by unfold clB; rw [decide_eq_false c34]; rfl); rw [this] at z; exact absurd z.2.2 (by decide)), if_neg (by omega)]); (unfold rd1; simp only [lt_ne q])) (by rw [z2, e2]; exact w_step (by unfold rd2; rw [if_pos ⟨by omega, (show rdB g f i = true from by unfold rdB; rw [c16, c24]; rfl), (show clB f i = true from by unfold clB; rw [decide_eq_false c34]; rfl)⟩]) (fun k q => by unfold rd2; simp only [lt_ne q])) (by rw [e3]; exact w_step (by unfold rdc; rw [if_pos ⟨by omega, (show rdB g f i = true from by unfold rdB; rw [c16, c24]; rfl), (show clB f i = true from by unfold clB; rw [decide_eq_false c34]; rfl)⟩]) (fun k q => by unfold rdc; simp only [lt_ne q])) _ _ hP hS _ (lv_sub hl [2, 1, 0] rfl)
  exact loop4 201 0 0 (f 1) (f 2) cd (by omega) (by omega) rfl (w_same fun k => by unfold rd1; rw [if_neg (by omega)]) (w_same fun k => by unfold rd2; rw [if_neg (by omega)]) (w_same fun k => by unfold rdc; rw [if_neg (by omega)]) _ _ hP hS _ (lv_sub hl [2, 1, 0] rfl)
