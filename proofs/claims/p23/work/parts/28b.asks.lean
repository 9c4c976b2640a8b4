/-! 'skips' (what it throws goes on) and 'asks' (which catches) -/
theorem lwcW_of {S : Type} {l : Launch} {nm ds : String} {wl wl' : List Cond} {rm : Room} {G : va_G} {ws : va_W} {tys : List (ClassId × FieldType)} {av : List Value} {cc : ByteArray} {nL mc ms : Nat} {hh : List (Nat × Nat × Nat × Nat)} {post : Int32 → S → Prop} {wf : S → va_W} {a : Nat → Nat} {n sz : Nat}
    (hw : wl = .codeWith ⟨RL, nm, ds⟩ cc nL (some .int) hh :: wl') (hle : (lg_sl av).length ≤ nL)
    (body : ∀ (p : Program) (e : Env) (s : State) (m : MethodId) (args : Array Value) (below : List Frame) (meth : Method) (c : Code) (H : Heap) (locs : List Loc) (ls : Array Slot) (Q : State → Prop), p.tables.exec = Jvm.exec → c.code = cc → c.maxLocals = nL → s.vm.findClass RL = some m.cls → (∀ w ∈ wl, w.before args s = true) → c.exceptionTable.toList = tableOf hh → va_P G vwCl ws H → va_K G vwCl tys s → thr (aS a n s.heap.size) s → va_S (aS a n s.heap.size) s.heap H locs →
      (∀ (v : Int32) (u : S) (pc : Nat) (ls : Array Slot) (H : Heap) (locs : List Loc) (k1 k2 : Nat), k1 ≤ mc → k2 ≤ ms → decode cc pc = .ok (.ireturn, 1) → va_P G vwCl (wf u) H → va_S (aS a n s.heap.size) s.heap H locs → post v u → W p l e rm s m args below meth c H locs k1 k2 Q (F0 m pc ls [.int v])) → lv_has ls nL (lv_args 0 av) →
      W p l e rm s m args below meth c H locs 0 0 Q (F0 m 0 ls [])) : lwc l ⟨RL, nm, ds⟩ wl rm G ws tys (aS a n sz) sz av post wf mc ms := by
  refine va_MetW (cc := cc) (maxL := nL) (ret := some .int) (hh := hh) (show plainName RL = true by decide) hw ?_
  intro p e s m args below meth c s₁ B hml hv
  obtain ⟨rfl, rfl, hP, hK, ht⟩ := hv
  have hl := lv_entry av (n := nL) hle
  rw [lg_entry_eq]
  generalize (lg_sl av ++ List.replicate (nL - (lg_sl av).length) Slot.unset).toArray = ls at hl ⊢
  have hts := atoms_spec (ws := wl) B.pre
  exact body p e s m _ below meth c s.heap [] ls _ B.exec B.bytes hml (findClass_of_methodNamed B.named) hts (vx_table (x := ⟨RL, nm, ds⟩) B (hts (.codeWith ⟨RL, nm, ds⟩ cc nL (some .int) hh) (by rw [hw]; exact List.mem_cons_self))) hP hK ht va_S.rf
    (fun v u pc ls H locs k1 k2 h1 h2 hdg hP hS hp => W.widen h1 h2 (W.zret B.exec B.bytes B.returns (rfl : narrow .int (.int v) = .int v) (fun t ht _ => ⟨⟨v, u, rfl, hp, by subst ht; exact hP⟩, hS.F ht⟩) hS.2.2 hdg B.notSynchronized)) hl
set_option maxHeartbeats 4000000 in
set_option maxRecDepth 100000 in
theorem kL_skips (l : Launch) (hst : l.stackTraces = false) (G : va_G) (a : Nat → Nat) (cI cZ cL : ClassId) (x : SD) (hap : apart a 7) (sz : Nat) (p0 : Int32) : thi l yL_skips wsL_skips { frames := 7, cells := 1, slots := 6, locals := 111 } G (wfD a cI cZ x) (tyL cI cZ cL) (aS a 7 sz) sz [.ref (a 0), .int p0]
    (fun r u => r = 0 ∧ u = (x.1, up2 x.2.1 1 (upd (x.2.1 1) p0.toNatClampNeg 3), x.2.2.1, x.2.2.2) ∧ skT x.1 x.2.1 p0 = 0) (wfD a cI cZ) (fun E => (E = xI ∧ skT x.1 x.2.1 p0 = 1) ∨ (E = xS ∧ skT x.1 x.2.1 p0 = 2)) := by
  refine vx_ofW (cc := cL_skips) (maxL := 2) (ret := some .int) (show plainName RL = true by decide) rfl ?_
  intro p e s m args below meth c s₁ B hml hout hv
  obtain ⟨rfl, rfl, hP, hK, ht⟩ := hv
  have hl := lv_entry [.ref (a 0), .int p0] (n := 2) (Nat.le_of_ble_eq_true rfl)
  rw [lg_entry_eq]
  generalize (lg_sl [.ref (a 0), .int p0] ++ List.replicate (2 - (lg_sl [.ref (a 0), .int p0]).length) Slot.unset).toArray = ls at hl ⊢
  have hl : lv_has ls 2 [(0, .ref (a 0)), (1, .int p0)] := hl
  have hx := B.exec
  have hb := B.bytes
  have hown : s.vm.findClass RL = some m.cls := findClass_of_methodNamed B.named
  have hts := atoms_spec (ws := wsL_skips) B.pre
  refine lv_aload_n hx hb dL_skips_0 rfl (lv_at hl 0 rfl) ?_
  refine lv_iload_n hx hb dL_skips_1 rfl (lv_at hl 1 rfl) ?_
  refine vx_callv (vx_runV (As := [.int p0]) (rest := []) ⟨hx, hb, hml, hown, hts⟩ (kX1_skip l hst G a cI cZ x.1 x.2.1 x.2.2.1 x.2.2.2 hap s.heap.size p0) (cwV 1 hts gL_skips_X1_skip rfl rfl rfl (by decide +kernel) ⟨Nat.le_of_ble_eq_true rfl, Nat.le_of_ble_eq_true rfl⟩) ⟨fb_t, va_recv hK hP (ci := 1) (q0 := 0) rfl rfl, fun U hU hW => ⟨rfl, by rw [hU], by rw [hU]; exact hP, va_K.moved hW.alike (hK.sub (tys' := tyIZ cI cZ) [0, 1] rfl), by have h := thr.go ht hW hU va_S.rf (fun q h => h); exact h⟩⟩ rfl rfl hl.1 rfl (lv_room (Nat.le_of_ble_eq_true rfl)) dL_skips_2 ⟨Nat.le_of_ble_eq_true rfl, Nat.le_of_ble_eq_true rfl⟩) (va_S.rf (A := aS a 7 s.heap.size)) (fun q _ h => h) (fun q h => h) (fun q _ h => h)
    (fun E ce q9 _ t H1 locs1 ht1 _ _ hB _ hk hS1 hc hv hcl => ?_) (fun u t H1 locs1 ht1 _ hp hB _ hk hS1 => ?_)
  · exact vx_out (fun x h => (hout x h).elim) B.notSynchronized hc hv hcl (fun t2 ht2 _ => ⟨(), trivial, ⟨hB.1, by rw [ht2, ← ht1]; exact hB.2⟩, hS1.F ht2⟩) hS1.2.2 (Nat.le_refl _) (Nat.le_refl _)
  · refine lv_iconst (v := 0) hx hb dL_skips_5 (by decide) ?_
    exact vx_ret (W.zret hx hb B.returns (rfl : narrow .int (.int 0) = .int 0) (fun t2 ht2 _ => ⟨⟨0, u, rfl, ⟨rfl, hp⟩, by show va_P G vwCl (wfD a cI cZ u) t2.heap; rw [ht2, ← ht1]; exact hB⟩, hS1.F ht2⟩) hS1.2.2 dL_skips_6 B.notSynchronized)
abbrev hhA : List (Nat × Nat × Nat × Nat) := [(0, 31, 32, 30), (0, 31, 37, 32)]
section AskEnds
variable {p : Program} {l : Launch} {e : Env} {R : Room} {s : State} {m : MethodId} {args : Array Value} {below : List Frame} {meth : Method} {c : Code} {H : Heap} {locs : List Loc} {cells slots : Nat} {Q : State → Prop} {A : Nat → Prop} {ls : Array Slot} {rest : List Value} {pc : Nat} {ce : Cell} {q9 : Addr} {lv : List (Nat × Value)}
theorem ask_I (hx : p.tables.exec = Jvm.exec) (hb : c.code = cL_asks) (hown : s.vm.findClass RL = some m.cls) (hts : ∀ w ∈ wsL_asks, w.before args s = true) (htab : c.exceptionTable.toList = tableOf hhA) (ht : thr A s) (hpc : covers ⟨0, 31, 32, 30⟩ pc = true) (hl : lv_has ls 5 lv)
    (hc : H[q9]? = some ce) (hv : ce.vm = .none) (hcl : s.vm.findClass xI = some ce.cls) (kk : ∀ ls, W p l e R s m args below meth c H locs cells slots Q (F0 m 36 ls [.int (-7)])) : vx_W p l e R s m args below meth c H locs cells slots Q (F0 m pc ls rest) q9 := by
  refine vx_catch (own := RL) (name := xI) (E := xI) hown [] ⟨0, 31, 32, 30⟩ [⟨0, 31, 37, 32⟩] htab (fun z hz => absurd hz List.not_mem_nil) hpc (by decide) (hts _ (List.mem_of_getElem? (i := 1) rfl)) (va_Nw.use rfl (ht.2.2.2.1 xI (by decide))) hc hv hcl ?_
  refine lv_astore hx hb dL_asks_32 hl (by decide) rfl (fun ls hl => ?_)
  refine lv_bipush (v := -7) hx hb dL_asks_34 (by decide) ?_
  exact kk _
theorem ask_S (hx : p.tables.exec = Jvm.exec) (hb : c.code = cL_asks) (hown : s.vm.findClass RL = some m.cls) (hts : ∀ w ∈ wsL_asks, w.before args s = true) (htab : c.exceptionTable.toList = tableOf hhA) (ht : thr A s) (hpc : covers ⟨0, 31, 37, 32⟩ pc = true) (hl : lv_has ls 5 lv)
    (hc : H[q9]? = some ce) (hv : ce.vm = .none) (hcl : s.vm.findClass xS = some ce.cls) (kk : ∀ ls, W p l e R s m args below meth c H locs cells slots Q (F0 m 41 ls [.int (-8)])) : vx_W p l e R s m args below meth c H locs cells slots Q (F0 m pc ls rest) q9 := by
  refine vx_catch (own := RL) (name := xS) (E := xS) hown [⟨0, 31, 32, 30⟩] ⟨0, 31, 37, 32⟩ [] htab (fun z hz => by obtain rfl := List.mem_singleton.mp hz; exact Or.inr ⟨by decide, _, hts _ (List.mem_of_getElem? (i := 1) rfl), ht.2.2.2.2.1 _ (by decide) _ (by decide) (by decide)⟩) hpc (by decide) (hts _ (List.mem_of_getElem? (i := 2) rfl)) (va_Nw.use rfl (ht.2.2.2.1 xS (by decide))) hc hv hcl ?_
  refine lv_astore hx hb dL_asks_37 hl (by decide) rfl (fun ls hl => ?_)
  refine lv_bipush (v := -8) hx hb dL_asks_39 (by decide) ?_
  exact kk _
end AskEnds
abbrev ciX (x : SD) (i j : Nat) : SD := ((ciS x.1 x.2.1 i j).1, (ciS x.1 x.2.1 i j).2, x.2.2.1, x.2.2.2)
abbrev skX (x : SD) (i : Nat) : SD := (x.1, up2 x.2.1 1 (upd (x.2.1 1) i 3), x.2.2.1, x.2.2.2)
set_option maxHeartbeats 4000000 in
set_option maxRecDepth 100000 in
theorem kL_asks0 (l : Launch) (hst : l.stackTraces = false) (G : va_G) (a : Nat → Nat) (cI cZ cL : ClassId) (x : SD) (hap : apart a 7) (sz : Nat) (p1 p2 : Int32) (ct : Nat) (hc : ct < 512) (hI : Inv ct x.1 x.2.1) (hth : thC x.1 x.2.1 p1 p2 = 0 ∨ thC x.1 x.2.1 p1 p2 = 3) : lwc l yL_asks wsL_asks { frames := 8, cells := 1, slots := 6, locals := 132 } G (wfD a cI cZ x) (tyL cI cZ cL) (aS a 7 sz) sz [.ref (a 0), .int 0, .int p1, .int p2]
    (fun r u => (thC x.1 x.2.1 p1 p2 = 0 ∧ r = (ciS x.1 x.2.1 p1.toNatClampNeg p2.toNatClampNeg).1 7 ∧ u = ciX x p1.toNatClampNeg p2.toNatClampNeg) ∨ (thC x.1 x.2.1 p1 p2 = 3 ∧ r = -8 ∧ u = x)) (wfD a cI cZ) 1 6 := by
  refine lwcW_of (cc := cL_asks) (nL := 5) (hh := hhA) rfl (Nat.le_of_ble_eq_true rfl) ?_
  intro p e s m args below meth c H locs ls Q hx hb hml hown hts htab hP hK ht hS hret hl
  have hl : lv_has ls 5 [(0, .ref (a 0)), (1, .int 0), (2, .int p1), (3, .int p2)] := hl
  refine lv_iload_n hx hb dL_asks_0 rfl (lv_at hl 1 rfl) ?_
  refine lv_if_ne (tgt := 13) hx hb dL_asks_1 (by decide) (fun c1 => absurd rfl c1) (fun c1 => ?_)
  refine lv_aload_n hx hb dL_asks_4 rfl (lv_at hl 0 rfl) ?_
  refine lv_iload_n hx hb dL_asks_5 rfl (lv_at hl 2 rfl) ?_
  refine lv_iload_n hx hb dL_asks_6 rfl (lv_at hl 3 rfl) ?_
  refine vx_calli (vx_runV (As := [.int p1, .int p2]) (rest := []) ⟨hx, hb, hml, hown, hts⟩ (kX1_checkIn l hst G a cI cZ x.1 x.2.1 x.2.2.1 x.2.2.2 hap H.size p1 p2 ct hc hI) (cwV 2 hts gL_asks_X1_checkIn rfl rfl rfl (by decide +kernel) ⟨Nat.le_of_ble_eq_true rfl, Nat.le_of_ble_eq_true rfl⟩) ⟨fb_t, va_recv hK hP (ci := 1) (q0 := 0) rfl rfl, fun U hU hW => ⟨rfl, by rw [hU], by rw [hU]; exact hP, va_K.moved hW.alike (hK.sub (tys' := tyIZ cI cZ) [0, 1] rfl), by have h := thr.go ht hW hU hS (aS_up hS); exact h⟩⟩ rfl rfl hl.1 rfl (lv_room (Nat.le_of_ble_eq_true rfl)) dL_asks_7 ⟨Nat.le_of_ble_eq_true rfl, Nat.le_of_ble_eq_true rfl⟩) hS (fun q _ h => aS_up hS q h) (aS_up hS) (fun q _ h => aS_up hS q h)
    (fun E ce q9 _ t H1 locs1 ht1 _ _ hB _ hk hS1 hc hv hcl => ?_) (fun r u t H1 locs1 ht1 _ hp hB _ hk hS1 => ?_)
  · have hP1 : va_P G vwCl (wfD a cI cZ x) H1 := by rw [← ht1]; exact hB.2
    rcases hB.1 with ⟨rfl, h9⟩ | ⟨rfl, h9⟩ | ⟨rfl, h9⟩
    · rcases hth with h | h <;> (rw [h] at h9; exact absurd h9 (by decide))
    · rcases hth with h | h <;> (rw [h] at h9; exact absurd h9 (by decide))
    · exact ask_S hx hb hown hts htab ht (by decide) hl hc hv hcl (fun ls => hret (-8) x 41 _ _ _ _ _ (Nat.le_of_ble_eq_true rfl) (Nat.le_of_ble_eq_true rfl) dL_asks_41 hP1 hS1 (Or.inr ⟨h9, rfl, rfl⟩))
  · refine lv_goto (tgt := 31) hx hb dL_asks_10 rfl ?_
    exact hret r u 31 _ _ _ _ _ (Nat.le_of_ble_eq_true rfl) (Nat.le_of_ble_eq_true rfl) dL_asks_31 (by rw [← ht1]; exact hB) hS1 (Or.inl ⟨hp.2.2, hp.1, hp.2.1⟩)
set_option maxHeartbeats 4000000 in
set_option maxRecDepth 100000 in
theorem kL_asks1 (l : Launch) (hst : l.stackTraces = false) (G : va_G) (a : Nat → Nat) (cI cZ cL : ClassId) (x : SD) (hap : apart a 7) (sz : Nat) (p1 p2 : Int32) : lwc l yL_asks wsL_asks { frames := 8, cells := 1, slots := 6, locals := 132 } G (wfD a cI cZ x) (tyL cI cZ cL) (aS a 7 sz) sz [.ref (a 0), .int 1, .int p1, .int p2]
    (fun r u => (skT x.1 x.2.1 p1 = 0 ∧ r = 0 ∧ u = skX x p1.toNatClampNeg) ∨ (skT x.1 x.2.1 p1 = 1 ∧ r = -7 ∧ u = x) ∨ (skT x.1 x.2.1 p1 = 2 ∧ r = -8 ∧ u = x)) (wfD a cI cZ) 1 6 := by
  refine lwcW_of (cc := cL_asks) (nL := 5) (hh := hhA) rfl (Nat.le_of_ble_eq_true rfl) ?_
  intro p e s m args below meth c H locs ls Q hx hb hml hown hts htab hP hK ht hS hret hl
  have hl : lv_has ls 5 [(0, .ref (a 0)), (1, .int 1), (2, .int p1), (3, .int p2)] := hl
  refine lv_iload_n hx hb dL_asks_0 rfl (lv_at hl 1 rfl) ?_
  refine lv_if_ne (tgt := 13) hx hb dL_asks_1 (by decide) (fun c1 => ?_) (fun c1 => absurd c1 (by decide))
  refine lv_iload_n hx hb dL_asks_13 rfl (lv_at hl 1 rfl) ?_
  refine lv_iconst (v := 1) hx hb dL_asks_14 (by decide) ?_
  refine lv_icmp_ne (tgt := 26) hx hb dL_asks_15 (by decide) (fun c1 => absurd rfl c1) (fun c1 => ?_)
  refine lv_aload_n hx hb dL_asks_18 rfl (lv_at hl 0 rfl) ?_
  refine lv_iload_n hx hb dL_asks_19 rfl (lv_at hl 2 rfl) ?_
  refine vx_calli (vx_runS (As := [.ref (a 0), .int p1]) (rest := []) ⟨hx, hb, hml, hown, hts⟩ (kL_skips l hst G a cI cZ cL x hap H.size p1) (va_cwS 2 hts gL_asks_L_skips rfl rfl rfl (by decide +kernel) ⟨Nat.le_of_ble_eq_true rfl, Nat.le_of_ble_eq_true rfl⟩) ⟨fb_t, fun U hU hW => ⟨rfl, by rw [hU], by rw [hU]; exact hP, va_K.moved hW.alike hK, by have h := thr.go ht hW hU hS (aS_up hS); exact h⟩⟩ rfl rfl hl.1 rfl (lv_room (Nat.le_of_ble_eq_true rfl)) dL_asks_20 ⟨Nat.le_of_ble_eq_true rfl, Nat.le_of_ble_eq_true rfl⟩) hS (fun q _ h => aS_up hS q h) (aS_up hS) (fun q _ h => aS_up hS q h)
    (fun E ce q9 _ t H1 locs1 ht1 _ _ hB _ hk hS1 hc hv hcl => ?_) (fun r u t H1 locs1 ht1 _ hp hB _ hk hS1 => ?_)
  · have hP1 : va_P G vwCl (wfD a cI cZ x) H1 := by rw [← ht1]; exact hB.2
    rcases hB.1 with ⟨rfl, h9⟩ | ⟨rfl, h9⟩
    · exact ask_I hx hb hown hts htab ht (by decide) hl hc hv hcl (fun ls => hret (-7) x 36 _ _ _ _ _ (Nat.le_of_ble_eq_true rfl) (Nat.le_of_ble_eq_true rfl) dL_asks_36 hP1 hS1 (Or.inr (Or.inl ⟨h9, rfl, rfl⟩)))
    · exact ask_S hx hb hown hts htab ht (by decide) hl hc hv hcl (fun ls => hret (-8) x 41 _ _ _ _ _ (Nat.le_of_ble_eq_true rfl) (Nat.le_of_ble_eq_true rfl) dL_asks_41 hP1 hS1 (Or.inr (Or.inr ⟨h9, rfl, rfl⟩)))
  · refine lv_goto (tgt := 31) hx hb dL_asks_23 rfl ?_
    exact hret r u 31 _ _ _ _ _ (Nat.le_of_ble_eq_true rfl) (Nat.le_of_ble_eq_true rfl) dL_asks_31 (by rw [← ht1]; exact hB) hS1 (Or.inl ⟨hp.2.2, hp.1, hp.2.1⟩)
set_option maxHeartbeats 4000000 in
set_option maxRecDepth 100000 in
theorem kL_asks2 (l : Launch) (hst : l.stackTraces = false) (G : va_G) (a : Nat → Nat) (cI cZ cL : ClassId) (x : SD) (hap : apart a 7) (sz : Nat) (p1 p2 : Int32) (hth : rgT x.1 x.2.1 p1 = 1) : lwc l yL_asks wsL_asks { frames := 8, cells := 1, slots := 6, locals := 132 } G (wfD a cI cZ x) (tyL cI cZ cL) (aS a 7 sz) sz [.ref (a 0), .int 2, .int p1, .int p2]
    (fun r u => r = -7 ∧ u = x) (wfD a cI cZ) 1 6 := by
  refine lwcW_of (cc := cL_asks) (nL := 5) (hh := hhA) rfl (Nat.le_of_ble_eq_true rfl) ?_
  intro p e s m args below meth c H locs ls Q hx hb hml hown hts htab hP hK ht hS hret hl
  have hl : lv_has ls 5 [(0, .ref (a 0)), (1, .int 2), (2, .int p1), (3, .int p2)] := hl
  refine lv_iload_n hx hb dL_asks_0 rfl (lv_at hl 1 rfl) ?_
  refine lv_if_ne (tgt := 13) hx hb dL_asks_1 (by decide) (fun c1 => ?_) (fun c1 => absurd c1 (by decide))
  refine lv_iload_n hx hb dL_asks_13 rfl (lv_at hl 1 rfl) ?_
  refine lv_iconst (v := 1) hx hb dL_asks_14 (by decide) ?_
  refine lv_icmp_ne (tgt := 26) hx hb dL_asks_15 (by decide) (fun c1 => ?_) (fun c1 => absurd c1 (by decide))
  refine lv_aload_n hx hb dL_asks_26 rfl (lv_at hl 0 rfl) ?_
  refine lv_iload_n hx hb dL_asks_27 rfl (lv_at hl 2 rfl) ?_
  refine vx_calli (vx_runV (As := [.int p1]) (rest := []) ⟨hx, hb, hml, hown, hts⟩ (kX1_rangeAt l hst G a cI cZ x.1 x.2.1 x.2.2.1 x.2.2.2 hap H.size p1) (cwV 1 hts gL_asks_X1_rangeAt rfl rfl rfl (by decide +kernel) ⟨Nat.le_of_ble_eq_true rfl, Nat.le_of_ble_eq_true rfl⟩) ⟨fb_t, va_recv hK hP (ci := 1) (q0 := 0) rfl rfl, fun U hU hW => ⟨rfl, by rw [hU], by rw [hU]; exact hP, va_K.moved hW.alike (hK.sub (tys' := tyIZ cI cZ) [0, 1] rfl), by have h := thr.go ht hW hU hS (aS_up hS); exact h⟩⟩ rfl rfl hl.1 rfl (lv_room (Nat.le_of_ble_eq_true rfl)) dL_asks_28 ⟨Nat.le_of_ble_eq_true rfl, Nat.le_of_ble_eq_true rfl⟩) hS (fun q _ h => aS_up hS q h) (aS_up hS) (fun q _ h => aS_up hS q h)
    (fun E ce q9 _ t H1 locs1 ht1 _ _ hB _ hk hS1 hc hv hcl => ?_) (fun r u t H1 locs1 ht1 _ hp hB _ hk hS1 => ?_)
  · have hP1 : va_P G vwCl (wfD a cI cZ x) H1 := by rw [← ht1]; exact hB.2
    obtain ⟨rfl, h9⟩ := hB.1
    exact ask_I hx hb hown hts htab ht (by decide) hl hc hv hcl (fun ls => hret (-7) x 36 _ _ _ _ _ (Nat.le_of_ble_eq_true rfl) (Nat.le_of_ble_eq_true rfl) dL_asks_36 hP1 hS1 ⟨rfl, rfl⟩)
  · exact absurd (hth.symm.trans hp.2.2) (by decide)
