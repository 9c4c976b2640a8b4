/-- the wrappers' world: a desk, and one row of a long -/
abbrev oL (cL : ClassId) (fo : Nat → Int64) : va_E := .inl (cL, 1, .inr (.inl fo))
abbrev tyL (cI cZ cL : ClassId) : List (ClassId × FieldType) := [(cI, .int), (cZ, .boolean), (cL, .long)]
abbrev wO (a : Nat → Nat) (cL : ClassId) (fo : Nat → Int64) : va_W := [(a 7, oL cL fo)]
theorem apart.le {a : Nat → Nat} {n k : Nat} (h : apart a n) (hk : k ≤ n) : apart a k := fun i j hi hj e => h i j (by omega) (by omega) e
def lwr (l : Launch) (y : MethodName) (wl : List Cond) (rm : Room) (G : va_G) (a : Nat → Nat) (cI cZ cL : ClassId) (x : SD) (fo : Nat → Int64) (sz : Nat) (av : List Value) (post : Int32 → SD × (Nat → Int64) → Prop) : Prop :=
  Met l y wl rm (va_Pc av (fun U => U.heap.size = sz ∧ va_P G vwCl (wfD a cI cZ x) U.heap ∧ va_P G vwCl (wO a cL fo) U.heap ∧ va_K G vwCl (tyL cI cZ cL) U ∧ thr (aS a 8 sz) U)) (va_Qi post (fun u t => va_P G vwCl (wfD a cI cZ u.1) t.heap ∧ va_P G vwCl (wO a cL u.2) t.heap) (aS a 8 sz)) 1 6 (aS a 8 sz)
/-- it returns 0 and the answer lies in the row; or the class's code, and all is as it was -/
abbrev lwP (x : SD) (fo : Nat → Int64) (pd : Int32 → SD → Prop) (pv : Int32 → Prop) : Int32 → SD × (Nat → Int64) → Prop :=
  fun v u => (v = 0 ∧ ∃ r, pd r u.1 ∧ u.2 0 = r.toInt64) ∨ (u = (x, fo) ∧ pv v)
abbrev lwQ (x : SD) (fo : Nat → Int64) (pd : SD → Prop) (pv : Int32 → Prop) : Int32 → SD × (Nat → Int64) → Prop :=
  fun v u => u.2 = fo ∧ ((v = 0 ∧ pd u.1) ∨ (u.1 = x ∧ pv v))
theorem lwr_of {l : Launch} {wl wl' : List Cond} {rm : Room} {G : va_G} {av : List Value} {cc : ByteArray} {nL : Nat} {nm ds : String} {hh : List (Nat × Nat × Nat × Nat)} {a : Nat → Nat} {cI cZ cL : ClassId} {x : SD} {fo : Nat → Int64} {sz : Nat} {post : Int32 → SD × (Nat → Int64) → Prop}
    (hw : wl = .codeWith ⟨RL, nm, ds⟩ cc nL (some .int) hh :: wl') (hle : (lg_sl av).length ≤ nL)
    (body : ∀ (p : Program) (e : Env) (s : State) (m : MethodId) (args : Array Value) (below : List Frame) (meth : Method) (c : Code) (H : Heap) (locs : List Loc) (ls : Array Slot) (Q : State → Prop), p.tables.exec = Jvm.exec → c.code = cc → c.maxLocals = nL → s.vm.findClass RL = some m.cls → (∀ w ∈ wl, w.before args s = true) → c.exceptionTable.toList = tableOf hh → va_P G vwCl (wfD a cI cZ x) H → va_P G vwCl (wO a cL fo) H → va_K G vwCl (tyL cI cZ cL) s → thr (aS a 8 s.heap.size) s → va_S (aS a 8 s.heap.size) s.heap H locs →
      (∀ (v : Int32) (u : SD × (Nat → Int64)) (pc : Nat) (ls : Array Slot) (H : Heap) (locs : List Loc), decode cc pc = .ok (.ireturn, 1) → va_P G vwCl (wfD a cI cZ u.1) H → va_P G vwCl (wO a cL u.2) H → va_S (aS a 8 s.heap.size) s.heap H locs → post v u → W p l e rm s m args below meth c H locs 1 6 Q (F0 m pc ls [.int v])) →
      lv_has ls nL (lv_args 0 av) → W p l e rm s m args below meth c H locs 0 0 Q (F0 m 0 ls [])) : lwr l ⟨RL, nm, ds⟩ wl rm G a cI cZ cL x fo sz av post := by
  refine va_MetW (cc := cc) (maxL := nL) (ret := some .int) (hh := hh) (show plainName RL = true by decide) hw ?_
  intro p e s m args below meth c s₁ B hml hv
  obtain ⟨rfl, rfl, hP, hO, hK, ht⟩ := hv
  have hl := lv_entry av (n := nL) hle
  rw [lg_entry_eq]
  generalize (lg_sl av ++ List.replicate (nL - (lg_sl av).length) Slot.unset).toArray = ls at hl ⊢
  have hts := atoms_spec (ws := wl) B.pre
  exact body p e s m _ below meth c s.heap [] ls _ B.exec B.bytes hml (findClass_of_methodNamed B.named) hts (vx_table (x := ⟨RL, nm, ds⟩) B (hts (.codeWith ⟨RL, nm, ds⟩ cc nL (some .int) hh) (by rw [hw]; exact List.mem_cons_self))) hP hO hK ht va_S.rf
    (fun v u pc ls H locs hdg hP hO hS hp => W.zret B.exec B.bytes B.returns (rfl : narrow .int (.int v) = .int v) (fun t ht _ => ⟨⟨v, u, rfl, hp, by subst ht; exact ⟨hP, hO⟩⟩, hS.F ht⟩) hS.2.2 hdg B.notSynchronized) hl
section LawRows
variable {p : Program} {l : Launch} {e : Env} {R : Room} {s : State} {m : MethodId} {args : Array Value} {below : List Frame} {meth : Method} {c : Code} {H : Heap} {locs : List Loc} {cells slots : Nat} {Q : State → Prop}
variable {cc : ByteArray} {nL n index pc : Nat} {ls : Array Slot} {st0 rest As : List Value} {Ts wl : List Cond} {y : MethodName} {bytes : ByteArray} {maxL : Nat} {ret : Option FieldType} {rm : Room} {G : va_G}
variable {a : Nat → Nat} {cI cZ cL : ClassId} {x : SD} {fo : Nat → Int64} {px : String → Prop}
/-- the row of a long stands, whatever the desk did -/
theorem wO_kept {H1 : Heap} (hap : apart a 8) (hO : va_P G vwCl (wO a cL fo) H) (hk : ∀ q : Nat, q < H.size → ¬ aS a 7 H.size q → H1[q]? = H[q]?) : va_P G vwCl (wO a cL fo) H1 :=
  hO.kept (fun k q hq => by
    have h1 := (List.getElem?_eq_some_iff.mp hq).1
    have hk0 : k = 0 := by simp at h1; omega
    subst hk0
    cases hq
    refine hk _ (hO 0 _ rfl).lt (fun h => ?_)
    rcases h with ⟨i, hi, e⟩ | h
    · exact absurd (hap 7 i (by omega) (by omega) e) (by omega)
    · exact absurd (hO 0 _ rfl).lt (by omega))
theorem wD_back {H1 : Heap} (hP : va_P G vwCl (wfD a cI cZ x) H) (hk : ∀ q : Nat, q < H.size → q ≠ a 7 → H1[q]? = H[q]?) (hap : apart a 8) : va_P G vwCl (wfD a cI cZ x) H1 :=
  hP.kept (fun k q hq => hk _ (hP k q hq).lt (fun h => by
    have h2 := wD_at k q hq
    exact absurd (hap k 7 (by omega) (by omega) (by rw [← h2.2]; exact h)) (by omega)))
theorem aS_in (hS : va_S (aS a 8 s.heap.size) s.heap H locs) : ∀ q, aS a 7 H.size q → aS a 8 s.heap.size q :=
  fun q h => h.elim (fun ⟨i, hi, e⟩ => Or.inl ⟨i, by omega, e⟩) (fun h => Or.inr (Nat.le_trans hS.1 h))
theorem lw_i {S' : Type} {post : Int32 → S' → Prop} {wf : S' → va_W} (S : CallFix p m c cc nL s args Ts RL) (hM : thi l y wl rm G (wfD a cI cZ x) (tyIZ cI cZ) (aS a 7 H.size) H.size (.ref (a 0) :: As) post wf px) (cw : CallW R s args RL RX1 index y bytes maxL ret wl rm 1 6 n)
    (hap : apart a 8) (hP : va_P G vwCl (wfD a cI cZ x) H) (hO : va_P G vwCl (wO a cL fo) H) (hK : va_K G vwCl (tyL cI cZ cL) s) (ht : thr (aS a 8 s.heap.size) s) (hS : va_S (aS a 8 s.heap.size) s.heap H locs)
    (hn : As.length = n) (hls : ls.size = nL) (hst : st0 = As.reverse ++ .ref (a 0) :: rest) (hW : (rest.map fun v => v.category).sum ≤ 8) (hdg : decode cc pc = .ok (.invokevirtual index, 3)) (hf : 0 + 1 ≤ R.cells ∧ 0 + 6 ≤ R.slots)
    (kx : ∀ (E : String) (ce : Cell) (q9 : Addr) (H1 : Heap) (locs1 : List Loc), px E → va_P G vwCl (wfD a cI cZ x) H1 → va_P G vwCl (wO a cL fo) H1 → va_S (aS a 8 s.heap.size) s.heap H1 locs1 → H1[q9]? = some ce → ce.vm = .none → s.vm.findClass E = some ce.cls → vx_W p l e R s m args below meth c H1 locs1 1 6 Q (F0 m pc ls rest) q9)
    (kk : ∀ (r : Int32) (u : S') (H1 : Heap) (locs1 : List Loc), post r u → va_P G vwCl (wf u) H1 → va_P G vwCl (wO a cL fo) H1 → va_S (aS a 8 s.heap.size) s.heap H1 locs1 → W p l e R s m args below meth c H1 locs1 1 6 Q (F0 m (pc + 3) ls (.int r :: rest))) : W p l e R s m args below meth c H locs 0 0 Q (F0 m pc ls st0) :=
  vx_calli (vx_runV S hM cw ⟨fb_t, va_recv hK hP (ci := 1) (q0 := 0) rfl rfl, fun U hU hW => ⟨rfl, by rw [hU], by rw [hU]; exact hP, va_K.moved hW.alike (hK.sub (tys' := tyIZ cI cZ) [0, 1] rfl), by have h := thr.go ht hW hU hS (aS_in hS); exact h⟩⟩ rfl hn hls hst (lv_room hW) hdg hf) hS (fun q _ h => aS_in hS q h) (aS_in hS) (fun q _ h => aS_in hS q h)
    (fun E ce q9 _ t H1 locs1 ht1 _ _ hB _ hk hS1 hc hv hcl => kx E ce q9 H1 locs1 hB.1 (by rw [← ht1]; exact hB.2) (wO_kept hap hO hk) hS1 hc hv hcl)
    (fun r u t H1 locs1 ht1 _ hp hB _ hk hS1 => kk r u H1 locs1 hp (by rw [← ht1]; exact hB) (wO_kept hap hO hk) hS1)
theorem lw_v {S' : Type} {post : S' → Prop} {wf : S' → va_W} (S : CallFix p m c cc nL s args Ts RL) (hM : thv l y wl rm G (wfD a cI cZ x) (tyIZ cI cZ) (aS a 7 H.size) H.size (.ref (a 0) :: As) post wf px) (cw : CallW R s args RL RX1 index y bytes maxL ret wl rm 1 6 n)
    (hap : apart a 8) (hP : va_P G vwCl (wfD a cI cZ x) H) (hO : va_P G vwCl (wO a cL fo) H) (hK : va_K G vwCl (tyL cI cZ cL) s) (ht : thr (aS a 8 s.heap.size) s) (hS : va_S (aS a 8 s.heap.size) s.heap H locs)
    (hn : As.length = n) (hls : ls.size = nL) (hst : st0 = As.reverse ++ .ref (a 0) :: rest) (hW : (rest.map fun v => v.category).sum ≤ 8) (hdg : decode cc pc = .ok (.invokevirtual index, 3)) (hf : 0 + 1 ≤ R.cells ∧ 0 + 6 ≤ R.slots)
    (kx : ∀ (E : String) (ce : Cell) (q9 : Addr) (H1 : Heap) (locs1 : List Loc), px E → va_P G vwCl (wfD a cI cZ x) H1 → va_P G vwCl (wO a cL fo) H1 → va_S (aS a 8 s.heap.size) s.heap H1 locs1 → H1[q9]? = some ce → ce.vm = .none → s.vm.findClass E = some ce.cls → vx_W p l e R s m args below meth c H1 locs1 1 6 Q (F0 m pc ls rest) q9)
    (kk : ∀ (u : S') (H1 : Heap) (locs1 : List Loc), post u → va_P G vwCl (wf u) H1 → va_P G vwCl (wO a cL fo) H1 → va_S (aS a 8 s.heap.size) s.heap H1 locs1 → W p l e R s m args below meth c H1 locs1 1 6 Q (F0 m (pc + 3) ls rest)) : W p l e R s m args below meth c H locs 0 0 Q (F0 m pc ls st0) :=
  vx_callv (vx_runV S hM cw ⟨fb_t, va_recv hK hP (ci := 1) (q0 := 0) rfl rfl, fun U hU hW => ⟨rfl, by rw [hU], by rw [hU]; exact hP, va_K.moved hW.alike (hK.sub (tys' := tyIZ cI cZ) [0, 1] rfl), by have h := thr.go ht hW hU hS (aS_in hS); exact h⟩⟩ rfl hn hls hst (lv_room hW) hdg hf) hS (fun q _ h => aS_in hS q h) (aS_in hS) (fun q _ h => aS_in hS q h)
    (fun E ce q9 _ t H1 locs1 ht1 _ _ hB _ hk hS1 hc hv hcl => kx E ce q9 H1 locs1 hB.1 (by rw [← ht1]; exact hB.2) (wO_kept hap hO hk) hS1 hc hv hcl)
    (fun u t H1 locs1 ht1 _ hp hB _ hk hS1 => kk u H1 locs1 hp (by rw [← ht1]; exact hB) (wO_kept hap hO hk) hS1)
/-- the answer goes into the row -/
theorem lw_last (hx : p.tables.exec = Jvm.exec) (hb : c.code = cc) (hap : apart a 8) (hP : va_P G vwCl (wfD a cI cZ x) H) (hO : va_P G vwCl (wO a cL fo) H) (hK : va_K G vwCl (tyL cI cZ cL) s) (hS : va_S (aS a 8 s.heap.size) s.heap H locs) {v : Int64} (hdg : decode cc pc = .ok (.lastore, 1))
    (kk : ∀ (fo1 : Nat → Int64) (H1 : Heap) (locs1 : List Loc), fo1 0 = v → va_P G vwCl (wfD a cI cZ x) H1 → va_P G vwCl (wO a cL fo1) H1 → va_S (aS a 8 s.heap.size) s.heap H1 locs1 → W p l e R s m args below meth c H1 locs1 cells slots Q (F0 m (pc + 1) ls rest)) : W p l e R s m args below meth c H locs cells slots Q (F0 m pc ls (.long v :: .int 0 :: .ref (a 7) :: rest)) := by
  have hz : (0 : Int32).toNatClampNeg = 0 := rfl
  refine va_last (cA := cL) (n := 1) (f := fo) hx hb hK (ws := wfD a cI cZ x ++ wO a cL fo) (A := aS a 8 s.heap.size) ?_ ?_ hS 7 2 rfl rfl (by unfold vp_in; rw [hz]; decide) hdg (fun H1 locs1 hP1 _ hS1 => ?_)
  · intro k q hq
    by_cases h : k < (wfD a cI cZ x).length
    · exact hP k q (by rw [List.getElem?_append_left h] at hq; exact hq)
    · exact hO (k - (wfD a cI cZ x).length) q (by rw [List.getElem?_append_right (by omega)] at hq; exact hq)
  · have key : ∀ (k : Nat) (q : Nat × va_E), (wfD a cI cZ x ++ wO a cL fo)[k]? = some q → k < 8 ∧ q.1 = a k := by
      intro k q hq
      by_cases h : k < 7
      · have h2 := wD_at (a := a) (cI := cI) (cZ := cZ) (g := x.1) (f := x.2.1) (cd := x.2.2.1) (tc := x.2.2.2) k q (by rw [List.getElem?_append_left (show k < (wfD a cI cZ x).length from h)] at hq; exact hq)
        exact ⟨by omega, h2.2⟩
      · have h3 := (List.getElem?_eq_some_iff.mp hq).1
        have h4 : (wfD a cI cZ x ++ wO a cL fo).length = 8 := rfl
        have h5 : k = 7 := by omega
        subst h5
        cases hq
        exact ⟨by omega, rfl⟩
    exact ⟨fun i j p q hp hq e => hap i j (key i p hp).1 (key j q hq).1 (by rw [← (key i p hp).2, ← (key j q hq).2]; exact e), fun k q hq => Or.inl ⟨k, key k q hq⟩⟩
  · refine kk (vp_updL fo (0 : Int32).toNatClampNeg v) H1 locs1 ?_ (hP1.sub [0, 1, 2, 3, 4, 5, 6] rfl) (hP1.sub [7] rfl) hS1
    show (if 0 = (0 : Int32).toNatClampNeg then v else fo 0) = v
    rw [hz]; rfl
end LawRows
set_option maxHeartbeats 4000000 in
set_option maxRecDepth 100000 in
theorem kL_setPattern (l : Launch) (hst : l.stackTraces = false) (G_w : va_G) (a_w : Nat → Nat) (cI cZ cL : ClassId) (x : SD) (fo : Nat → Int64) (hap : apart a_w 8) (sz_w : Nat) (p0_w p1_w p2_w p3_w : Int32) (ct : Nat) (hc_w : ct ≤ 512) (hI : Inv ct x.1 x.2.1) (hp2 : p2_w = 0 ∨ p2_w = 1) : lwr l yL_setPattern wsL_setPattern { frames := 7, cells := 1, slots := 6, locals := 132 } G_w a_w cI cZ cL x fo sz_w [.ref (a_w 0), .int p0_w, .int p1_w, .int p2_w, .int p3_w] (lwQ x fo (fun u_w => u_w = ((lkS (gSP x.1 p0_w p1_w p2_w p3_w) x.2.1).1, (lkS (gSP x.1 p0_w p1_w p2_w p3_w) x.2.1).2, x.2.2.1, x.2.2.2) ∧ okSP p0_w p1_w p3_w = true) (fun v_w => v_w = 1 ∧ okSP p0_w p1_w p3_w = false)) := by
  refine lwr_of (cc := cL_setPattern) (nL := 6) (hh := [(0, 9, 12, 13)]) rfl (Nat.le_of_ble_eq_true rfl) ?_
  intro p_w e_w s_w m_w args_w below meth_w c_w H locs_w ls Q hx hb_w hml hown hts htab hP hO hK_w ht hS_w hret hl
  have hl : lv_has ls 6 [(0, .ref (a_w 0)), (1, .int p0_w), (2, .int p1_w), (3, .int p2_w), (4, .int p3_w)] := hl
  have hcas := ht.2.2.2.1
  refine lv_aload_n hx hb_w dL_setPattern_0 rfl (lv_at hl 0 rfl) ?_
  refine lv_iload_n hx hb_w dL_setPattern_1 rfl (lv_at hl 1 rfl) ?_
  refine lv_iload_n hx hb_w dL_setPattern_2 rfl (lv_at hl 2 rfl) ?_
  refine lv_iload_n hx hb_w dL_setPattern_3 rfl (lv_at hl 3 rfl) ?_
  refine lv_iload hx hb_w dL_setPattern_4 (lv_at hl 4 rfl) ?_
  refine lw_v (As := [.int p0_w, .int p1_w, .int p2_w, .int p3_w]) (rest := []) ⟨hx, hb_w, hml, hown, hts⟩ (kX1_setPattern l hst G_w a_w cI cZ x.1 x.2.1 x.2.2.1 x.2.2.2 (hap.le (by decide)) H.size p0_w p1_w p2_w p3_w ct hc_w hI hp2) (cwV 4 hts gL_setPattern_X1_setPattern rfl rfl rfl (by decide +kernel) ⟨Nat.le_of_ble_eq_true rfl, Nat.le_of_ble_eq_true rfl⟩) hap hP hO hK_w ht hS_w rfl hl.1 rfl (Nat.le_of_ble_eq_true rfl) dL_setPattern_6 (by decide) (fun E_w ce q9_w H locs_w hE hP hO hS_w hc_w hv hcl => ?_) (fun u_w H locs_w hp hP hO hS_w => ?_)
  · rcases hE with ⟨rfl, hE⟩
    refine vx_catch (own := RL) (name := xA) (E := xA) hown [] ⟨0, 9, 12, 13⟩ [] htab (fun z_w hz => absurd hz List.not_mem_nil) rfl (by decide) (hts _ (List.mem_of_getElem? (i := 1) rfl)) (va_Nw.use rfl (hcas xA (by decide))) hc_w hv hcl ?_
    refine lv_astore hx hb_w dL_setPattern_12 hl (by decide) rfl (fun ls hl => ?_)
    refine lv_iconst (v := 1) hx hb_w dL_setPattern_14 (by decide) ?_
    exact hret 1 (x, fo) 15 _ _ _ dL_setPattern_15 hP hO hS_w (⟨rfl, Or.inr ⟨rfl, rfl, hE⟩⟩)
  · refine lv_goto (tgt := 16) hx hb_w dL_setPattern_9 rfl ?_
    refine lv_iconst (v := 0) hx hb_w dL_setPattern_16 (by decide) ?_
    exact hret 0 (u_w, fo) 17 _ _ _ dL_setPattern_17 hP hO hS_w ⟨rfl, Or.inl ⟨rfl, hp⟩⟩
set_option maxHeartbeats 4000000 in
set_option maxRecDepth 100000 in
theorem kL_setClaims (l : Launch) (hst : l.stackTraces = false) (G_w : va_G) (a_w : Nat → Nat) (cI cZ cL : ClassId) (x : SD) (fo : Nat → Int64) (hap : apart a_w 8) (sz_w : Nat) (p0_w p1_w : Int32) : lwr l yL_setClaims wsL_setClaims { frames := 7, cells := 1, slots := 6, locals := 112 } G_w a_w cI cZ cL x fo sz_w [.ref (a_w 0), .int p0_w, .int p1_w] (lwQ x fo (fun u_w => u_w = (upd (upd x.1 5 p0_w) 6 p1_w, x.2.1, x.2.2.1, x.2.2.2) ∧ okSC p0_w p1_w = true) (fun v_w => v_w = 1 ∧ okSC p0_w p1_w = false)) := by
  refine lwr_of (cc := cL_setClaims) (nL := 4) (hh := [(0, 6, 9, 13)]) rfl (Nat.le_of_ble_eq_true rfl) ?_
  intro p_w e_w s_w m_w args_w below meth_w c_w H locs_w ls Q hx hb_w hml hown hts htab hP hO hK_w ht hS_w hret hl
  have hl : lv_has ls 4 [(0, .ref (a_w 0)), (1, .int p0_w), (2, .int p1_w)] := hl
  have hcas := ht.2.2.2.1
  refine lv_aload_n hx hb_w dL_setClaims_0 rfl (lv_at hl 0 rfl) ?_
  refine lv_iload_n hx hb_w dL_setClaims_1 rfl (lv_at hl 1 rfl) ?_
  refine lv_iload_n hx hb_w dL_setClaims_2 rfl (lv_at hl 2 rfl) ?_
  refine lw_v (As := [.int p0_w, .int p1_w]) (rest := []) ⟨hx, hb_w, hml, hown, hts⟩ (kX1_setClaims l hst G_w a_w cI cZ x.1 x.2.1 x.2.2.1 x.2.2.2 (hap.le (by decide)) H.size p0_w p1_w) (cwV 2 hts gL_setClaims_X1_setClaims rfl rfl rfl (by decide +kernel) ⟨Nat.le_of_ble_eq_true rfl, Nat.le_of_ble_eq_true rfl⟩) hap hP hO hK_w ht hS_w rfl hl.1 rfl (Nat.le_of_ble_eq_true rfl) dL_setClaims_3 (by decide) (fun E_w ce q9_w H locs_w hE hP hO hS_w hc_w hv hcl => ?_) (fun u_w H locs_w hp hP hO hS_w => ?_)
  · rcases hE with ⟨rfl, hE⟩
    refine vx_catch (own := RL) (name := xA) (E := xA) hown [] ⟨0, 6, 9, 13⟩ [] htab (fun z_w hz => absurd hz List.not_mem_nil) rfl (by decide) (hts _ (List.mem_of_getElem? (i := 1) rfl)) (va_Nw.use rfl (hcas xA (by decide))) hc_w hv hcl ?_
    refine lv_astore_n hx hb_w dL_setClaims_9 rfl hl (by decide) rfl (fun ls hl => ?_)
    refine lv_iconst (v := 1) hx hb_w dL_setClaims_10 (by decide) ?_
    exact hret 1 (x, fo) 11 _ _ _ dL_setClaims_11 hP hO hS_w (⟨rfl, Or.inr ⟨rfl, rfl, hE⟩⟩)
  · refine lv_goto (tgt := 12) hx hb_w dL_setClaims_6 rfl ?_
    refine lv_iconst (v := 0) hx hb_w dL_setClaims_12 (by decide) ?_
    exact hret 0 (u_w, fo) 13 _ _ _ dL_setClaims_13 hP hO hS_w ⟨rfl, Or.inl ⟨rfl, hp⟩⟩
set_option maxHeartbeats 4000000 in
set_option maxRecDepth 100000 in
theorem kL_advance (l : Launch) (hst : l.stackTraces = false) (G_w : va_G) (a_w : Nat → Nat) (cI cZ cL : ClassId) (x : SD) (fo : Nat → Int64) (hap : apart a_w 8) (sz_w : Nat) (p0_w : Int32) (ct : Nat) (hc_w : ct ≤ 512) (hI : Inv ct x.1 x.2.1) : lwr l yL_advance wsL_advance { frames := 7, cells := 1, slots := 6, locals := 129 } G_w a_w cI cZ cL x fo sz_w [.ref (a_w 0), .int p0_w, .ref (a_w 7)] (lwP x fo (fun r_w u_w => r_w = (lkS (upd x.1 0 (x.1 0 + p0_w)) x.2.1).1 0 ∧ u_w = ((lkS (upd x.1 0 (x.1 0 + p0_w)) x.2.1).1, (lkS (upd x.1 0 (x.1 0 + p0_w)) x.2.1).2, x.2.2.1, x.2.2.2) ∧ thA x.1 p0_w = 0) (fun v_w => ¬ v_w = 0 ∧ thA x.1 p0_w = v_w)) := by
  refine lwr_of (cc := cL_advance) (nL := 4) (hh := [(0, 9, 12, 13), (0, 9, 15, 23)]) rfl (Nat.le_of_ble_eq_true rfl) ?_
  intro p_w e_w s_w m_w args_w below meth_w c_w H locs_w ls Q hx hb_w hml hown hts htab hP hO hK_w ht hS_w hret hl
  have hl : lv_has ls 4 [(0, .ref (a_w 0)), (1, .int p0_w), (2, .ref (a_w 7))] := hl
  have hcas := ht.2.2.2.1
  refine lv_aload_n hx hb_w dL_advance_0 rfl (lv_at hl 2 rfl) ?_
  refine lv_iconst (v := 0) hx hb_w dL_advance_1 (by decide) ?_
  refine lv_aload_n hx hb_w dL_advance_2 rfl (lv_at hl 0 rfl) ?_
  refine lv_iload_n hx hb_w dL_advance_3 rfl (lv_at hl 1 rfl) ?_
  refine lw_i (As := [.int p0_w]) (rest := [.int 0, .ref (a_w 7)]) ⟨hx, hb_w, hml, hown, hts⟩ (kX1_advance l hst G_w a_w cI cZ x.1 x.2.1 x.2.2.1 x.2.2.2 (hap.le (by decide)) H.size p0_w ct hc_w hI) (cwV 1 hts gL_advance_X1_advance rfl rfl rfl (by decide +kernel) ⟨Nat.le_of_ble_eq_true rfl, Nat.le_of_ble_eq_true rfl⟩) hap hP hO hK_w ht hS_w rfl hl.1 rfl (Nat.le_of_ble_eq_true rfl) dL_advance_4 (by decide) (fun E_w ce q9_w H locs_w hE hP hO hS_w hc_w hv hcl => ?_) (fun r_w u_w H locs_w hp hP hO hS_w => ?_)
  · rcases hE with ⟨rfl, hE⟩ | ⟨rfl, hE⟩
    · refine vx_catch (own := RL) (name := xA) (E := xA) hown [] ⟨0, 9, 12, 13⟩ [⟨0, 9, 15, 23⟩] htab (fun z_w hz => absurd hz List.not_mem_nil) rfl (by decide) (hts _ (List.mem_of_getElem? (i := 1) rfl)) (va_Nw.use rfl (hcas xA (by decide))) hc_w hv hcl ?_
      refine lv_astore_n hx hb_w dL_advance_12 rfl hl (by decide) rfl (fun ls hl => ?_)
      refine lv_iconst (v := 1) hx hb_w dL_advance_13 (by decide) ?_
      exact hret 1 (x, fo) 14 _ _ _ dL_advance_14 hP hO hS_w (Or.inr ⟨rfl, by decide, hE⟩)
    · refine vx_catch (own := RL) (name := xS) (E := xS) hown [⟨0, 9, 12, 13⟩] ⟨0, 9, 15, 23⟩ [] htab (fun z_w hz => by obtain rfl := List.mem_singleton.mp hz; exact Or.inr ⟨by decide, _, hts _ (List.mem_of_getElem? (i := 1) rfl), ht.2.2.2.2.1 _ (by decide) _ (by decide) (by decide)⟩) rfl (by decide) (hts _ (List.mem_of_getElem? (i := 2) rfl)) (va_Nw.use rfl (hcas xS (by decide))) hc_w hv hcl ?_
      refine lv_astore_n hx hb_w dL_advance_15 rfl hl (by decide) rfl (fun ls hl => ?_)
      refine lv_iconst (v := 2) hx hb_w dL_advance_16 (by decide) ?_
      exact hret 2 (x, fo) 17 _ _ _ dL_advance_17 hP hO hS_w (Or.inr ⟨rfl, by decide, hE⟩)
  · refine lv_i2l hx hb_w dL_advance_7 rfl ?_
    refine lw_last hx hb_w hap hP hO hK_w hS_w dL_advance_8 (fun fo1 H locs_w hfo hP hO hS_w => ?_)
    refine lv_goto (tgt := 18) hx hb_w dL_advance_9 rfl ?_
    refine lv_iconst (v := 0) hx hb_w dL_advance_18 (by decide) ?_
    exact hret 0 (u_w, fo1) 19 _ _ _ dL_advance_19 hP hO hS_w (Or.inl ⟨rfl, r_w, hp, hfo⟩)
set_option maxHeartbeats 4000000 in
set_option maxRecDepth 100000 in
theorem kL_checkIn (l : Launch) (hst : l.stackTraces = false) (G_w : va_G) (a_w : Nat → Nat) (cI cZ cL : ClassId) (x : SD) (fo : Nat → Int64) (hap : apart a_w 8) (sz_w : Nat) (p0_w p1_w : Int32) (ct : Nat) (hc_w : ct < 512) (hI : Inv ct x.1 x.2.1) : lwr l yL_checkIn wsL_checkIn { frames := 7, cells := 1, slots := 6, locals := 132 } G_w a_w cI cZ cL x fo sz_w [.ref (a_w 0), .int p0_w, .int p1_w, .ref (a_w 7)] (lwP x fo (fun r_w u_w => r_w = (ciS x.1 x.2.1 p0_w.toNatClampNeg p1_w.toNatClampNeg).1 7 ∧ u_w = ((ciS x.1 x.2.1 p0_w.toNatClampNeg p1_w.toNatClampNeg).1, (ciS x.1 x.2.1 p0_w.toNatClampNeg p1_w.toNatClampNeg).2, x.2.2.1, x.2.2.2) ∧ thC x.1 x.2.1 p0_w p1_w = 0) (fun v_w => ¬ v_w = 0 ∧ thC x.1 x.2.1 p0_w p1_w = v_w)) := by
  refine lwr_of (cc := cL_checkIn) (nL := 5) (hh := [(0, 10, 13, 29), (0, 10, 17, 13), (0, 10, 21, 23)]) rfl (Nat.le_of_ble_eq_true rfl) ?_
  intro p_w e_w s_w m_w args_w below meth_w c_w H locs_w ls Q hx hb_w hml hown hts htab hP hO hK_w ht hS_w hret hl
  have hl : lv_has ls 5 [(0, .ref (a_w 0)), (1, .int p0_w), (2, .int p1_w), (3, .ref (a_w 7))] := hl
  have hcas := ht.2.2.2.1
  refine lv_aload_n hx hb_w dL_checkIn_0 rfl (lv_at hl 3 rfl) ?_
  refine lv_iconst (v := 0) hx hb_w dL_checkIn_1 (by decide) ?_
  refine lv_aload_n hx hb_w dL_checkIn_2 rfl (lv_at hl 0 rfl) ?_
  refine lv_iload_n hx hb_w dL_checkIn_3 rfl (lv_at hl 1 rfl) ?_
  refine lv_iload_n hx hb_w dL_checkIn_4 rfl (lv_at hl 2 rfl) ?_
  refine lw_i (As := [.int p0_w, .int p1_w]) (rest := [.int 0, .ref (a_w 7)]) ⟨hx, hb_w, hml, hown, hts⟩ (kX1_checkIn l hst G_w a_w cI cZ x.1 x.2.1 x.2.2.1 x.2.2.2 (hap.le (by decide)) H.size p0_w p1_w ct hc_w hI) (cwV 2 hts gL_checkIn_X1_checkIn rfl rfl rfl (by decide +kernel) ⟨Nat.le_of_ble_eq_true rfl, Nat.le_of_ble_eq_true rfl⟩) hap hP hO hK_w ht hS_w rfl hl.1 rfl (Nat.le_of_ble_eq_true rfl) dL_checkIn_5 (by decide) (fun E_w ce q9_w H locs_w hE hP hO hS_w hc_w hv hcl => ?_) (fun r_w u_w H locs_w hp hP hO hS_w => ?_)
  · rcases hE with ⟨rfl, hE⟩ | ⟨rfl, hE⟩ | ⟨rfl, hE⟩
    · refine vx_catch (own := RL) (name := xI) (E := xI) hown [] ⟨0, 10, 13, 29⟩ [⟨0, 10, 17, 13⟩, ⟨0, 10, 21, 23⟩] htab (fun z_w hz => absurd hz List.not_mem_nil) rfl (by decide) (hts _ (List.mem_of_getElem? (i := 1) rfl)) (va_Nw.use rfl (hcas xI (by decide))) hc_w hv hcl ?_
      refine lv_astore hx hb_w dL_checkIn_13 hl (by decide) rfl (fun ls hl => ?_)
      refine lv_iconst (v := 1) hx hb_w dL_checkIn_15 (by decide) ?_
      exact hret 1 (x, fo) 16 _ _ _ dL_checkIn_16 hP hO hS_w (Or.inr ⟨rfl, by decide, hE⟩)
    · refine vx_catch (own := RL) (name := xA) (E := xA) hown [⟨0, 10, 13, 29⟩] ⟨0, 10, 17, 13⟩ [⟨0, 10, 21, 23⟩] htab (fun z_w hz => by obtain rfl := List.mem_singleton.mp hz; exact Or.inr ⟨by decide, _, hts _ (List.mem_of_getElem? (i := 1) rfl), ht.2.2.2.2.1 _ (by decide) _ (by decide) (by decide)⟩) rfl (by decide) (hts _ (List.mem_of_getElem? (i := 2) rfl)) (va_Nw.use rfl (hcas xA (by decide))) hc_w hv hcl ?_
      refine lv_astore hx hb_w dL_checkIn_17 hl (by decide) rfl (fun ls hl => ?_)
      refine lv_iconst (v := 2) hx hb_w dL_checkIn_19 (by decide) ?_
      exact hret 2 (x, fo) 20 _ _ _ dL_checkIn_20 hP hO hS_w (Or.inr ⟨rfl, by decide, hE⟩)
    · refine vx_catch (own := RL) (name := xS) (E := xS) hown [⟨0, 10, 13, 29⟩, ⟨0, 10, 17, 13⟩] ⟨0, 10, 21, 23⟩ [] htab (fun z_w hz => by
        simp only [List.mem_cons, List.not_mem_nil, or_false] at hz
        rcases hz with rfl | rfl
        · exact Or.inr ⟨by decide, _, hts _ (List.mem_of_getElem? (i := 1) rfl), ht.2.2.2.2.1 _ (by decide) _ (by decide) (by decide)⟩
        · exact Or.inr ⟨by decide, _, hts _ (List.mem_of_getElem? (i := 2) rfl), ht.2.2.2.2.1 _ (by decide) _ (by decide) (by decide)⟩) rfl (by decide) (hts _ (List.mem_of_getElem? (i := 3) rfl)) (va_Nw.use rfl (hcas xS (by decide))) hc_w hv hcl ?_
      refine lv_astore hx hb_w dL_checkIn_21 hl (by decide) rfl (fun ls hl => ?_)
      refine lv_iconst (v := 3) hx hb_w dL_checkIn_23 (by decide) ?_
      exact hret 3 (x, fo) 24 _ _ _ dL_checkIn_24 hP hO hS_w (Or.inr ⟨rfl, by decide, hE⟩)
  · refine lv_i2l hx hb_w dL_checkIn_8 rfl ?_
    refine lw_last hx hb_w hap hP hO hK_w hS_w dL_checkIn_9 (fun fo1 H locs_w hfo hP hO hS_w => ?_)
    refine lv_goto (tgt := 25) hx hb_w dL_checkIn_10 rfl ?_
    refine lv_iconst (v := 0) hx hb_w dL_checkIn_25 (by decide) ?_
    exact hret 0 (u_w, fo1) 26 _ _ _ dL_checkIn_26 hP hO hS_w (Or.inl ⟨rfl, r_w, hp, hfo⟩)
set_option maxHeartbeats 4000000 in
set_option maxRecDepth 100000 in
theorem kL_skip (l : Launch) (hst : l.stackTraces = false) (G_w : va_G) (a_w : Nat → Nat) (cI cZ cL : ClassId) (x : SD) (fo : Nat → Int64) (hap : apart a_w 8) (sz_w : Nat) (p0_w : Int32) : lwr l yL_skip wsL_skip { frames := 7, cells := 1, slots := 6, locals := 111 } G_w a_w cI cZ cL x fo sz_w [.ref (a_w 0), .int p0_w] (lwQ x fo (fun u_w => u_w = (x.1, up2 x.2.1 1 (upd (x.2.1 1) p0_w.toNatClampNeg 3), x.2.2.1, x.2.2.2) ∧ skT x.1 x.2.1 p0_w = 0) (fun v_w => ¬ v_w = 0 ∧ skT x.1 x.2.1 p0_w = v_w)) := by
  refine lwr_of (cc := cL_skip) (nL := 3) (hh := [(0, 5, 8, 29), (0, 5, 11, 23)]) rfl (Nat.le_of_ble_eq_true rfl) ?_
  intro p_w e_w s_w m_w args_w below meth_w c_w H locs_w ls Q hx hb_w hml hown hts htab hP hO hK_w ht hS_w hret hl
  have hl : lv_has ls 3 [(0, .ref (a_w 0)), (1, .int p0_w)] := hl
  have hcas := ht.2.2.2.1
  refine lv_aload_n hx hb_w dL_skip_0 rfl (lv_at hl 0 rfl) ?_
  refine lv_iload_n hx hb_w dL_skip_1 rfl (lv_at hl 1 rfl) ?_
  refine lw_v (As := [.int p0_w]) (rest := []) ⟨hx, hb_w, hml, hown, hts⟩ (kX1_skip l hst G_w a_w cI cZ x.1 x.2.1 x.2.2.1 x.2.2.2 (hap.le (by decide)) H.size p0_w) (cwV 1 hts gL_skip_X1_skip rfl rfl rfl (by decide +kernel) ⟨Nat.le_of_ble_eq_true rfl, Nat.le_of_ble_eq_true rfl⟩) hap hP hO hK_w ht hS_w rfl hl.1 rfl (Nat.le_of_ble_eq_true rfl) dL_skip_2 (by decide) (fun E_w ce q9_w H locs_w hE hP hO hS_w hc_w hv hcl => ?_) (fun u_w H locs_w hp hP hO hS_w => ?_)
  · rcases hE with ⟨rfl, hE⟩ | ⟨rfl, hE⟩
    · refine vx_catch (own := RL) (name := xI) (E := xI) hown [] ⟨0, 5, 8, 29⟩ [⟨0, 5, 11, 23⟩] htab (fun z_w hz => absurd hz List.not_mem_nil) rfl (by decide) (hts _ (List.mem_of_getElem? (i := 1) rfl)) (va_Nw.use rfl (hcas xI (by decide))) hc_w hv hcl ?_
      refine lv_astore_n hx hb_w dL_skip_8 rfl hl (by decide) rfl (fun ls hl => ?_)
      refine lv_iconst (v := 1) hx hb_w dL_skip_9 (by decide) ?_
      exact hret 1 (x, fo) 10 _ _ _ dL_skip_10 hP hO hS_w (⟨rfl, Or.inr ⟨rfl, by decide, hE⟩⟩)
    · refine vx_catch (own := RL) (name := xS) (E := xS) hown [⟨0, 5, 8, 29⟩] ⟨0, 5, 11, 23⟩ [] htab (fun z_w hz => by obtain rfl := List.mem_singleton.mp hz; exact Or.inr ⟨by decide, _, hts _ (List.mem_of_getElem? (i := 1) rfl), ht.2.2.2.2.1 _ (by decide) _ (by decide) (by decide)⟩) rfl (by decide) (hts _ (List.mem_of_getElem? (i := 2) rfl)) (va_Nw.use rfl (hcas xS (by decide))) hc_w hv hcl ?_
      refine lv_astore_n hx hb_w dL_skip_11 rfl hl (by decide) rfl (fun ls hl => ?_)
      refine lv_iconst (v := 2) hx hb_w dL_skip_12 (by decide) ?_
      exact hret 2 (x, fo) 13 _ _ _ dL_skip_13 hP hO hS_w (⟨rfl, Or.inr ⟨rfl, by decide, hE⟩⟩)
  · refine lv_goto (tgt := 14) hx hb_w dL_skip_5 rfl ?_
    refine lv_iconst (v := 0) hx hb_w dL_skip_14 (by decide) ?_
    exact hret 0 (u_w, fo) 15 _ _ _ dL_skip_15 hP hO hS_w ⟨rfl, Or.inl ⟨rfl, hp⟩⟩
set_option maxHeartbeats 4000000 in
set_option maxRecDepth 100000 in
theorem kL_dayOf (l : Launch) (hst : l.stackTraces = false) (G_w : va_G) (a_w : Nat → Nat) (cI cZ cL : ClassId) (x : SD) (fo : Nat → Int64) (hap : apart a_w 8) (sz_w : Nat) (p0_w : Int32) : lwr l yL_dayOf wsL_dayOf { frames := 7, cells := 1, slots := 6, locals := 111 } G_w a_w cI cZ cL x fo sz_w [.ref (a_w 0), .int p0_w, .ref (a_w 7)] (lwP x fo (fun r_w u_w => r_w = askV x.1 (x.2.1 0) p0_w ∧ u_w = (x.1, x.2.1, x.2.2.1, x.2.2.2) ∧ isF x.1 p0_w = true) (fun v_w => v_w = 1 ∧ isF x.1 p0_w = false)) := by
  refine lwr_of (cc := cL_dayOf) (nL := 4) (hh := [(0, 9, 12, 29)]) rfl (Nat.le_of_ble_eq_true rfl) ?_
  intro p_w e_w s_w m_w args_w below meth_w c_w H locs_w ls Q hx hb_w hml hown hts htab hP hO hK_w ht hS_w hret hl
  have hl : lv_has ls 4 [(0, .ref (a_w 0)), (1, .int p0_w), (2, .ref (a_w 7))] := hl
  have hcas := ht.2.2.2.1
  refine lv_aload_n hx hb_w dL_dayOf_0 rfl (lv_at hl 2 rfl) ?_
  refine lv_iconst (v := 0) hx hb_w dL_dayOf_1 (by decide) ?_
  refine lv_aload_n hx hb_w dL_dayOf_2 rfl (lv_at hl 0 rfl) ?_
  refine lv_iload_n hx hb_w dL_dayOf_3 rfl (lv_at hl 1 rfl) ?_
  refine lw_i (As := [.int p0_w]) (rest := [.int 0, .ref (a_w 7)]) ⟨hx, hb_w, hml, hown, hts⟩ (kX1_dayOf l hst G_w a_w cI cZ x.1 x.2.1 x.2.2.1 x.2.2.2 (hap.le (by decide)) H.size p0_w) (cwV 1 hts gL_dayOf_X1_dayOf rfl rfl rfl (by decide +kernel) ⟨Nat.le_of_ble_eq_true rfl, Nat.le_of_ble_eq_true rfl⟩) hap hP hO hK_w ht hS_w rfl hl.1 rfl (Nat.le_of_ble_eq_true rfl) dL_dayOf_4 (by decide) (fun E_w ce q9_w H locs_w hE hP hO hS_w hc_w hv hcl => ?_) (fun r_w u_w H locs_w hp hP hO hS_w => ?_)
  · rcases hE with ⟨rfl, hE⟩
    refine vx_catch (own := RL) (name := xI) (E := xI) hown [] ⟨0, 9, 12, 29⟩ [] htab (fun z_w hz => absurd hz List.not_mem_nil) rfl (by decide) (hts _ (List.mem_of_getElem? (i := 1) rfl)) (va_Nw.use rfl (hcas xI (by decide))) hc_w hv hcl ?_
    refine lv_astore_n hx hb_w dL_dayOf_12 rfl hl (by decide) rfl (fun ls hl => ?_)
    refine lv_iconst (v := 1) hx hb_w dL_dayOf_13 (by decide) ?_
    exact hret 1 (x, fo) 14 _ _ _ dL_dayOf_14 hP hO hS_w (Or.inr ⟨rfl, rfl, hE⟩)
  · refine lv_i2l hx hb_w dL_dayOf_7 rfl ?_
    refine lw_last hx hb_w hap hP hO hK_w hS_w dL_dayOf_8 (fun fo1 H locs_w hfo hP hO hS_w => ?_)
    refine lv_goto (tgt := 15) hx hb_w dL_dayOf_9 rfl ?_
    refine lv_iconst (v := 0) hx hb_w dL_dayOf_15 (by decide) ?_
    exact hret 0 (u_w, fo1) 16 _ _ _ dL_dayOf_16 hP hO hS_w (Or.inl ⟨rfl, r_w, hp, hfo⟩)
set_option maxHeartbeats 4000000 in
set_option maxRecDepth 100000 in
theorem kL_stateOf (l : Launch) (hst : l.stackTraces = false) (G_w : va_G) (a_w : Nat → Nat) (cI cZ cL : ClassId) (x : SD) (fo : Nat → Int64) (hap : apart a_w 8) (sz_w : Nat) (p0_w : Int32) : lwr l yL_stateOf wsL_stateOf { frames := 7, cells := 1, slots := 6, locals := 111 } G_w a_w cI cZ cL x fo sz_w [.ref (a_w 0), .int p0_w, .ref (a_w 7)] (lwP x fo (fun r_w u_w => r_w = askV x.1 (x.2.1 1) p0_w ∧ u_w = (x.1, x.2.1, x.2.2.1, x.2.2.2) ∧ isF x.1 p0_w = true) (fun v_w => v_w = 1 ∧ isF x.1 p0_w = false)) := by
  refine lwr_of (cc := cL_stateOf) (nL := 4) (hh := [(0, 9, 12, 29)]) rfl (Nat.le_of_ble_eq_true rfl) ?_
  intro p_w e_w s_w m_w args_w below meth_w c_w H locs_w ls Q hx hb_w hml hown hts htab hP hO hK_w ht hS_w hret hl
  have hl : lv_has ls 4 [(0, .ref (a_w 0)), (1, .int p0_w), (2, .ref (a_w 7))] := hl
  have hcas := ht.2.2.2.1
  refine lv_aload_n hx hb_w dL_stateOf_0 rfl (lv_at hl 2 rfl) ?_
  refine lv_iconst (v := 0) hx hb_w dL_stateOf_1 (by decide) ?_
  refine lv_aload_n hx hb_w dL_stateOf_2 rfl (lv_at hl 0 rfl) ?_
  refine lv_iload_n hx hb_w dL_stateOf_3 rfl (lv_at hl 1 rfl) ?_
  refine lw_i (As := [.int p0_w]) (rest := [.int 0, .ref (a_w 7)]) ⟨hx, hb_w, hml, hown, hts⟩ (kX1_stateOf l hst G_w a_w cI cZ x.1 x.2.1 x.2.2.1 x.2.2.2 (hap.le (by decide)) H.size p0_w) (cwV 1 hts gL_stateOf_X1_stateOf rfl rfl rfl (by decide +kernel) ⟨Nat.le_of_ble_eq_true rfl, Nat.le_of_ble_eq_true rfl⟩) hap hP hO hK_w ht hS_w rfl hl.1 rfl (Nat.le_of_ble_eq_true rfl) dL_stateOf_4 (by decide) (fun E_w ce q9_w H locs_w hE hP hO hS_w hc_w hv hcl => ?_) (fun r_w u_w H locs_w hp hP hO hS_w => ?_)
  · rcases hE with ⟨rfl, hE⟩
    refine vx_catch (own := RL) (name := xI) (E := xI) hown [] ⟨0, 9, 12, 29⟩ [] htab (fun z_w hz => absurd hz List.not_mem_nil) rfl (by decide) (hts _ (List.mem_of_getElem? (i := 1) rfl)) (va_Nw.use rfl (hcas xI (by decide))) hc_w hv hcl ?_
    refine lv_astore_n hx hb_w dL_stateOf_12 rfl hl (by decide) rfl (fun ls hl => ?_)
    refine lv_iconst (v := 1) hx hb_w dL_stateOf_13 (by decide) ?_
    exact hret 1 (x, fo) 14 _ _ _ dL_stateOf_14 hP hO hS_w (Or.inr ⟨rfl, rfl, hE⟩)
  · refine lv_i2l hx hb_w dL_stateOf_7 rfl ?_
    refine lw_last hx hb_w hap hP hO hK_w hS_w dL_stateOf_8 (fun fo1 H locs_w hfo hP hO hS_w => ?_)
    refine lv_goto (tgt := 15) hx hb_w dL_stateOf_9 rfl ?_
    refine lv_iconst (v := 0) hx hb_w dL_stateOf_15 (by decide) ?_
    exact hret 0 (u_w, fo1) 16 _ _ _ dL_stateOf_16 hP hO hS_w (Or.inl ⟨rfl, r_w, hp, hfo⟩)
set_option maxHeartbeats 4000000 in
set_option maxRecDepth 100000 in
theorem kL_claimsOf (l : Launch) (hst : l.stackTraces = false) (G_w : va_G) (a_w : Nat → Nat) (cI cZ cL : ClassId) (x : SD) (fo : Nat → Int64) (hap : apart a_w 8) (sz_w : Nat) (p0_w : Int32) : lwr l yL_claimsOf wsL_claimsOf { frames := 7, cells := 1, slots := 6, locals := 111 } G_w a_w cI cZ cL x fo sz_w [.ref (a_w 0), .int p0_w, .ref (a_w 7)] (lwP x fo (fun r_w u_w => r_w = askV x.1 (x.2.1 2) p0_w ∧ u_w = (x.1, x.2.1, x.2.2.1, x.2.2.2) ∧ isF x.1 p0_w = true) (fun v_w => v_w = 1 ∧ isF x.1 p0_w = false)) := by
  refine lwr_of (cc := cL_claimsOf) (nL := 4) (hh := [(0, 9, 12, 29)]) rfl (Nat.le_of_ble_eq_true rfl) ?_
  intro p_w e_w s_w m_w args_w below meth_w c_w H locs_w ls Q hx hb_w hml hown hts htab hP hO hK_w ht hS_w hret hl
  have hl : lv_has ls 4 [(0, .ref (a_w 0)), (1, .int p0_w), (2, .ref (a_w 7))] := hl
  have hcas := ht.2.2.2.1
  refine lv_aload_n hx hb_w dL_claimsOf_0 rfl (lv_at hl 2 rfl) ?_
  refine lv_iconst (v := 0) hx hb_w dL_claimsOf_1 (by decide) ?_
  refine lv_aload_n hx hb_w dL_claimsOf_2 rfl (lv_at hl 0 rfl) ?_
  refine lv_iload_n hx hb_w dL_claimsOf_3 rfl (lv_at hl 1 rfl) ?_
  refine lw_i (As := [.int p0_w]) (rest := [.int 0, .ref (a_w 7)]) ⟨hx, hb_w, hml, hown, hts⟩ (kX1_claimsOf l hst G_w a_w cI cZ x.1 x.2.1 x.2.2.1 x.2.2.2 (hap.le (by decide)) H.size p0_w) (cwV 1 hts gL_claimsOf_X1_claimsOf rfl rfl rfl (by decide +kernel) ⟨Nat.le_of_ble_eq_true rfl, Nat.le_of_ble_eq_true rfl⟩) hap hP hO hK_w ht hS_w rfl hl.1 rfl (Nat.le_of_ble_eq_true rfl) dL_claimsOf_4 (by decide) (fun E_w ce q9_w H locs_w hE hP hO hS_w hc_w hv hcl => ?_) (fun r_w u_w H locs_w hp hP hO hS_w => ?_)
  · rcases hE with ⟨rfl, hE⟩
    refine vx_catch (own := RL) (name := xI) (E := xI) hown [] ⟨0, 9, 12, 29⟩ [] htab (fun z_w hz => absurd hz List.not_mem_nil) rfl (by decide) (hts _ (List.mem_of_getElem? (i := 1) rfl)) (va_Nw.use rfl (hcas xI (by decide))) hc_w hv hcl ?_
    refine lv_astore_n hx hb_w dL_claimsOf_12 rfl hl (by decide) rfl (fun ls hl => ?_)
    refine lv_iconst (v := 1) hx hb_w dL_claimsOf_13 (by decide) ?_
    exact hret 1 (x, fo) 14 _ _ _ dL_claimsOf_14 hP hO hS_w (Or.inr ⟨rfl, rfl, hE⟩)
  · refine lv_i2l hx hb_w dL_claimsOf_7 rfl ?_
    refine lw_last hx hb_w hap hP hO hK_w hS_w dL_claimsOf_8 (fun fo1 H locs_w hfo hP hO hS_w => ?_)
    refine lv_goto (tgt := 15) hx hb_w dL_claimsOf_9 rfl ?_
    refine lv_iconst (v := 0) hx hb_w dL_claimsOf_15 (by decide) ?_
    exact hret 0 (u_w, fo1) 16 _ _ _ dL_claimsOf_16 hP hO hS_w (Or.inl ⟨rfl, r_w, hp, hfo⟩)
set_option maxHeartbeats 4000000 in
set_option maxRecDepth 100000 in
theorem kL_labelOf (l : Launch) (hst : l.stackTraces = false) (G_w : va_G) (a_w : Nat → Nat) (cI cZ cL : ClassId) (x : SD) (fo : Nat → Int64) (hap : apart a_w 8) (sz_w : Nat) (p0_w : Int32) : lwr l yL_labelOf wsL_labelOf { frames := 7, cells := 1, slots := 6, locals := 111 } G_w a_w cI cZ cL x fo sz_w [.ref (a_w 0), .int p0_w, .ref (a_w 7)] (lwP x fo (fun r_w u_w => r_w = 1000 * volD x.1 p0_w + numD x.1 p0_w ∧ u_w = (x.1, x.2.1, x.2.2.1, x.2.2.2) ∧ isI p0_w = true) (fun v_w => v_w = 1 ∧ isI p0_w = false)) := by
  refine lwr_of (cc := cL_labelOf) (nL := 4) (hh := [(0, 9, 12, 29)]) rfl (Nat.le_of_ble_eq_true rfl) ?_
  intro p_w e_w s_w m_w args_w below meth_w c_w H locs_w ls Q hx hb_w hml hown hts htab hP hO hK_w ht hS_w hret hl
  have hl : lv_has ls 4 [(0, .ref (a_w 0)), (1, .int p0_w), (2, .ref (a_w 7))] := hl
  have hcas := ht.2.2.2.1
  refine lv_aload_n hx hb_w dL_labelOf_0 rfl (lv_at hl 2 rfl) ?_
  refine lv_iconst (v := 0) hx hb_w dL_labelOf_1 (by decide) ?_
  refine lv_aload_n hx hb_w dL_labelOf_2 rfl (lv_at hl 0 rfl) ?_
  refine lv_iload_n hx hb_w dL_labelOf_3 rfl (lv_at hl 1 rfl) ?_
  refine lw_i (As := [.int p0_w]) (rest := [.int 0, .ref (a_w 7)]) ⟨hx, hb_w, hml, hown, hts⟩ (kX1_labelOf l hst G_w a_w cI cZ x.1 x.2.1 x.2.2.1 x.2.2.2 (hap.le (by decide)) H.size p0_w) (cwV 1 hts gL_labelOf_X1_labelOf rfl rfl rfl (by decide +kernel) ⟨Nat.le_of_ble_eq_true rfl, Nat.le_of_ble_eq_true rfl⟩) hap hP hO hK_w ht hS_w rfl hl.1 rfl (Nat.le_of_ble_eq_true rfl) dL_labelOf_4 (by decide) (fun E_w ce q9_w H locs_w hE hP hO hS_w hc_w hv hcl => ?_) (fun r_w u_w H locs_w hp hP hO hS_w => ?_)
  · rcases hE with ⟨rfl, hE⟩
    refine vx_catch (own := RL) (name := xI) (E := xI) hown [] ⟨0, 9, 12, 29⟩ [] htab (fun z_w hz => absurd hz List.not_mem_nil) rfl (by decide) (hts _ (List.mem_of_getElem? (i := 1) rfl)) (va_Nw.use rfl (hcas xI (by decide))) hc_w hv hcl ?_
    refine lv_astore_n hx hb_w dL_labelOf_12 rfl hl (by decide) rfl (fun ls hl => ?_)
    refine lv_iconst (v := 1) hx hb_w dL_labelOf_13 (by decide) ?_
    exact hret 1 (x, fo) 14 _ _ _ dL_labelOf_14 hP hO hS_w (Or.inr ⟨rfl, rfl, hE⟩)
  · refine lv_i2l hx hb_w dL_labelOf_7 rfl ?_
    refine lw_last hx hb_w hap hP hO hK_w hS_w dL_labelOf_8 (fun fo1 H locs_w hfo hP hO hS_w => ?_)
    refine lv_goto (tgt := 15) hx hb_w dL_labelOf_9 rfl ?_
    refine lv_iconst (v := 0) hx hb_w dL_labelOf_15 (by decide) ?_
    exact hret 0 (u_w, fo1) 16 _ _ _ dL_labelOf_16 hP hO hS_w (Or.inl ⟨rfl, r_w, hp, hfo⟩)
set_option maxHeartbeats 4000000 in
set_option maxRecDepth 100000 in
theorem kL_rangeAt (l : Launch) (hst : l.stackTraces = false) (G_w : va_G) (a_w : Nat → Nat) (cI cZ cL : ClassId) (x : SD) (fo : Nat → Int64) (hap : apart a_w 8) (sz_w : Nat) (p0_w : Int32) : lwr l yL_rangeAt wsL_rangeAt { frames := 7, cells := 1, slots := 6, locals := 128 } G_w a_w cI cZ cL x fo sz_w [.ref (a_w 0), .int p0_w, .ref (a_w 7)] (lwP x fo (fun r_w u_w => r_w = rgA x.1 x.2.1 p0_w ∧ u_w = (x.1, x.2.1, x.2.2.1, x.2.2.2) ∧ rgT x.1 x.2.1 p0_w = 0) (fun v_w => v_w = 1 ∧ rgT x.1 x.2.1 p0_w = 1)) := by
  refine lwr_of (cc := cL_rangeAt) (nL := 4) (hh := [(0, 9, 12, 29)]) rfl (Nat.le_of_ble_eq_true rfl) ?_
  intro p_w e_w s_w m_w args_w below meth_w c_w H locs_w ls Q hx hb_w hml hown hts htab hP hO hK_w ht hS_w hret hl
  have hl : lv_has ls 4 [(0, .ref (a_w 0)), (1, .int p0_w), (2, .ref (a_w 7))] := hl
  have hcas := ht.2.2.2.1
  refine lv_aload_n hx hb_w dL_rangeAt_0 rfl (lv_at hl 2 rfl) ?_
  refine lv_iconst (v := 0) hx hb_w dL_rangeAt_1 (by decide) ?_
  refine lv_aload_n hx hb_w dL_rangeAt_2 rfl (lv_at hl 0 rfl) ?_
  refine lv_iload_n hx hb_w dL_rangeAt_3 rfl (lv_at hl 1 rfl) ?_
  refine lw_i (As := [.int p0_w]) (rest := [.int 0, .ref (a_w 7)]) ⟨hx, hb_w, hml, hown, hts⟩ (kX1_rangeAt l hst G_w a_w cI cZ x.1 x.2.1 x.2.2.1 x.2.2.2 (hap.le (by decide)) H.size p0_w) (cwV 1 hts gL_rangeAt_X1_rangeAt rfl rfl rfl (by decide +kernel) ⟨Nat.le_of_ble_eq_true rfl, Nat.le_of_ble_eq_true rfl⟩) hap hP hO hK_w ht hS_w rfl hl.1 rfl (Nat.le_of_ble_eq_true rfl) dL_rangeAt_4 (by decide) (fun E_w ce q9_w H locs_w hE hP hO hS_w hc_w hv hcl => ?_) (fun r_w u_w H locs_w hp hP hO hS_w => ?_)
  · rcases hE with ⟨rfl, hE⟩
    refine vx_catch (own := RL) (name := xI) (E := xI) hown [] ⟨0, 9, 12, 29⟩ [] htab (fun z_w hz => absurd hz List.not_mem_nil) rfl (by decide) (hts _ (List.mem_of_getElem? (i := 1) rfl)) (va_Nw.use rfl (hcas xI (by decide))) hc_w hv hcl ?_
    refine lv_astore_n hx hb_w dL_rangeAt_12 rfl hl (by decide) rfl (fun ls hl => ?_)
    refine lv_iconst (v := 1) hx hb_w dL_rangeAt_13 (by decide) ?_
    exact hret 1 (x, fo) 14 _ _ _ dL_rangeAt_14 hP hO hS_w (Or.inr ⟨rfl, rfl, hE⟩)
  · refine lv_i2l hx hb_w dL_rangeAt_7 rfl ?_
    refine lw_last hx hb_w hap hP hO hK_w hS_w dL_rangeAt_8 (fun fo1 H locs_w hfo hP hO hS_w => ?_)
    refine lv_goto (tgt := 15) hx hb_w dL_rangeAt_9 rfl ?_
    refine lv_iconst (v := 0) hx hb_w dL_rangeAt_15 (by decide) ?_
    exact hret 0 (u_w, fo1) 16 _ _ _ dL_rangeAt_16 hP hO hS_w (Or.inl ⟨rfl, r_w, hp, hfo⟩)
set_option maxHeartbeats 4000000 in
set_option maxRecDepth 100000 in
theorem kL_give (l : Launch) (hst : l.stackTraces = false) (G_w : va_G) (a_w : Nat → Nat) (cI cZ cL : ClassId) (x : SD) (fo : Nat → Int64) (hap : apart a_w 8) (sz_w : Nat) (p0_w p1_w : Int32) (h01 : ∀ k_w, x.2.1 4 k_w = 0 ∨ x.2.1 4 k_w = 1) (htc : x.2.2.2 = nI (cnt (thB (x.2.1 4)) 200)) : lwr l yL_give wsL_give { frames := 7, cells := 1, slots := 6, locals := 113 } G_w a_w cI cZ cL x fo sz_w [.ref (a_w 0), .int p0_w, .int p1_w, .ref (a_w 7)] (lwP x fo (fun r_w u_w => r_w = nI (cnt (thB (gvU (x.2.1 4) p0_w.toNatClampNeg p1_w.toNatClampNeg)) 200) ∧ u_w = (x.1, up2 x.2.1 4 (gvU (x.2.1 4) p0_w.toNatClampNeg p1_w.toNatClampNeg), x.2.2.1, nI (cnt (thB (gvU (x.2.1 4) p0_w.toNatClampNeg p1_w.toNatClampNeg)) 200)) ∧ okG p0_w p1_w = true) (fun v_w => v_w = 1 ∧ okG p0_w p1_w = false)) := by
  refine lwr_of (cc := cL_give) (nL := 5) (hh := [(0, 10, 13, 13)]) rfl (Nat.le_of_ble_eq_true rfl) ?_
  intro p_w e_w s_w m_w args_w below meth_w c_w H locs_w ls Q hx hb_w hml hown hts htab hP hO hK_w ht hS_w hret hl
  have hl : lv_has ls 5 [(0, .ref (a_w 0)), (1, .int p0_w), (2, .int p1_w), (3, .ref (a_w 7))] := hl
  have hcas := ht.2.2.2.1
  refine lv_aload_n hx hb_w dL_give_0 rfl (lv_at hl 3 rfl) ?_
  refine lv_iconst (v := 0) hx hb_w dL_give_1 (by decide) ?_
  refine lv_aload_n hx hb_w dL_give_2 rfl (lv_at hl 0 rfl) ?_
  refine lv_iload_n hx hb_w dL_give_3 rfl (lv_at hl 1 rfl) ?_
  refine lv_iload_n hx hb_w dL_give_4 rfl (lv_at hl 2 rfl) ?_
  refine lw_i (As := [.int p0_w, .int p1_w]) (rest := [.int 0, .ref (a_w 7)]) ⟨hx, hb_w, hml, hown, hts⟩ (kX1_give l hst G_w a_w cI cZ x.1 x.2.1 x.2.2.1 x.2.2.2 (hap.le (by decide)) H.size p0_w p1_w h01 htc) (cwV 2 hts gL_give_X1_give rfl rfl rfl (by decide +kernel) ⟨Nat.le_of_ble_eq_true rfl, Nat.le_of_ble_eq_true rfl⟩) hap hP hO hK_w ht hS_w rfl hl.1 rfl (Nat.le_of_ble_eq_true rfl) dL_give_5 (by decide) (fun E_w ce q9_w H locs_w hE hP hO hS_w hc_w hv hcl => ?_) (fun r_w u_w H locs_w hp hP hO hS_w => ?_)
  · rcases hE with ⟨rfl, hE⟩
    refine vx_catch (own := RL) (name := xA) (E := xA) hown [] ⟨0, 10, 13, 13⟩ [] htab (fun z_w hz => absurd hz List.not_mem_nil) rfl (by decide) (hts _ (List.mem_of_getElem? (i := 1) rfl)) (va_Nw.use rfl (hcas xA (by decide))) hc_w hv hcl ?_
    refine lv_astore hx hb_w dL_give_13 hl (by decide) rfl (fun ls hl => ?_)
    refine lv_iconst (v := 1) hx hb_w dL_give_15 (by decide) ?_
    exact hret 1 (x, fo) 16 _ _ _ dL_give_16 hP hO hS_w (Or.inr ⟨rfl, rfl, hE⟩)
  · refine lv_i2l hx hb_w dL_give_8 rfl ?_
    refine lw_last hx hb_w hap hP hO hK_w hS_w dL_give_9 (fun fo1 H locs_w hfo hP hO hS_w => ?_)
    refine lv_goto (tgt := 17) hx hb_w dL_give_10 rfl ?_
    refine lv_iconst (v := 0) hx hb_w dL_give_17 (by decide) ?_
    exact hret 0 (u_w, fo1) 18 _ _ _ dL_give_18 hP hO hS_w (Or.inl ⟨rfl, r_w, hp, hfo⟩)
set_option maxHeartbeats 4000000 in
set_option maxRecDepth 100000 in
theorem kL_only (l : Launch) (hst : l.stackTraces = false) (G_w : va_G) (a_w : Nat → Nat) (cI cZ cL : ClassId) (x : SD) (fo : Nat → Int64) (hap : apart a_w 8) (sz_w : Nat) (p0_w p1_w : Int32) (hp0 : p0_w = 0 ∨ p0_w = 1) (h01 : ∀ k_w, x.2.1 4 k_w = 0 ∨ x.2.1 4 k_w = 1) : lwr l yL_only wsL_only { frames := 7, cells := 1, slots := 6, locals := 115 } G_w a_w cI cZ cL x fo sz_w [.ref (a_w 0), .int p0_w, .int p1_w, .ref (a_w 7)] (lwP x fo (fun r_w u_w => r_w = scan (onB x.1 x.2.1 p0_w) p1_w 0 200 0 ∧ u_w = (x.1, x.2.1, x.2.2.1, x.2.2.2) ∧ 0 ≤ p1_w) (fun v_w => v_w = 1 ∧ ¬ 0 ≤ p1_w)) := by
  refine lwr_of (cc := cL_only) (nL := 5) (hh := [(0, 10, 13, 13)]) rfl (Nat.le_of_ble_eq_true rfl) ?_
  intro p_w e_w s_w m_w args_w below meth_w c_w H locs_w ls Q hx hb_w hml hown hts htab hP hO hK_w ht hS_w hret hl
  have hl : lv_has ls 5 [(0, .ref (a_w 0)), (1, .int p0_w), (2, .int p1_w), (3, .ref (a_w 7))] := hl
  have hcas := ht.2.2.2.1
  refine lv_aload_n hx hb_w dL_only_0 rfl (lv_at hl 3 rfl) ?_
  refine lv_iconst (v := 0) hx hb_w dL_only_1 (by decide) ?_
  refine lv_aload_n hx hb_w dL_only_2 rfl (lv_at hl 0 rfl) ?_
  refine lv_iload_n hx hb_w dL_only_3 rfl (lv_at hl 1 rfl) ?_
  refine lv_iload_n hx hb_w dL_only_4 rfl (lv_at hl 2 rfl) ?_
  refine lw_i (As := [.int p0_w, .int p1_w]) (rest := [.int 0, .ref (a_w 7)]) ⟨hx, hb_w, hml, hown, hts⟩ (kX1_only l hst G_w a_w cI cZ x.1 x.2.1 x.2.2.1 x.2.2.2 (hap.le (by decide)) H.size p0_w p1_w hp0 h01) (cwV 2 hts gL_only_X1_only rfl rfl rfl (by decide +kernel) ⟨Nat.le_of_ble_eq_true rfl, Nat.le_of_ble_eq_true rfl⟩) hap hP hO hK_w ht hS_w rfl hl.1 rfl (Nat.le_of_ble_eq_true rfl) dL_only_5 (by decide) (fun E_w ce q9_w H locs_w hE hP hO hS_w hc_w hv hcl => ?_) (fun r_w u_w H locs_w hp hP hO hS_w => ?_)
  · rcases hE with ⟨rfl, hE⟩
    refine vx_catch (own := RL) (name := xA) (E := xA) hown [] ⟨0, 10, 13, 13⟩ [] htab (fun z_w hz => absurd hz List.not_mem_nil) rfl (by decide) (hts _ (List.mem_of_getElem? (i := 1) rfl)) (va_Nw.use rfl (hcas xA (by decide))) hc_w hv hcl ?_
    refine lv_astore hx hb_w dL_only_13 hl (by decide) rfl (fun ls hl => ?_)
    refine lv_iconst (v := 1) hx hb_w dL_only_15 (by decide) ?_
    exact hret 1 (x, fo) 16 _ _ _ dL_only_16 hP hO hS_w (Or.inr ⟨rfl, rfl, hE⟩)
  · refine lv_i2l hx hb_w dL_only_8 rfl ?_
    refine lw_last hx hb_w hap hP hO hK_w hS_w dL_only_9 (fun fo1 H locs_w hfo hP hO hS_w => ?_)
    refine lv_goto (tgt := 17) hx hb_w dL_only_10 rfl ?_
    refine lv_iconst (v := 0) hx hb_w dL_only_17 (by decide) ?_
    exact hret 0 (u_w, fo1) 18 _ _ _ dL_only_18 hP hO hS_w (Or.inl ⟨rfl, r_w, hp, hfo⟩)
