def strL : List (Nat × String) := [(113, "the issue is not foretold"), (115, "the issue is not waited for"), (139, "there are not so many ranges"), (144, "first is not 0 to 199"), (146, "last is not first to 199"), (151, "k is below 0"), (52, "the gap is not 1 to 90"), (57, "the size is not 1 to 20"), (59, "the skipped months are not 0 to 4094"), (68, "the grace is not 0 to 100"), (70, "the pause is not 1 to 100"), (72, "the days are not 1 to 400"), (79, "the day would be above 7200"), (88, "there is no such issue"), (91, "bound is out of range"), (97, "one of these issues is not waited for")]
abbrev xA : String := "java/lang/IllegalArgumentException"
abbrev xS : String := "java/lang/IllegalStateException"
abbrev xI : String := "java/lang/IndexOutOfBoundsException"
abbrev xN : List String := ["java/lang/RuntimeException", "java/lang/Exception"]
def exL : List String := [xA, xS, xI]
/-- what the law catches -/
def exC : List String := [xS, xI]
def dcL : List MethodName := [⟨"java/lang/RuntimeException", "<init>", "(Ljava/lang/String;)V"⟩, ⟨"java/lang/Exception", "<init>", "(Ljava/lang/String;)V"⟩, ⟨"java/lang/Throwable", "<init>", "(Ljava/lang/String;)V"⟩]
/-- what a throw asks of the machine beyond the method's words -/
def thr (A : Nat → Prop) (U : State) : Prop :=
  vx_Zq Bundle.tN "UNASSIGNED_STACK" Bundle.steD A U U.heap ∧ vx_Zq Bundle.tN "SUPPRESSED_SENTINEL" Bundle.listD A U U.heap ∧ (∀ q ∈ strL, ∃ sa, vk_R RX1 q.1 q.2 sa U) ∧ (∀ X ∈ exL, va_Nw (.castable X X) U) ∧ (∀ X ∈ exL, ∀ Y ∈ exC, X ≠ Y → va_Nc X Y U) ∧ (∀ x ∈ dcL, va_Nw (.declares x) U)
theorem fb_t {G : va_G} {ws : va_W} {tys : List (ClassId × FieldType)} {av : List Value} {sz : Nat} {A : Nat → Prop} : FrameBlind (va_Pc av (fun U => U.heap.size = sz ∧ va_P G vwCl ws U.heap ∧ va_K G vwCl tys U ∧ thr A U)) := by
  intro a U g mk q
  obtain ⟨q1, q2, q3, q4, t1, t2, t3, t4, t5, t6⟩ := q
  exact ⟨q1, q2, q3, va_K.moved (u := U) (U := U.calling g mk a) (Vm.Alike.refl U.vm) q4, vx_Zq.moved (u := U) (U := U.calling g mk a) (Vm.Alike.refl U.vm) t1, vx_Zq.moved (u := U) (U := U.calling g mk a) (Vm.Alike.refl U.vm) t2,
    fun q hq => (t3 q hq).imp fun sa h => vk_R.same (u := U) (U := U.calling g mk a) rfl h, fun X hX => va_Nw.same (u := U) (U := U.calling g mk a) rfl rfl (t4 X hX), fun X hX Y hY h => va_Nc.moved (u := U) (U := U.calling g mk a) (Vm.Alike.refl U.vm) (t5 X hX Y hY h), fun x hx => va_Nw.same (u := U) (U := U.calling g mk a) rfl rfl (t6 x hx)⟩
/-- the same, seen from a later state of the same machine -/
theorem thr.go {A B : Nat → Prop} {s U : State} {H : Heap} {locs : List Loc} (h : thr A s) (hW : s.WarmedH U.vm) (hU : U.heap = H) (hS : va_S A s.heap H locs) (hAB : ∀ q, B q → A q) : thr B U := by
  obtain ⟨t1, t2, t3, t4, t5, t6⟩ := h
  exact ⟨by rw [hU]; exact ((t1.kept hS.2.1).narrow hAB).moved hW.alike, by rw [hU]; exact ((t2.kept hS.2.1).narrow hAB).moved hW.alike, fun q hq => (t3 q hq).imp fun sa h => vk_R.warm hW h, fun X hX => va_Nw.warmC hW (t4 X hX), fun X hX Y hY h => va_Nc.moved hW.alike (t5 X hX Y hY h), fun x hx => va_Nw.warmD hW (t6 x hx)⟩
def thi {S : Type} (l : Launch) (y : MethodName) (wl : List Cond) (rm : Room) (G : va_G) (ws : va_W) (tys : List (ClassId × FieldType)) (A : Nat → Prop) (sz : Nat) (av : List Value) (post : Int32 → S → Prop) (wf : S → va_W) (px : String → Prop) : Prop :=
  vx_Met l y wl rm (va_Pc av (fun U => U.heap.size = sz ∧ va_P G vwCl ws U.heap ∧ va_K G vwCl tys U ∧ thr A U)) (va_Qi post (fun u t => va_P G vwCl (wf u) t.heap) A) (vx_X (S := Unit) (fun _ => True) (fun E _ t => px E ∧ va_P G vwCl ws t.heap) A) 1 6 A
def thv {S : Type} (l : Launch) (y : MethodName) (wl : List Cond) (rm : Room) (G : va_G) (ws : va_W) (tys : List (ClassId × FieldType)) (A : Nat → Prop) (sz : Nat) (av : List Value) (post : S → Prop) (wf : S → va_W) (px : String → Prop) : Prop :=
  vx_Met l y wl rm (va_Pc av (fun U => U.heap.size = sz ∧ va_P G vwCl ws U.heap ∧ va_K G vwCl tys U ∧ thr A U)) (va_Qv post (fun u t => va_P G vwCl (wf u) t.heap) A) (vx_X (S := Unit) (fun _ => True) (fun E _ t => px E ∧ va_P G vwCl ws t.heap) A) 1 6 A
set_option maxRecDepth 20000 in
theorem xg_A : (∀ w ∈ Cond.classLink RX1 50 xA :: Cond.initialized xA :: vx_atS RX1 54 xA xN, vx_ot w = true) ∧ ∀ w ∈ (vx_atS RX1 54 xA xN).filter (fun w => !goodWord w), w ∈ Cond.castable xA xA :: dcL.map Cond.declares := by decide +kernel
set_option maxRecDepth 20000 in
theorem xg_S : (∀ w ∈ Cond.classLink RX1 77 xS :: Cond.initialized xS :: vx_atS RX1 81 xS xN, vx_ot w = true) ∧ ∀ w ∈ (vx_atS RX1 81 xS xN).filter (fun w => !goodWord w), w ∈ Cond.castable xS xS :: dcL.map Cond.declares := by decide +kernel
set_option maxRecDepth 20000 in
theorem xg_I : (∀ w ∈ Cond.classLink RX1 86 xI :: Cond.initialized xI :: vx_atS RX1 90 xI xN, vx_ot w = true) ∧ ∀ w ∈ (vx_atS RX1 90 xI xN).filter (fun w => !goodWord w), w ∈ Cond.castable xI xI :: dcL.map Cond.declares := by decide +kernel
def exT : List (String × Nat × Nat) := [(xA, 50, 54), (xS, 77, 81), (xI, 86, 90)]
theorem xg_T : ∀ q ∈ exT, q.1 ∈ exL ∧ Bundle.fit q.1 = true ∧ (∀ w ∈ Cond.classLink RX1 q.2.1 q.1 :: Cond.initialized q.1 :: vx_atS RX1 q.2.2 q.1 xN, vx_ot w = true) ∧ ∀ w ∈ (vx_atS RX1 q.2.2 q.1 xN).filter (fun w => !goodWord w), w ∈ Cond.castable q.1 q.1 :: dcL.map Cond.declares := by
  intro q hq
  simp only [exT, List.mem_cons, List.not_mem_nil, or_false] at hq
  rcases hq with rfl | rfl | rfl
  · exact ⟨by decide, by decide, xg_A⟩
  · exact ⟨by decide, by decide, xg_S⟩
  · exact ⟨by decide, by decide, xg_I⟩
section Thx
variable {l : Launch} {wl wl' : List Cond} {rm : Room} {G : va_G} {ws : va_W} {tys : List (ClassId × FieldType)} {av : List Value} {cc : ByteArray} {nL : Nat} {ret : Option FieldType} {nm ds : String}
/-- a throw of the desk's own, its world as it was -/
theorem thx_thr {p : Program} {e : Env} {s : State} {m : MethodId} {args : Array Value} {below : List Frame} {meth : Method} {c : Code} {H : Heap} {locs : List Loc} {ls : Array Slot} {pc : Nat} {a : Nat → Nat} {n : Nat} {Qc : Array Value → State → Outcome → State → Prop} {px : String → Prop} {text : String} {is : Nat} {q : String × Nat × Nat}
    (hx : p.tables.exec = Jvm.exec) (hb : c.code = cc) (hst : l.stackTraces = false) (hown : s.vm.findClass RX1 = some m.cls) (hts : ∀ w ∈ wl, w.before args s = true) (hlk : meth.locks = false) (hout : ∀ x ∈ c.exceptionTable.toList, False) (ht : thr (aS a n s.heap.size) s) (hP : va_P G vwCl ws H) (hS : va_S (aS a n s.heap.size) s.heap H locs) (hls : ls.size = c.maxLocals) (hrf : 5 < rm.frames ∧ 82 ≤ rm.locals ∧ 1 ≤ rm.cells ∧ 6 ≤ rm.slots)
    (hq : q ∈ exT) (hpx : px q.1) (hstr : (is, text) ∈ strL) (hk : Cond.classLink RX1 q.2.1 q.1 ∈ wl) (hini : Cond.initialized q.1 ∈ wl) (hgd : ∀ w ∈ (vx_atS RX1 q.2.2 q.1 xN).filter goodWord, w ∈ wl)
    (d0 : decode cc pc = .ok (.new q.2.1, 3)) (d3 : decode cc (pc + 3) = .ok (.dup, 1)) (d4 : decode cc (pc + 4) = .ok (.ldc is, 2)) (d6 : decode cc (pc + 6) = .ok (.invokespecial q.2.2, 3)) (d9 : decode cc (pc + 9) = .ok (.athrow, 1)) :
    W p l e rm s m args below meth c H locs 0 0 (vx_MQ below Qc (vx_X (S := Unit) (fun _ => True) (fun E _ t => px E ∧ va_P G vwCl ws t.heap) (aS a n s.heap.size)) args s 1 6 (aS a n s.heap.size)) (F0 m pc ls []) := by
  obtain ⟨hX, hfit, hg, hng⟩ := xg_T q hq
  obtain ⟨t1, t2, t3, t4, -, t6⟩ := ht
  obtain ⟨sa, hsa⟩ := t3 _ hstr
  exact vx_throwS (names := xN) hx hb hst hown hfit (by decide) (hts _ hk) (hts _ hini) hsa (vx_hat (fun w hw => hts w (hgd w hw)) hng (vx_c (va_Nw.use rfl (t4 _ hX)) (fun w hw => by obtain ⟨x, hx, rfl⟩ := List.mem_map.mp hw; exact va_Nw.use rfl (t6 x hx)))) hg t1 t2 hS hls d0 d3 d4 d6 d9 (fun x hx => (hout x hx).elim) hrf.1 hrf.2.1 (by omega) (by omega) hlk
    (fun t _ hz hk => ⟨(), trivial, ⟨hpx, hP.kept (fun k q hq => hk q.1 (hP k q hq).lt)⟩, ⟨Nat.le_trans hS.1 hz, fun q h1 h2 => by rw [hk q (Nat.lt_of_lt_of_le h1 hS.1)]; exact hS.2.1 q h1 h2⟩⟩) hS.2.2 (Nat.le_refl _) (Nat.le_refl _)
theorem thi_of {S : Type} {post : Int32 → S → Prop} {wf : S → va_W} {px : String → Prop} {a : Nat → Nat} {n sz : Nat} {ty : FieldType} (hst : l.stackTraces = false) (hrf : 5 < rm.frames ∧ 82 ≤ rm.locals ∧ 1 ≤ rm.cells ∧ 6 ≤ rm.slots) (hw : wl = .code ⟨RX1, nm, ds⟩ cc nL (some ty) :: wl') (hle : (lg_sl av).length ≤ nL)
    (body : ∀ (p : Program) (e : Env) (s : State) (m : MethodId) (args : Array Value) (below : List Frame) (meth : Method) (c : Code) (H : Heap) (locs : List Loc) (ls : Array Slot) (Q : State → Prop), p.tables.exec = Jvm.exec → c.code = cc → c.maxLocals = nL → s.vm.findClass RX1 = some m.cls → (∀ w ∈ wl, w.before args s = true) → va_P G vwCl ws H → va_K G vwCl tys s → va_S (aS a n s.heap.size) s.heap H locs →
      (∀ (v : Int32) (u : S) (pc : Nat) (ls : Array Slot) (H : Heap) (locs : List Loc), decode cc pc = .ok (.ireturn, 1) → narrow ty (.int v) = .int v → va_P G vwCl (wf u) H → va_S (aS a n s.heap.size) s.heap H locs → post v u → W p l e rm s m args below meth c H locs 0 0 Q (F0 m pc ls [.int v])) →
      (∀ (q : String × Nat × Nat) (text : String) (is pc : Nat) (ls : Array Slot) (H : Heap) (locs : List Loc), va_P G vwCl ws H → va_S (aS a n s.heap.size) s.heap H locs → ls.size = nL → q ∈ exT → px q.1 → (is, text) ∈ strL → Cond.classLink RX1 q.2.1 q.1 ∈ wl → Cond.initialized q.1 ∈ wl → (∀ w ∈ (vx_atS RX1 q.2.2 q.1 xN).filter goodWord, w ∈ wl) → decode cc pc = .ok (.new q.2.1, 3) → decode cc (pc + 3) = .ok (.dup, 1) → decode cc (pc + 4) = .ok (.ldc is, 2) → decode cc (pc + 6) = .ok (.invokespecial q.2.2, 3) → decode cc (pc + 9) = .ok (.athrow, 1) → W p l e rm s m args below meth c H locs 0 0 Q (F0 m pc ls [])) →
      lv_has ls nL (lv_args 0 av) → W p l e rm s m args below meth c H locs 0 0 Q (F0 m 0 ls [])) : thi l ⟨RX1, nm, ds⟩ wl rm G ws tys (aS a n sz) sz av post wf px := by
  refine vx_ofW (cc := cc) (maxL := nL) (ret := some ty) (show plainName RX1 = true by decide) hw ?_
  intro p e s m args below meth c s₁ B hml hout hv
  obtain ⟨rfl, rfl, hP, hK, ht⟩ := hv
  have hl := lv_entry av (n := nL) hle
  rw [lg_entry_eq]
  generalize (lg_sl av ++ List.replicate (nL - (lg_sl av).length) Slot.unset).toArray = ls at hl ⊢
  have hown : s.vm.findClass RX1 = some m.cls := findClass_of_methodNamed B.named
  exact body p e s m _ below meth c s.heap [] ls _ B.exec B.bytes hml hown (atoms_spec (ws := wl) B.pre) hP hK va_S.rf
    (fun v u pc ls H locs hdg hn hP hS hp => W.widen (k := 1) (n := 6) (by omega) (by omega) (vx_ret (W.zret B.exec B.bytes B.returns hn (fun t ht _ => ⟨⟨v, u, rfl, hp, by subst ht; exact hP⟩, hS.F ht⟩) hS.2.2 hdg B.notSynchronized)))
    (fun q text is pc ls H locs hP hS hls hq hpx hstr hk hini hgd d0 d3 d4 d6 d9 => thx_thr B.exec B.bytes hst hown (atoms_spec (ws := wl) B.pre) B.notSynchronized hout ht hP hS (hls.trans hml.symm) hrf hq hpx hstr hk hini hgd d0 d3 d4 d6 d9) hl
theorem thv_of {S : Type} {post : S → Prop} {wf : S → va_W} {px : String → Prop} {a : Nat → Nat} {n sz : Nat} (hst : l.stackTraces = false) (hrf : 5 < rm.frames ∧ 82 ≤ rm.locals ∧ 1 ≤ rm.cells ∧ 6 ≤ rm.slots) (hw : wl = .code ⟨RX1, nm, ds⟩ cc nL none :: wl') (hle : (lg_sl av).length ≤ nL)
    (body : ∀ (p : Program) (e : Env) (s : State) (m : MethodId) (args : Array Value) (below : List Frame) (meth : Method) (c : Code) (H : Heap) (locs : List Loc) (ls : Array Slot) (Q : State → Prop), p.tables.exec = Jvm.exec → c.code = cc → c.maxLocals = nL → s.vm.findClass RX1 = some m.cls → (∀ w ∈ wl, w.before args s = true) → va_P G vwCl ws H → va_K G vwCl tys s → va_S (aS a n s.heap.size) s.heap H locs →
      (∀ (u : S) (pc : Nat) (ls : Array Slot) (H : Heap) (locs : List Loc), decode cc pc = .ok (.return_, 1) → va_P G vwCl (wf u) H → va_S (aS a n s.heap.size) s.heap H locs → post u → W p l e rm s m args below meth c H locs 0 0 Q (F0 m pc ls [])) →
      (∀ (q : String × Nat × Nat) (text : String) (is pc : Nat) (ls : Array Slot) (H : Heap) (locs : List Loc), va_P G vwCl ws H → va_S (aS a n s.heap.size) s.heap H locs → ls.size = nL → q ∈ exT → px q.1 → (is, text) ∈ strL → Cond.classLink RX1 q.2.1 q.1 ∈ wl → Cond.initialized q.1 ∈ wl → (∀ w ∈ (vx_atS RX1 q.2.2 q.1 xN).filter goodWord, w ∈ wl) → decode cc pc = .ok (.new q.2.1, 3) → decode cc (pc + 3) = .ok (.dup, 1) → decode cc (pc + 4) = .ok (.ldc is, 2) → decode cc (pc + 6) = .ok (.invokespecial q.2.2, 3) → decode cc (pc + 9) = .ok (.athrow, 1) → W p l e rm s m args below meth c H locs 0 0 Q (F0 m pc ls [])) →
      lv_has ls nL (lv_args 0 av) → W p l e rm s m args below meth c H locs 0 0 Q (F0 m 0 ls [])) : thv l ⟨RX1, nm, ds⟩ wl rm G ws tys (aS a n sz) sz av post wf px := by
  refine vx_ofW (cc := cc) (maxL := nL) (ret := none) (show plainName RX1 = true by decide) hw ?_
  intro p e s m args below meth c s₁ B hml hout hv
  obtain ⟨rfl, rfl, hP, hK, ht⟩ := hv
  have hl := lv_entry av (n := nL) hle
  rw [lg_entry_eq]
  generalize (lg_sl av ++ List.replicate (nL - (lg_sl av).length) Slot.unset).toArray = ls at hl ⊢
  have hown : s.vm.findClass RX1 = some m.cls := findClass_of_methodNamed B.named
  exact body p e s m _ below meth c s.heap [] ls _ B.exec B.bytes hml hown (atoms_spec (ws := wl) B.pre) hP hK va_S.rf
    (fun u pc ls H locs hdg hP hS hp => W.widen (k := 1) (n := 6) (by omega) (by omega) (vx_ret (W.vret B.exec B.bytes B.returns (fun t ht _ => ⟨⟨u, rfl, hp, by subst ht; exact hP⟩, hS.F ht⟩) hS.2.2 hdg B.notSynchronized)))
    (fun q text is pc ls H locs hP hS hls hq hpx hstr hk hini hgd d0 d3 d4 d6 d9 => thx_thr B.exec B.bytes hst hown (atoms_spec (ws := wl) B.pre) B.notSynchronized hout ht hP hS (hls.trans hml.symm) hrf hq hpx hstr hk hini hgd d0 d3 d4 d6 d9) hl
end Thx
