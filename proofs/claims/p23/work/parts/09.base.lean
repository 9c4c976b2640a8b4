/-! the two worlds: the desk's cells and the reference's, both told by one state (g: numbers, f: rows) -/
def dF (a : Nat → Nat) (g : Nat → Int32) (tc : Int32) : List Value := [.ref (a 1), .int (g 5), .int (g 6), .int (g 0), .int (g 7), .int (g 8), .ref (a 2), .ref (a 3), .ref (a 4), .ref (a 5), .int (g 11), .int (g 10), .int (g 9), .ref (a 6), .int tc]
def pF (g : Nat → Int32) : List Value := [.int (g 1), .int (g 2), .int (g 3), .int (g 4)]
def wD (a : Nat → Nat) (cI cZ : ClassId) (g : Nat → Int32) (f : Nat → Nat → Int32) (cd : Nat → Int32) (tc : Int32) : va_W :=
  [(a 0, .inr (1, dF a g tc)), (a 1, .inr (0, pF g)),
   (a 2, .inl (cI, 200, .inl (f 0))), (a 3, .inl (cI, 200, .inl (f 1))), (a 4, .inl (cI, 200, .inl (f 2))), (a 5, .inl (cI, 200, .inl cd)), (a 6, .inl (cZ, 200, .inl (f 4)))]
def aS (a : Nat → Nat) (n sz : Nat) : Nat → Prop := fun q => (∃ i, i < n ∧ q = a i) ∨ sz ≤ q
def apart (a : Nat → Nat) (n : Nat) : Prop := ∀ i j, i < n → j < n → a i = a j → i = j
abbrev tyIZ (cI cZ : ClassId) : List (ClassId × FieldType) := [(cI, .int), (cZ, .boolean)]
def up2 (f : Nat → Nat → Int32) (r : Nat) (h : Nat → Int32) : Nat → Nat → Int32 := fun q => if q = r then h else f q
theorem wD_at {a : Nat → Nat} {cI cZ : ClassId} {g : Nat → Int32} {f : Nat → Nat → Int32} {cd : Nat → Int32} {tc : Int32} : ∀ (k : Nat) (q : Nat × va_E), (wD a cI cZ g f cd tc)[k]? = some q → k < 7 ∧ q.1 = a k
  | 0, q, h => by obtain rfl := Option.some.inj h; exact ⟨by decide, rfl⟩
  | 1, q, h => by obtain rfl := Option.some.inj h; exact ⟨by decide, rfl⟩
  | 2, q, h => by obtain rfl := Option.some.inj h; exact ⟨by decide, rfl⟩
  | 3, q, h => by obtain rfl := Option.some.inj h; exact ⟨by decide, rfl⟩
  | 4, q, h => by obtain rfl := Option.some.inj h; exact ⟨by decide, rfl⟩
  | 5, q, h => by obtain rfl := Option.some.inj h; exact ⟨by decide, rfl⟩
  | 6, q, h => by obtain rfl := Option.some.inj h; exact ⟨by decide, rfl⟩
  | k + 7, q, h => by simp [wD] at h
theorem wD_D {a : Nat → Nat} {cI cZ : ClassId} {g : Nat → Int32} {f : Nat → Nat → Int32} {cd : Nat → Int32} {tc : Int32} (h : apart a 7) (sz : Nat) : va_D (aS a 7 sz) (wD a cI cZ g f cd tc) :=
  ⟨fun i j p q hp hq e => h i j (wD_at i p hp).1 (wD_at j q hq).1 (by rw [← (wD_at i p hp).2, ← (wD_at j q hq).2]; exact e), fun k q hq => Or.inl ⟨k, wD_at k q hq⟩⟩
abbrev SD : Type := (Nat → Int32) × (Nat → Nat → Int32) × (Nat → Int32) × Int32
abbrev wfD (a : Nat → Nat) (cI cZ : ClassId) (u : SD) : va_W := wD a cI cZ u.1 u.2.1 u.2.2.1 u.2.2.2
/-! contracts: a reader (nothing changes), a writer (its world changes), one that throws -/
def rdr (l : Launch) (y : MethodName) (wl : List Cond) (rm : Room) (G : va_G) (ws : va_W) (tys : List (ClassId × FieldType)) (av : List Value) (post : Int32 → Prop) : Prop :=
  Met l y wl rm (va_Pc av (fun U => va_P G vwCl ws U.heap ∧ va_K G vwCl tys U)) (vp_Si post) 0 0 (fun _ => False)
def wri {S : Type} (l : Launch) (y : MethodName) (wl : List Cond) (rm : Room) (G : va_G) (ws : va_W) (tys : List (ClassId × FieldType)) (A : Nat → Prop) (sz : Nat) (av : List Value) (post : Int32 → S → Prop) (wf : S → va_W) : Prop :=
  Met l y wl rm (va_Pc av (fun U => U.heap.size = sz ∧ va_P G vwCl ws U.heap ∧ va_K G vwCl tys U)) (va_Qi post (fun u t => va_P G vwCl (wf u) t.heap) A) 0 0 A
def wrv {S : Type} (l : Launch) (y : MethodName) (wl : List Cond) (rm : Room) (G : va_G) (ws : va_W) (tys : List (ClassId × FieldType)) (A : Nat → Prop) (sz : Nat) (av : List Value) (post : S → Prop) (wf : S → va_W) : Prop :=
  Met l y wl rm (va_Pc av (fun U => U.heap.size = sz ∧ va_P G vwCl ws U.heap ∧ va_K G vwCl tys U)) (va_Qv post (fun u t => va_P G vwCl (wf u) t.heap) A) 0 0 A
theorem fb_r {G : va_G} {ws : va_W} {tys : List (ClassId × FieldType)} {av : List Value} : FrameBlind (va_Pc av (fun U => va_P G vwCl ws U.heap ∧ va_K G vwCl tys U)) :=
  fun a U g mk q => ⟨q.1, q.2.1, va_K.moved (u := U) (U := U.calling g mk a) (Vm.Alike.refl U.vm) q.2.2⟩
theorem fb_w {G : va_G} {ws : va_W} {tys : List (ClassId × FieldType)} {av : List Value} {sz : Nat} : FrameBlind (va_Pc av (fun U => U.heap.size = sz ∧ va_P G vwCl ws U.heap ∧ va_K G vwCl tys U)) :=
  fun a U g mk q => ⟨q.1, q.2.1, q.2.2.1, va_K.moved (u := U) (U := U.calling g mk a) (Vm.Alike.refl U.vm) q.2.2.2⟩
section Base
variable {l : Launch} {y : MethodName} {wl wl' : List Cond} {rm : Room} {G : va_G} {ws : va_W} {tys : List (ClassId × FieldType)} {av : List Value} {cc : ByteArray} {nL : Nat} {ret : Option FieldType}
theorem rdr_of {post : Int32 → Prop} {ty : FieldType} (hy : plainName y.cls = true) (hw : wl = .code y cc nL (some ty) :: wl') (hle : (lg_sl av).length ≤ nL)
    (body : ∀ (p : Program) (e : Env) (s : State) (m : MethodId) (args : Array Value) (below : List Frame) (meth : Method) (c : Code) (H : Heap) (ls : Array Slot) (Q : State → Prop), p.tables.exec = Jvm.exec → c.code = cc → c.maxLocals = nL → s.vm.findClass y.cls = some m.cls → (∀ w ∈ wl, w.before args s = true) → va_P G vwCl ws H → va_K G vwCl tys s →
      (∀ (v : Int32) (pc : Nat) (ls : Array Slot), decode cc pc = .ok (.ireturn, 1) → narrow ty (.int v) = .int v → post v → W p l e rm s m args below meth c H [] 0 0 Q (F0 m pc ls [.int v])) → lv_has ls nL (lv_args 0 av) →
      W p l e rm s m args below meth c H [] 0 0 Q (F0 m 0 ls [])) : rdr l y wl rm G ws tys av post := by
  refine Met.ofW (cc := cc) (maxL := nL) (ret := some ty) hy hw ?_
  intro p e s m args below meth c s₁ B hml hv
  obtain ⟨rfl, hP, hK⟩ := hv
  have hl := lv_entry av (n := nL) hle
  rw [lg_entry_eq]
  generalize (lg_sl av ++ List.replicate (nL - (lg_sl av).length) Slot.unset).toArray = ls at hl ⊢
  exact body p e s m _ below meth c s.heap ls _ B.exec B.bytes hml (findClass_of_methodNamed B.named) (atoms_spec (ws := wl) B.pre) hP hK
    (fun v pc ls hdg hn hp => W.zret B.exec B.bytes B.returns hn (fun t ht _ => ⟨v, rfl, hp, ht⟩) (fun q h => by cases h) hdg B.notSynchronized) hl
theorem wri_of {S : Type} {post : Int32 → S → Prop} {wf : S → va_W} {a : Nat → Nat} {n sz : Nat} {ty : FieldType} (hy : plainName y.cls = true) (hw : wl = .code y cc nL (some ty) :: wl') (hle : (lg_sl av).length ≤ nL)
    (body : ∀ (p : Program) (e : Env) (s : State) (m : MethodId) (args : Array Value) (below : List Frame) (meth : Method) (c : Code) (H : Heap) (locs : List Loc) (ls : Array Slot) (Q : State → Prop), p.tables.exec = Jvm.exec → c.code = cc → c.maxLocals = nL → s.vm.findClass y.cls = some m.cls → (∀ w ∈ wl, w.before args s = true) → va_P G vwCl ws H → va_K G vwCl tys s → va_S (aS a n s.heap.size) s.heap H locs →
      (∀ (v : Int32) (u : S) (pc : Nat) (ls : Array Slot) (H : Heap) (locs : List Loc), decode cc pc = .ok (.ireturn, 1) → narrow ty (.int v) = .int v → va_P G vwCl (wf u) H → va_S (aS a n s.heap.size) s.heap H locs → post v u → W p l e rm s m args below meth c H locs 0 0 Q (F0 m pc ls [.int v])) → lv_has ls nL (lv_args 0 av) →
      W p l e rm s m args below meth c H locs 0 0 Q (F0 m 0 ls [])) : wri l y wl rm G ws tys (aS a n sz) sz av post wf := by
  refine Met.ofW (cc := cc) (maxL := nL) (ret := some ty) hy hw ?_
  intro p e s m args below meth c s₁ B hml hv
  obtain ⟨rfl, rfl, hP, hK⟩ := hv
  have hl := lv_entry av (n := nL) hle
  rw [lg_entry_eq]
  generalize (lg_sl av ++ List.replicate (nL - (lg_sl av).length) Slot.unset).toArray = ls at hl ⊢
  exact body p e s m _ below meth c s.heap [] ls _ B.exec B.bytes hml (findClass_of_methodNamed B.named) (atoms_spec (ws := wl) B.pre) hP hK va_S.rf
    (fun v u pc ls H locs hdg hn hP hS hp => W.zret B.exec B.bytes B.returns hn (fun t ht _ => ⟨⟨v, u, rfl, hp, by subst ht; exact hP⟩, hS.F ht⟩) hS.2.2 hdg B.notSynchronized) hl
theorem wrv_of {S : Type} {post : S → Prop} {wf : S → va_W} {a : Nat → Nat} {n sz : Nat} (hy : plainName y.cls = true) (hw : wl = .code y cc nL none :: wl') (hle : (lg_sl av).length ≤ nL)
    (body : ∀ (p : Program) (e : Env) (s : State) (m : MethodId) (args : Array Value) (below : List Frame) (meth : Method) (c : Code) (H : Heap) (locs : List Loc) (ls : Array Slot) (Q : State → Prop), p.tables.exec = Jvm.exec → c.code = cc → c.maxLocals = nL → s.vm.findClass y.cls = some m.cls → (∀ w ∈ wl, w.before args s = true) → va_P G vwCl ws H → va_K G vwCl tys s → va_S (aS a n s.heap.size) s.heap H locs →
      (∀ (u : S) (pc : Nat) (ls : Array Slot) (H : Heap) (locs : List Loc), decode cc pc = .ok (.return_, 1) → va_P G vwCl (wf u) H → va_S (aS a n s.heap.size) s.heap H locs → post u → W p l e rm s m args below meth c H locs 0 0 Q (F0 m pc ls [])) → lv_has ls nL (lv_args 0 av) →
      W p l e rm s m args below meth c H locs 0 0 Q (F0 m 0 ls [])) : wrv l y wl rm G ws tys (aS a n sz) sz av post wf := by
  refine Met.ofW (cc := cc) (maxL := nL) (ret := none) hy hw ?_
  intro p e s m args below meth c s₁ B hml hv
  obtain ⟨rfl, rfl, hP, hK⟩ := hv
  have hl := lv_entry av (n := nL) hle
  rw [lg_entry_eq]
  generalize (lg_sl av ++ List.replicate (nL - (lg_sl av).length) Slot.unset).toArray = ls at hl ⊢
  exact body p e s m _ below meth c s.heap [] ls _ B.exec B.bytes hml (findClass_of_methodNamed B.named) (atoms_spec (ws := wl) B.pre) hP hK va_S.rf
    (fun u pc ls H locs hdg hP hS hp => W.vret B.exec B.bytes B.returns (fun t ht _ => ⟨⟨u, rfl, hp, by subst ht; exact hP⟩, hS.F ht⟩) hS.2.2 hdg B.notSynchronized) hl
end Base
section Walk
variable {p : Program} {l : Launch} {e : Env} {R : Room} {s : State} {m : MethodId} {args : Array Value} {below : List Frame} {meth : Method} {c : Code} {H : Heap} {locs : List Loc} {cells slots : Nat} {Q : State → Prop}
variable {G : va_G} {ws : va_W} {tys : List (ClassId × FieldType)} {pc : Nat} {ls : Array Slot} {rest st0 : List Value} {cc : ByteArray}
variable {y : MethodName} {bytes : ByteArray} {maxL nL n index : Nat} {ret : Option FieldType} {wl : List Cond} {rm : Room} {Ts : List Cond} {own C : String} {b : Addr} {As : List Value}
theorem rdr_V {post : Int32 → Prop} (S : CallFix p m c cc nL s args Ts own) (hM : rdr l y wl rm G ws tys (.ref b :: As) post) (cw : CallW R s args own C index y bytes maxL ret wl rm 0 0 n)
    (hrecv : ∃ cell : Cell, H[b]? = some cell ∧ cell.vm.isStatics = false ∧ s.vm.findClass C = some cell.cls) (hP : va_P G vwCl ws H) (hK : va_K G vwCl tys s) (hn : As.length = n) (hls : ls.size = nL) (hst : st0 = As.reverse ++ .ref b :: rest) (hW : (rest.map fun v => v.category).sum ≤ 8) (hdg : decode cc pc = .ok (.invokevirtual index, 3)) (hf : cells ≤ R.cells ∧ slots ≤ R.slots)
    (kk : ∀ r : Int32, post r → W p l e R s m args below meth c H locs cells slots Q (F0 m (pc + 3) ls (.int r :: rest))) : W p l e R s m args below meth c H locs cells slots Q (F0 m pc ls st0) :=
  vp_callSi (W.runV S hM cw ⟨fb_r, hrecv, fun U hU hW => ⟨rfl, by rw [hU]; exact hP, va_K.moved hW.alike hK⟩⟩ rfl hn hls hst (lv_room hW) hdg hf) kk
theorem rdr_S {post : Int32 → Prop} (S : CallFix p m c cc nL s args Ts own) (hM : rdr l y wl rm G ws tys As post) (cw : CallB R s args own index y bytes maxL ret wl rm 0 0 n ∧ (Cond.static y).before args s = true)
    (hP : va_P G vwCl ws H) (hK : va_K G vwCl tys s) (hn : As.length = n) (hls : ls.size = nL) (hst : st0 = As.reverse ++ rest) (hW : (rest.map fun v => v.category).sum ≤ 8) (hdg : decode cc pc = .ok (.invokestatic index, 3)) (hf : cells ≤ R.cells ∧ slots ≤ R.slots)
    (kk : ∀ r : Int32, post r → W p l e R s m args below meth c H locs cells slots Q (F0 m (pc + 3) ls (.int r :: rest))) : W p l e R s m args below meth c H locs cells slots Q (F0 m pc ls st0) :=
  vp_callSi (W.runS S hM cw ⟨fb_r, fun U hU hW => ⟨rfl, by rw [hU]; exact hP, va_K.moved hW.alike hK⟩⟩ rfl hn hls hst (lv_room hW) hdg hf) kk
theorem aS_up {a : Nat → Nat} {k : Nat} {H0 : Heap} (hS : va_S (aS a k H0.size) H0 H locs) : ∀ q, aS a k H.size q → aS a k H0.size q := fun q h => h.elim Or.inl (fun h => Or.inr (Nat.le_trans hS.1 h))
theorem wri_V {S' : Type} {post : Int32 → S' → Prop} {wf : S' → va_W} {a : Nat → Nat} {k : Nat} (S : CallFix p m c cc nL s args Ts own) (hM : wri l y wl rm G ws tys (aS a k H.size) H.size (.ref b :: As) post wf) (cw : CallW R s args own C index y bytes maxL ret wl rm 0 0 n)
    (hrecv : ∃ cell : Cell, H[b]? = some cell ∧ cell.vm.isStatics = false ∧ s.vm.findClass C = some cell.cls) (hP : va_P G vwCl ws H) (hK : va_K G vwCl tys s) (hS : va_S (aS a k s.heap.size) s.heap H locs) (hn : As.length = n) (hls : ls.size = nL) (hst : st0 = As.reverse ++ .ref b :: rest) (hW : (rest.map fun v => v.category).sum ≤ 8) (hdg : decode cc pc = .ok (.invokevirtual index, 3)) (hf : cells ≤ R.cells ∧ slots ≤ R.slots)
    (kk : ∀ (r : Int32) (u : S') (H1 : Heap) (locs1 : List Loc), post r u → va_P G vwCl (wf u) H1 → va_S (aS a k s.heap.size) s.heap H1 locs1 → W p l e R s m args below meth c H1 locs1 cells slots Q (F0 m (pc + 3) ls (.int r :: rest))) : W p l e R s m args below meth c H locs cells slots Q (F0 m pc ls st0) :=
  va_calli (va_runV S hM cw ⟨fb_w, hrecv, fun U hU hW => ⟨rfl, by rw [hU], by rw [hU]; exact hP, va_K.moved hW.alike hK⟩⟩ rfl hn hls hst (lv_room hW) hdg hf) hS (fun q _ h => aS_up hS q h) (fun q h => aS_up hS q h) (fun r u t H1 locs1 ht _ hp hB _ _ hS1 => kk r u H1 locs1 hp (by rw [← ht]; exact hB) hS1)
theorem wrv_V {S' : Type} {post : S' → Prop} {wf : S' → va_W} {a : Nat → Nat} {k : Nat} (S : CallFix p m c cc nL s args Ts own) (hM : wrv l y wl rm G ws tys (aS a k H.size) H.size (.ref b :: As) post wf) (cw : CallW R s args own C index y bytes maxL ret wl rm 0 0 n)
    (hrecv : ∃ cell : Cell, H[b]? = some cell ∧ cell.vm.isStatics = false ∧ s.vm.findClass C = some cell.cls) (hP : va_P G vwCl ws H) (hK : va_K G vwCl tys s) (hS : va_S (aS a k s.heap.size) s.heap H locs) (hn : As.length = n) (hls : ls.size = nL) (hst : st0 = As.reverse ++ .ref b :: rest) (hW : (rest.map fun v => v.category).sum ≤ 8) (hdg : decode cc pc = .ok (.invokevirtual index, 3)) (hf : cells ≤ R.cells ∧ slots ≤ R.slots)
    (kk : ∀ (u : S') (H1 : Heap) (locs1 : List Loc), post u → va_P G vwCl (wf u) H1 → va_S (aS a k s.heap.size) s.heap H1 locs1 → W p l e R s m args below meth c H1 locs1 cells slots Q (F0 m (pc + 3) ls rest)) : W p l e R s m args below meth c H locs cells slots Q (F0 m pc ls st0) :=
  va_callv (va_runV S hM cw ⟨fb_w, hrecv, fun U hU hW => ⟨rfl, by rw [hU], by rw [hU]; exact hP, va_K.moved hW.alike hK⟩⟩ rfl hn hls hst (lv_room hW) hdg hf) hS (fun q _ h => aS_up hS q h) (fun q h => aS_up hS q h) (fun u t H1 locs1 ht _ hp hB _ _ hS1 => kk u H1 locs1 hp (by rw [← ht]; exact hB) hS1)
theorem top_eq {x z : Int32} (h : x = z) (k : W p l e R s m args below meth c H locs cells slots Q (F0 m pc ls (.int z :: rest))) : W p l e R s m args below meth c H locs cells slots Q (F0 m pc ls (.int x :: rest)) := h ▸ k
theorem tX0_own : ∀ k, k < 4 → (TX0 k).1 = RX0 := by decide +kernel
theorem tX1_own : ∀ k, k < 15 → (TX1 k).1 = RX1 := by decide +kernel
section Fields
variable {a : Nat → Nat} {cI cZ : ClassId} {g g' : Nat → Int32} {f f' : Nat → Nat → Int32} {cd cd' : Nat → Int32} {tc tc' : Int32}
theorem dget (hx : p.tables.exec = Jvm.exec) (hb : c.code = cc) (hts : ∀ w ∈ wl, w.before args s = true) (hin : ∀ w ∈ wsX10, w ∈ wl) (hown : s.vm.findClass RX1 = some m.cls) (hK : va_K G vwCl tys s) (hP : va_P G vwCl (wD a cI cZ g f cd tc) H) (k : Nat) (hk : k < 15) (hlink : Cond.fieldLink RX1 index RX1 (TX1 k).2.1 (TX1 k).2.2.1 ∈ wl) {v : Value} (hv : (dF a g tc)[k]? = some v) (hdg : decode cc pc = .ok (.getfield index, 3))
    (kk : W p l e R s m args below meth c H locs cells slots Q (F0 m (pc + 3) ls (v :: rest))) : W p l e R s m args below meth c H locs cells slots Q (F0 m pc ls (.ref (a 0) :: rest)) :=
  va_get (own := RX1) (C := RX1) (T := TX1) (N := 15) (ci := 1) hx hb hts hin hown hK hP 0 rfl rfl k hk (hts _ hlink) (fun x h => by rw [tX1_own k hk] at h; exact h) hv hdg kk
theorem pget (hx : p.tables.exec = Jvm.exec) (hb : c.code = cc) (hts : ∀ w ∈ wl, w.before args s = true) (hin : ∀ w ∈ wsX00, w ∈ wl) (hown : s.vm.findClass RX0 = some m.cls) (hK : va_K G vwCl tys s) (hP : va_P G vwCl (wD a cI cZ g f cd tc) H) (k : Nat) (hk : k < 4) (hlink : Cond.fieldLink RX0 index RX0 (TX0 k).2.1 (TX0 k).2.2.1 ∈ wl) {v : Value} (hv : (pF g)[k]? = some v) (hdg : decode cc pc = .ok (.getfield index, 3))
    (kk : W p l e R s m args below meth c H locs cells slots Q (F0 m (pc + 3) ls (v :: rest))) : W p l e R s m args below meth c H locs cells slots Q (F0 m pc ls (.ref (a 1) :: rest)) :=
  va_get (own := RX0) (C := RX0) (T := TX0) (N := 4) (ci := 0) hx hb hts hin hown hK hP 1 rfl rfl k hk (hts _ hlink) (fun x h => by rw [tX0_own k hk] at h; exact h) hv hdg kk
theorem dput {v : Value} (g' : Nat → Int32) (tc' : Int32) (hx : p.tables.exec = Jvm.exec) (hb : c.code = cc) (hts : ∀ w ∈ wl, w.before args s = true) (hin : ∀ w ∈ wsX10, w ∈ wl) (hown : s.vm.findClass RX1 = some m.cls) (hK : va_K G vwCl tys s) (hP : va_P G vwCl (wD a cI cZ g f cd tc) H) (hap : apart a 7) (hS : va_S (aS a 7 s.heap.size) s.heap H locs) (k : Nat) (hk : k < 15) (hlink : Cond.fieldLink RX1 index RX1 (TX1 k).2.1 (TX1 k).2.2.1 ∈ wl) (hfin : (TX1 k).2.2.2 = false) (hn : narrow (tyX1 k) v = v) (hfit : fits (tyX1 k) v = true) (hset : (dF a g tc).set k v = dF a g' tc') (hpf : pF g = pF g') (hdg : decode cc pc = .ok (.putfield index, 3))
    (kk : ∀ (H1 : Heap) (locs1 : List Loc), va_P G vwCl (wD a cI cZ g' f cd tc') H1 → va_S (aS a 7 s.heap.size) s.heap H1 locs1 → W p l e R s m args below meth c H1 locs1 cells slots Q (F0 m (pc + 3) ls rest)) : W p l e R s m args below meth c H locs cells slots Q (F0 m pc ls (v :: .ref (a 0) :: rest)) := by
  refine va_put (own := RX1) (C := RX1) (T := TX1) (N := 15) (ci := 1) (fs := dF a g tc) hx hb hts hin tyX1 tyX1_ok nmX1 hown hK hP (wD_D hap _) hS 0 rfl rfl k hk (hts _ hlink) (fun x h => by rw [tX1_own k hk] at h; exact h) hfin (tyX1_ok k hk) hn hfit hk hdg (fun H1 locs1 hP1 _ hS1 => kk H1 locs1 ?_ hS1)
  have e : (wD a cI cZ g f cd tc).set 0 (a 0, .inr (1, (dF a g tc).set k v)) = wD a cI cZ g' f cd tc' := by rw [hset]; simp only [wD, List.set_cons_zero, hpf]
  rw [← e]; exact hP1
theorem pput {v : Value} (g' : Nat → Int32) (hx : p.tables.exec = Jvm.exec) (hb : c.code = cc) (hts : ∀ w ∈ wl, w.before args s = true) (hin : ∀ w ∈ wsX00, w ∈ wl) (hown : s.vm.findClass RX0 = some m.cls) (hK : va_K G vwCl tys s) (hP : va_P G vwCl (wD a cI cZ g f cd tc) H) (hap : apart a 7) (hS : va_S (aS a 7 s.heap.size) s.heap H locs) (k : Nat) (hk : k < 4) (hlink : Cond.fieldLink RX0 index RX0 (TX0 k).2.1 (TX0 k).2.2.1 ∈ wl) (hfin : (TX0 k).2.2.2 = false) (hn : narrow (tyX0 k) v = v) (hfit : fits (tyX0 k) v = true) (hset : (pF g).set k v = pF g') (hdf : dF a g tc = dF a g' tc) (hdg : decode cc pc = .ok (.putfield index, 3))
    (kk : ∀ (H1 : Heap) (locs1 : List Loc), va_P G vwCl (wD a cI cZ g' f cd tc) H1 → va_S (aS a 7 s.heap.size) s.heap H1 locs1 → W p l e R s m args below meth c H1 locs1 cells slots Q (F0 m (pc + 3) ls rest)) : W p l e R s m args below meth c H locs cells slots Q (F0 m pc ls (v :: .ref (a 1) :: rest)) := by
  refine va_put (own := RX0) (C := RX0) (T := TX0) (N := 4) (ci := 0) (fs := pF g) hx hb hts hin tyX0 tyX0_ok nmX0 hown hK hP (wD_D hap _) hS 1 rfl rfl k hk (hts _ hlink) (fun x h => by rw [tX0_own k hk] at h; exact h) hfin (tyX0_ok k hk) hn hfit hk hdg (fun H1 locs1 hP1 _ hS1 => kk H1 locs1 ?_ hS1)
  have e : (wD a cI cZ g f cd tc).set 1 (a 1, .inr (0, (pF g).set k v)) = wD a cI cZ g' f cd tc := by rw [hset]; simp only [wD, List.set_cons_zero, List.set_cons_succ, hdf]
  rw [← e]; exact hP1
variable {h : Nat → Int32} {ad : Nat} {i : Int32} {j : Nat} {x : Int32}
theorem arI (hx : p.tables.exec = Jvm.exec) (hb : c.code = cc) (hK : va_K G vwCl (tyIZ cI cZ) s) (hP : va_P G vwCl ws H) (q0 : Nat) (ha : ws[q0]? = some (ad, .inl (cI, 200, .inl h))) (hi : i = nI j) (hj : j < 200) (hdg : decode cc pc = .ok (.iaload, 1))
    (kk : W p l e R s m args below meth c H locs cells slots Q (F0 m (pc + 1) ls (.int (h j) :: rest))) : W p l e R s m args below meth c H locs cells slots Q (F0 m pc ls (.int i :: .ref ad :: rest)) := by
  subst hi
  refine va_iald hx hb hK hP q0 0 ha rfl (vp_in_nI hj (by decide)) hdg ?_
  rw [nI_clamp (Nat.lt_trans hj (by decide))]; exact kk
theorem arZ (hx : p.tables.exec = Jvm.exec) (hb : c.code = cc) (hK : va_K G vwCl (tyIZ cI cZ) s) (hP : va_P G vwCl ws H) (q0 : Nat) (ha : ws[q0]? = some (ad, .inl (cZ, 200, .inl h))) (hi : i = nI j) (hj : j < 200) (hdg : decode cc pc = .ok (.baload, 1))
    (kk : W p l e R s m args below meth c H locs cells slots Q (F0 m (pc + 1) ls (.int (h j) :: rest))) : W p l e R s m args below meth c H locs cells slots Q (F0 m pc ls (.int i :: .ref ad :: rest)) := by
  subst hi
  refine va_zald hx hb hK hP q0 1 ha rfl (vp_in_nI hj (by decide)) hdg ?_
  rw [nI_clamp (Nat.lt_trans hj (by decide))]; exact kk
theorem asI {A : Nat → Prop} {H0 : Heap} (ws' : va_W) (hx : p.tables.exec = Jvm.exec) (hb : c.code = cc) (hK : va_K G vwCl (tyIZ cI cZ) s) (hP : va_P G vwCl ws H) (hD : va_D A ws) (hS : va_S A H0 H locs) (q0 : Nat) (ha : ws[q0]? = some (ad, .inl (cI, 200, .inl h))) (hi : i = nI j) (hj : j < 200) (hset : ws.set q0 (ad, .inl (cI, 200, .inl (upd h j x))) = ws') (hdg : decode cc pc = .ok (.iastore, 1))
    (kk : ∀ (H1 : Heap) (locs1 : List Loc), va_P G vwCl ws' H1 → va_S A H0 H1 locs1 → W p l e R s m args below meth c H1 locs1 cells slots Q (F0 m (pc + 1) ls rest)) : W p l e R s m args below meth c H locs cells slots Q (F0 m pc ls (.int x :: .int i :: .ref ad :: rest)) := by
  subst hi; subst hset
  refine va_iast hx hb hK hP hD hS q0 0 ha rfl (vp_in_nI hj (by decide)) hdg (fun H1 locs1 hP1 _ hS1 => kk H1 locs1 ?_ hS1)
  rw [nI_clamp (Nat.lt_trans hj (by decide))] at hP1; exact hP1
theorem asZ {A : Nat → Prop} {H0 : Heap} (ws' : va_W) (hx : p.tables.exec = Jvm.exec) (hb : c.code = cc) (hK : va_K G vwCl (tyIZ cI cZ) s) (hP : va_P G vwCl ws H) (hD : va_D A ws) (hS : va_S A H0 H locs) (q0 : Nat) (ha : ws[q0]? = some (ad, .inl (cZ, 200, .inl h))) (hi : i = nI j) (hj : j < 200) (hv : vp_nar .boolean x = x) (hset : ws.set q0 (ad, .inl (cZ, 200, .inl (upd h j x))) = ws') (hdg : decode cc pc = .ok (.bastore, 1))
    (kk : ∀ (H1 : Heap) (locs1 : List Loc), va_P G vwCl ws' H1 → va_S A H0 H1 locs1 → W p l e R s m args below meth c H1 locs1 cells slots Q (F0 m (pc + 1) ls rest)) : W p l e R s m args below meth c H locs cells slots Q (F0 m pc ls (.int x :: .int i :: .ref ad :: rest)) := by
  subst hi; subst hset
  refine va_zast hx hb hK hP hD hS q0 1 ha rfl (vp_in_nI hj (by decide)) hdg (fun H1 locs1 hP1 _ hS1 => kk H1 locs1 ?_ hS1)
  rw [nI_clamp (Nat.lt_trans hj (by decide)), hv] at hP1; exact hP1
end Fields
end Walk

