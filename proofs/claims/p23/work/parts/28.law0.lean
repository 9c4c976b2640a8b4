/-! bits of a long -/
def b6 (x : Int64) (i : Nat) : Bool := x.toBitVec.getLsbD i
theorem b6_sl : ∀ n, n < 64 → (((nI n).toInt64 &&& 63).toBitVec.smod 64).toNat = n := by decide +kernel
theorem b6_or (x y : Int64) (i : Nat) : b6 (x ||| y) i = (b6 x i || b6 y i) := by unfold b6; rw [Int64.toBitVec_or, BitVec.getLsbD_or]
theorem b6_and (x y : Int64) (i : Nat) : b6 (x &&& y) i = (b6 x i && b6 y i) := by unfold b6; rw [Int64.toBitVec_and, BitVec.getLsbD_and]
theorem b6_z (i : Nat) : b6 0 i = false := BitVec.getLsbD_zero
theorem b6_shr {n : Nat} (hn : n < 64) (x : Int64) : b6 (x >>> ((nI n).toInt64 &&& 63)) 0 = b6 x n := by
  unfold b6
  rw [Int64.toBitVec_shiftRight]
  show (x.toBitVec.sshiftRight (((nI n).toInt64 &&& 63).toBitVec.smod 64).toNat).getLsbD 0 = _
  rw [b6_sl n hn, BitVec.getLsbD_sshiftRight, BitVec.msb_eq_getLsbD_last]
  simp [hn]
theorem b6_one : ∀ n, n < 50 → ∀ i, i < 64 → b6 ((1 : Int64) <<< ((nI n).toInt64 &&& 63)) i = decide (i = n) := by decide +kernel
theorem b6_c1 : ∀ i, i < 64 → b6 1 i = decide (i = 0) := by decide +kernel
theorem b6_and1 (y : Int64) : y &&& 1 = if b6 y 0 = true then 1 else 0 := by
  refine Int64.toBitVec_inj.mp (BitVec.eq_of_getLsbD_eq fun i hi => ?_)
  show b6 (y &&& 1) i = b6 (if b6 y 0 = true then 1 else 0) i
  rw [b6_and, b6_c1 i hi]
  by_cases z : i = 0
  · subst z
    cases h : b6 y 0
    · rw [if_neg (by decide), b6_z]; rfl
    · rw [if_pos rfl, b6_c1 0 hi]; rfl
  · rw [decide_eq_false z, Bool.and_false]
    split
    · rw [b6_c1 i hi, decide_eq_false z]
    · rw [b6_z]
/-- the law's row of bits: is issue k there -/
def isT (gg : Nat → Int64) (k : Nat) : Bool := b6 (gg (k / 50)) (k % 50)
/-! the law's own cells beside a desk -/
def ccG (g : Nat → Int32) : Nat → Int32 := fun i => match i with
  | 0 => g 0 | 1 => g 1 | 2 => g 2 | 3 => g 3 | 4 => g 4 | 5 => g 5 | 6 => g 6 | 7 => g 9 | 8 => g 10 | 9 => g 11 | _ => 0
abbrev cC (ac : Nat) (cI : ClassId) (h : Nat → Int32) : Nat × va_E := (ac, .inl (cI, 10, .inl h))
abbrev cT (ac : Nat) (cI : ClassId) (h : Nat → Int32) : Nat × va_E := (ac, .inl (cI, 60, .inl h))
abbrev cG (ac : Nat) (cL : ClassId) (h : Nat → Int64) : Nat × va_E := (ac, .inl (cL, 4, .inr (.inl h)))
abbrev tyL (cI cZ cL : ClassId) : List (ClassId × FieldType) := [(cI, .int), (cZ, .boolean), (cL, .long)]
abbrev tyC (cI : ClassId) : List (ClassId × FieldType) := [(cI, .int)]
def DD (A : Nat → Prop) (l : List Nat) : Prop := l.Nodup ∧ ∀ q ∈ l, A q
theorem DD_D {A : Nat → Prop} {ws : va_W} (h : DD A (ws.map Prod.fst)) : va_D A ws := by
  refine ⟨fun i j p q hi hj e => ?_, fun k q hk => h.2 _ (List.mem_map.mpr ⟨q, List.mem_of_getElem? hk, rfl⟩)⟩
  have h1 : (ws.map Prod.fst)[i]? = some p.1 := by rw [List.getElem?_map, hi]; rfl
  have h2 : (ws.map Prod.fst)[j]? = some p.1 := by rw [List.getElem?_map, hj, e]; rfl
  have hl : i < (ws.map Prod.fst).length := (List.getElem?_eq_some_iff.mp h1).1
  exact (List.getElem?_inj hl h.1).mp (h1.trans h2.symm)
theorem DD_new {A : Nat → Prop} {ws : va_W} {q : Nat} {e : va_E} (hD : va_D A (ws ++ [(q, e)])) (h : DD A (ws.map Prod.fst)) : DD A (ws.map Prod.fst ++ [q]) := by
  have hq : (ws ++ [(q, e)])[ws.length]? = some (q, e) := by simp
  refine ⟨List.nodup_append.mpr ⟨h.1, by simp, fun x hx y hy => ?_⟩, fun x hx => ?_⟩
  · obtain rfl := List.mem_singleton.mp hy
    intro e1
    obtain ⟨z, hz, ez⟩ := List.mem_map.mp hx
    obtain ⟨i, hi, ei⟩ := List.getElem_of_mem hz
    have h1 : (ws ++ [(y, e)])[i]? = some z := by rw [List.getElem?_append_left hi, List.getElem?_eq_getElem hi, ei]
    have := hD.1 i ws.length z (y, e) h1 hq (by rw [ez]; exact e1)
    omega
  · rcases List.mem_append.mp hx with h1 | h1
    · exact h.2 x h1
    · obtain rfl := List.mem_singleton.mp h1
      exact hD.2 _ _ hq
/-- addresses of a desk and of what stands beside it -/
abbrev adD (a : Nat → Nat) : List Nat := [a 0, a 1, a 2, a 3, a 4, a 5, a 6]
theorem wfD_ad {a : Nat → Nat} {cI cZ : ClassId} {x : SD} {ex : va_W} : (wfD a cI cZ x ++ ex).map Prod.fst = adD a ++ ex.map Prod.fst := rfl
theorem DD_ap {A : Nat → Prop} {a : Nat → Nat} {l : List Nat} (h : DD A (adD a ++ l)) : apart a 7 := by
  have hn : (adD a).Nodup := (List.nodup_append.mp h.1).1
  have key : ∀ i, i < 7 → (adD a)[i]? = some (a i) := fun i hi => by
    rcases (show i = 0 ∨ i = 1 ∨ i = 2 ∨ i = 3 ∨ i = 4 ∨ i = 5 ∨ i = 6 by omega) with r | r | r | r | r | r | r <;> subst r <;> rfl
  intro i j hi hj e
  exact (List.getElem?_inj (show i < (adD a).length from hi) hn).mp (by rw [key i hi, key j hj, e])
theorem DD_ne {A : Nat → Prop} {a : Nat → Nat} {l : List Nat} (h : DD A (adD a ++ l)) {q : Nat} (hq : q ∈ l) : ∀ i, i < 7 → q ≠ a i := by
  intro i hi e
  have h3 := (List.nodup_append.mp h.1).2.2
  refine h3 (a i) ?_ q hq e.symm
  rcases (show i = 0 ∨ i = 1 ∨ i = 2 ∨ i = 3 ∨ i = 4 ∨ i = 5 ∨ i = 6 by omega) with r | r | r | r | r | r | r <;> subst r <;> simp
theorem DD_A {A : Nat → Prop} {a : Nat → Nat} {l : List Nat} (h : DD A (adD a ++ l)) : ∀ i, i < 7 → A (a i) := by
  intro i hi
  refine h.2 _ (List.mem_append_left _ ?_)
  rcases (show i = 0 ∨ i = 1 ∨ i = 2 ∨ i = 3 ∨ i = 4 ∨ i = 5 ∨ i = 6 by omega) with r | r | r | r | r | r | r <;> subst r <;> simp
theorem DD_10 {a : Nat → Nat} (h : apart a 10) (n : Nat) : DD (aS a 10 n) (adD a ++ [a 7, a 8, a 9]) := by
  have e : adD a ++ [a 7, a 8, a 9] = (List.range 10).map a := rfl
  rw [e]
  refine ⟨?_, fun q hq => ?_⟩
  · refine List.pairwise_map.mpr ((List.nodup_range (n := 10)).imp_of_mem fun {x y} hx hy hxy hc => hxy (h x y (List.mem_range.mp hx) (List.mem_range.mp hy) hc))
  · obtain ⟨i, hi, rfl⟩ := List.mem_map.mp hq
    exact Or.inl ⟨i, List.mem_range.mp hi, rfl⟩
section ExK
variable {G : va_G} {a : Nat → Nat} {cI cZ cL : ClassId} {x : SD} {ex : va_W} {A : Nat → Prop} {H H1 : Heap}
theorem P_ex (hP : va_P G vwCl (wfD a cI cZ x ++ ex) H) : va_P G vwCl ex H := fun k q hq => hP (7 + k) q (by
  rw [List.getElem?_append_right (show (wfD a cI cZ x).length ≤ 7 + k from Nat.le_add_right 7 k)]
  show ex[7 + k - 7]? = some q
  rw [Nat.add_sub_cancel_left]; exact hq)
theorem P_d (hP : va_P G vwCl (wfD a cI cZ x ++ ex) H) : va_P G vwCl (wfD a cI cZ x) H := fun k q hq => hP k q (by
  rw [List.getElem?_append_left (List.getElem?_eq_some_iff.mp hq).1]; exact hq)
theorem ex_kept (hDD : DD A (adD a ++ ex.map Prod.fst)) (hP : va_P G vwCl (wfD a cI cZ x ++ ex) H) (hk : ∀ q : Nat, q < H.size → ¬ aS a 7 H.size q → H1[q]? = H[q]?) : va_P G vwCl ex H1 :=
  (P_ex hP).kept fun k q hq => by
    have h3 := ((P_ex hP) k q hq).lt
    refine hk _ h3 fun h => ?_
    rcases h with ⟨i, hi, e⟩ | h
    · exact DD_ne hDD (List.mem_map.mpr ⟨q, List.mem_of_getElem? hq, rfl⟩) i hi e
    · omega
end ExK
/-- a law's method that writes -/
def lwc {S : Type} (l : Launch) (y : MethodName) (wl : List Cond) (rm : Room) (G : va_G) (ws : va_W) (tys : List (ClassId × FieldType)) (A : Nat → Prop) (sz : Nat) (av : List Value) (post : Int32 → S → Prop) (wf : S → va_W) (mc ms : Nat) : Prop :=
  Met l y wl rm (va_Pc av (fun U => U.heap.size = sz ∧ va_P G vwCl ws U.heap ∧ va_K G vwCl tys U ∧ thr A U)) (va_Qi post (fun u t => va_P G vwCl (wf u) t.heap) A) mc ms A
theorem lwc_of {S : Type} {l : Launch} {nm ds : String} {wl wl' : List Cond} {rm : Room} {G : va_G} {ws : va_W} {tys : List (ClassId × FieldType)} {av : List Value} {cc : ByteArray} {nL mc ms : Nat} {post : Int32 → S → Prop} {wf : S → va_W} {a : Nat → Nat} {n sz : Nat} {ty : FieldType}
    (hw : wl = .code ⟨RL, nm, ds⟩ cc nL (some ty) :: wl') (hle : (lg_sl av).length ≤ nL)
    (body : ∀ (p : Program) (e : Env) (s : State) (m : MethodId) (args : Array Value) (below : List Frame) (meth : Method) (c : Code) (H : Heap) (locs : List Loc) (ls : Array Slot) (Q : State → Prop), p.tables.exec = Jvm.exec → c.code = cc → c.maxLocals = nL → s.vm.findClass RL = some m.cls → (∀ w ∈ wl, w.before args s = true) → va_P G vwCl ws H → va_K G vwCl tys s → thr (aS a n s.heap.size) s → va_S (aS a n s.heap.size) s.heap H locs →
      (∀ (v : Int32) (u : S) (pc : Nat) (ls : Array Slot) (H : Heap) (locs : List Loc) (k1 k2 : Nat), k1 ≤ mc → k2 ≤ ms → decode cc pc = .ok (.ireturn, 1) → narrow ty (.int v) = .int v → va_P G vwCl (wf u) H → va_S (aS a n s.heap.size) s.heap H locs → post v u → W p l e rm s m args below meth c H locs k1 k2 Q (F0 m pc ls [.int v])) → lv_has ls nL (lv_args 0 av) →
      W p l e rm s m args below meth c H locs 0 0 Q (F0 m 0 ls [])) : lwc l ⟨RL, nm, ds⟩ wl rm G ws tys (aS a n sz) sz av post wf mc ms := by
  refine Met.ofW (cc := cc) (maxL := nL) (ret := some ty) (show plainName RL = true by decide) hw ?_
  intro p e s m args below meth c s₁ B hml hv
  obtain ⟨rfl, rfl, hP, hK, ht⟩ := hv
  have hl := lv_entry av (n := nL) hle
  rw [lg_entry_eq]
  generalize (lg_sl av ++ List.replicate (nL - (lg_sl av).length) Slot.unset).toArray = ls at hl ⊢
  exact body p e s m _ below meth c s.heap [] ls _ B.exec B.bytes hml (findClass_of_methodNamed B.named) (atoms_spec (ws := wl) B.pre) hP hK ht va_S.rf
    (fun v u pc ls H locs k1 k2 h1 h2 hdg hn hP hS hp => W.widen h1 h2 (W.zret B.exec B.bytes B.returns hn (fun t ht _ => ⟨⟨v, u, rfl, hp, by subst ht; exact hP⟩, hS.F ht⟩) hS.2.2 hdg B.notSynchronized)) hl
section LawCalls
variable {p : Program} {l : Launch} {e : Env} {R : Room} {s : State} {m : MethodId} {args : Array Value} {below : List Frame} {meth : Method} {c : Code} {H : Heap} {locs : List Loc} {cells slots : Nat} {Q : State → Prop}
variable {cc : ByteArray} {nL n index pc : Nat} {ls : Array Slot} {st0 rest As : List Value} {Ts wl : List Cond} {y : MethodName} {bytes : ByteArray} {maxL : Nat} {ret : Option FieldType} {rm : Room} {G : va_G} {hh : List (Nat × Nat × Nat × Nat)}
variable {a : Nat → Nat} {cI cZ cL : ClassId} {x : SD} {A : Nat → Prop} {ex : va_W} {px : String → Prop} {mc ms : Nat}
theorem aS_A {x9 : List Nat} (hDD : DD A (adD a ++ x9)) (hA : ∀ q, s.heap.size ≤ q → A q) (hS : va_S A s.heap H locs) : ∀ q, aS a 7 H.size q → A q :=
  fun q h => h.elim (fun ⟨i, hi, e1⟩ => by rw [e1]; exact DD_A hDD i hi) (fun h => hA q (Nat.le_trans hS.1 h))
/-- the desk is called: it answers, and it alone changes -/
theorem lD_i {S' : Type} {post : Int32 → S' → Prop} {wf : S' → va_W} (S : CallFix p m c cc nL s args Ts RL) (hM : wri l y wl rm G (wfD a cI cZ x) (tyIZ cI cZ) (aS a 7 H.size) H.size (.ref (a 0) :: As) post wf) (cw : CallW R s args RL RX1 index y bytes maxL ret wl rm 0 0 n)
    (hDD : DD A (adD a ++ ex.map Prod.fst)) (hA : ∀ q, s.heap.size ≤ q → A q) (hP : va_P G vwCl (wfD a cI cZ x ++ ex) H) (hK : va_K G vwCl (tyL cI cZ cL) s) (hS : va_S A s.heap H locs)
    (hn : As.length = n) (hls : ls.size = nL) (hst : st0 = As.reverse ++ .ref (a 0) :: rest) (hW : (rest.map fun v => v.category).sum ≤ 8) (hdg : decode cc pc = .ok (.invokevirtual index, 3)) (hf : cells ≤ R.cells ∧ slots ≤ R.slots)
    (kk : ∀ (r : Int32) (u : S') (H1 : Heap) (locs1 : List Loc), post r u → va_P G vwCl (wf u ++ ex) H1 → va_S A s.heap H1 locs1 → W p l e R s m args below meth c H1 locs1 cells slots Q (F0 m (pc + 3) ls (.int r :: rest))) : W p l e R s m args below meth c H locs cells slots Q (F0 m pc ls st0) :=
  va_calli (va_runV S hM cw ⟨fb_w, va_recv hK (P_d hP) (ci := 1) (q0 := 0) rfl rfl, fun U hU hW => ⟨rfl, by rw [hU], by rw [hU]; exact P_d hP, va_K.moved hW.alike (hK.sub (tys' := tyIZ cI cZ) [0, 1] rfl)⟩⟩ rfl hn hls hst (lv_room hW) hdg hf) hS (fun q _ h => aS_A hDD hA hS q h) (aS_A hDD hA hS)
    (fun r u t1 H1 locs1 ht1 _ hp hB _ hk hS1 => by subst ht1; exact kk r u _ locs1 hp (hB.app (ex_kept hDD hP hk)) hS1)
theorem lD_v {S' : Type} {post : S' → Prop} {wf : S' → va_W} (S : CallFix p m c cc nL s args Ts RL) (hM : wrv l y wl rm G (wfD a cI cZ x) (tyIZ cI cZ) (aS a 7 H.size) H.size (.ref (a 0) :: As) post wf) (cw : CallW R s args RL RX1 index y bytes maxL ret wl rm 0 0 n)
    (hDD : DD A (adD a ++ ex.map Prod.fst)) (hA : ∀ q, s.heap.size ≤ q → A q) (hP : va_P G vwCl (wfD a cI cZ x ++ ex) H) (hK : va_K G vwCl (tyL cI cZ cL) s) (hS : va_S A s.heap H locs)
    (hn : As.length = n) (hls : ls.size = nL) (hst : st0 = As.reverse ++ .ref (a 0) :: rest) (hW : (rest.map fun v => v.category).sum ≤ 8) (hdg : decode cc pc = .ok (.invokevirtual index, 3)) (hf : cells ≤ R.cells ∧ slots ≤ R.slots)
    (kk : ∀ (u : S') (H1 : Heap) (locs1 : List Loc), post u → va_P G vwCl (wf u ++ ex) H1 → va_S A s.heap H1 locs1 → W p l e R s m args below meth c H1 locs1 cells slots Q (F0 m (pc + 3) ls rest)) : W p l e R s m args below meth c H locs cells slots Q (F0 m pc ls st0) :=
  va_callv (va_runV S hM cw ⟨fb_w, va_recv hK (P_d hP) (ci := 1) (q0 := 0) rfl rfl, fun U hU hW => ⟨rfl, by rw [hU], by rw [hU]; exact P_d hP, va_K.moved hW.alike (hK.sub (tys' := tyIZ cI cZ) [0, 1] rfl)⟩⟩ rfl hn hls hst (lv_room hW) hdg hf) hS (fun q _ h => aS_A hDD hA hS q h) (aS_A hDD hA hS)
    (fun u t1 H1 locs1 ht1 _ hp hB _ hk hS1 => by subst ht1; exact kk u _ locs1 hp (hB.app (ex_kept hDD hP hk)) hS1)
/-- 'asks' is called, which catches: the desk alone changes -/
theorem lA_i {S' : Type} {post : Int32 → S' → Prop} {wf : S' → va_W} (S : CallFix p m c cc nL s args Ts RL) (hM : lwc l y wl rm G (wfD a cI cZ x) (tyL cI cZ cL) (aS a 7 H.size) H.size As post wf mc ms) (cw : vx_CSW R s args RL index y bytes maxL ret hh wl rm mc ms n)
    (hDD : DD A (adD a ++ ex.map Prod.fst)) (hA : ∀ q, s.heap.size ≤ q → A q) (hP : va_P G vwCl (wfD a cI cZ x ++ ex) H) (hK : va_K G vwCl (tyL cI cZ cL) s) (ht : thr A s) (hS : va_S A s.heap H locs)
    (hn : As.length = n) (hls : ls.size = nL) (hst : st0 = As.reverse ++ rest) (hW : (rest.map fun v => v.category).sum ≤ 8) (hdg : decode cc pc = .ok (.invokestatic index, 3)) (hf : cells + mc ≤ R.cells ∧ slots + ms ≤ R.slots)
    (kk : ∀ (r : Int32) (u : S') (H1 : Heap) (locs1 : List Loc), post r u → va_P G vwCl (wf u ++ ex) H1 → va_S A s.heap H1 locs1 → W p l e R s m args below meth c H1 locs1 (cells + mc) (slots + ms) Q (F0 m (pc + 3) ls (.int r :: rest))) : W p l e R s m args below meth c H locs cells slots Q (F0 m pc ls st0) :=
  va_calli (vx_runSW S hM cw ⟨fb_t, fun U hU hW => ⟨rfl, by rw [hU], by rw [hU]; exact P_d hP, va_K.moved hW.alike hK, by have h := thr.go ht hW hU hS (aS_A hDD hA hS); exact h⟩⟩ rfl hn hls hst (lv_room hW) hdg hf) hS (fun q _ h => aS_A hDD hA hS q h) (aS_A hDD hA hS)
    (fun r u t1 H1 locs1 ht1 _ hp hB _ hk hS1 => by subst ht1; exact kk r u _ locs1 hp (hB.app (ex_kept hDD hP hk)) hS1)
/-- a law's method over the same world is called -/
theorem lW_i {S' : Type} {post : Int32 → S' → Prop} {wf : S' → va_W} {ws : va_W} {B : Nat → Prop} (S : CallFix p m c cc nL s args Ts RL) (hM : lwc l y wl rm G ws (tyL cI cZ cL) B H.size As post wf mc ms) (cw : CallB R s args RL index y bytes maxL ret wl rm mc ms n ∧ (Cond.static y).before args s = true)
    (hB : ∀ q, B q → A q) (hP : va_P G vwCl ws H) (hK : va_K G vwCl (tyL cI cZ cL) s) (ht : thr A s) (hS : va_S A s.heap H locs)
    (hn : As.length = n) (hls : ls.size = nL) (hst : st0 = As.reverse ++ rest) (hW : (rest.map fun v => v.category).sum ≤ 8) (hdg : decode cc pc = .ok (.invokestatic index, 3)) (hf : cells + mc ≤ R.cells ∧ slots + ms ≤ R.slots)
    (kk : ∀ (r : Int32) (u : S') (H1 : Heap) (locs1 : List Loc), post r u → va_P G vwCl (wf u) H1 → (∀ q : Nat, q < H.size → ¬ B q → H1[q]? = H[q]?) → va_S A s.heap H1 locs1 → W p l e R s m args below meth c H1 locs1 (cells + mc) (slots + ms) Q (F0 m (pc + 3) ls (.int r :: rest))) : W p l e R s m args below meth c H locs cells slots Q (F0 m pc ls st0) :=
  va_calli (va_runS S hM cw ⟨fb_t, fun U hU hW => ⟨rfl, by rw [hU], by rw [hU]; exact hP, va_K.moved hW.alike hK, by have h := thr.go ht hW hU hS hB; exact h⟩⟩ rfl hn hls hst (lv_room hW) hdg hf) hS (fun q _ h => hB q h) hB
    (fun r u t1 H1 locs1 ht1 _ hp hB1 _ hk hS1 => by subst ht1; exact kk r u _ locs1 hp hB1 hk hS1)
variable {ws : va_W} {tys : List (ClassId × FieldType)} {ad nn : Nat} {i : Int32} {j : Nat} {h : Nat → Int32} {v : Int32}
theorem arC (hx : p.tables.exec = Jvm.exec) (hb : c.code = cc) (hK : va_K G vwCl (tyL cI cZ cL) s) (hP : va_P G vwCl ws H) (q0 : Nat) (ha : ws[q0]? = some (ad, .inl (cI, nn, .inl h))) (hi : i = nI j) (hj : j < nn) (hn : nn < 1000) (hdg : decode cc pc = .ok (.iaload, 1))
    (kk : W p l e R s m args below meth c H locs cells slots Q (F0 m (pc + 1) ls (.int (h j) :: rest))) : W p l e R s m args below meth c H locs cells slots Q (F0 m pc ls (.int i :: .ref ad :: rest)) := by
  subst hi
  refine va_iald hx hb hK hP q0 0 ha rfl (vp_in_nI hj (by omega)) hdg ?_
  rw [nI_clamp (by omega)]; exact kk
theorem asC {H0 : Heap} (ws' : va_W) (hx : p.tables.exec = Jvm.exec) (hb : c.code = cc) (hK : va_K G vwCl (tyL cI cZ cL) s) (hP : va_P G vwCl ws H) (hD : va_D A ws) (hS : va_S A H0 H locs) (q0 : Nat) (ha : ws[q0]? = some (ad, .inl (cI, nn, .inl h))) (hi : i = nI j) (hj : j < nn) (hn : nn < 1000) (hset : ws.set q0 (ad, .inl (cI, nn, .inl (upd h j v))) = ws') (hdg : decode cc pc = .ok (.iastore, 1))
    (kk : ∀ (H1 : Heap) (locs1 : List Loc), va_P G vwCl ws' H1 → va_S A H0 H1 locs1 → W p l e R s m args below meth c H1 locs1 cells slots Q (F0 m (pc + 1) ls rest)) : W p l e R s m args below meth c H locs cells slots Q (F0 m pc ls (.int v :: .int i :: .ref ad :: rest)) := by
  subst hi; subst hset
  refine va_iast hx hb hK hP hD hS q0 0 ha rfl (vp_in_nI hj (by omega)) hdg (fun H1 locs1 hP1 _ hS1 => kk H1 locs1 ?_ hS1)
  rw [nI_clamp (by omega)] at hP1; exact hP1
end LawCalls
