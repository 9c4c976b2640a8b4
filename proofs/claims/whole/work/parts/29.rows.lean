/-! the law's rows: a desk, a row of a long and the reference, apart -/
def lA (n : Nat) : Nat → Prop := fun q => n ≤ q
def LA (a b : Nat → Nat) (n : Nat) : Prop := apart a 8 ∧ apart b 6 ∧ (∀ i j, i < 8 → j < 6 → a i ≠ b j) ∧ (∀ i, i < 8 → n ≤ a i) ∧ (∀ j, j < 6 → n ≤ b j)
def bz (x : Int32) : Int32 := if x = 0 then 0 else 1
theorem bz_01 (x : Int32) : bz x = 0 ∨ bz x = 1 := by
  unfold bz; split
  · exact Or.inl rfl
  · exact Or.inr rfl
theorem fb_l {G : va_G} {ws ws' : va_W} {tys : List (ClassId × FieldType)} {av : List Value} {sz : Nat} {A : Nat → Prop} : FrameBlind (va_Pc av (fun U => U.heap.size = sz ∧ va_P G vwCl ws U.heap ∧ va_P G vwCl ws' U.heap ∧ va_K G vwCl tys U ∧ thr A U)) := by
  intro a U g mk q
  obtain ⟨q1, q2, q3, q5, q4, ht⟩ := q
  have h := fb_t (G := G) (ws := ws) (tys := tys) (av := av) (sz := sz) (A := A) a U g mk ⟨q1, q2, q3, q4, ht⟩
  exact ⟨h.1, h.2.1, h.2.2.1, q5, h.2.2.2.1, h.2.2.2.2⟩
section LawKit
variable {p : Program} {l : Launch} {e : Env} {R : Room} {s : State} {m : MethodId} {args : Array Value} {below : List Frame} {meth : Method} {c : Code} {H : Heap} {locs : List Loc} {cells slots : Nat} {Q : State → Prop}
variable {cc : ByteArray} {nL n index pc : Nat} {ls : Array Slot} {st0 rest As : List Value} {Ts wl : List Cond} {y : MethodName} {bytes : ByteArray} {maxL : Nat} {ret : Option FieldType} {rm : Room} {G : va_G} {hh : List (Nat × Nat × Nat × Nat)}
variable {a b : Nat → Nat} {cI cZ cL : ClassId} {x : SD} {fo : Nat → Int64} {g : Nat → Int32} {f : Nat → Nat → Int32} {t : Int32}
theorem lv_bz (hx : p.tables.exec = Jvm.exec) (hb : c.code = cc) {v : Int32} (d0 : decode cc pc = .ok (.ifCond .eq 7, 3)) (d3 : decode cc (pc + 3) = .ok (.iconst 1, 1)) (d4 : decode cc (pc + 4) = .ok (.goto 4, 3)) (d7 : decode cc (pc + 7) = .ok (.iconst 0, 1))
    (k : W p l e R s m args below meth c H locs cells slots Q (F0 m (pc + 8) ls (.int (bz v) :: rest))) : W p l e R s m args below meth c H locs cells slots Q (F0 m pc ls (.int v :: rest)) := by
  refine lv_if_eq (tgt := pc + 7) hx hb d0 (by omega) (fun h => ?_) (fun h => ?_)
  · refine lv_iconst (v := 0) hx hb d7 (by decide) ?_
    have e1 : bz v = 0 := if_pos h
    rw [e1] at k; exact k
  · refine lv_iconst (v := 1) hx hb d3 (by decide) ?_
    refine lv_goto (tgt := pc + 8) hx hb d4 (by omega) ?_
    have e1 : bz v = 1 := if_neg h
    rw [e1] at k; exact k
theorem M_kept {H1 : Heap} {n0 : Nat} (hA : LA a b n0) (hP : va_P G vwCl (wM b cI cZ g f t) H) (hk : ∀ q : Nat, q < H.size → ¬ aS a 8 H.size q → H1[q]? = H[q]?) : va_P G vwCl (wM b cI cZ g f t) H1 :=
  hP.kept (fun k q hq => by
    have h2 := wM_at k q hq
    have h3 := (hP k q hq).lt
    refine hk _ h3 (fun h => ?_)
    rcases h with ⟨i, hi, e1⟩ | h
    · exact hA.2.2.1 i k hi h2.1 (e1.symm.trans h2.2)
    · omega)
theorem D_kept {H1 : Heap} {n0 : Nat} (hA : LA a b n0) (hP : va_P G vwCl (wfD a cI cZ x) H) (hk : ∀ q : Nat, q < H.size → ¬ aS b 6 H.size q → H1[q]? = H[q]?) : va_P G vwCl (wfD a cI cZ x) H1 :=
  hP.kept (fun k q hq => by
    have h2 := wD_at k q hq
    have h3 := (hP k q hq).lt
    refine hk _ h3 (fun h => ?_)
    rcases h with ⟨i, hi, e1⟩ | h
    · exact hA.2.2.1 k i (by omega) hi (h2.2.symm.trans e1)
    · omega)
theorem O_kept {H1 : Heap} {n0 : Nat} (hA : LA a b n0) (hP : va_P G vwCl (wO a cL fo) H) (hk : ∀ q : Nat, q < H.size → ¬ aS b 6 H.size q → H1[q]? = H[q]?) : va_P G vwCl (wO a cL fo) H1 :=
  hP.kept (fun k q hq => by
    have h1 := (List.getElem?_eq_some_iff.mp hq).1
    have hk0 : k = 0 := by simp at h1; omega
    subst hk0
    cases hq
    have h3 := (hP 0 _ rfl).lt
    refine hk _ h3 (fun h => ?_)
    rcases h with ⟨i, hi, e1⟩ | h
    · exact hA.2.2.1 7 i (by omega) hi e1
    · exact absurd h3 (by omega))
theorem lA_a (hA : LA a b s.heap.size) (hS : va_S (lA s.heap.size) s.heap H locs) : ∀ q, aS a 8 H.size q → lA s.heap.size q :=
  fun q h => h.elim (fun ⟨i, hi, e1⟩ => by rw [e1]; exact hA.2.2.2.1 i hi) (fun h => Nat.le_trans hS.1 h)
theorem lA_b (hA : LA a b s.heap.size) (hS : va_S (lA s.heap.size) s.heap H locs) : ∀ q, aS b 6 H.size q → lA s.heap.size q :=
  fun q h => h.elim (fun ⟨i, hi, e1⟩ => by rw [e1]; exact hA.2.2.2.2 i hi) (fun h => Nat.le_trans hS.1 h)
theorem aS_78 {k : Nat} : ∀ q, aS a 7 k q → aS a 8 k q := fun q h => h.elim (fun ⟨i, hi, e1⟩ => Or.inl ⟨i, by omega, e1⟩) Or.inr
/-- a wrapper of the law is called -/
theorem law_S {post : Int32 → SD × (Nat → Int64) → Prop} (S : CallFix p m c cc nL s args Ts RL) (hM : lwr l y wl rm G a cI cZ cL x fo H.size As post) (cw : vx_CSW R s args RL index y bytes maxL ret hh wl rm 1 6 n)
    (hA : LA a b s.heap.size) (hPD : va_P G vwCl (wfD a cI cZ x) H) (hPO : va_P G vwCl (wO a cL fo) H) (hPM : va_P G vwCl (wM b cI cZ g f t) H) (hK : va_K G vwCl (tyL cI cZ cL) s) (ht : thr (lA s.heap.size) s) (hS : va_S (lA s.heap.size) s.heap H locs)
    (hn : As.length = n) (hls : ls.size = nL) (hst : st0 = As.reverse ++ rest) (hW : (rest.map fun v => v.category).sum ≤ 8) (hdg : decode cc pc = .ok (.invokestatic index, 3)) (hf : cells + 1 ≤ R.cells ∧ slots + 6 ≤ R.slots)
    (kk : ∀ (v : Int32) (u : SD × (Nat → Int64)) (H1 : Heap) (locs1 : List Loc), post v u → va_P G vwCl (wfD a cI cZ u.1) H1 → va_P G vwCl (wO a cL u.2) H1 → va_P G vwCl (wM b cI cZ g f t) H1 → va_S (lA s.heap.size) s.heap H1 locs1 → W p l e R s m args below meth c H1 locs1 (cells + 1) (slots + 6) Q (F0 m (pc + 3) ls (.int v :: rest))) : W p l e R s m args below meth c H locs cells slots Q (F0 m pc ls st0) :=
  va_calli (vx_runSW S hM cw ⟨fb_l, fun U hU hW => ⟨rfl, by rw [hU], by rw [hU]; exact hPD, by rw [hU]; exact hPO, va_K.moved hW.alike hK, by have h := thr.go ht hW hU hS (lA_a hA hS); exact h⟩⟩ rfl hn hls hst (lv_room hW) hdg hf) hS (fun q _ h => lA_a hA hS q h) (lA_a hA hS)
    (fun r u t1 H1 locs1 ht1 _ hp hB _ hk hS1 => by subst ht1; exact kk r u _ locs1 hp hB.1 hB.2 (M_kept hA hPM hk) hS1)
/-- the reference is called -/
theorem law_M {S' : Type} {post : Int32 → S' → Prop} {wf : S' → va_W} (S : CallFix p m c cc nL s args Ts RL) (hM : wri l y wl rm G (wM b cI cZ g f t) (tyIZ cI cZ) (aS b 6 H.size) H.size (.ref (b 0) :: As) post wf) (cw : CallW R s args RL RX2 index y bytes maxL ret wl rm 0 0 n)
    (hA : LA a b s.heap.size) (hPD : va_P G vwCl (wfD a cI cZ x) H) (hPO : va_P G vwCl (wO a cL fo) H) (hPM : va_P G vwCl (wM b cI cZ g f t) H) (hK : va_K G vwCl (tyL cI cZ cL) s) (hS : va_S (lA s.heap.size) s.heap H locs)
    (hn : As.length = n) (hls : ls.size = nL) (hst : st0 = As.reverse ++ .ref (b 0) :: rest) (hW : (rest.map fun v => v.category).sum ≤ 8) (hdg : decode cc pc = .ok (.invokevirtual index, 3)) (hf : cells ≤ R.cells ∧ slots ≤ R.slots)
    (kk : ∀ (r : Int32) (u : S') (H1 : Heap) (locs1 : List Loc), post r u → va_P G vwCl (wfD a cI cZ x) H1 → va_P G vwCl (wO a cL fo) H1 → va_P G vwCl (wf u) H1 → va_S (lA s.heap.size) s.heap H1 locs1 → W p l e R s m args below meth c H1 locs1 cells slots Q (F0 m (pc + 3) ls (.int r :: rest))) : W p l e R s m args below meth c H locs cells slots Q (F0 m pc ls st0) :=
  va_calli (va_runV S hM cw ⟨fb_w, va_recv hK hPM (ci := 2) (q0 := 0) rfl rfl, fun U hU hW => ⟨rfl, by rw [hU], by rw [hU]; exact hPM, va_K.moved hW.alike (hK.sub (tys' := tyIZ cI cZ) [0, 1] rfl)⟩⟩ rfl hn hls hst (lv_room hW) hdg hf) hS (fun q _ h => lA_b hA hS q h) (lA_b hA hS)
    (fun r u t1 H1 locs1 ht1 _ hp hB _ hk hS1 => by subst ht1; exact kk r u _ locs1 hp (D_kept hA hPD hk) (O_kept hA hPO hk) hB hS1)
theorem law_Mv {S' : Type} {post : S' → Prop} {wf : S' → va_W} (S : CallFix p m c cc nL s args Ts RL) (hM : wrv l y wl rm G (wM b cI cZ g f t) (tyIZ cI cZ) (aS b 6 H.size) H.size (.ref (b 0) :: As) post wf) (cw : CallW R s args RL RX2 index y bytes maxL ret wl rm 0 0 n)
    (hA : LA a b s.heap.size) (hPD : va_P G vwCl (wfD a cI cZ x) H) (hPO : va_P G vwCl (wO a cL fo) H) (hPM : va_P G vwCl (wM b cI cZ g f t) H) (hK : va_K G vwCl (tyL cI cZ cL) s) (hS : va_S (lA s.heap.size) s.heap H locs)
    (hn : As.length = n) (hls : ls.size = nL) (hst : st0 = As.reverse ++ .ref (b 0) :: rest) (hW : (rest.map fun v => v.category).sum ≤ 8) (hdg : decode cc pc = .ok (.invokevirtual index, 3)) (hf : cells ≤ R.cells ∧ slots ≤ R.slots)
    (kk : ∀ (u : S') (H1 : Heap) (locs1 : List Loc), post u → va_P G vwCl (wfD a cI cZ x) H1 → va_P G vwCl (wO a cL fo) H1 → va_P G vwCl (wf u) H1 → va_S (lA s.heap.size) s.heap H1 locs1 → W p l e R s m args below meth c H1 locs1 cells slots Q (F0 m (pc + 3) ls rest)) : W p l e R s m args below meth c H locs cells slots Q (F0 m pc ls st0) :=
  va_callv (va_runV S hM cw ⟨fb_w, va_recv hK hPM (ci := 2) (q0 := 0) rfl rfl, fun U hU hW => ⟨rfl, by rw [hU], by rw [hU]; exact hPM, va_K.moved hW.alike (hK.sub (tys' := tyIZ cI cZ) [0, 1] rfl)⟩⟩ rfl hn hls hst (lv_room hW) hdg hf) hS (fun q _ h => lA_b hA hS q h) (lA_b hA hS)
    (fun u t1 H1 locs1 ht1 _ hp hB _ hk hS1 => by subst ht1; exact kk u _ locs1 hp (D_kept hA hPD hk) (O_kept hA hPO hk) hB hS1)
/-- the desk is called, and only it may change -/
theorem law_D {S' : Type} {post : Int32 → S' → Prop} {wf : S' → va_W} (S : CallFix p m c cc nL s args Ts RL) (hM : wri l y wl rm G (wfD a cI cZ x) (tyIZ cI cZ) (aS a 7 H.size) H.size (.ref (a 0) :: As) post wf) (cw : CallW R s args RL RX1 index y bytes maxL ret wl rm 0 0 n)
    (hA : LA a b s.heap.size) (hPD : va_P G vwCl (wfD a cI cZ x) H) (hPO : va_P G vwCl (wO a cL fo) H) (hPM : va_P G vwCl (wM b cI cZ g f t) H) (hK : va_K G vwCl (tyL cI cZ cL) s) (hS : va_S (lA s.heap.size) s.heap H locs)
    (hn : As.length = n) (hls : ls.size = nL) (hst : st0 = As.reverse ++ .ref (a 0) :: rest) (hW : (rest.map fun v => v.category).sum ≤ 8) (hdg : decode cc pc = .ok (.invokevirtual index, 3)) (hf : cells ≤ R.cells ∧ slots ≤ R.slots)
    (kk : ∀ (r : Int32) (u : S') (H1 : Heap) (locs1 : List Loc), post r u → va_P G vwCl (wf u) H1 → va_P G vwCl (wO a cL fo) H1 → va_P G vwCl (wM b cI cZ g f t) H1 → va_S (lA s.heap.size) s.heap H1 locs1 → W p l e R s m args below meth c H1 locs1 cells slots Q (F0 m (pc + 3) ls (.int r :: rest))) : W p l e R s m args below meth c H locs cells slots Q (F0 m pc ls st0) :=
  va_calli (va_runV S hM cw ⟨fb_w, va_recv hK hPD (ci := 1) (q0 := 0) rfl rfl, fun U hU hW => ⟨rfl, by rw [hU], by rw [hU]; exact hPD, va_K.moved hW.alike (hK.sub (tys' := tyIZ cI cZ) [0, 1] rfl)⟩⟩ rfl hn hls hst (lv_room hW) hdg hf) hS (fun q _ h => lA_a hA hS q (aS_78 q h)) (fun q h => lA_a hA hS q (aS_78 q h))
    (fun r u t1 H1 locs1 ht1 _ hp hB _ hk hS1 => by subst ht1; exact kk r u _ locs1 hp hB (wO_kept hA.1 hPO hk) (M_kept hA hPM (fun q h1 h2 => hk q h1 (fun h => h2 (aS_78 q h)))) hS1)
end LawKit
/-! both sides answer the same, and stay the same -/
def AG (c : Nat) (v : Int32) (u : SD × (Nat → Int64)) (r2 : Int32) (u2 : SM) : Prop := ∃ x' : SD, LI (c + 1) x' ∧ (∀ a cI cZ, wfD a cI cZ u.1 = wfD a cI cZ x') ∧ u2 = (x'.1, x'.2.1, v) ∧ (v = 0 → u.2 0 = r2.toInt64)
def AQ (c : Nat) (v : Int32) (u : SD × (Nat → Int64)) (u2 : SM) : Prop := ∃ x' : SD, LI (c + 1) x' ∧ (∀ a cI cZ, wfD a cI cZ u.1 = wfD a cI cZ x') ∧ u2 = (x'.1, x'.2.1, v)
section Ag
variable {c : Nat} {x : SD} {fo : Nat → Int64} {v : Int32} {u : SD × (Nat → Int64)}
theorem ag_ok {x' : SD} {r r2 : Int32} {u2 : SM} (hu : u.1 = x') (h : LI (c + 1) x') (e2 : u2 = (x'.1, x'.2.1, 0)) (hr : u.2 0 = r.toInt64) (er : r2 = r) : AG c 0 u r2 u2 := ⟨x', h, fun _ _ _ => by rw [hu], e2, fun _ => by rw [er]; exact hr⟩
theorem ag_no {r2 : Int32} {u2 : SM} (h : LI c x) (hu : u = (x, fo)) (e2 : u2 = (x.1, x.2.1, v)) (hv : ¬ v = 0) : AG c v u r2 u2 := ⟨x, LI_mono h (by omega), fun _ _ _ => by rw [hu], e2, fun e => absurd e hv⟩
theorem aq_ok {x' : SD} {u2 : SM} (hu : u.1 = x') (h : LI (c + 1) x') (e2 : u2 = (x'.1, x'.2.1, 0)) : AQ c 0 u u2 := ⟨x', h, fun _ _ _ => by rw [hu], e2⟩
theorem aq_no {u2 : SM} (h : LI c x) (hu : u.1 = x) (e2 : u2 = (x.1, x.2.1, v)) : AQ c v u u2 := ⟨x, LI_mono h (by omega), fun _ _ _ => by rw [hu], e2⟩
theorem ag_SP {p0 p1 p2 p3 : Int32} {u2 : SM} (hc : c < 512) (h : LI c x) (h2 : p2 = 0 ∨ p2 = 1) (h1 : lwQ x fo (fun u => u = ((lkS (gSP x.1 p0 p1 p2 p3) x.2.1).1, (lkS (gSP x.1 p0 p1 p2 p3) x.2.1).2, x.2.2.1, x.2.2.2) ∧ okSP p0 p1 p3 = true) (fun v => v = 1 ∧ okSP p0 p1 p3 = false) v u)
    (hm : u2 = if okSP p0 p1 p3 = true then ((lkS (gSP x.1 p0 p1 p2 p3) x.2.1).1, (lkS (gSP x.1 p0 p1 p2 p3) x.2.1).2, 0) else (x.1, x.2.1, 1)) : AQ c v u u2 := by
  obtain ⟨-, ⟨rfl, hu, h0⟩ | ⟨hu, rfl, h0⟩⟩ := h1
  · exact aq_ok hu (LI_mono (LI_lk (by omega) ⟨inv_SP h.1 h0 h2, h.2⟩) (by omega)) (hm.trans (if_pos h0))
  · exact aq_no h hu (by rw [hm, if_neg (by rw [h0]; decide)])
theorem ag_SC {p0 p1 : Int32} {u2 : SM} (h : LI c x) (h1 : lwQ x fo (fun u => u = (upd (upd x.1 5 p0) 6 p1, x.2.1, x.2.2.1, x.2.2.2) ∧ okSC p0 p1 = true) (fun v => v = 1 ∧ okSC p0 p1 = false) v u)
    (hm : u2 = if okSC p0 p1 = true then (upd (upd x.1 5 p0) 6 p1, x.2.1, 0) else (x.1, x.2.1, 1)) : AQ c v u u2 := by
  obtain ⟨-, ⟨rfl, hu, h0⟩ | ⟨hu, rfl, h0⟩⟩ := h1
  · exact aq_ok hu (LI_mono (c := c) ⟨inv_SC h.1, h.2⟩ (by omega)) (hm.trans (if_pos h0))
  · exact aq_no h hu (by rw [hm, if_neg (by rw [h0]; decide)])
theorem ag_AD {p0 r2 : Int32} {u2 : SM} (hc : c < 512) (h : LI c x) (h1 : lwP x fo (fun r u => r = (lkS (upd x.1 0 (x.1 0 + p0)) x.2.1).1 0 ∧ u = ((lkS (upd x.1 0 (x.1 0 + p0)) x.2.1).1, (lkS (upd x.1 0 (x.1 0 + p0)) x.2.1).2, x.2.2.1, x.2.2.2) ∧ thA x.1 p0 = 0) (fun v => ¬ v = 0 ∧ thA x.1 p0 = v) v u)
    (hm : r2 = (if thA x.1 p0 = 0 then (lkS (upd x.1 0 (x.1 0 + p0)) x.2.1).1 0 else 0) ∧ u2 = if thA x.1 p0 = 0 then ((lkS (upd x.1 0 (x.1 0 + p0)) x.2.1).1, (lkS (upd x.1 0 (x.1 0 + p0)) x.2.1).2, 0) else (x.1, x.2.1, thA x.1 p0)) : AG c v u r2 u2 := by
  rcases h1 with ⟨rfl, r, ⟨hr, hu, h0⟩, hr2⟩ | ⟨hu, hv, h0⟩
  · exact ag_ok hu (LI_mono (LI_lk (by omega) ⟨inv_A h.1 (thA_0 h0).1 (thA_0 h0).2, h.2⟩) (by omega)) (hm.2.trans (if_pos h0)) hr2 (by rw [hm.1, if_pos h0, hr])
  · exact ag_no h hu (by rw [hm.2, if_neg (by rw [h0]; exact hv), h0]) hv
theorem ag_CI {p0 p1 r2 : Int32} {u2 : SM} (hc : c < 512) (h : LI c x) (h1 : lwP x fo (fun r u => r = (ciS x.1 x.2.1 p0.toNatClampNeg p1.toNatClampNeg).1 7 ∧ u = ((ciS x.1 x.2.1 p0.toNatClampNeg p1.toNatClampNeg).1, (ciS x.1 x.2.1 p0.toNatClampNeg p1.toNatClampNeg).2, x.2.2.1, x.2.2.2) ∧ thC x.1 x.2.1 p0 p1 = 0) (fun v => ¬ v = 0 ∧ thC x.1 x.2.1 p0 p1 = v) v u)
    (hm : r2 = (if thC x.1 x.2.1 p0 p1 = 0 then (ciS x.1 x.2.1 p0.toNatClampNeg p1.toNatClampNeg).1 7 else 0) ∧ u2 = if thC x.1 x.2.1 p0 p1 = 0 then ((ciS x.1 x.2.1 p0.toNatClampNeg p1.toNatClampNeg).1, (ciS x.1 x.2.1 p0.toNatClampNeg p1.toNatClampNeg).2, 0) else (x.1, x.2.1, thC x.1 x.2.1 p0 p1)) : AG c v u r2 u2 := by
  rcases h1 with ⟨rfl, r, ⟨hr, hu, h0⟩, hr2⟩ | ⟨hu, hv, h0⟩
  · exact ag_ok hu (LI_ci (g := x.1) (f := x.2.1) (cd := x.2.2.1) (tc := x.2.2.2) hc h (thC_0 h0)) (hm.2.trans (if_pos h0)) hr2 (by rw [hm.1, if_pos h0, hr])
  · exact ag_no h hu (by rw [hm.2, if_neg (by rw [h0]; exact hv), h0]) hv
theorem ag_SK {p0 : Int32} {u2 : SM} (h : LI c x) (h1 : lwQ x fo (fun u => u = (x.1, up2 x.2.1 1 (upd (x.2.1 1) p0.toNatClampNeg 3), x.2.2.1, x.2.2.2) ∧ skT x.1 x.2.1 p0 = 0) (fun v => ¬ v = 0 ∧ skT x.1 x.2.1 p0 = v) v u)
    (hm : u2 = if skT x.1 x.2.1 p0 = 0 then (x.1, up2 x.2.1 1 (upd (x.2.1 1) p0.toNatClampNeg 3), 0) else (x.1, x.2.1, skT x.1 x.2.1 p0)) : AQ c v u u2 := by
  obtain ⟨-, ⟨rfl, hu, h0⟩ | ⟨hu, hv, h0⟩⟩ := h1
  · exact aq_ok hu (LI_mono (LI_sk (g := x.1) (f := x.2.1) (cd := x.2.2.1) (tc := x.2.2.2) (i := p0.toNatClampNeg) h) (by omega)) (hm.trans (if_pos h0))
  · exact aq_no h hu (by rw [hm, if_neg (by rw [h0]; exact hv), h0])
theorem ag_AK {row : Nat → Int32} {p0 r2 : Int32} {u2 : SM} (h : LI c x) (h1 : lwP x fo (fun r u => r = askV x.1 row p0 ∧ u = (x.1, x.2.1, x.2.2.1, x.2.2.2) ∧ isF x.1 p0 = true) (fun v => v = 1 ∧ isF x.1 p0 = false) v u)
    (hm : r2 = askV x.1 row p0 ∧ u2 = (x.1, x.2.1, askT x.1 p0)) : AG c v u r2 u2 := by
  rcases h1 with ⟨rfl, r, ⟨hr, hu, h0⟩, hr2⟩ | ⟨hu, rfl, h0⟩
  · exact ag_ok hu (LI_mono h (by omega)) (by rw [hm.2]; unfold askT; rw [if_pos h0]) hr2 (by rw [hm.1, hr])
  · exact ag_no h hu (by rw [hm.2]; unfold askT; rw [if_neg (by rw [h0]; decide)]) (by decide)
theorem ag_LB {p0 r2 : Int32} {u2 : SM} (h : LI c x) (h1 : lwP x fo (fun r u => r = 1000 * volD x.1 p0 + numD x.1 p0 ∧ u = (x.1, x.2.1, x.2.2.1, x.2.2.2) ∧ isI p0 = true) (fun v => v = 1 ∧ isI p0 = false) v u)
    (hm : r2 = (if isI p0 = true then 1000 * volD x.1 p0 + numD x.1 p0 else 0) ∧ u2 = (x.1, x.2.1, if isI p0 = true then 0 else 1)) : AG c v u r2 u2 := by
  rcases h1 with ⟨rfl, r, ⟨hr, hu, h0⟩, hr2⟩ | ⟨hu, rfl, h0⟩
  · exact ag_ok hu (LI_mono h (by omega)) (by rw [hm.2, if_pos h0]) hr2 (by rw [hm.1, if_pos h0, hr])
  · exact ag_no h hu (by rw [hm.2, if_neg (by rw [h0]; decide)]) (by decide)
theorem ag_RA {p0 r2 : Int32} {u2 : SM} (h : LI c x) (h1 : lwP x fo (fun r u => r = rgA x.1 x.2.1 p0 ∧ u = (x.1, x.2.1, x.2.2.1, x.2.2.2) ∧ rgT x.1 x.2.1 p0 = 0) (fun v => v = 1 ∧ rgT x.1 x.2.1 p0 = 1) v u)
    (hm : r2 = rgA x.1 x.2.1 p0 ∧ u2 = (x.1, x.2.1, rgT x.1 x.2.1 p0)) : AG c v u r2 u2 := by
  rcases h1 with ⟨rfl, r, ⟨hr, hu, h0⟩, hr2⟩ | ⟨hu, rfl, h0⟩
  · exact ag_ok hu (LI_mono h (by omega)) (by rw [hm.2, h0]) hr2 (by rw [hm.1, hr])
  · exact ag_no h hu (by rw [hm.2, h0]) (by decide)
theorem ag_GV {p0 p1 r2 : Int32} {u2 : SM} (h : LI c x) (h1 : lwP x fo (fun r u => r = nI (cnt (thB (gvU (x.2.1 4) p0.toNatClampNeg p1.toNatClampNeg)) 200) ∧ u = (x.1, up2 x.2.1 4 (gvU (x.2.1 4) p0.toNatClampNeg p1.toNatClampNeg), x.2.2.1, nI (cnt (thB (gvU (x.2.1 4) p0.toNatClampNeg p1.toNatClampNeg)) 200)) ∧ okG p0 p1 = true) (fun v => v = 1 ∧ okG p0 p1 = false) v u)
    (hm : r2 = (if okG p0 p1 = true then nI (cnt (thB (gvU (x.2.1 4) p0.toNatClampNeg p1.toNatClampNeg)) 200) else 0) ∧ u2 = if okG p0 p1 = true then (x.1, up2 x.2.1 4 (gvU (x.2.1 4) p0.toNatClampNeg p1.toNatClampNeg), 0) else (x.1, x.2.1, 1)) : AG c v u r2 u2 := by
  rcases h1 with ⟨rfl, r, ⟨hr, hu, h0⟩, hr2⟩ | ⟨hu, rfl, h0⟩
  · exact ag_ok hu (LI_mono (LI_gv (g := x.1) (f := x.2.1) (cd := x.2.2.1) (tc := x.2.2.2) (i := p0.toNatClampNeg) (j := p1.toNatClampNeg) h) (by omega)) (hm.2.trans (if_pos h0)) hr2 (by rw [hm.1, if_pos h0, hr])
  · exact ag_no h hu (by rw [hm.2, if_neg (by rw [h0]; decide)]) (by decide)
theorem ag_ON {p0 p1 r2 : Int32} {u2 : SM} (h : LI c x) (h1 : lwP x fo (fun r u => r = scan (onB x.1 x.2.1 p0) p1 0 200 0 ∧ u = (x.1, x.2.1, x.2.2.1, x.2.2.2) ∧ 0 ≤ p1) (fun v => v = 1 ∧ ¬ 0 ≤ p1) v u)
    (hm : r2 = (if 0 ≤ p1 then scan (onB x.1 x.2.1 p0) p1 0 200 0 else 0) ∧ u2 = (x.1, x.2.1, if 0 ≤ p1 then 0 else 1)) : AG c v u r2 u2 := by
  rcases h1 with ⟨rfl, r, ⟨hr, hu, h0⟩, hr2⟩ | ⟨hu, rfl, h0⟩
  · exact ag_ok hu (LI_mono h (by omega)) (by rw [hm.2, if_pos h0]) hr2 (by rw [hm.1, if_pos h0, hr])
  · exact ag_no h hu (by rw [hm.2, if_neg h0]) (by decide)
end Ag
