/-! numbers drawn from the script; a script stands in the heap -/
def lA (n : Nat) : Nat → Prop := fun q => n ≤ q
abbrev scP (b L : Nat) (xs : Nat → Int32) (av : List Value) : Array Value → State → Prop := va_Pc av (fun U => va_X b L xs U U.heap ∧ b < U.heap.size)
theorem fb_x {b L : Nat} {xs : Nat → Int32} {av : List Value} : FrameBlind (scP b L xs av) := fun a U g mk q => ⟨q.1, va_X.moved (u := U) (U := U.calling g mk a) (Vm.Alike.refl U.vm) q.2.1, q.2.2⟩
set_option maxHeartbeats 4000000 in
set_option maxRecDepth 100000 in
theorem kL_draw (l : Launch) (b L : Nat) (xs : Nat → Int32) (hL : L ≤ 260) (k m0 : Nat) (hk : k < 2 ^ 30) (hm : 0 < m0) (hm2 : m0 < 2 ^ 31) : Met l yL_draw wsL_draw { frames := 0, cells := 0, slots := 0, locals := 0 } (scP b L xs [.ref b, .int (nI k), .int (nI m0)]) (vp_Si (fun r => ∃ v, v < m0 ∧ r = nI v)) 0 0 (fun _ => False) := by
  refine Met.ofW (cc := cL_draw) (maxL := 4) (ret := some .int) (show plainName RL = true by decide) rfl ?_
  intro p e s m args below meth c s₁ B hml hv
  obtain ⟨rfl, hX, hbl⟩ := hv
  have hl := lv_entry [.ref b, .int (nI k), .int (nI m0)] (n := 4) (Nat.le_of_ble_eq_true rfl)
  rw [lg_entry_eq]
  generalize (lg_sl [.ref b, .int (nI k), .int (nI m0)] ++ List.replicate (4 - (lg_sl [.ref b, .int (nI k), .int (nI m0)]).length) Slot.unset).toArray = ls at hl ⊢
  have hl : lv_has ls 4 [(0, .ref b), (1, .int (nI k)), (2, .int (nI m0))] := hl
  have hx := B.exec
  have hb := B.bytes
  have hown : s.vm.findClass RL = some m.cls := findClass_of_methodNamed B.named
  have hts := atoms_spec (ws := wsL_draw) B.pre
  have hS : va_S (fun _ => False) s.heap s.heap [] := va_S.rf
  have fin : ∀ z : Int32, W p l e { frames := 0, cells := 0, slots := 0, locals := 0 } s m [Value.ref b, Value.int (nI k), Value.int (nI m0)].toArray below meth c s.heap [] 0 0 (MQ below (vp_Si (fun r => ∃ v, v < m0 ∧ r = nI v)) [Value.ref b, Value.int (nI k), Value.int (nI m0)].toArray s 0 0 (fun _ => False)) (F0 m 23 ls [.int z]) := by
    intro z
    refine lv_istore_n (lv' := [(3, .int z), (0, .ref b), (1, .int (nI k)), (2, .int (nI m0))]) hx hb dL_draw_23 rfl hl (by decide) rfl (fun ls hl => ?_)
    refine lv_iload_n hx hb dL_draw_24 rfl (lv_at hl 0 rfl) ?_
    refine lv_ldc (own := RL) (index := 9) (v := 2147483647) hx hb hown (hts _ (by decide +kernel)) dL_draw_25 ?_
    refine lv_iand hx hb dL_draw_27 ?_
    obtain ⟨j, hj, ej⟩ := pk_andE z (m := 2147483647) 31 (by decide)
    rw [ej]
    refine lv_iload_n hx hb dL_draw_28 rfl (lv_at hl 3 rfl) ?_
    refine lv_irem hx hb dL_draw_29 (nI_ne0 hm hm2) ?_
    refine top_eq (z := nI (j % m0)) (pk_rem hj hm hm2) ?_
    exact W.zret hx hb B.returns (rfl : narrow .int (.int (nI (j % m0))) = .int (nI (j % m0))) (fun t ht _ => ⟨_, rfl, ⟨j % m0, Nat.mod_lt _ hm, rfl⟩, ht⟩) (fun q h => by cases h) dL_draw_30 B.notSynchronized
  refine lv_iload_n hx hb dL_draw_0 rfl (lv_at hl 1 rfl) ?_
  refine lv_aload_n hx hb dL_draw_1 rfl (lv_at hl 0 rfl) ?_
  refine va_slen hx hb hX hbl (fun h => h) hS dL_draw_2 ?_
  refine lv_icmp_ge (tgt := 12) hx hb dL_draw_3 (by decide) (fun c3 => ?_) (fun c3 => ?_)
  · refine lv_ldc (own := RL) (index := 7) (v := 870828501) hx hb hown (hts _ (by decide +kernel)) dL_draw_12 ?_
    refine lv_iload_n hx hb dL_draw_14 rfl (lv_at hl 1 rfl) ?_
    refine lv_sipush (v := 263) hx hb dL_draw_15 (by decide) ?_
    refine lv_iadd hx hb dL_draw_18 ?_
    refine lv_imul hx hb dL_draw_19 ?_
    refine lv_ldc (own := RL) (index := 8) (v := 765850055) hx hb hown (hts _ (by decide +kernel)) dL_draw_20 ?_
    refine lv_iadd hx hb dL_draw_22 ?_
    exact fin _
  · have hkL : k < L := by
      have h9 : ¬ nI L ≤ nI k := c3
      rcases Nat.lt_or_ge k L with q | q
      · exact q
      · exact absurd ((nI_leI (a := L) (b := k) (by omega) (by omega)).mpr q) h9
    refine lv_aload_n hx hb dL_draw_6 rfl (lv_at hl 0 rfl) ?_
    refine lv_iload_n hx hb dL_draw_7 rfl (lv_at hl 1 rfl) ?_
    refine va_sld hx hb hX hbl (fun h => h) hS (vp_in_nI hkL (by omega)) dL_draw_8 ?_
    refine lv_goto (tgt := 23) hx hb dL_draw_9 (by decide) ?_
    exact fin _
/-- a draw, called -/
theorem draw_S {p : Program} {l : Launch} {e : Env} {R : Room} {s : State} {m : MethodId} {args : Array Value} {below : List Frame} {meth : Method} {c : Code} {H : Heap} {locs : List Loc} {cells slots : Nat} {Q : State → Prop} {cc : ByteArray} {nL index pc : Nat} {ls : Array Slot} {rest st0 : List Value} {Ts : List Cond} {b L : Nat} {xs : Nat → Int32} {k m0 : Nat} {A : Nat → Prop}
    (hL : L ≤ 260) (hk : k < 2 ^ 30) (hm : 0 < m0) (hm2 : m0 < 2 ^ 31) (S : CallFix p m c cc nL s args Ts RL) (cw : CallB R s args RL index yL_draw cL_draw 4 (some .int) wsL_draw { frames := 0, cells := 0, slots := 0, locals := 0 } 0 0 3 ∧ (Cond.static yL_draw).before args s = true)
    (hX : va_X b L xs s s.heap) (hbl : b < s.heap.size) (hbA : ¬ A b) (hS : va_S A s.heap H locs) (hls : ls.size = nL) (hst : st0 = [.int (nI m0), .int (nI k), .ref b] ++ rest) (hW : (rest.map fun v => v.category).sum ≤ 8) (hdg : decode cc pc = .ok (.invokestatic index, 3)) (hf : cells ≤ R.cells ∧ slots ≤ R.slots)
    (kk : ∀ v : Nat, v < m0 → W p l e R s m args below meth c H locs cells slots Q (F0 m (pc + 3) ls (.int (nI v) :: rest))) : W p l e R s m args below meth c H locs cells slots Q (F0 m pc ls st0) :=
  vp_callSi (W.runS (As := [.ref b, .int (nI k), .int (nI m0)]) (rest := rest) S (kL_draw l b L xs hL k m0 hk hm hm2) cw ⟨fb_x, fun U hU hW => ⟨rfl, by rw [hU]; exact (hX.kept (hS.2.1 b hbl hbA)).moved hW.alike, by rw [hU]; exact Nat.lt_of_lt_of_le hbl hS.1⟩⟩ rfl rfl hls hst (lv_room hW) hdg hf) (fun r hr => by
    obtain ⟨v, hv, rfl⟩ := hr
    exact kk v hv)
/-! a desk's cells and the law's, from where they are made -/
def a10 (a : Nat → Nat) (q1 q2 q3 : Nat) : Nat → Nat := fun i => if i < 7 then a i else if i = 7 then q1 else if i = 8 then q2 else q3
theorem wL_get {a : Nat → Nat} {cI cZ cL : ClassId} {x : SD} {h1 h2 : Nat → Int32} {h3 : Nat → Int64} : ∀ i, i < 10 → ∃ e, (wfD a cI cZ x ++ [cC (a 7) cI h1, cT (a 8) cI h2, cG (a 9) cL h3])[i]? = some (a i, e)
  | 0, _ => ⟨_, rfl⟩ | 1, _ => ⟨_, rfl⟩ | 2, _ => ⟨_, rfl⟩ | 3, _ => ⟨_, rfl⟩ | 4, _ => ⟨_, rfl⟩ | 5, _ => ⟨_, rfl⟩ | 6, _ => ⟨_, rfl⟩ | 7, _ => ⟨_, rfl⟩ | 8, _ => ⟨_, rfl⟩ | 9, _ => ⟨_, rfl⟩
  | i + 10, h => absurd h (by omega)
theorem wL_ap {A : Nat → Prop} {a : Nat → Nat} {cI cZ cL : ClassId} {x : SD} {h1 h2 : Nat → Int32} {h3 : Nat → Int64} (h : va_D A (wfD a cI cZ x ++ [cC (a 7) cI h1, cT (a 8) cI h2, cG (a 9) cL h3])) : apart a 10 ∧ ∀ i, i < 10 → A (a i) :=
  ⟨fun i j hi hj e => by
    obtain ⟨e1, q1⟩ := wL_get (a := a) (cI := cI) (cZ := cZ) (cL := cL) (x := x) (h1 := h1) (h2 := h2) (h3 := h3) i hi
    obtain ⟨e2, q2⟩ := wL_get (a := a) (cI := cI) (cZ := cZ) (cL := cL) (x := x) (h1 := h1) (h2 := h2) (h3 := h3) j hj
    exact h.1 i j _ _ q1 q2 e, fun i hi => by
    obtain ⟨e1, q1⟩ := wL_get (a := a) (cI := cI) (cZ := cZ) (cL := cL) (x := x) (h1 := h1) (h2 := h2) (h3 := h3) i hi
    exact h.2 i _ q1⟩
theorem DD_10A {A : Nat → Prop} {a : Nat → Nat} (h : apart a 10) (hA : ∀ i, i < 10 → A (a i)) : DD A (adD a ++ [a 7, a 8, a 9]) := by
  refine ⟨(DD_10 h 0).1, fun q hq => ?_⟩
  have e : adD a ++ [a 7, a 8, a 9] = (List.range 10).map a := rfl
  rw [e] at hq
  obtain ⟨i, hi, rfl⟩ := List.mem_map.mp hq
  exact hA i (List.mem_range.mp hi)
theorem cc_0 : upd (upd (upd (upd (upd (upd (fun _ => 0) 1 30) 2 12) 3 1) 5 7) 6 30) 7 (-1) = ccG g0 := by
  refine cc_up (g := g0) (fun k hk => by rw [pk_un (by omega), pk_un (by omega), pk_un (by omega), pk_un (by omega), pk_un (by omega), pk_un (by omega)]) (fun k hk => ?_)
  rcases (show k = 0 ∨ k = 1 ∨ k = 2 ∨ k = 3 ∨ k = 4 ∨ k = 5 ∨ k = 6 ∨ k = 7 ∨ k = 8 ∨ k = 9 by omega) with r | r | r | r | r | r | r | r | r | r <;> subst r <;> rfl
theorem i_mul (k : Nat) : (3 : Int32) * nI k = nI (3 * k) := (Int32.ofNat_mul 3 k).symm
