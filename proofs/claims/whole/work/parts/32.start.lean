theorem va_D_last {A : Nat → Prop} {ws : va_W} {q : Nat} {e : va_E} (h : va_D A (ws ++ [(q, e)])) {k : Nat} {x : Nat × va_E} (hk : ws[k]? = some x) : x.1 ≠ q := fun e1 => by
  have hlt := (List.getElem?_eq_some_iff.mp hk).1
  have h1 : (ws ++ [(q, e)])[k]? = some x := by rw [List.getElem?_append_left hlt]; exact hk
  have h2 : (ws ++ [(q, e)])[ws.length]? = some (q, e) := by simp
  have h3 := h.1 k ws.length x (q, e) h1 h2 e1
  omega
theorem va_P_app {D : va_G} {cl : List vw_C} {w1 w2 : va_W} {H : Heap} (h1 : va_P D cl w1 H) (h2 : va_P D cl w2 H) : va_P D cl (w1 ++ w2) H := by
  intro k q hq
  by_cases h : k < w1.length
  · exact h1 k q (by rw [List.getElem?_append_left h] at hq; exact hq)
  · exact h2 (k - w1.length) q (by rw [List.getElem?_append_right (by omega)] at hq; exact hq)
theorem wDM_D {a b : Nat → Nat} {cI cZ cI' cZ' : ClassId} {g g' : Nat → Int32} {f f' : Nat → Nat → Int32} {cd : Nat → Int32} {tc t : Int32} {n0 : Nat} (h1 : apart a 7) (h2 : apart b 6) (h3 : ∀ i j, i < 7 → j < 6 → a i ≠ b j) (h4 : ∀ i, i < 7 → n0 ≤ a i) (h5 : ∀ j, j < 6 → n0 ≤ b j) : va_D (lA n0) (wD a cI cZ g f cd tc ++ wM b cI' cZ' g' f' t) := by
  have key : ∀ (k : Nat) (p : Nat × va_E), (wD a cI cZ g f cd tc ++ wM b cI' cZ' g' f' t)[k]? = some p → (k < 7 ∧ p.1 = a k) ∨ (7 ≤ k ∧ k - 7 < 6 ∧ p.1 = b (k - 7)) := by
    intro k p hp
    by_cases h : k < 7
    · left
      exact wD_at (a := a) (cI := cI) (cZ := cZ) (g := g) (f := f) (cd := cd) (tc := tc) k p (by rw [List.getElem?_append_left (show k < (wD a cI cZ g f cd tc).length from h)] at hp; exact hp)
    · right
      have h6 := wM_at (a := b) (cI := cI') (cZ := cZ') (g := g') (f := f') (t := t) (k - 7) p (by rw [List.getElem?_append_right (show (wD a cI cZ g f cd tc).length ≤ k from Nat.not_lt.mp h)] at hp; exact hp)
      exact ⟨by omega, h6.1, h6.2⟩
  refine ⟨fun i j p q hp hq e1 => ?_, fun k q hq => ?_⟩
  · rcases key i p hp with ⟨a1, a2⟩ | ⟨a0, a1, a2⟩ <;> rcases key j q hq with ⟨b1, b2⟩ | ⟨b0, b1, b2⟩
    · exact h1 i j a1 b1 (by rw [← a2, ← b2]; exact e1)
    · exact absurd (by rw [← a2, ← b2]; exact e1) (h3 i (j - 7) a1 b1)
    · exact absurd (by rw [← a2, ← b2]; exact e1.symm) (h3 j (i - 7) b1 a1)
    · have h6 := h2 (i - 7) (j - 7) a1 b1 (by rw [← a2, ← b2]; exact e1)
      omega
  · rcases key k q hq with ⟨a1, a2⟩ | ⟨a0, a1, a2⟩
    · show n0 ≤ q.1
      rw [a2]; exact h4 k a1
    · show n0 ≤ q.1
      rw [a2]; exact h5 _ a1
def a8 (a : Nat → Nat) (q : Nat) : Nat → Nat := fun i => if i < 7 then a i else q
theorem a8_lt {a : Nat → Nat} {q i : Nat} (h : i < 7) : a8 a q i = a i := if_pos h
theorem a8_ge {a : Nat → Nat} {q i : Nat} (h : 7 ≤ i) : a8 a q i = q := if_neg (by omega)
set_option maxHeartbeats 4000000 in
set_option maxRecDepth 100000 in
/-- THE LAW, from its entry -/
theorem whole_start {p : Program} {e : Env} {s : State} {m : MethodId} {below : List Frame} {meth : Method} {c : Code} (l : Launch) (hflags : l.flags = flags0) {b L : Nat} {xs : Nat → Int32} (hL : L ≤ 2560) (C0 : lw_At p s m meth c b L xs) : W p l e room_1 s m #[Value.ref b] below meth c s.heap [] 0 0 (lw_Z below #[Value.ref b] s) (entryFrame m ([Value.ref b] : List Value).toArray 7) := by
  obtain ⟨hx, hb, hr, hml, hown0, hts0, hX, hbl, hlocks, hgv⟩ := id C0
  have hst : l.stackTraces = false := by
    unfold Launch.stackTraces
    rw [hflags]; decide +kernel
  have hown : s.vm.findClass RL = some m.cls := hown0
  have hts : ∀ w ∈ wsL_law, w.before #[Value.ref b] s = true := fun w h => hts0 w (wsL_law_in w h)
  have hA : ∀ q : Nat, s.heap.size ≤ q → lA s.heap.size q := fun _ h => h
  obtain ⟨c0, iS0, hKn0⟩ := u_known (C := RX0) (T := TX0) (N := 4) (n := 4) hts0 inX0 (hts0 (.instantiable RX0 4) (by decide +kernel))
  obtain ⟨c1, iS1, hKn1⟩ := u_known (C := RX1) (T := TX1) (N := 15) (n := 15) hts0 inX1 (hts0 (.instantiable RX1 15) (by decide +kernel))
  obtain ⟨c2, iS2, hKn2⟩ := u_known (C := RX2) (T := TX2) (N := 18) (n := 18) hts0 inX2 (hts0 (.instantiable RX2 18) (by decide +kernel))
  obtain ⟨G, hKc⟩ : ∃ G : va_G, ∀ (k : Nat) (q : vw_C), vwCl[k]? = some q → u_Kn s q.1 q.2.1 q.2.2 (G.1 k) (G.2 k) := by
    refine ⟨(fun k => if k = 0 then c0 else if k = 1 then c1 else c2, fun k => if k = 0 then iS0 else if k = 1 then iS1 else iS2), ?_⟩
    intro k q hq
    match k, hq with
    | 0, hq => cases hq; exact hKn0
    | 1, hq => cases hq; exact hKn1
    | 2, hq => cases hq; exact hKn2
    | k + 3, hq => simp [vwCl] at hq
  have hS : va_S (lA s.heap.size) s.heap s.heap [] := va_S.rf
  have hK0 : va_K G vwCl [] s := ⟨hKc, fun k q h => by simp at h⟩
  have hP0 : va_P G vwCl [] s.heap := fun k q h => by simp at h
  have hD0 : va_D (lA s.heap.size) [] := ⟨fun i j p q h => by simp at h, fun k q h => by simp at h⟩
  have hl := lv_entry ([.ref b]) (n := 7) (Nat.le_of_ble_eq_true rfl)
  rw [lg_entry_eq]
  generalize (lg_sl ([.ref b]) ++ List.replicate (7 - (lg_sl ([.ref b])).length) Slot.unset).toArray = ls at hl ⊢
  have hl : lv_has ls 7 [(0, .ref b)] := hl
  refine va_new (D := G) (ci := 1) (fs := [.null, .int 0, .int 0, .int 0, .int 0, .int 0, .null, .null, .null, .null, .int 0, .int 0, .int 0, .null, .int 0]) (C := RX1) (T := TX1) (N := 15) hx hb hts0 inX1 tyX1 tyX1_ok hown (hts0 (.classLink RL 8 RX1) (by decide +kernel)) (hts0 (.instantiable RX1 15) (by decide +kernel)) (hts0 (.initialized RX1) (by decide +kernel)) hK0 hP0 hD0 hS hA rfl (fun j hj => by rcases (show j = 0 ∨ j = 1 ∨ j = 2 ∨ j = 3 ∨ j = 4 ∨ j = 5 ∨ j = 6 ∨ j = 7 ∨ j = 8 ∨ j = 9 ∨ j = 10 ∨ j = 11 ∨ j = 12 ∨ j = 13 ∨ j = 14 by omega) with rfl | rfl | rfl | rfl | rfl | rfl | rfl | rfl | rfl | rfl | rfl | rfl | rfl | rfl | rfl <;> rfl) (Nat.le_of_ble_eq_true rfl) (Nat.le_of_ble_eq_true rfl) dL_law_0 (fun q0 H hP hD hS => ?_)
  have hP : va_P G vwCl [(q0, .inr (1, [.null, .int 0, .int 0, .int 0, .int 0, .int 0, .null, .null, .null, .null, .int 0, .int 0, .int 0, .null, .int 0]))] H := hP
  refine W.widen (k := 1) (n := 15) (by omega) (by omega) ?_
  refine lv_dup hx hb dL_law_3 rfl ?_
  have hF : ∀ q : Nat, a1S q0 H.size q → lA s.heap.size q := fun q h => h.elim (fun ⟨_, _, e1⟩ => by rw [e1]; exact hD.2 0 _ rfl) (fun h => Nat.le_trans hS.1 h)
  refine va_callv (va_runI (As := []) (rest := [.ref q0]) ⟨hx, hb, hml, hown, hts⟩ (kX1_init l G q0 H.size) (cwI 0 hts gL_law_X1_init rfl rfl rfl (hts0 (.initialized RX1) (by decide +kernel)) (hts0 (.methodLink RL 57 yX1_init) (by decide +kernel)) (hts0 (.instanceMethod yX1_init) (by decide +kernel)) rfl (by decide +kernel) ⟨Nat.le_of_ble_eq_true rfl, Nat.le_of_ble_eq_true rfl⟩) ⟨fun a U g mk q => ⟨q.1, q.2.1, q.2.2.1, va_K.moved (u := U) (U := U.calling g mk a) (Vm.Alike.refl U.vm) q.2.2.2⟩, fun U hU hW => ⟨rfl, by rw [hU], by rw [hU]; exact hP, va_K.moved hW.alike hK0⟩⟩ rfl rfl hl.1 rfl (lv_room (Nat.le_of_ble_eq_true rfl)) dL_law_4 ⟨Nat.le_of_ble_eq_true rfl, Nat.le_of_ble_eq_true rfl⟩) hS (fun q _ h => hF q h) hF (fun u t H1 locs ht hvm hw hB hz1 hk1 hS => ?_)
  obtain ⟨a7, cI, cZ⟩ := u
  obtain ⟨ha0, hap, hin⟩ := hw
  have hPD : va_P G vwCl (wD a7 cI cZ g0 f0 (fun _ => 0) 0) H1 := by rw [← ht]; exact hB.1
  have hKD : va_K G vwCl (tyIZ cI cZ) s := va_K.moved hvm.symm hB.2
  have hap : apart a7 7 := hap
  have hge : ∀ i, i < 7 → s.heap.size ≤ a7 i := fun i hi => hF _ (hin i hi)
  have ha0 : a7 0 = q0 := ha0
  refine W.widen (k := 7) (n := 1019) (by omega) (by omega) ?_
  refine lv_astore_n (lv' := [(1, .ref q0), (0, .ref b)]) hx hb dL_law_7 rfl hl (by decide) rfl (fun ls hl => ?_)
  have hDD : va_D (lA s.heap.size) (wD a7 cI cZ g0 f0 (fun _ => 0) 0) := ⟨(wD_D hap 0).1, fun k q hq => by
    show s.heap.size ≤ q.1
    rw [(wD_at k q hq).2]; exact hge k (wD_at k q hq).1⟩
  clear hP hD hF hin hB hz1 hk1
  refine va_new (D := G) (ci := 2) (fs := [.int 0, .int 0, .int 0, .int 0, .int 0, .int 0, .int 0, .int 0, .null, .null, .null, .null, .null, .int 0, .int 0, .int 0, .int 0, .int 0]) (C := RX2) (T := TX2) (N := 18) hx hb hts0 inX2 tyX2 tyX2_ok hown (hts0 (.classLink RL 58 RX2) (by decide +kernel)) (hts0 (.instantiable RX2 18) (by decide +kernel)) (hts0 (.initialized RX2) (by decide +kernel)) hKD hPD hDD hS hA rfl (fun j hj => by rcases (show j = 0 ∨ j = 1 ∨ j = 2 ∨ j = 3 ∨ j = 4 ∨ j = 5 ∨ j = 6 ∨ j = 7 ∨ j = 8 ∨ j = 9 ∨ j = 10 ∨ j = 11 ∨ j = 12 ∨ j = 13 ∨ j = 14 ∨ j = 15 ∨ j = 16 ∨ j = 17 by omega) with rfl | rfl | rfl | rfl | rfl | rfl | rfl | rfl | rfl | rfl | rfl | rfl | rfl | rfl | rfl | rfl | rfl | rfl <;> rfl) (Nat.le_of_ble_eq_true rfl) (Nat.le_of_ble_eq_true rfl) dL_law_8 (fun q1 H2 hP2 hD2 hS => ?_)
  have hPD : va_P G vwCl (wD a7 cI cZ g0 f0 (fun _ => 0) 0) H2 := hP2.sub [0, 1, 2, 3, 4, 5, 6] rfl
  have hPq : va_P G vwCl [(q1, .inr (2, [.int 0, .int 0, .int 0, .int 0, .int 0, .int 0, .int 0, .int 0, .null, .null, .null, .null, .null, .int 0, .int 0, .int 0, .int 0, .int 0]))] H2 := hP2.sub [7] rfl
  have hq1 : ∀ i, i < 7 → a7 i ≠ q1 := fun i hi => by
    obtain ⟨e1, h1⟩ := wD_get (a := a7) (cI := cI) (cZ := cZ) (g := g0) (f := f0) (cd := fun _ => 0) (tc := 0) i hi
    exact va_D_last hD2 h1
  have hlt : ∀ i, i < 7 → a7 i < H2.size := fun i hi => by
    obtain ⟨e1, h1⟩ := wD_get (a := a7) (cI := cI) (cZ := cZ) (g := g0) (f := f0) (cd := fun _ => 0) (tc := 0) i hi
    exact (hPD i _ h1).lt
  have hge1 : s.heap.size ≤ q1 := hD2.2 7 (q1, _) rfl
  refine W.widen (k := 8) (n := 1037) (by omega) (by omega) ?_
  refine lv_dup hx hb dL_law_11 rfl ?_
  have hF : ∀ q : Nat, a1S q1 H2.size q → lA s.heap.size q := fun q h => h.elim (fun ⟨_, _, e1⟩ => by rw [e1]; exact hge1) (fun h => Nat.le_trans hS.1 h)
  refine va_callv (va_runI (As := []) (rest := [.ref q1]) ⟨hx, hb, hml, hown, hts⟩ (kX2_init l G q1 H2.size) (cwI 0 hts gL_law_X2_init rfl rfl rfl (hts0 (.initialized RX2) (by decide +kernel)) (hts0 (.methodLink RL 60 yX2_init) (by decide +kernel)) (hts0 (.instanceMethod yX2_init) (by decide +kernel)) rfl (by decide +kernel) ⟨Nat.le_of_ble_eq_true rfl, Nat.le_of_ble_eq_true rfl⟩) ⟨fun a U g mk q => ⟨q.1, q.2.1, q.2.2.1, va_K.moved (u := U) (U := U.calling g mk a) (Vm.Alike.refl U.vm) q.2.2.2⟩, fun U hU hW => ⟨rfl, by rw [hU], by rw [hU]; exact hPq, va_K.moved hW.alike hK0⟩⟩ rfl rfl hl.1 rfl (lv_room (Nat.le_of_ble_eq_true rfl)) dL_law_12 ⟨Nat.le_of_ble_eq_true rfl, Nat.le_of_ble_eq_true rfl⟩) hS (fun q _ h => hF q h) hF (fun u t2 H3 locs3 ht3 hvm3 hw hB hz1 hk1 hS => ?_)
  obtain ⟨b6, cI', cZ'⟩ := u
  obtain ⟨hb0, hbp, hin2⟩ := hw
  have hbp : apart b6 6 := hbp
  have hb0 : b6 0 = q1 := hb0
  have hKM : va_K G vwCl (tyIZ cI' cZ') s := va_K.moved hvm3.symm hB.2
  have hKa := hKD.app hKM
  obtain rfl : cI' = cI := ty_int hKa 2 0 rfl rfl
  obtain rfl : cZ' = cZ := ty_bool hKa 3 1 rfl rfl
  have hPM : va_P G vwCl (wM b6 cI' cZ' g0 f0 0) H3 := by rw [← ht3]; exact hB.1
  have hPD : va_P G vwCl (wD a7 cI' cZ' g0 f0 (fun _ => 0) 0) H3 := hPD.kept (fun k q hq => by
    have h1 := wD_at k q hq
    refine hk1 _ (by rw [h1.2]; exact hlt k h1.1) (fun h => ?_)
    rcases h with ⟨_, _, e1⟩ | h
    · exact hq1 k h1.1 (h1.2.symm.trans e1)
    · have h2 := hlt k h1.1
      rw [h1.2] at h; omega)
  have hgb : ∀ j, j < 6 → s.heap.size ≤ b6 j := fun j hj => hF _ (hin2 j hj)
  have hab : ∀ i j, i < 7 → j < 6 → a7 i ≠ b6 j := fun i j hi hj e1 => by
    rcases hin2 j hj with ⟨_, _, e2⟩ | h2
    · exact hq1 i hi (e1.trans e2)
    · have h2 : H2.size ≤ b6 j := h2
      have h3 := hlt i hi
      omega
  refine W.widen (k := 13) (n := 2037) (by omega) (by omega) ?_
  refine lv_astore_n (lv' := [(2, .ref q1), (1, .ref q0), (0, .ref b)]) hx hb dL_law_15 rfl hl (by decide) rfl (fun ls hl => ?_)
  refine lv_iconst (v := 1) hx hb dL_law_16 (by decide) ?_
  refine va_newa (D := G) (atype := .long) (ty := .long) (a0 := (1, .inr (.inl (fun _ => 0)))) (N' := 1) hx hb (hts0 (.arrayClass .long) (by decide +kernel)) rfl hKD (va_P_app hPD hPM) (wDM_D hap hbp hab hge hgb) hS hA (fun _ => rfl) (by decide) (by decide) (by decide) (Nat.le_of_ble_eq_true rfl) (Nat.le_of_ble_eq_true rfl) dL_law_17 (fun q2 cL H4 hK hP hD hS => ?_)
  have hK : va_K G vwCl (tyL cI' cZ' cL) s := hK
  have hPD : va_P G vwCl (wfD (a8 a7 q2) cI' cZ' (g0, f0, (fun _ => 0), 0)) H4 := hP.sub [0, 1, 2, 3, 4, 5, 6] rfl
  have hPM : va_P G vwCl (wM b6 cI' cZ' g0 f0 0) H4 := hP.sub [7, 8, 9, 10, 11, 12] rfl
  have hPO : va_P G vwCl (wO (a8 a7 q2) cL (fun _ => 0)) H4 := hP.sub [13] rfl
  have hqa : ∀ i, i < 7 → a7 i ≠ q2 := fun i hi => by
    obtain ⟨e1, h1⟩ := wD_get (a := a7) (cI := cI') (cZ := cZ') (g := g0) (f := f0) (cd := fun _ => 0) (tc := 0) i hi
    exact va_D_last hD (k := i) (x := (a7 i, e1)) (by rw [List.getElem?_append_left (show i < (wD a7 cI' cZ' g0 f0 (fun _ => 0) 0).length from hi)]; exact h1)
  have hqb : ∀ j, j < 6 → b6 j ≠ q2 := fun j hj => by
    obtain ⟨e1, h1⟩ := wM_get (a := b6) (cI := cI') (cZ := cZ') (g := g0) (f := f0) (t := 0) j hj
    refine va_D_last hD (k := 7 + j) (x := (b6 j, e1)) ?_
    rw [List.getElem?_append_right (show (wD a7 cI' cZ' g0 f0 (fun _ => 0) 0).length ≤ 7 + j from Nat.le_add_right 7 j)]
    rw [show 7 + j - (wD a7 cI' cZ' g0 f0 (fun _ => 0) 0).length = j from Nat.add_sub_cancel_left 7 j]
    exact h1
  have hge2 : s.heap.size ≤ q2 := hD.2 13 (q2, _) rfl
  have hLA : LA (a8 a7 q2) b6 s.heap.size := by
    refine ⟨fun i j hi hj e1 => ?_, hbp, fun i j hi hj e1 => ?_, fun i hi => ?_, hgb⟩
    · rcases Nat.lt_or_ge i 7 with h1 | h1 <;> rcases Nat.lt_or_ge j 7 with h2 | h2
      · rw [a8_lt h1, a8_lt h2] at e1; exact hap i j h1 h2 e1
      · rw [a8_lt h1, a8_ge h2] at e1; exact absurd e1 (hqa i h1)
      · rw [a8_ge h1, a8_lt h2] at e1; exact absurd e1.symm (hqa j h2)
      · omega
    · rcases Nat.lt_or_ge i 7 with h1 | h1
      · rw [a8_lt h1] at e1; exact hab i j h1 hj e1
      · rw [a8_ge h1] at e1; exact hqb j hj e1.symm
    · rcases Nat.lt_or_ge i 7 with h1 | h1
      · rw [a8_lt h1]; exact hge i h1
      · rw [a8_ge h1]; exact hge2
  refine W.widen (k := 14) (n := 2038) (by omega) (by omega) ?_
  refine lv_astore_n (lv' := [(3, .ref q2), (2, .ref q1), (1, .ref q0), (0, .ref b)]) hx hb dL_law_19 rfl hl (by decide) rfl (fun ls hl => ?_)
  refine lv_iconst (v := 0) hx hb dL_law_20 (by decide) ?_
  refine lv_istore (lv' := [(4, .int 0), (3, .ref q2), (2, .ref q1), (1, .ref q0), (0, .ref b)]) hx hb dL_law_21 hl (by decide) rfl (fun ls hl => ?_)
  subst ha0
  subst hb0
  exact law_loop hst hL C0 hLA hK 513 0 (by omega) (by omega) (g0, f0, (fun _ => 0), 0) (fun _ => 0) 0 H4 _ ls LI_0 hPD hPO hPM hS (lv_sub hl [4, 3, 2, 1, 0] rfl)
set_option maxHeartbeats 4000000 in
theorem lw_walk (l : Launch) (hflags : l.flags = flags0) (b : Addr) (xs : List Int32) : MetFree l x (headSpec (Jvm.Cond.code x code maxLocals ret :: tables_1) room_1) (lw_P b xs) (fun _ _ _ _ _ => True) lw_Q := by
  refine MetFree.of_bodyS (code := code) (maxLocals := maxLocals) (ret := ret) (by decide) ?_ ?_
  · intro args s m h hn
    obtain ⟨meth, c, h1, h2, h3, h4, h5, h6, -, -⟩ := Cond.code_spec hn (atoms_spec (ws := Jvm.Cond.code x code maxLocals ret :: tables_1) h _ List.mem_cons_self)
    exact ⟨meth, c, h1, h2, h3, h4, h5, h6⟩
  · intro p e s m args below meth c s₁ B hml0 hP _
    obtain ⟨rfl, hx, hbd, hgv⟩ := hP
    obtain ⟨scr, harrAt, hlist, hof, hsmall⟩ := hx
    obtain ⟨hcb, hkn, -, -⟩ := State.arrayAt?_spec harrAt
    have hown : s.vm.findClass R_law = some m.cls := findClass_of_methodNamed B.named
    have hts0 : ∀ c ∈ (Jvm.Cond.code x code maxLocals ret :: tables_1), c.before #[Value.ref b] s = true := atoms_spec (ws := Jvm.Cond.code x code maxLocals ret :: tables_1) B.pre
    have hts : ∀ w ∈ lw_tbl, w.before #[Value.ref b] s = true := k2_hts_sels lw_privs (fun w hw => hts0 w (List.mem_cons_of_mem _ hw)) lw_privs_ok
    have hml : c.maxLocals = 7 := B.maxLocals_eq (hts0 _ List.mem_cons_self)
    have X₀ : Stand p l e room_1 s m #[Value.ref b] below meth c s₁ [] 0 0 := Stand.of_body B
    have hh0 : s₁.heap = s.heap := by rw [B.state]; rfl
    have hsz : scr.slots.size = xs.length := by rw [← Array.length_toList, hlist, List.length_map]
    have hval : ∀ j : Nat, j < xs.length → scr.slots[j]? = some (.int (xs.getD j 0)) := fun j hj => by
      rw [← Array.getElem?_toList, hlist]
      simp [hj]
    have hbl : b < s.heap.size := (Array.getElem?_eq_some_iff.mp hcb).1
    have hX : va_X b xs.length (fun j => xs.getD j 0) s s.heap := ⟨scr, hcb, hof, hkn, hsz, hval⟩
    have K : W p l e room_1 s m #[Value.ref b] below meth c s₁.heap [] 0 0 (lw_Z below #[Value.ref b] s) (entryFrame m ([Value.ref b] : List Value).toArray 7) := by
      rw [hh0]
      exact whole_start l hflags hbd ⟨B.exec, B.bytes, B.returns, hml, hown, hts, hX, hbl, B.notSynchronized, hgv⟩
    obtain ⟨t, a1, o, b1, b2, b3⟩ := K s₁ rfl X₀
    exact ⟨t, o, a1, b1, b2, b3⟩
theorem lw_pre_spec {args : Array Value} {s : State} (h : (Jvm.Cond.and given_1 narrow_1).before args s = true) (hr : rest_1_c.before args s = true) : ∃ (b : Addr) (xs : List Int32), lw_P b xs args s := by
  have hs := flat_of_before _ h
  have hq := flat_of_before _ hr
  have hc : (Cond.count 1).before args s = true := hs _ (by decide +kernel)
  have harr : (Cond.arrayOf (.arg 0) .int).before args s = true := hs _ (by decide +kernel)
  have hle : (Cond.le (.length (.arg 0)) (.int 2560)).before args s = true := hs _ (by decide +kernel)
  have hlen : (Cond.isInt (.length (.arg 0))).before args s = true := hq _ (by decide +kernel)
  have hall : (Cond.all (.arg 0) (.isInt (.elem (.arg 0) (.index 0)))).before args s = true := hq _ (by decide +kernel)
  obtain ⟨b, xs, hb, hx⟩ := State.ints_of_pre rfl harr hlen hall
  have hsm : xs.length < 2 ^ 31 := hx.choose_spec.2.2.2
  have hev : (Term.length (.arg 0)).eval args s none [] s = some (.int xs.length.toInt32) := hx.length_eval hb
  have hv := Cond.le_ints hev (show (Term.int 2560).eval args s none [] s = some (.int 2560) from rfl)
  have hd : xs.length.toInt32 ≤ 2560 := by
    simpa [Cond.before, Cond.holds, hv] using hle
  have hN : xs.length ≤ 2560 := (Int32.ofNat_le_ofNat hsm (by decide)).mp (show Int32.ofNat xs.length ≤ Int32.ofNat 2560 from hd)
  exact ⟨b, xs, Cond.one_arg hc (show args[0]? = some (.ref b) from hb), hx, hN, h⟩
theorem lw_comes (l : Launch) (hflags : l.flags = flags0) : Comes l x (Jvm.Cond.code x code maxLocals ret :: tables_1) room_1 (fun tb e args s => Calls_1 tb e args s ∧ rest_1 tb e args s ∧ Pre_1 tb e args s)
    (fun _ _ args s o t => lw_Q args s o t) := by
  intro p e ha hc hk s m args below hf hfit hheap happ hpre
  obtain ⟨b, xs, hP⟩ := lw_pre_spec hpre.2.2 hpre.2.1
  obtain ⟨k, o, h1, h2, h3, hQ⟩ := lw_walk l hflags b xs p e ha hc hk s m args below hf ((Spec.applies_iff_loose hf).mp happ).1 hP trivial
  exact ⟨k, o, h1, h2, h3, hQ⟩
theorem lw_frame {s t : State} {o : Outcome} {args : Array Value} (h : Framed s o t [] 1058 10350) :
    Framed s o t (fieldLocs frame_1_writes args s ++ arrayLocs frame_1_arrays args s ++ staticLocs frame_1_statics s) 1058 10350 := h
theorem lw_limb (L : Cond) (hL : ∀ (args : Array Value) (s t : State), L.after args s (.returned (some (.int 1))) t = true) :
    ArmFor flags0 classFile x code maxLocals ret World_1 tables_1 room_1 Calls_1 rest_1 Pre_1
      (fun tb e a s o t => postC L tb e a s o t ∧ Framed s o t (fieldLocs frame_1_writes a s ++ arrayLocs frame_1_arrays a s ++ staticLocs frame_1_statics s) 1058 10350) := by
  intro l hflags _ _ p e ha hc hk s m args below hf hfit hheap happ hpre
  obtain ⟨k, o, h1, h2, h3, rfl, hF⟩ := lw_comes l hflags p e ha hc hk s m args below hf hfit hheap happ hpre
  exact ⟨k, _, h1, h2, h3, hL args s _, lw_frame hF⟩
theorem i_vc : Claimed_1_1 ∧ Claimed_1_2 := ⟨lw_limb limb_1_1 (fun args s t => by simp [limb_1_1, Cond.after, Cond.holds, Cond.value]), lw_limb limb_1_2 (fun args s t => Cond.after_iff.mpr (by
  first | (rw [show limb_1_2 = Cond.eq .result (.int 1) from rfl, Cond.eq_ints (x := 1) (y := 1) rfl rfl]; simp; done) | (simp [limb_1_2, Cond.value, Term.eval]; done)))⟩
