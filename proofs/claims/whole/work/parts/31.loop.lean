/-! THE CLAIM OUT OF ONE WALK OF THE LAW'S BODY. Your part is whole_start (and what it stands on); all else here is the same for every law, but numbers. -/
def R_law : String := "IssueDeskLaw"
def lw_P (b : Addr) (xs : List Int32) (args : Array Value) (s : State) : Prop := args = #[.ref b] ∧ s.IntsAt b xs ∧ xs.length ≤ 2560 ∧ (Jvm.Cond.and given_1 narrow_1).before args s = true
def lw_Q (_ : Array Value) (s : State) (o : Outcome) (t : State) : Prop := o = .returned (some (.int 1)) ∧ Framed s o t [] 1058 10350
def lw_Z (below : List Frame) (a : Array Value) (s : State) : State → Prop := fun t => ∃ o, t.status = .running ∧ Ended t below o ∧ lw_Q a s o t
/-- the law's own end, with 1 on the stack, nothing written that was there before, its room as the claim has it -/
theorem lw_ret {p : Program} {l : Launch} {e : Env} {s : State} {m : MethodId} {below : List Frame} {meth : Method} {c : Code} {b : Nat} (hx : p.tables.exec = Jvm.exec) (hb : c.code = code) (hr : meth.sig.returnType = ret) (hlocks : meth.locks = false) {pc : Nat} {H : Heap} {ls : Array Slot} (hdg : decode code pc = .ok (.ireturn, 1)) : W p l e room_1 s m #[Value.ref b] below meth c H [] 1058 10350 (lw_Z below #[Value.ref b] s) (F0 m pc ls [.int 1]) := by
  intro T hT X
  obtain ⟨fs, hret, hrun, hended, hW, hframe⟩ := X.leave (v := some (.int 1)) (hlocks := hlocks) (fun h => by rw [hr] at h; cases h)
  have hmeth' : T.vm.method? m = some meth := X.method'
  refine ⟨T.setFrames fs, ?_, .returned (some (.int 1)), hrun, hended, rfl, ⟨_, rfl⟩, hW, hframe⟩
  jvm_step X.here [X.here.top, hx, hb, hdg, hmeth', hr, ret, narrow_b1]
  (try refine ⟨rfl, ?_⟩); (try refine ⟨rfl, ?_⟩)
  first | (intro acts; rw [hret _ acts rfl rfl rfl]) | rw [hret _ _ rfl rfl rfl]
  exact Steps.refl _
/-- what holds at the law's entry: the machine, the code, the tables' words (any of lw_tbl by 'hts w (by decide +kernel)'), the script of L ints xs at the cell b, what the Statement gives of the start (any of its parts by flat_of_before) -/
def lw_At (p : Program) (s : State) (m : MethodId) (meth : Method) (c : Code) (b L : Nat) (xs : Nat → Int32) : Prop :=
  p.tables.exec = Jvm.exec ∧ c.code = code ∧ meth.sig.returnType = ret ∧ c.maxLocals = 7 ∧ s.vm.findClass R_law = some m.cls ∧ (∀ w ∈ lw_tbl, w.before #[Value.ref b] s = true) ∧ va_X b L xs s s.heap ∧ b < s.heap.size ∧ meth.locks = false ∧ (Jvm.Cond.and given_1 narrow_1).before #[Value.ref b] s = true
theorem nrS_in : ∀ q ∈ strL, Cond.exactly (.string RX1 q.1) "java/lang/String" ∈ flatC (Jvm.Cond.and given_1 narrow_1) := by decide +kernel
theorem nrC_in : ∀ X ∈ exL, ∀ Y ∈ exL, X ≠ Y → Cond.not (.castable X Y) ∈ flatC (Jvm.Cond.and given_1 narrow_1) := by decide +kernel
theorem nrR_in : Cond.isRef (.static Bundle.tN "UNASSIGNED_STACK" Bundle.steD) ∈ flatC (Jvm.Cond.and given_1 narrow_1) ∧ Cond.isRef (.static Bundle.tN "SUPPRESSED_SENTINEL" Bundle.listD) ∈ flatC (Jvm.Cond.and given_1 narrow_1) := by decide +kernel
theorem tbS_in : ∀ q ∈ strL, Cond.stringRef RX1 q.1 q.2 ∈ lw_tbl := by decide +kernel
theorem tbC_in : ∀ X ∈ exL, Cond.castable X X ∈ lw_tbl := by decide +kernel
theorem tbD_in : ∀ x ∈ dcL, Cond.declares x ∈ lw_tbl := by decide +kernel
theorem tbR_in : Cond.laysStatic Bundle.tN "UNASSIGNED_STACK" Bundle.steD ∈ lw_tbl ∧ Cond.laysStatic Bundle.tN "SUPPRESSED_SENTINEL" Bundle.listD ∈ lw_tbl ∧ Cond.initialized Bundle.tN ∈ lw_tbl := by decide +kernel
theorem thr_at {args : Array Value} {s : State} (hts : ∀ w ∈ lw_tbl, w.before args s = true) (hgv : (Jvm.Cond.and given_1 narrow_1).before args s = true) : thr (lA s.heap.size) s := by
  have hs := flat_of_before _ hgv
  have hA : ∀ a : Nat, a < s.heap.size → ¬ lA s.heap.size a := fun a h => Nat.not_le.mpr h
  refine ⟨vx_Zqof (hts _ tbR_in.1) (hts _ tbR_in.2.2) (hs _ nrR_in.1) hA, vx_Zqof (hts _ tbR_in.2.1) (hts _ tbR_in.2.2) (hs _ nrR_in.2) hA, fun q hq => ?_, fun X hX => va_Nw.of rfl (hts _ (tbC_in X hX)), fun X hX Y hY hne => va_Nc.of (hs _ (nrC_in X hX Y hY hne)), fun x hx => va_Nw.of rfl (hts _ (tbD_in x hx))⟩
  obtain ⟨a, c, cell, k, he, -⟩ := Cond.exactly_spec (hs _ (nrS_in q hq))
  exact ⟨a, vk_R.of (hts _ (tbS_in q hq)) he⟩
theorem L_5 {L : Nat} (h : L ≤ 2560) : (nI L - 5).toInt = (L : Int) - 5 := by
  have e9 : (5 : Int32).toInt = 5 := rfl
  have e := nI_toInt (n := L) (by omega)
  rw [i_sub (by omega) (by omega)]; omega
set_option maxHeartbeats 4000000 in
set_option maxRecDepth 100000 in
/-- THE LOOP: both sides stand as the invariant says; each turn takes five ints -/
theorem law_loop {p : Program} {e : Env} {s : State} {m : MethodId} {below : List Frame} {meth : Method} {c : Code} {l : Launch} (hst : l.stackTraces = false) {G : va_G} {a b : Nat → Nat} {cI cZ cL : ClassId} {bS L : Nat} {xs : Nat → Int32} (hL : L ≤ 2560) (C0 : lw_At p s m meth c bS L xs) (hA : LA a b s.heap.size) (hK : va_K G vwCl (tyL cI cZ cL) s) :
    ∀ (n ct : Nat), L ≤ 5 * (ct + n) + 4 → ct ≤ 512 → ∀ (x : SD) (fo : Nat → Int64) (t : Int32) (H : Heap) (locs : List Loc) (ls : Array Slot), LI ct x → va_P G vwCl (wfD a cI cZ x) H → va_P G vwCl (wO a cL fo) H → va_P G vwCl (wM b cI cZ x.1 x.2.1 t) H → va_S (lA s.heap.size) s.heap H locs → lv_has ls 7 [(0, .ref bS), (1, .ref (a 0)), (2, .ref (b 0)), (3, .ref (a 7)), (4, .int (nI (5 * ct)))] →
      W p l e room_1 s m #[Value.ref bS] below meth c H locs (14 + ct) (2038 + 6 * ct) (lw_Z below #[Value.ref bS] s) (F0 m 23 ls []) := by
  obtain ⟨hx, hb, hr, hml, hown, hts, hX, hbl, hlocks, hgv⟩ := C0
  have ht := thr_at hts hgv
  have hbA : ¬ lA s.heap.size bS := Nat.not_le.mpr hbl
  have e5 := L_5 hL
  intro n
  induction n with
  | zero =>
    intro ct h1 h2 x fo t H locs ls hI hPD hPO hPM hS hl
    refine lv_iload hx hb dL_law_23 (lv_at hl 4 rfl) ?_
    refine lv_aload_n hx hb dL_law_25 rfl (lv_at hl 0 rfl) ?_
    refine va_slen hx hb hX hbl hbA hS dL_law_26 ?_
    refine lv_iconst (v := 5) hx hb dL_law_27 (by decide) ?_
    refine lv_isub hx hb dL_law_28 ?_
    refine lv_icmp_gt (tgt := 1006) hx hb dL_law_29 (by decide) (fun _ => ?_) (fun hn => ?_)
    · refine lv_iconst (v := 1) hx hb dL_law_1006 (by decide) ?_
      refine va_forget (fun q hq => hS.2.2 q hq) ?_
      refine W.widen (k := 1058) (n := 10350) (by omega) (by omega) ?_
      exact lw_ret hx hb hr hlocks dL_law_1007
    · have e6 : (nI (5 * ct)).toInt = (5 * ct : Nat) := nI_toInt (by omega)
      exact absurd (show nI L - 5 < nI (5 * ct) by rw [Int32.lt_iff_toInt_lt, e5, e6]; omega) hn
  | succ n ih =>
    intro ct h1 h2 x fo t H locs ls hI hPD hPO hPM hS hl
    refine lv_iload hx hb dL_law_23 (lv_at hl 4 rfl) ?_
    refine lv_aload_n hx hb dL_law_25 rfl (lv_at hl 0 rfl) ?_
    refine va_slen hx hb hX hbl hbA hS dL_law_26 ?_
    refine lv_iconst (v := 5) hx hb dL_law_27 (by decide) ?_
    refine lv_isub hx hb dL_law_28 ?_
    refine lv_icmp_gt (tgt := 1006) hx hb dL_law_29 (by decide) (fun _ => ?_) (fun hn => ?_)
    · refine lv_iconst (v := 1) hx hb dL_law_1006 (by decide) ?_
      refine va_forget (fun q hq => hS.2.2 q hq) ?_
      refine W.widen (k := 1058) (n := 10350) (by omega) (by omega) ?_
      exact lw_ret hx hb hr hlocks dL_law_1007
    · have e6 : (nI (5 * ct)).toInt = (5 * ct : Nat) := nI_toInt (by omega)
      have hn : ¬ nI L - 5 < nI (5 * ct) := hn
      rw [Int32.lt_iff_toInt_lt, e5, e6] at hn
      have h5 : 5 * ct + 5 ≤ L := by omega
      have hv0 : vp_in (nI (5 * ct)) L := vp_in_nI (by omega) (by omega)
      have hv1 : vp_in (nI (5 * ct) + 1) L := by
        rw [show nI (5 * ct) + 1 = nI (5 * ct + 1) from nI_add _ 1]; exact vp_in_nI (by omega) (by omega)
      have hv2 : vp_in (nI (5 * ct) + 2) L := by
        rw [show nI (5 * ct) + 2 = nI (5 * ct + 2) from nI_add _ 2]; exact vp_in_nI (by omega) (by omega)
      have hv3 : vp_in (nI (5 * ct) + 3) L := by
        rw [show nI (5 * ct) + 3 = nI (5 * ct + 3) from nI_add _ 3]; exact vp_in_nI (by omega) (by omega)
      have hv4 : vp_in (nI (5 * ct) + 4) L := by
        rw [show nI (5 * ct) + 4 = nI (5 * ct + 4) from nI_add _ 4]; exact vp_in_nI (by omega) (by omega)
      have C : LX p l s m #[Value.ref bS] c G a b cI cZ cL bS L xs (nI (5 * ct)) := ⟨hx, hb, hml, hown, fun w h => hts w (wsL_law_in w h), hX, hbl, hst, hA, hK, ht, hv0, hv1, hv2, hv3, hv4⟩
      have K : LK p l e room_1 s m #[Value.ref bS] below meth c (lw_Z below #[Value.ref bS] s) G a b cI cZ cL bS (nI (5 * ct)) ct (14 + ct) (2038 + 6 * ct) := by
        intro x fo t H locs ls hI hPD hPO hPM hS hl
        refine lv_iinc (v := nI (5 * (ct + 1))) (lv' := [(4, .int (nI (5 * (ct + 1)))), (0, .ref bS), (1, .ref (a 0)), (2, .ref (b 0)), (3, .ref (a 7))]) hx hb dL_law_1000 hl (k := 4) rfl (by
          rw [show Int32.ofInt 5 = nI 5 by decide +kernel, nI_add, show 5 * ct + 5 = 5 * (ct + 1) by omega]) (by decide) rfl (fun ls hl => ?_)
        refine lv_goto (tgt := 23) hx hb dL_law_1003 (by decide) ?_
        refine W.widen (k := 14 + (ct + 1)) (n := 2038 + 6 * (ct + 1)) (by omega) (by omega) ?_
        exact ih (ct + 1) (by omega) (by omega) x fo t H locs ls hI hPD hPO hPM hS (lv_sub hl [1, 2, 3, 4, 0] rfl)
      refine lv_aload_n hx hb dL_law_32 rfl (lv_at hl 0 rfl) ?_
      refine lv_iload hx hb dL_law_33 (lv_at hl 4 rfl) ?_
      refine va_sld hx hb hX hbl hbA hS hv0 dL_law_35 ?_
      refine lv_bipush (v := 31) hx hb dL_law_36 (by decide) ?_
      refine lv_iand hx hb dL_law_38 ?_
      refine lv_topi (fun v hv => ?_)
      by_cases hr0 : v.toInt < 0 ∨ 19 < v.toInt
      · refine lv_tableOut (tgt := 1000) hx hb dL_law_39 hr0 (by decide) ?_
        refine W.widen (k := 14 + ct + 1) (n := 2038 + 6 * ct + 6) (by omega) (by omega) ?_
        exact K x fo t H locs ls (LI_mono hI (by omega)) hPD hPO hPM hS hl
      have hk20 : v.toInt = 0 ∨ v.toInt = 1 ∨ v.toInt = 2 ∨ v.toInt = 3 ∨ v.toInt = 4 ∨ v.toInt = 5 ∨ v.toInt = 6 ∨ v.toInt = 7 ∨ v.toInt = 8 ∨ v.toInt = 9 ∨ v.toInt = 10 ∨ v.toInt = 11 ∨ v.toInt = 12 ∨ v.toInt = 13 ∨ v.toInt = 14 ∨ v.toInt = 15 ∨ v.toInt = 16 ∨ v.toInt = 17 ∨ v.toInt = 18 ∨ v.toInt = 19 := by omega
      rcases hk20 with hk | hk | hk | hk | hk | hk | hk | hk | hk | hk | hk | hk | hk | hk | hk | hk | hk | hk | hk | hk
      · exact lv_tableIn (off := 93) (tgt := 132) hx hb dL_law_39 (by omega) (by omega) (by rw [hk]; rfl) (by decide) (cs_0 C K (by omega) ⟨by omega, by omega⟩ hI hPD hPO hPM hS hl)
      · exact lv_tableIn (off := 181) (tgt := 220) hx hb dL_law_39 (by omega) (by omega) (by rw [hk]; rfl) (by decide) (cs_1 C K (by omega) ⟨by omega, by omega⟩ hI hPD hPO hPM hS hl)
      · exact lv_tableIn (off := 229) (tgt := 268) hx hb dL_law_39 (by omega) (by omega) (by rw [hk]; rfl) (by decide) (cs_2 C K (by omega) ⟨by omega, by omega⟩ hI hPD hPO hPM hS hl)
      · exact lv_tableIn (off := 285) (tgt := 324) hx hb dL_law_39 (by omega) (by omega) (by rw [hk]; rfl) (by decide) (cs_3 C K (by omega) ⟨by omega, by omega⟩ hI hPD hPO hPM hS hl)
      · exact lv_tableIn (off := 353) (tgt := 392) hx hb dL_law_39 (by omega) (by omega) (by rw [hk]; rfl) (by decide) (cs_4 C K (by omega) ⟨by omega, by omega⟩ hI hPD hPO hPM hS hl)
      · exact lv_tableIn (off := 389) (tgt := 428) hx hb dL_law_39 (by omega) (by omega) (by rw [hk]; rfl) (by decide) (cs_5 C K (by omega) ⟨by omega, by omega⟩ hI hPD hPO hPM hS hl)
      · exact lv_tableIn (off := 402) (tgt := 441) hx hb dL_law_39 (by omega) (by omega) (by rw [hk]; rfl) (by decide) (cs_6 C K (by omega) ⟨by omega, by omega⟩ hI hPD hPO hPM hS hl)
      · exact lv_tableIn (off := 415) (tgt := 454) hx hb dL_law_39 (by omega) (by omega) (by rw [hk]; rfl) (by decide) (cs_7 C K (by omega) ⟨by omega, by omega⟩ hI hPD hPO hPM hS hl)
      · exact lv_tableIn (off := 428) (tgt := 467) hx hb dL_law_39 (by omega) (by omega) (by rw [hk]; rfl) (by decide) (cs_8 C K (by omega) ⟨by omega, by omega⟩ hI hPD hPO hPM hS hl)
      · exact lv_tableIn (off := 441) (tgt := 480) hx hb dL_law_39 (by omega) (by omega) (by rw [hk]; rfl) (by decide) (cs_9 C K (by omega) ⟨by omega, by omega⟩ hI hPD hPO hPM hS hl)
      · exact lv_tableIn (off := 497) (tgt := 536) hx hb dL_law_39 (by omega) (by omega) (by rw [hk]; rfl) (by decide) (cs_10 C K (by omega) ⟨by omega, by omega⟩ hI hPD hPO hPM hS hl)
      · exact lv_tableIn (off := 553) (tgt := 592) hx hb dL_law_39 (by omega) (by omega) (by rw [hk]; rfl) (by decide) (cs_11 C K (by omega) ⟨by omega, by omega⟩ hI hPD hPO hPM hS hl)
      · exact lv_tableIn (off := 609) (tgt := 648) hx hb dL_law_39 (by omega) (by omega) (by rw [hk]; rfl) (by decide) (cs_12 C K (by omega) ⟨by omega, by omega⟩ hI hPD hPO hPM hS hl)
      · exact lv_tableIn (off := 665) (tgt := 704) hx hb dL_law_39 (by omega) (by omega) (by rw [hk]; rfl) (by decide) (cs_13 C K (by omega) ⟨by omega, by omega⟩ hI hPD hPO hPM hS hl)
      · exact lv_tableIn (off := 702) (tgt := 741) hx hb dL_law_39 (by omega) (by omega) (by rw [hk]; rfl) (by decide) (cs_14 C K (by omega) ⟨by omega, by omega⟩ hI hPD hPO hPM hS hl)
      · exact lv_tableIn (off := 715) (tgt := 754) hx hb dL_law_39 (by omega) (by omega) (by rw [hk]; rfl) (by decide) (cs_15 C K (by omega) ⟨by omega, by omega⟩ hI hPD hPO hPM hS hl)
      · exact lv_tableIn (off := 728) (tgt := 767) hx hb dL_law_39 (by omega) (by omega) (by rw [hk]; rfl) (by decide) (cs_16 C K (by omega) ⟨by omega, by omega⟩ hI hPD hPO hPM hS hl)
      · exact lv_tableIn (off := 784) (tgt := 823) hx hb dL_law_39 (by omega) (by omega) (by rw [hk]; rfl) (by decide) (cs_17 C K (by omega) ⟨by omega, by omega⟩ hI hPD hPO hPM hS hl)
      · exact lv_tableIn (off := 809) (tgt := 848) hx hb dL_law_39 (by omega) (by omega) (by rw [hk]; rfl) (by decide) (cs_18 C K (by omega) ⟨by omega, by omega⟩ hI hPD hPO hPM hS hl)
      · exact lv_tableIn (off := 877) (tgt := 916) hx hb dL_law_39 (by omega) (by omega) (by rw [hk]; rfl) (by decide) (cs_19 C K (by omega) ⟨by omega, by omega⟩ hI hPD hPO hPM hS hl)
