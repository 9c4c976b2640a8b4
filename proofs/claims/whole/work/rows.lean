section
-- ===== PART A: goes FIRST, ahead of the names: the tables' words, and 'selects' of the private methods out of them =====
/-- a private method of a class that the tables say can be made, by its rows of tables_1 -/
def lw_okq (q : MethodName × Nat) : Prop := (q.1.cls ≠ "java/lang/invoke/MethodHandle" ∧ q.1.cls ≠ "java/lang/invoke/VarHandle") ∧ Cond.instantiable q.1.cls q.2 ∈ tables_1 ∧ Cond.privateMethod q.1 ∈ tables_1 ∧ Cond.instanceMethod q.1 ∈ tables_1
theorem lw_p0 : lw_okq (⟨"IssueDesk", "isLate", "(I)Z"⟩, 15) := ⟨⟨by decide +kernel, by decide +kernel⟩, List.mem_of_getElem? (i := 12) (by decide +kernel), List.mem_of_getElem? (i := 91) (by decide +kernel), List.mem_of_getElem? (i := 92) (by decide +kernel)⟩
theorem lw_p1 : lw_okq (⟨"IssueDesk", "isForetold", "(I)Z"⟩, 15) := ⟨⟨by decide +kernel, by decide +kernel⟩, List.mem_of_getElem? (i := 12) (by decide +kernel), List.mem_of_getElem? (i := 95) (by decide +kernel), List.mem_of_getElem? (i := 96) (by decide +kernel)⟩
theorem lw_p2 : lw_okq (⟨"IssueDesk", "isTimeToClaim", "(I)Z"⟩, 15) := ⟨⟨by decide +kernel, by decide +kernel⟩, List.mem_of_getElem? (i := 12) (by decide +kernel), List.mem_of_getElem? (i := 102) (by decide +kernel), List.mem_of_getElem? (i := 103) (by decide +kernel)⟩
theorem lw_p3 : lw_okq (⟨"IssueDesk", "isRangeStart", "(I)Z"⟩, 15) := ⟨⟨by decide +kernel, by decide +kernel⟩, List.mem_of_getElem? (i := 12) (by decide +kernel), List.mem_of_getElem? (i := 138) (by decide +kernel), List.mem_of_getElem? (i := 139) (by decide +kernel)⟩
theorem lw_p4 : lw_okq (⟨"IssueDesk", "isInHouse", "(I)Z"⟩, 15) := ⟨⟨by decide +kernel, by decide +kernel⟩, List.mem_of_getElem? (i := 12) (by decide +kernel), List.mem_of_getElem? (i := 142) (by decide +kernel), List.mem_of_getElem? (i := 143) (by decide +kernel)⟩
theorem lw_p5 : lw_okq (⟨"IssueDesk", "endOfRange", "(I)I"⟩, 15) := ⟨⟨by decide +kernel, by decide +kernel⟩, List.mem_of_getElem? (i := 12) (by decide +kernel), List.mem_of_getElem? (i := 150) (by decide +kernel), List.mem_of_getElem? (i := 151) (by decide +kernel)⟩
theorem lw_p6 : lw_okq (⟨"java/lang/Throwable", "fillInStackTrace", "(I)Ljava/lang/Throwable;"⟩, 6) := ⟨⟨by decide +kernel, by decide +kernel⟩, List.mem_of_getElem? (i := 203) (by decide +kernel), List.mem_of_getElem? (i := 201) (by decide +kernel), List.mem_of_getElem? (i := 202) (by decide +kernel)⟩
theorem lw_p7 : lw_okq (⟨"IssueDesk", "foretellDueIssues", "()V"⟩, 15) := ⟨⟨by decide +kernel, by decide +kernel⟩, List.mem_of_getElem? (i := 12) (by decide +kernel), List.mem_of_getElem? (i := 239) (by decide +kernel), List.mem_of_getElem? (i := 240) (by decide +kernel)⟩
theorem lw_p8 : lw_okq (⟨"IssueDesk", "nextDay", "()I"⟩, 15) := ⟨⟨by decide +kernel, by decide +kernel⟩, List.mem_of_getElem? (i := 12) (by decide +kernel), List.mem_of_getElem? (i := 243) (by decide +kernel), List.mem_of_getElem? (i := 244) (by decide +kernel)⟩
theorem lw_p9 : lw_okq (⟨"IssueDesk$Pattern", "isInSkippedMonth", "(I)Z"⟩, 4) := ⟨⟨by decide +kernel, by decide +kernel⟩, List.mem_of_getElem? (i := 20) (by decide +kernel), List.mem_of_getElem? (i := 254) (by decide +kernel), List.mem_of_getElem? (i := 255) (by decide +kernel)⟩
theorem lw_p10 : lw_okq (⟨"IssueDesk", "foretellNext", "()V"⟩, 15) := ⟨⟨by decide +kernel, by decide +kernel⟩, List.mem_of_getElem? (i := 12) (by decide +kernel), List.mem_of_getElem? (i := 258) (by decide +kernel), List.mem_of_getElem? (i := 259) (by decide +kernel)⟩
theorem lw_p11 : lw_okq (⟨"IssueDesk", "canAllCome", "(II)Z"⟩, 15) := ⟨⟨by decide +kernel, by decide +kernel⟩, List.mem_of_getElem? (i := 12) (by decide +kernel), List.mem_of_getElem? (i := 321) (by decide +kernel), List.mem_of_getElem? (i := 322) (by decide +kernel)⟩
theorem lw_p12 : lw_okq (⟨"IssueDesk", "foretellUpTo", "(I)V"⟩, 15) := ⟨⟨by decide +kernel, by decide +kernel⟩, List.mem_of_getElem? (i := 12) (by decide +kernel), List.mem_of_getElem? (i := 326) (by decide +kernel), List.mem_of_getElem? (i := 327) (by decide +kernel)⟩
theorem lw_p13 : lw_okq (⟨"IssueDesk", "takeIn", "(II)V"⟩, 15) := ⟨⟨by decide +kernel, by decide +kernel⟩, List.mem_of_getElem? (i := 12) (by decide +kernel), List.mem_of_getElem? (i := 330) (by decide +kernel), List.mem_of_getElem? (i := 331) (by decide +kernel)⟩
theorem lw_p14 : lw_okq (⟨"IssueDesk", "noteDifference", "(I)V"⟩, 15) := ⟨⟨by decide +kernel, by decide +kernel⟩, List.mem_of_getElem? (i := 12) (by decide +kernel), List.mem_of_getElem? (i := 334) (by decide +kernel), List.mem_of_getElem? (i := 335) (by decide +kernel)⟩
theorem lw_p15 : lw_okq (⟨"IssueDesk", "followsStreak", "(I)Z"⟩, 15) := ⟨⟨by decide +kernel, by decide +kernel⟩, List.mem_of_getElem? (i := 12) (by decide +kernel), List.mem_of_getElem? (i := 338) (by decide +kernel), List.mem_of_getElem? (i := 339) (by decide +kernel)⟩
def lw_privs_1 : List (MethodName × Nat) := [(⟨"IssueDesk", "isLate", "(I)Z"⟩, 15), (⟨"IssueDesk", "isForetold", "(I)Z"⟩, 15), (⟨"IssueDesk", "isTimeToClaim", "(I)Z"⟩, 15), (⟨"IssueDesk", "isRangeStart", "(I)Z"⟩, 15), (⟨"IssueDesk", "isInHouse", "(I)Z"⟩, 15), (⟨"IssueDesk", "endOfRange", "(I)I"⟩, 15), (⟨"java/lang/Throwable", "fillInStackTrace", "(I)Ljava/lang/Throwable;"⟩, 6), (⟨"IssueDesk", "foretellDueIssues", "()V"⟩, 15), (⟨"IssueDesk", "nextDay", "()I"⟩, 15), (⟨"IssueDesk$Pattern", "isInSkippedMonth", "(I)Z"⟩, 4), (⟨"IssueDesk", "foretellNext", "()V"⟩, 15), (⟨"IssueDesk", "canAllCome", "(II)Z"⟩, 15), (⟨"IssueDesk", "foretellUpTo", "(I)V"⟩, 15), (⟨"IssueDesk", "takeIn", "(II)V"⟩, 15), (⟨"IssueDesk", "noteDifference", "(I)V"⟩, 15), (⟨"IssueDesk", "followsStreak", "(I)Z"⟩, 15)]
theorem lw_r1 : ∀ q ∈ lw_privs_1, lw_okq q := List.forall_mem_cons.mpr ⟨lw_p0, List.forall_mem_cons.mpr ⟨lw_p1, List.forall_mem_cons.mpr ⟨lw_p2, List.forall_mem_cons.mpr ⟨lw_p3, List.forall_mem_cons.mpr ⟨lw_p4, List.forall_mem_cons.mpr ⟨lw_p5, List.forall_mem_cons.mpr ⟨lw_p6, List.forall_mem_cons.mpr ⟨lw_p7, List.forall_mem_cons.mpr ⟨lw_p8, List.forall_mem_cons.mpr ⟨lw_p9, List.forall_mem_cons.mpr ⟨lw_p10, List.forall_mem_cons.mpr ⟨lw_p11, List.forall_mem_cons.mpr ⟨lw_p12, List.forall_mem_cons.mpr ⟨lw_p13, List.forall_mem_cons.mpr ⟨lw_p14, List.forall_mem_cons.mpr ⟨lw_p15, fun _ h => absurd h List.not_mem_nil⟩⟩⟩⟩⟩⟩⟩⟩⟩⟩⟩⟩⟩⟩⟩⟩
theorem lw_p16 : lw_okq (⟨"IssueDesk", "startOfRange", "(I)I"⟩, 15) := ⟨⟨by decide +kernel, by decide +kernel⟩, List.mem_of_getElem? (i := 12) (by decide +kernel), List.mem_of_getElem? (i := 389) (by decide +kernel), List.mem_of_getElem? (i := 390) (by decide +kernel)⟩
theorem lw_p17 : lw_okq (⟨"IssueDeskModel", "can", "(I)Z"⟩, 18) := ⟨⟨by decide +kernel, by decide +kernel⟩, List.mem_of_getElem? (i := 411) (by decide +kernel), List.mem_of_getElem? (i := 483) (by decide +kernel), List.mem_of_getElem? (i := 484) (by decide +kernel)⟩
theorem lw_p18 : lw_okq (⟨"IssueDeskModel", "looks", "()V"⟩, 18) := ⟨⟨by decide +kernel, by decide +kernel⟩, List.mem_of_getElem? (i := 411) (by decide +kernel), List.mem_of_getElem? (i := 487) (by decide +kernel), List.mem_of_getElem? (i := 488) (by decide +kernel)⟩
theorem lw_p19 : lw_okq (⟨"IssueDeskModel", "nextDay", "()I"⟩, 18) := ⟨⟨by decide +kernel, by decide +kernel⟩, List.mem_of_getElem? (i := 411) (by decide +kernel), List.mem_of_getElem? (i := 491) (by decide +kernel), List.mem_of_getElem? (i := 492) (by decide +kernel)⟩
theorem lw_p20 : lw_okq (⟨"IssueDeskModel", "isBarred", "(I)Z"⟩, 18) := ⟨⟨by decide +kernel, by decide +kernel⟩, List.mem_of_getElem? (i := 411) (by decide +kernel), List.mem_of_getElem? (i := 495) (by decide +kernel), List.mem_of_getElem? (i := 496) (by decide +kernel)⟩
theorem lw_p21 : lw_okq (⟨"IssueDeskModel", "foretells", "()V"⟩, 18) := ⟨⟨by decide +kernel, by decide +kernel⟩, List.mem_of_getElem? (i := 411) (by decide +kernel), List.mem_of_getElem? (i := 499) (by decide +kernel), List.mem_of_getElem? (i := 500) (by decide +kernel)⟩
theorem lw_p22 : lw_okq (⟨"IssueDeskModel", "isOpen", "(II)Z"⟩, 18) := ⟨⟨by decide +kernel, by decide +kernel⟩, List.mem_of_getElem? (i := 411) (by decide +kernel), List.mem_of_getElem? (i := 518) (by decide +kernel), List.mem_of_getElem? (i := 519) (by decide +kernel)⟩
theorem lw_p23 : lw_okq (⟨"IssueDeskModel", "counts", "(I)V"⟩, 18) := ⟨⟨by decide +kernel, by decide +kernel⟩, List.mem_of_getElem? (i := 411) (by decide +kernel), List.mem_of_getElem? (i := 522) (by decide +kernel), List.mem_of_getElem? (i := 523) (by decide +kernel)⟩
theorem lw_p24 : lw_okq (⟨"IssueDeskModel", "follows", "(I)Z"⟩, 18) := ⟨⟨by decide +kernel, by decide +kernel⟩, List.mem_of_getElem? (i := 411) (by decide +kernel), List.mem_of_getElem? (i := 526) (by decide +kernel), List.mem_of_getElem? (i := 527) (by decide +kernel)⟩
theorem lw_p25 : lw_okq (⟨"IssueDeskModel", "isForetold", "(I)Z"⟩, 18) := ⟨⟨by decide +kernel, by decide +kernel⟩, List.mem_of_getElem? (i := 411) (by decide +kernel), List.mem_of_getElem? (i := 534) (by decide +kernel), List.mem_of_getElem? (i := 535) (by decide +kernel)⟩
theorem lw_p26 : lw_okq (⟨"IssueDeskModel", "isLate", "(I)Z"⟩, 18) := ⟨⟨by decide +kernel, by decide +kernel⟩, List.mem_of_getElem? (i := 411) (by decide +kernel), List.mem_of_getElem? (i := 542) (by decide +kernel), List.mem_of_getElem? (i := 543) (by decide +kernel)⟩
theorem lw_p27 : lw_okq (⟨"IssueDeskModel", "isAsked", "(I)Z"⟩, 18) := ⟨⟨by decide +kernel, by decide +kernel⟩, List.mem_of_getElem? (i := 411) (by decide +kernel), List.mem_of_getElem? (i := 562) (by decide +kernel), List.mem_of_getElem? (i := 563) (by decide +kernel)⟩
theorem lw_p28 : lw_okq (⟨"IssueDeskModel", "volume", "(I)I"⟩, 18) := ⟨⟨by decide +kernel, by decide +kernel⟩, List.mem_of_getElem? (i := 411) (by decide +kernel), List.mem_of_getElem? (i := 578) (by decide +kernel), List.mem_of_getElem? (i := 579) (by decide +kernel)⟩
theorem lw_p29 : lw_okq (⟨"IssueDeskModel", "number", "(I)I"⟩, 18) := ⟨⟨by decide +kernel, by decide +kernel⟩, List.mem_of_getElem? (i := 411) (by decide +kernel), List.mem_of_getElem? (i := 582) (by decide +kernel), List.mem_of_getElem? (i := 583) (by decide +kernel)⟩
theorem lw_p30 : lw_okq (⟨"IssueDeskModel", "allRanges", "()I"⟩, 18) := ⟨⟨by decide +kernel, by decide +kernel⟩, List.mem_of_getElem? (i := 411) (by decide +kernel), List.mem_of_getElem? (i := 598) (by decide +kernel), List.mem_of_getElem? (i := 599) (by decide +kernel)⟩
theorem lw_p31 : lw_okq (⟨"IssueDeskModel", "isHere", "(I)Z"⟩, 18) := ⟨⟨by decide +kernel, by decide +kernel⟩, List.mem_of_getElem? (i := 411) (by decide +kernel), List.mem_of_getElem? (i := 602) (by decide +kernel), List.mem_of_getElem? (i := 603) (by decide +kernel)⟩
def lw_privs_2 : List (MethodName × Nat) := [(⟨"IssueDesk", "startOfRange", "(I)I"⟩, 15), (⟨"IssueDeskModel", "can", "(I)Z"⟩, 18), (⟨"IssueDeskModel", "looks", "()V"⟩, 18), (⟨"IssueDeskModel", "nextDay", "()I"⟩, 18), (⟨"IssueDeskModel", "isBarred", "(I)Z"⟩, 18), (⟨"IssueDeskModel", "foretells", "()V"⟩, 18), (⟨"IssueDeskModel", "isOpen", "(II)Z"⟩, 18), (⟨"IssueDeskModel", "counts", "(I)V"⟩, 18), (⟨"IssueDeskModel", "follows", "(I)Z"⟩, 18), (⟨"IssueDeskModel", "isForetold", "(I)Z"⟩, 18), (⟨"IssueDeskModel", "isLate", "(I)Z"⟩, 18), (⟨"IssueDeskModel", "isAsked", "(I)Z"⟩, 18), (⟨"IssueDeskModel", "volume", "(I)I"⟩, 18), (⟨"IssueDeskModel", "number", "(I)I"⟩, 18), (⟨"IssueDeskModel", "allRanges", "()I"⟩, 18), (⟨"IssueDeskModel", "isHere", "(I)Z"⟩, 18)]
theorem lw_r2 : ∀ q ∈ lw_privs_2, lw_okq q := List.forall_mem_cons.mpr ⟨lw_p16, List.forall_mem_cons.mpr ⟨lw_p17, List.forall_mem_cons.mpr ⟨lw_p18, List.forall_mem_cons.mpr ⟨lw_p19, List.forall_mem_cons.mpr ⟨lw_p20, List.forall_mem_cons.mpr ⟨lw_p21, List.forall_mem_cons.mpr ⟨lw_p22, List.forall_mem_cons.mpr ⟨lw_p23, List.forall_mem_cons.mpr ⟨lw_p24, List.forall_mem_cons.mpr ⟨lw_p25, List.forall_mem_cons.mpr ⟨lw_p26, List.forall_mem_cons.mpr ⟨lw_p27, List.forall_mem_cons.mpr ⟨lw_p28, List.forall_mem_cons.mpr ⟨lw_p29, List.forall_mem_cons.mpr ⟨lw_p30, List.forall_mem_cons.mpr ⟨lw_p31, fun _ h => absurd h List.not_mem_nil⟩⟩⟩⟩⟩⟩⟩⟩⟩⟩⟩⟩⟩⟩⟩⟩
def lw_privs : List (MethodName × Nat) := lw_privs_1 ++ (lw_privs_2)
def lw_tbl : List Cond := k2_sels lw_privs ++ tables_1
theorem lw_privs_ok : ∀ q ∈ lw_privs, lw_okq q := by
  show ∀ q ∈ lw_privs_1 ++ (lw_privs_2), lw_okq q
  exact List.forall_mem_append.mpr ⟨lw_r1, lw_r2⟩
-- ===== end of PART A; then your names; then what follows =====
end
section
/-! ===== BEGIN words of one list among another's, by their places ===== -/
theorem goodIn_r {big : List Cond} (ws : List Cond) (ps : List Nat) (hp : ws = ps.filterMap (fun i => big[i]?)) (h : ws.all goodWord = true) : GoodIn big ws := by
  intro w hw
  have h1 := List.all_eq_true.mp h w hw
  rw [hp] at hw
  obtain ⟨i, -, hi⟩ := List.mem_filterMap.mp hw
  have hm : w ∈ big := by first | exact List.mem_of_getElem? hi | exact List.getElem?_mem hi
  exact ⟨hm, good_of_word h1⟩
theorem goodIn_app {big a b : List Cond} (ha : GoodIn big a) (hb : GoodIn big b) : GoodIn big (a ++ b) := fun w h => (List.mem_append.mp h).elim (ha w) (hb w)
theorem goodIn_ca {big a b : List Cond} {c : Cond} (ha : GoodIn big (c :: a)) (hb : GoodIn big b) : GoodIn big (c :: (a ++ b)) := fun w h => (List.mem_cons.mp h).elim (fun e => ha w (List.mem_cons.mpr (Or.inl e))) (fun h => (List.mem_append.mp h).elim (fun h => ha w (List.mem_cons.mpr (Or.inr h))) (hb w))
theorem goodIn_sub {big ws : List Cond} (hm : ∀ w ∈ ws, w ∈ big) (h : ws.all goodWord = true) : GoodIn big ws := fun w hw => ⟨hm w hw, good_of_word (List.all_eq_true.mp h w hw)⟩
/-! ===== END ===== -/

/-! ===== BEGIN exceptions that leave a method, and their catching by the caller (launches without stack traces) ===== -/
section VXA
/-! The laws vx_back, vx_callV, vx_callS, vx_callSW, vx_throw0, vx_throwS follow proofs of the library, with one case more: JvmDerived/Free/Laws.lean (Back.of_free), Shelf42/LK1.lean (callV, callS), Shelf/KitTraced.lean (throwNew0V, throwNewS). -/
/-- where a method has thrown q: the class by its name, the cell, what was written, the world -/
def vx_T (XC : String → State → State → Prop) (st : State) (q : Addr) (t : State) (mc ms : Nat) (free : Addr → Prop) : Prop :=
  ∃ (E : String) (ce : Cell) (L : List Loc), XC E st t ∧ t.heap[q]? = some ce ∧ ce.vm = .none ∧ st.vm.findClass E = some ce.cls ∧ st.WarmedH t.vm ∧ st.sameButNew ({ t with vm := st.vm } : State) L mc ms ∧ ∀ z ∈ L, free z.base
def vx_Q (Qc : Array Value → State → Outcome → State → Prop) (XC : String → State → State → Prop) (mc ms : Nat) (free : Addr → Prop) : Array Value → State → Outcome → State → Prop := fun a st o t =>
  (Qc a st o t ∧ ∃ L, FrameEnd st o t L mc ms ∧ ∀ q ∈ L, free q.base) ∨ ∃ q, o = .threw q ∧ vx_T XC st q t mc ms free
/-- a callee that returns or throws -/
def vx_Met (l : Launch) (y : MethodName) (ws : List Cond) (rm : Room) (Pc : Array Value → State → Prop) (Qc : Array Value → State → Outcome → State → Prop) (XC : String → State → State → Prop) (mc ms : Nat) (free : Addr → Prop) : Prop :=
  MetFree l y (headSpec ws rm) Pc (fun _ _ _ _ _ => True) (vx_Q Qc XC mc ms free)
def vx_Post (XC : String → State → State → Prop) (mc ms : Nat) (free : Addr → Prop) : Pt → Array Value → Addr → Pt → Prop := fun A a q B =>
  ∃ (g : JFrame) (mk : MethodId) (t : State) (L : List Loc) (E : String) (ce : Cell), B.U.heap = t.heap ∧ B.U.vm = t.vm ∧ XC E (A.U.calling g mk a) t ∧ t.heap[q]? = some ce ∧ ce.vm = .none ∧ A.U.vm.findClass E = some ce.cls ∧ B.locs = A.locs ++ L ∧ (∀ z ∈ L, free z.base) ∧ B.cells = A.cells + mc ∧ B.slots = A.slots + ms
def vx_Back (l : Launch) (R : Room) (p : Program) (e : Env) (below : List Frame) (s : State) (sargs : Array Value) (y : MethodName) (len W9 : Nat)
    (Pre : Pt → Array Value → Prop) (Post : Pt → Array Value → Option Value → Pt → Prop) (PostX : Pt → Array Value → Addr → Pt → Prop) : Prop :=
  ∀ (m : MethodId) (meth : Method) (c : Code) (A : Pt) (g : JFrame) (ig : Instr) (mk : MethodId) (a : Array Value),
    Stand p l e R s m sargs below meth c A.U A.locs A.cells A.slots → g.method = m → g.locals.size = c.maxLocals → decode c.code g.pc = .ok (ig, len) →
    2 * g.monitorRoom + (g.stack.map fun v => v.category).sum ≤ W9 → A.U.methodNamed? y = some mk → Pre A a →
    (∃ (v : Option Value) (B : Pt), Stand p l e R s m sargs below meth c B.U B.locs B.cells B.slots ∧ Post A a v B ∧
      Steps p.tables e below (doInvoke e (A.U.setTop g) [] mk a).1 (B.U.setTop { g with pc := g.pc + len, stack := v.toList ++ g.stack })) ∨
    (∃ (q : Addr) (B : Pt), Stand p l e R s m sargs below meth c B.U B.locs B.cells B.slots ∧ PostX A a q B ∧
      Steps p.tables e below (doInvoke e (A.U.setTop g) [] mk a).1 ((B.U.setTop g).pushFrame (.throwing q)))
section Payer
variable {l : Launch} {R : Room} {p : Program} {e : Env} {below : List Frame} {s : State} {sargs : Array Value} {y : MethodName} {len W9 : Nat}
theorem vx_back {ws : List Cond} {rm : Room} {Pc : Array Value → State → Prop} {Qc : Array Value → State → Outcome → State → Prop} {XC : String → State → State → Prop} {mc ms : Nat} {free : Addr → Prop} {bytes : ByteArray} {maxL : Nat} {ret : Option FieldType}
    (hM : vx_Met l y ws rm Pc Qc XC mc ms free) (hblind : FrameBlind Pc) (hrc : rm.cells = mc) (hrs : rm.slots = ms)
    (hframes : rm.frames + 1 ≤ R.frames) (hlocals : W9 + (maxL + 11) + rm.locals ≤ R.locals)
    (hws : ∀ w ∈ ws, ∀ a' U, s.WarmedH U.vm → w.before a' U = true) (hcode : Cond.code y bytes maxL ret ∈ ws) (hinit : ∀ a' U, s.WarmedH U.vm → (Cond.initialized y.cls).before a' U = true) :
    vx_Back l R p e below s sargs y len W9 (PreOf R mc ms Pc) (PostOf Qc mc ms free) (vx_Post XC mc ms free) := by
  intro m meth c A g ig mk a X hg hsize hdg hW hn hp
  have h1 : (headSpec ws rm).pre.before a A.U = true := atoms_intro fun w hw => hws w hw _ _ X.warmed
  have h2 : (Cond.code y bytes maxL ret).before a A.U = true := hws _ hcode _ _ X.warmed
  have h3 : (Cond.initialized y.cls).before a A.U = true := hinit _ _ X.warmed
  have h4 : A.cells + (headSpec ws rm).room.cells ≤ R.cells := by rw [show (headSpec ws rm).room.cells = mc from hrc]; exact hp.1
  have h5 : A.slots + (headSpec ws rm).room.slots ≤ R.slots := by rw [show (headSpec ws rm).room.slots = ms from hrs]; exact hp.2.1
  have hPc : Pc a (A.U.calling g mk a) := hblind _ _ _ _ hp.2.2
  obtain ⟨U, Ls, c0, s0⟩ := A
  dsimp only [Pt.U, Pt.locs, Pt.cells, Pt.slots] at h1 h2 h3 h4 h5 X hn hPc ⊢
  obtain ⟨methY, cY, hmY, hcY, -, hlY, -, -, -, -⟩ := Cond.code_spec hn h2
  obtain ⟨kY, hkY, -⟩ := className_of_methodNamed hn
  have hinitY : kY.init = .initialized := Cond.initialized_spec (findClass_of_methodNamed hn) hkY h3
  have h : At U g.method c below := by rw [hg]; exact X.here
  have hlocals9 : W9 + (maxL + 11) + (headSpec ws rm).room.locals ≤ R.locals := hlocals
  have happ : (headSpec ws rm).appliesLoose y e.platform (U.calling g mk a) = true :=
    Spec.appliesLoose_calling (g := g) h hdg hn hkY hinitY
      (X.room_calling (g := g) (R' := (headSpec ws rm).room) hsize hmY hcY hframes (by rw [hlY]; omega) h4 h5) h1
  obtain ⟨mid, hmid⟩ := h.above
  have hfr : (U.setTop g).frames = (.java g :: mid) ++ below := by rw [State.frames_setTop' g h.top, hmid]; rfl
  obtain ⟨o, s₂, hsteps, -, hend, hq⟩ := Steps.callFree hM p X.admits X.cas X.clock (acts := []) hfr happ hPc trivial
  have hq' : vx_Q Qc XC mc ms free a (U.calling g mk a) o s₂ := hq
  rw [State.frames_setTop' g h.top] at hend
  obtain ⟨g₀, hg0⟩ := Option.isSome_iff_exists.mp h.top
  obtain ⟨r, hr⟩ := State.topJava?_eq_some.mp hg0
  have hr' : (({ U with heap := s₂.heap, slotsUsed := s₂.slotsUsed } : State).setVm s₂.vm).frames = .java g₀ :: r := hr
  rcases hq' with ⟨hqc, L, hfe, hL⟩ | ⟨q, rfl, E, ce, L, hx, hce, hcv, hcl, hW₂, hsm, hL⟩
  · obtain ⟨⟨v, rfl⟩, hW₂, e2, q2, q3, q4, q5, q6⟩ := id hfe
    have e3 : s₂ = ({ (U.calling g mk a).setFrames s₂.frames with heap := s₂.heap, slotsUsed := s₂.slotsUsed } : State).setVm s₂.vm := by
      have : s₂ = ({ s₂ with vm := (U.calling g mk a).vm } : State).setVm s₂.vm := rfl
      rw [e2] at this
      exact this
    obtain ⟨c₂, i₂, len₂, hc₂, hd₂, hf₂⟩ := hend
    have hW' : U.WarmedH s₂.vm := hW₂
    have hcc : c₂ = c := by
      have h1 : s₂.code? g.method = U.code? g.method := by
        rw [State.code?_eq, State.code?_eq, hW'.alike.method?]
      exact Option.some.inj (hc₂.symm.trans (h1.trans h.code))
    subst hcc
    have hlen : len₂ = len := by rw [hdg] at hd₂; cases hd₂; rfl
    subst hlen
    have hs₂ : s₂ = (({ U with heap := s₂.heap, slotsUsed := s₂.slotsUsed } : State).setVm s₂.vm).setTop { g with pc := g.pc + len₂, stack := v.toList ++ g.stack } := by
      refine e3.trans ?_
      rw [hf₂, State.calling_eq h.top, State.setFrames_setFrames, State.setTop_of_frames _ hr', hr]
      rfl
    have hsame : U.sameButNew ({ U with heap := s₂.heap, slotsUsed := s₂.slotsUsed } : State) L mc ms := by
      refine ⟨?_, q2, q3, q4, q5, q6⟩
      obtain ⟨t, ht, -⟩ := State.frames_cons hr
      show ({ U with heap := s₂.heap, slotsUsed := s₂.slotsUsed } : State) = { U.setFrames U.frames with heap := s₂.heap, slotsUsed := s₂.slotsUsed }
      rw [State.setFrames_self ht]
    subst hg
    refine Or.inl ⟨v, ⟨(({ U with heap := s₂.heap, slotsUsed := s₂.slotsUsed } : State).setVm s₂.vm), Ls ++ L, c0 + mc, s0 + ms⟩,
      ⟨X.admits, X.cas, X.clock, X.frames, X.room, X.hears, X.method, X.code, (X.here.setHeapUsed s₂.heap s₂.slotsUsed).setVm hW'.alike, X.tail, State.WarmedH.trans X.warmed hW', X.limits, X.bytes, X.same.trans (hsame.setVm s.vm)⟩,
      ⟨g, mk, s₂, L, rfl, rfl, hqc, rfl, hL, rfl, rfl⟩, ?_⟩
    show Steps p.tables e below _ ((({ U with heap := s₂.heap, slotsUsed := s₂.slotsUsed } : State).setVm s₂.vm).setTop { g with pc := g.pc + len₂, stack := v.toList ++ g.stack })
    rw [← hs₂]
    exact hsteps
  · obtain ⟨e2, q2, q3, q4, q5, q6⟩ := id hsm
    have e3 : s₂ = ({ (U.calling g mk a).setFrames s₂.frames with heap := s₂.heap, slotsUsed := s₂.slotsUsed } : State).setVm s₂.vm := by
      have : s₂ = ({ s₂ with vm := (U.calling g mk a).vm } : State).setVm s₂.vm := rfl
      rw [e2] at this
      exact this
    have hf₂ : s₂.frames = .throwing q :: .java g :: U.frames.tail := hend
    have hW' : U.WarmedH s₂.vm := hW₂
    have hs₂ : s₂ = ((({ U with heap := s₂.heap, slotsUsed := s₂.slotsUsed } : State).setVm s₂.vm).setTop g).pushFrame (.throwing q) := by
      refine e3.trans ?_
      rw [hf₂, State.calling_eq h.top, State.setFrames_setFrames, State.pushFrame, State.frames_setTop _ hr', State.setTop_of_frames _ hr', State.setFrames_setFrames, hr]
      rfl
    have hsame : U.sameButNew ({ U with heap := s₂.heap, slotsUsed := s₂.slotsUsed } : State) L mc ms := by
      refine ⟨?_, q2, q3, q4, q5, q6⟩
      obtain ⟨t, ht, -⟩ := State.frames_cons hr
      show ({ U with heap := s₂.heap, slotsUsed := s₂.slotsUsed } : State) = { U.setFrames U.frames with heap := s₂.heap, slotsUsed := s₂.slotsUsed }
      rw [State.setFrames_self ht]
    subst hg
    refine Or.inr ⟨q, ⟨(({ U with heap := s₂.heap, slotsUsed := s₂.slotsUsed } : State).setVm s₂.vm), Ls ++ L, c0 + mc, s0 + ms⟩,
      ⟨X.admits, X.cas, X.clock, X.frames, X.room, X.hears, X.method, X.code, (X.here.setHeapUsed s₂.heap s₂.slotsUsed).setVm hW'.alike, X.tail, State.WarmedH.trans X.warmed hW', X.limits, X.bytes, X.same.trans (hsame.setVm s.vm)⟩,
      ⟨g, mk, s₂, L, E, ce, rfl, rfl, hx, hce, hcv, hcl, rfl, hL, rfl, rfl⟩, ?_⟩
    show Steps p.tables e below _ (((({ U with heap := s₂.heap, slotsUsed := s₂.slotsUsed } : State).setVm s₂.vm).setTop g).pushFrame (.throwing q))
    rw [← hs₂]
    exact hsteps
end Payer
section Calls
variable {p : Program} {l : Launch} {e : Env} {R : Room} {s : State} {m : MethodId} {args : Array Value} {below : List Frame} {meth : Method} {c : Code} {T : State} {locs : List Loc} {cells slots : Nat}
theorem vx_callV (X : Stand p l e R s m args below meth c T locs cells slots) (hexec : p.tables.exec = Jvm.exec) {own C : String} {index : Nat} {y : MethodName} {bytes : ByteArray} {maxL : Nat} {ret : Option FieldType}
    (hown : s.vm.findClass own = some m.cls) (hlink : (Cond.methodLink own index y).before args s = true) (hinst : (Cond.instanceMethod y).before args s = true) (hsel : (Cond.selects C y y).before args s = true)
    (hcode : (Cond.code y bytes maxL ret).before args s = true) (hy : y.cls ≠ "java/lang/invoke/MethodHandle" ∧ y.cls ≠ "java/lang/invoke/VarHandle")
    {W9 : Nat} {Pre : Pt → Array Value → Prop} {Post : Pt → Array Value → Option Value → Pt → Prop} {PostX : Pt → Array Value → Addr → Pt → Prop} (hK : vx_Back l R p e below s args y 3 W9 Pre Post PostX)
    {b : Addr} {cellB : Cell} (hcell : T.heap[b]? = some cellB) (hobj : cellB.vm.isStatics = false) (hcls : s.vm.findClass C = some cellB.cls)
    {g : JFrame} (hg : g.method = m) (hsize : g.locals.size = c.maxLocals) {argsL rest : List Value} (hlen : ∀ sig, parseMethodDescriptor y.desc = some sig → argsL.length = sig.parameters.length)
    (hstack : g.stack = argsL.reverse ++ .ref b :: rest) (hW : 2 * g.monitorRoom + (rest.map fun v => v.category).sum ≤ W9) (hdg : decode c.code g.pc = .ok (.invokevirtual index, 3))
    (hpre : ∀ vm₁, s.WarmedH vm₁ → Pre ⟨T.setVm vm₁, locs, cells, slots⟩ (Value.ref b :: argsL).toArray) :
    (∃ (v : Option Value) (vm₁ : Vm) (B : Pt), s.WarmedH vm₁ ∧ Stand p l e R s m args below meth c B.U B.locs B.cells B.slots ∧ Post ⟨T.setVm vm₁, locs, cells, slots⟩ (Value.ref b :: argsL).toArray v B ∧
      ∀ target, Steps p.tables e below (B.U.setTop { g with pc := g.pc + 3, stack := v.toList ++ rest }) target → Steps p.tables e below (T.setTop g) target) ∨
    (∃ (q : Addr) (vm₁ : Vm) (B : Pt), s.WarmedH vm₁ ∧ Stand p l e R s m args below meth c B.U B.locs B.cells B.slots ∧ PostX ⟨T.setVm vm₁, locs, cells, slots⟩ (Value.ref b :: argsL).toArray q B ∧
      Steps p.tables e below (T.setTop g) ((B.U.setTop { g with stack := rest }).pushFrame (.throwing q))) := by
  obtain ⟨mk, methM, hnamed, hmethM, hstM, habM⟩ := Cond.instanceMethod_spec hinst
  obtain ⟨methM', cM, hmethM', -, -, -, -, -, -, hsigM⟩ := Cond.code_spec hnamed hcode
  cases hmethM.symm.trans hmethM'
  obtain ⟨c2, r2, m2, q1, q2, q3, q4, kP, hkP, hkPi⟩ := Cond.selects_spec hsel
  cases hcls.symm.trans q1
  cases (State.methodFound?_of_named hnamed hy).symm.trans q2
  cases hnamed.symm.trans q3
  have hselP : selectMethod e.platform s.vm cellB.cls mk = .method mk := by rw [Launch.admits_selectMethod X.admits]; exact q4
  obtain ⟨vm₁, X₁, hstep₁⟩ := X.invokevirtual hexec hown hlink hnamed hmethM hstM hkP hkPi hy (a := b) (cell := cellB) hcell
    (fun z h => by rw [h] at hobj; cases hobj) hselP hmethM habM hkP hkPi (g := g) hg (argsL := argsL) (rest := rest) (hlen _ hsigM) hstack hdg
  rcases hK m meth c ⟨T.setVm vm₁, locs, cells, slots⟩ { g with stack := rest } (.invokevirtual index) mk (Value.ref b :: argsL).toArray X₁ hg hsize hdg hW (X₁.named hnamed) (hpre vm₁ X₁.warmed) with ⟨v, B, X', hpost, hsteps⟩ | ⟨q, B, X', hpost, hsteps⟩
  · exact Or.inl ⟨v, vm₁, B, X₁.warmed, X', hpost, fun target h => hstep₁ _ fun acts => by rw [doInvoke_state]; exact hsteps.trans h⟩
  · exact Or.inr ⟨q, vm₁, B, X₁.warmed, X', hpost, hstep₁ _ fun acts => by rw [doInvoke_state]; exact hsteps⟩
theorem vx_callS (X : Stand p l e R s m args below meth c T locs cells slots) (hexec : p.tables.exec = Jvm.exec) {own : String} {index : Nat} {y : MethodName} {bytes : ByteArray} {maxL : Nat} {ret : Option FieldType}
    (hown : s.vm.findClass own = some m.cls) (hlink : (Cond.methodLink own index y).before args s = true) (hstat : (Cond.static y).before args s = true) (hinit : (Cond.initialized y.cls).before args s = true)
    (hcode : (Cond.code y bytes maxL ret).before args s = true) (hy : y.cls ≠ "java/lang/invoke/MethodHandle" ∧ y.cls ≠ "java/lang/invoke/VarHandle")
    {W9 : Nat} {Pre : Pt → Array Value → Prop} {Post : Pt → Array Value → Option Value → Pt → Prop} {PostX : Pt → Array Value → Addr → Pt → Prop} (hK : vx_Back l R p e below s args y 3 W9 Pre Post PostX)
    {g : JFrame} (hg : g.method = m) (hsize : g.locals.size = c.maxLocals) {argsL rest : List Value} (hlen : ∀ sig, parseMethodDescriptor y.desc = some sig → argsL.length = sig.parameters.length)
    (hstack : g.stack = argsL.reverse ++ rest) (hW : 2 * g.monitorRoom + (rest.map fun v => v.category).sum ≤ W9) (hdg : decode c.code g.pc = .ok (.invokestatic index, 3))
    (hpre : ∀ vm₁, s.WarmedH vm₁ → Pre ⟨T.setVm vm₁, locs, cells, slots⟩ argsL.toArray) :
    (∃ (v : Option Value) (vm₁ : Vm) (B : Pt), s.WarmedH vm₁ ∧ Stand p l e R s m args below meth c B.U B.locs B.cells B.slots ∧ Post ⟨T.setVm vm₁, locs, cells, slots⟩ argsL.toArray v B ∧
      ∀ target, Steps p.tables e below (B.U.setTop { g with pc := g.pc + 3, stack := v.toList ++ rest }) target → Steps p.tables e below (T.setTop g) target) ∨
    (∃ (q : Addr) (vm₁ : Vm) (B : Pt), s.WarmedH vm₁ ∧ Stand p l e R s m args below meth c B.U B.locs B.cells B.slots ∧ PostX ⟨T.setVm vm₁, locs, cells, slots⟩ argsL.toArray q B ∧
      Steps p.tables e below (T.setTop g) ((B.U.setTop { g with stack := rest }).pushFrame (.throwing q))) := by
  obtain ⟨mk, hnamed⟩ := Cond.code_named hcode
  obtain ⟨methM, cM, hmethM, -, -, -, -, -, -, hsigM⟩ := Cond.code_spec hnamed hcode
  have hstatic : methM.isStatic = true := Cond.static_spec hnamed hmethM hstat
  obtain ⟨kP, hkP, -⟩ := className_of_methodNamed hnamed
  have hinitP : kP.init = .initialized := Cond.initialized_spec (findClass_of_methodNamed hnamed) hkP hinit
  obtain ⟨vm₁, X₁, hstep₁⟩ := X.invokestatic hexec hown hlink hnamed hmethM hstatic hkP hinitP hy (g := g) hg (argsL := argsL) (rest := rest) (hlen _ hsigM) hstack hdg
  rcases hK m meth c ⟨T.setVm vm₁, locs, cells, slots⟩ { g with stack := rest } (.invokestatic index) mk argsL.toArray X₁ hg hsize hdg hW (X₁.named hnamed) (hpre vm₁ X₁.warmed) with ⟨v, B, X', hpost, hsteps⟩ | ⟨q, B, X', hpost, hsteps⟩
  · exact Or.inl ⟨v, vm₁, B, X₁.warmed, X', hpost, fun target h => hstep₁ _ fun acts => by rw [doInvoke_state]; exact hsteps.trans h⟩
  · exact Or.inr ⟨q, vm₁, B, X₁.warmed, X', hpost, hstep₁ _ fun acts => by rw [doInvoke_state]; exact hsteps⟩
end Calls
theorem vx_cls {s : State} {T : State} {vm₁ : Vm} {E : String} {k : ClassId} (hW : s.WarmedH vm₁) (h : (T.setVm vm₁).vm.findClass E = some k) : s.vm.findClass E = some k := by
  have h1 : vm₁.findClass E = some k := h
  rw [hW.alike.findClass] at h1
  exact h1
/-- the method's frame g, with q thrown over it -/
def vx_W (p : Program) (l : Launch) (e : Env) (R : Room) (s : State) (m : MethodId) (args : Array Value) (below : List Frame) (meth : Method) (c : Code) (H : Heap) (locs : List Loc) (cells slots : Nat) (Q : State → Prop) (g : JFrame) (q : Addr) : Prop :=
  ∀ T : State, T.heap = H → Stand p l e R s m args below meth c T locs cells slots → ∃ t, Steps p.tables e below ((T.setTop g).pushFrame (.throwing q)) t ∧ Q t
def vx_Run (p : Program) (l : Launch) (e : Env) (R : Room) (s : State) (m : MethodId) (args : Array Value) (below : List Frame) (meth : Method) (c : Code) (H : Heap) (locs : List Loc) (cells slots mc ms : Nat) (g : JFrame) (rest : List Value) (Qa : State → Outcome → State → Prop) (XC : String → State → State → Prop) (free : Addr → Prop) : Prop :=
  ∀ T : State, T.heap = H → Stand p l e R s m args below meth c T locs cells slots →
    (∃ (v : Option Value) (st₀ t T' : State) (L : List Loc), st₀.heap = H ∧ Stand p l e R s m args below meth c T' (locs ++ L) (cells + mc) (slots + ms) ∧ (∀ q ∈ L, free q.base) ∧ T'.heap = t.heap ∧ T'.vm = t.vm ∧ Qa st₀ (.returned v) t ∧
      Goes p e below T g T' { g with pc := g.pc + 3, stack := v.toList ++ rest }) ∨
    (∃ (q : Addr) (st₀ t T' : State) (L : List Loc) (E : String) (ce : Cell), st₀.heap = H ∧ Stand p l e R s m args below meth c T' (locs ++ L) (cells + mc) (slots + ms) ∧ (∀ z ∈ L, free z.base) ∧ T'.heap = t.heap ∧ T'.vm = t.vm ∧ XC E st₀ t ∧ t.heap[q]? = some ce ∧ ce.vm = .none ∧ s.vm.findClass E = some ce.cls ∧
      Steps p.tables e below (T.setTop g) ((T'.setTop { g with stack := rest }).pushFrame (.throwing q)))
def vx_X {S : Type} (px : S → Prop) (B : String → S → State → Prop) (A : Nat → Prop) : String → State → State → Prop := fun E st t => ∃ u : S, px u ∧ B E u t ∧ va_F A st t
section Runs
variable {p : Program} {l : Launch} {e : Env} {R : Room} {s : State} {m : MethodId} {args : Array Value} {below : List Frame} {meth : Method} {c : Code} {H : Heap} {locs : List Loc} {cells slots : Nat}
variable {y : MethodName} {bytes cc : ByteArray} {maxL nL mc ms n index : Nat} {ret : Option FieldType} {ws : List Cond} {rm : Room} {Pc : Array Value → State → Prop} {Qc : Array Value → State → Outcome → State → Prop} {XC : String → State → State → Prop} {free : Addr → Prop} {Ts : List Cond} {own C : String} {b : Addr} {As rest : List Value} {g : JFrame}
theorem vx_callBack (cb : CallB R s args own index y bytes maxL ret ws rm mc ms n) (hM : vx_Met l y ws rm Pc Qc XC mc ms free) (hbl : FrameBlind Pc) : vx_Back l R p e below s args y 3 8 (PreOf R mc ms Pc) (PostOf Qc mc ms free) (vx_Post XC mc ms free) := by
  obtain ⟨hrc, hrs, hfr, hlo, hws, hcw, -, hini, -⟩ := cb
  exact vx_back (bytes := bytes) (maxL := maxL) (ret := ret) hM hbl hrc hrs hfr hlo hws hcw (fun a' U hW => word_at hW (Or.inl (by first | rfl | simp [Cond.onTables, Cond.keeps, Cond.steady])) hini)
theorem vx_runV (S : CallFix p m c cc nL s args Ts own) (hM : vx_Met l y ws rm Pc Qc XC mc ms free) (cw : CallW R s args own C index y bytes maxL ret ws rm mc ms n) (hp : PreV s H C b Pc As)
    (hg : g.method = m) (hn : As.length = n) (hsize : g.locals.size = nL) (hstack : g.stack = As.reverse ++ .ref b :: rest) (hW : 2 * g.monitorRoom + (rest.map fun v => v.category).sum ≤ 8) (hdg : decode cc g.pc = .ok (.invokevirtual index, 3)) (hf : cells + mc ≤ R.cells ∧ slots + ms ≤ R.slots) :
    vx_Run p l e R s m args below meth c H locs cells slots mc ms g rest (Qc (Value.ref b :: As).toArray) XC free := by
  have hK : vx_Back l R p e below s args y 3 8 (PreOf R mc ms Pc) (PostOf Qc mc ms free) (vx_Post XC mc ms free) := vx_callBack cw.1 hM hp.1
  obtain ⟨⟨-, -, -, -, -, -, hcode, -, hy, hlen, hl⟩, hin, hse⟩ := cw
  obtain ⟨hx, hb, hml, ho, -⟩ := S
  obtain ⟨-, ⟨cellB, hcB, hoB, hclB⟩, hPc⟩ := hp
  intro T hT X
  rcases vx_callV X hx (C := C) (bytes := bytes) (maxL := maxL) (ret := ret) ho hl hin hse hcode hy hK (by rw [hT]; exact hcB) hoB hclB hg (hsize.trans hml.symm) (argsL := As) (rest := rest) (fun sig h => hn.trans (hlen sig h)) hstack hW (by rw [hb]; exact hdg)
    (fun vm₁ hW₁ => ⟨hf.1, hf.2, hPc (T.setVm vm₁) hT hW₁⟩) with ⟨v, vm₁, ⟨U', l2, c2, s2⟩, hW₁, X', ⟨g', mk, t, L, e1, e2, hq, h1, hL, h2, h3⟩, st⟩ | ⟨q, vm₁, ⟨U', l2, c2, s2⟩, hW₁, X', ⟨g', mk, t, L, E, ce, e1, e2, hq, hce, hcv, hcl, h1, hL, h2, h3⟩, st⟩
  · dsimp only [Pt.U, Pt.locs, Pt.cells, Pt.slots] at X' e1 e2 h1 h2 h3 st
    subst h1; subst h2; subst h3
    exact Or.inl ⟨v, (T.setVm vm₁).calling g' mk (Value.ref b :: As).toArray, t, U', L, hT, X', hL, e1, e2, hq, st⟩
  · dsimp only [Pt.U, Pt.locs, Pt.cells, Pt.slots] at X' e1 e2 h1 h2 h3 st hcl
    subst h1; subst h2; subst h3
    exact Or.inr ⟨q, (T.setVm vm₁).calling g' mk (Value.ref b :: As).toArray, t, U', L, E, ce, hT, X', hL, e1, e2, hq, hce, hcv, vx_cls hW₁ hcl, st⟩
theorem vx_runS (S : CallFix p m c cc nL s args Ts own) (hM : vx_Met l y ws rm Pc Qc XC mc ms free) (cw : CallB R s args own index y bytes maxL ret ws rm mc ms n ∧ (Cond.static y).before args s = true) (hp : PreS s H Pc As)
    (hg : g.method = m) (hn : As.length = n) (hsize : g.locals.size = nL) (hstack : g.stack = As.reverse ++ rest) (hW : 2 * g.monitorRoom + (rest.map fun v => v.category).sum ≤ 8) (hdg : decode cc g.pc = .ok (.invokestatic index, 3)) (hf : cells + mc ≤ R.cells ∧ slots + ms ≤ R.slots) :
    vx_Run p l e R s m args below meth c H locs cells slots mc ms g rest (Qc As.toArray) XC free := by
  have hK : vx_Back l R p e below s args y 3 8 (PreOf R mc ms Pc) (PostOf Qc mc ms free) (vx_Post XC mc ms free) := vx_callBack cw.1 hM hp.1
  obtain ⟨⟨-, -, -, -, -, -, hcode, hini, hy, hlen, hl⟩, hstt⟩ := cw
  obtain ⟨hx, hb, hml, ho, -⟩ := S
  intro T hT X
  rcases vx_callS X hx (bytes := bytes) (maxL := maxL) (ret := ret) ho hl hstt hini hcode hy hK hg (hsize.trans hml.symm) (argsL := As) (rest := rest) (fun sig h => hn.trans (hlen sig h)) hstack hW (by rw [hb]; exact hdg)
    (fun vm₁ hW₁ => ⟨hf.1, hf.2, hp.2 (T.setVm vm₁) hT hW₁⟩) with ⟨v, vm₁, ⟨U', l2, c2, s2⟩, hW₁, X', ⟨g', mk, t, L, e1, e2, hq, h1, hL, h2, h3⟩, st⟩ | ⟨q, vm₁, ⟨U', l2, c2, s2⟩, hW₁, X', ⟨g', mk, t, L, E, ce, e1, e2, hq, hce, hcv, hcl, h1, hL, h2, h3⟩, st⟩
  · dsimp only [Pt.U, Pt.locs, Pt.cells, Pt.slots] at X' e1 e2 h1 h2 h3 st
    subst h1; subst h2; subst h3
    exact Or.inl ⟨v, (T.setVm vm₁).calling g' mk As.toArray, t, U', L, hT, X', hL, e1, e2, hq, st⟩
  · dsimp only [Pt.U, Pt.locs, Pt.cells, Pt.slots] at X' e1 e2 h1 h2 h3 st hcl
    subst h1; subst h2; subst h3
    exact Or.inr ⟨q, (T.setVm vm₁).calling g' mk As.toArray, t, U', L, E, ce, hT, X', hL, e1, e2, hq, hce, hcv, vx_cls hW₁ hcl, st⟩
end Runs
section Rows
variable {p : Program} {l : Launch} {e : Env} {R : Room} {s : State} {m : MethodId} {args : Array Value} {below : List Frame} {meth : Method} {c : Code} {H : Heap} {locs : List Loc} {cells slots : Nat} {Q : State → Prop}
variable {mc ms : Nat} {free : Addr → Prop} {A0 A1 : Nat → Prop} {H0 : Heap} {a : Array Value} {pc : Nat} {ls : Array Slot} {st0 rest : List Value}
theorem vx_keep {st₀ t T' : State} {L : List Loc} (h0 : st₀.heap = H) (e1 : T'.heap = t.heap) (hS : va_S A0 H0 H locs) (hA : ∀ q, q < H.size → A1 q → A0 q) (hf : ∀ q, free q → A0 q) (hL : ∀ q ∈ L, free q.base) (hF : va_F A1 st₀ t) :
    H.size ≤ T'.heap.size ∧ (∀ q : Nat, q < H.size → ¬ A1 q → T'.heap[q]? = H[q]?) ∧ va_S A0 H0 T'.heap (locs ++ L) := by
  obtain ⟨hz, hk⟩ := hF
  rw [h0] at hz hk
  exact ⟨by rw [e1]; exact hz, fun q h1 h2 => by rw [e1]; exact hk q h1 h2,
    ⟨Nat.le_trans hS.1 (by rw [e1]; exact hz), fun q h1 h2 => by rw [e1, hk q (Nat.lt_of_lt_of_le h1 hS.1) (fun z => h2 (hA q (Nat.lt_of_lt_of_le h1 hS.1) z))]; exact hS.2.1 q h1 h2, fun q hq => by
      rcases List.mem_append.mp hq with h | h
      · exact hS.2.2 q h
      · exact hf _ (hL q h)⟩⟩
theorem vx_calli {S SX : Type} {post : Int32 → S → Prop} {px : SX → Prop} {B : S → State → Prop} {BX : String → SX → State → Prop} {AX : Nat → Prop} (hr : vx_Run p l e R s m args below meth c H locs cells slots mc ms (F0 m pc ls st0) rest (va_Qi post B A1 a) (vx_X px BX AX) free) (hS : va_S A0 H0 H locs) (hA : ∀ q, q < H.size → A1 q → A0 q) (hf : ∀ q, free q → A0 q) (hAX : ∀ q, q < H.size → AX q → A0 q)
    (kx : ∀ (E : String) (ce : Cell) (q9 : Addr) (u : SX) (t : State) (H1 : Heap) (locs1 : List Loc), t.heap = H1 → s.vm.Alike t.vm → px u → BX E u t → H.size ≤ H1.size → (∀ q : Nat, q < H.size → ¬ AX q → H1[q]? = H[q]?) → va_S A0 H0 H1 locs1 → H1[q9]? = some ce → ce.vm = .none → s.vm.findClass E = some ce.cls → vx_W p l e R s m args below meth c H1 locs1 (cells + mc) (slots + ms) Q (F0 m pc ls rest) q9)
    (kk : ∀ (r : Int32) (u : S) (t : State) (H1 : Heap) (locs1 : List Loc), t.heap = H1 → s.vm.Alike t.vm → post r u → B u t → H.size ≤ H1.size → (∀ q : Nat, q < H.size → ¬ A1 q → H1[q]? = H[q]?) → va_S A0 H0 H1 locs1 → W p l e R s m args below meth c H1 locs1 (cells + mc) (slots + ms) Q (F0 m (pc + 3) ls (.int r :: rest))) : W p l e R s m args below meth c H locs cells slots Q (F0 m pc ls st0) := by
  intro T hT X
  rcases hr T hT X with ⟨v, st₀, t, T', L, h0, X', hL, e1, e2, ⟨⟨r, u, hv, hp, hb⟩, hF⟩, st⟩ | ⟨q, st₀, t, T', L, E, ce, h0, X', hL, e1, e2, ⟨u, hp, hb, hF⟩, hce, hcv, hcl, st⟩
  · cases hv
    obtain ⟨k1, k2, k3⟩ := vx_keep h0 e1 hS hA hf hL hF
    obtain ⟨t2, a1, b1⟩ := kk r u t T'.heap (locs ++ L) e1.symm (by rw [← e2]; exact X'.warmed.alike) hp hb k1 k2 k3 T' rfl X'
    exact ⟨t2, st t2 a1, b1⟩
  · obtain ⟨k1, k2, k3⟩ := vx_keep h0 e1 hS hAX hf hL hF
    obtain ⟨t2, a1, b1⟩ := kx E ce q u t T'.heap (locs ++ L) e1.symm (by rw [← e2]; exact X'.warmed.alike) hp hb k1 k2 k3 (by rw [e1]; exact hce) hcv hcl T' rfl X'
    exact ⟨t2, st.trans a1, b1⟩
theorem vx_calll {S SX : Type} {post : Int64 → S → Prop} {px : SX → Prop} {B : S → State → Prop} {BX : String → SX → State → Prop} {AX : Nat → Prop} (hr : vx_Run p l e R s m args below meth c H locs cells slots mc ms (F0 m pc ls st0) rest (va_Ql post B A1 a) (vx_X px BX AX) free) (hS : va_S A0 H0 H locs) (hA : ∀ q, q < H.size → A1 q → A0 q) (hf : ∀ q, free q → A0 q) (hAX : ∀ q, q < H.size → AX q → A0 q)
    (kx : ∀ (E : String) (ce : Cell) (q9 : Addr) (u : SX) (t : State) (H1 : Heap) (locs1 : List Loc), t.heap = H1 → s.vm.Alike t.vm → px u → BX E u t → H.size ≤ H1.size → (∀ q : Nat, q < H.size → ¬ AX q → H1[q]? = H[q]?) → va_S A0 H0 H1 locs1 → H1[q9]? = some ce → ce.vm = .none → s.vm.findClass E = some ce.cls → vx_W p l e R s m args below meth c H1 locs1 (cells + mc) (slots + ms) Q (F0 m pc ls rest) q9)
    (kk : ∀ (r : Int64) (u : S) (t : State) (H1 : Heap) (locs1 : List Loc), t.heap = H1 → s.vm.Alike t.vm → post r u → B u t → H.size ≤ H1.size → (∀ q : Nat, q < H.size → ¬ A1 q → H1[q]? = H[q]?) → va_S A0 H0 H1 locs1 → W p l e R s m args below meth c H1 locs1 (cells + mc) (slots + ms) Q (F0 m (pc + 3) ls (.long r :: rest))) : W p l e R s m args below meth c H locs cells slots Q (F0 m pc ls st0) := by
  intro T hT X
  rcases hr T hT X with ⟨v, st₀, t, T', L, h0, X', hL, e1, e2, ⟨⟨r, u, hv, hp, hb⟩, hF⟩, st⟩ | ⟨q, st₀, t, T', L, E, ce, h0, X', hL, e1, e2, ⟨u, hp, hb, hF⟩, hce, hcv, hcl, st⟩
  · cases hv
    obtain ⟨k1, k2, k3⟩ := vx_keep h0 e1 hS hA hf hL hF
    obtain ⟨t2, a1, b1⟩ := kk r u t T'.heap (locs ++ L) e1.symm (by rw [← e2]; exact X'.warmed.alike) hp hb k1 k2 k3 T' rfl X'
    exact ⟨t2, st t2 a1, b1⟩
  · obtain ⟨k1, k2, k3⟩ := vx_keep h0 e1 hS hAX hf hL hF
    obtain ⟨t2, a1, b1⟩ := kx E ce q u t T'.heap (locs ++ L) e1.symm (by rw [← e2]; exact X'.warmed.alike) hp hb k1 k2 k3 (by rw [e1]; exact hce) hcv hcl T' rfl X'
    exact ⟨t2, st.trans a1, b1⟩
theorem vx_callf {S SX : Type} {post : UInt32 → S → Prop} {px : SX → Prop} {B : S → State → Prop} {BX : String → SX → State → Prop} {AX : Nat → Prop} (hr : vx_Run p l e R s m args below meth c H locs cells slots mc ms (F0 m pc ls st0) rest (va_Qf post B A1 a) (vx_X px BX AX) free) (hS : va_S A0 H0 H locs) (hA : ∀ q, q < H.size → A1 q → A0 q) (hf : ∀ q, free q → A0 q) (hAX : ∀ q, q < H.size → AX q → A0 q)
    (kx : ∀ (E : String) (ce : Cell) (q9 : Addr) (u : SX) (t : State) (H1 : Heap) (locs1 : List Loc), t.heap = H1 → s.vm.Alike t.vm → px u → BX E u t → H.size ≤ H1.size → (∀ q : Nat, q < H.size → ¬ AX q → H1[q]? = H[q]?) → va_S A0 H0 H1 locs1 → H1[q9]? = some ce → ce.vm = .none → s.vm.findClass E = some ce.cls → vx_W p l e R s m args below meth c H1 locs1 (cells + mc) (slots + ms) Q (F0 m pc ls rest) q9)
    (kk : ∀ (r : UInt32) (u : S) (t : State) (H1 : Heap) (locs1 : List Loc), t.heap = H1 → s.vm.Alike t.vm → post r u → B u t → H.size ≤ H1.size → (∀ q : Nat, q < H.size → ¬ A1 q → H1[q]? = H[q]?) → va_S A0 H0 H1 locs1 → W p l e R s m args below meth c H1 locs1 (cells + mc) (slots + ms) Q (F0 m (pc + 3) ls (.float r :: rest))) : W p l e R s m args below meth c H locs cells slots Q (F0 m pc ls st0) := by
  intro T hT X
  rcases hr T hT X with ⟨v, st₀, t, T', L, h0, X', hL, e1, e2, ⟨⟨r, u, hv, hp, hb⟩, hF⟩, st⟩ | ⟨q, st₀, t, T', L, E, ce, h0, X', hL, e1, e2, ⟨u, hp, hb, hF⟩, hce, hcv, hcl, st⟩
  · cases hv
    obtain ⟨k1, k2, k3⟩ := vx_keep h0 e1 hS hA hf hL hF
    obtain ⟨t2, a1, b1⟩ := kk r u t T'.heap (locs ++ L) e1.symm (by rw [← e2]; exact X'.warmed.alike) hp hb k1 k2 k3 T' rfl X'
    exact ⟨t2, st t2 a1, b1⟩
  · obtain ⟨k1, k2, k3⟩ := vx_keep h0 e1 hS hAX hf hL hF
    obtain ⟨t2, a1, b1⟩ := kx E ce q u t T'.heap (locs ++ L) e1.symm (by rw [← e2]; exact X'.warmed.alike) hp hb k1 k2 k3 (by rw [e1]; exact hce) hcv hcl T' rfl X'
    exact ⟨t2, st.trans a1, b1⟩
theorem vx_calld {S SX : Type} {post : UInt64 → S → Prop} {px : SX → Prop} {B : S → State → Prop} {BX : String → SX → State → Prop} {AX : Nat → Prop} (hr : vx_Run p l e R s m args below meth c H locs cells slots mc ms (F0 m pc ls st0) rest (va_Qd post B A1 a) (vx_X px BX AX) free) (hS : va_S A0 H0 H locs) (hA : ∀ q, q < H.size → A1 q → A0 q) (hf : ∀ q, free q → A0 q) (hAX : ∀ q, q < H.size → AX q → A0 q)
    (kx : ∀ (E : String) (ce : Cell) (q9 : Addr) (u : SX) (t : State) (H1 : Heap) (locs1 : List Loc), t.heap = H1 → s.vm.Alike t.vm → px u → BX E u t → H.size ≤ H1.size → (∀ q : Nat, q < H.size → ¬ AX q → H1[q]? = H[q]?) → va_S A0 H0 H1 locs1 → H1[q9]? = some ce → ce.vm = .none → s.vm.findClass E = some ce.cls → vx_W p l e R s m args below meth c H1 locs1 (cells + mc) (slots + ms) Q (F0 m pc ls rest) q9)
    (kk : ∀ (r : UInt64) (u : S) (t : State) (H1 : Heap) (locs1 : List Loc), t.heap = H1 → s.vm.Alike t.vm → post r u → B u t → H.size ≤ H1.size → (∀ q : Nat, q < H.size → ¬ A1 q → H1[q]? = H[q]?) → va_S A0 H0 H1 locs1 → W p l e R s m args below meth c H1 locs1 (cells + mc) (slots + ms) Q (F0 m (pc + 3) ls (.double r :: rest))) : W p l e R s m args below meth c H locs cells slots Q (F0 m pc ls st0) := by
  intro T hT X
  rcases hr T hT X with ⟨v, st₀, t, T', L, h0, X', hL, e1, e2, ⟨⟨r, u, hv, hp, hb⟩, hF⟩, st⟩ | ⟨q, st₀, t, T', L, E, ce, h0, X', hL, e1, e2, ⟨u, hp, hb, hF⟩, hce, hcv, hcl, st⟩
  · cases hv
    obtain ⟨k1, k2, k3⟩ := vx_keep h0 e1 hS hA hf hL hF
    obtain ⟨t2, a1, b1⟩ := kk r u t T'.heap (locs ++ L) e1.symm (by rw [← e2]; exact X'.warmed.alike) hp hb k1 k2 k3 T' rfl X'
    exact ⟨t2, st t2 a1, b1⟩
  · obtain ⟨k1, k2, k3⟩ := vx_keep h0 e1 hS hAX hf hL hF
    obtain ⟨t2, a1, b1⟩ := kx E ce q u t T'.heap (locs ++ L) e1.symm (by rw [← e2]; exact X'.warmed.alike) hp hb k1 k2 k3 (by rw [e1]; exact hce) hcv hcl T' rfl X'
    exact ⟨t2, st.trans a1, b1⟩
theorem vx_callv {S SX : Type} {post : S → Prop} {px : SX → Prop} {B : S → State → Prop} {BX : String → SX → State → Prop} {AX : Nat → Prop} (hr : vx_Run p l e R s m args below meth c H locs cells slots mc ms (F0 m pc ls st0) rest (va_Qv post B A1 a) (vx_X px BX AX) free) (hS : va_S A0 H0 H locs) (hA : ∀ q, q < H.size → A1 q → A0 q) (hf : ∀ q, free q → A0 q) (hAX : ∀ q, q < H.size → AX q → A0 q)
    (kx : ∀ (E : String) (ce : Cell) (q9 : Addr) (u : SX) (t : State) (H1 : Heap) (locs1 : List Loc), t.heap = H1 → s.vm.Alike t.vm → px u → BX E u t → H.size ≤ H1.size → (∀ q : Nat, q < H.size → ¬ AX q → H1[q]? = H[q]?) → va_S A0 H0 H1 locs1 → H1[q9]? = some ce → ce.vm = .none → s.vm.findClass E = some ce.cls → vx_W p l e R s m args below meth c H1 locs1 (cells + mc) (slots + ms) Q (F0 m pc ls rest) q9)
    (kk : ∀ (u : S) (t : State) (H1 : Heap) (locs1 : List Loc), t.heap = H1 → s.vm.Alike t.vm → post u → B u t → H.size ≤ H1.size → (∀ q : Nat, q < H.size → ¬ A1 q → H1[q]? = H[q]?) → va_S A0 H0 H1 locs1 → W p l e R s m args below meth c H1 locs1 (cells + mc) (slots + ms) Q (F0 m (pc + 3) ls (rest))) : W p l e R s m args below meth c H locs cells slots Q (F0 m pc ls st0) := by
  intro T hT X
  rcases hr T hT X with ⟨v, st₀, t, T', L, h0, X', hL, e1, e2, ⟨⟨u, hv, hp, hb⟩, hF⟩, st⟩ | ⟨q, st₀, t, T', L, E, ce, h0, X', hL, e1, e2, ⟨u, hp, hb, hF⟩, hce, hcv, hcl, st⟩
  · cases hv
    obtain ⟨k1, k2, k3⟩ := vx_keep h0 e1 hS hA hf hL hF
    obtain ⟨t2, a1, b1⟩ := kk u t T'.heap (locs ++ L) e1.symm (by rw [← e2]; exact X'.warmed.alike) hp hb k1 k2 k3 T' rfl X'
    exact ⟨t2, st t2 a1, b1⟩
  · obtain ⟨k1, k2, k3⟩ := vx_keep h0 e1 hS hAX hf hL hF
    obtain ⟨t2, a1, b1⟩ := kx E ce q u t T'.heap (locs ++ L) e1.symm (by rw [← e2]; exact X'.warmed.alike) hp hb k1 k2 k3 (by rw [e1]; exact hce) hcv hcl T' rfl X'
    exact ⟨t2, st.trans a1, b1⟩
/-- caught by the row x of this method's table; the rows ahead don't take it -/
theorem vx_catch {own name : String} {E : String} {ce : Cell} {q : Addr} (hown : s.vm.findClass own = some m.cls) (pre : List ExceptionTableEntry) (x : ExceptionTableEntry) (suf : List ExceptionTableEntry) (hsplit : c.exceptionTable.toList = pre ++ x :: suf)
    (hpass : ∀ z ∈ pre, covers z pc = false ∨ (z.catchType ≠ 0 ∧ ∃ nm : String, (Cond.classLink own z.catchType nm).before args s = true ∧ va_Nc E nm s)) (hx : covers x pc = true) (h0 : x.catchType ≠ 0)
    (hlink : (Cond.classLink own x.catchType name).before args s = true) (hcast : (Cond.castable E name).before args s = true) (hcell : H[q]? = some ce) (hv : ce.vm = .none) (hcl : s.vm.findClass E = some ce.cls)
    (kk : W p l e R s m args below meth c H locs cells slots Q (F0 m x.handlerPc ls [.ref q])) : vx_W p l e R s m args below meth c H locs cells slots Q (F0 m pc ls rest) q := by
  intro T hT X
  have hpl : e.platform.magicAccessors = ({} : Platform).magicAccessors := by rw [X.admits.platform]
  obtain ⟨c3, c4, hc3, hc4, hasg⟩ := Cond.castable_spec hcast
  cases Option.some.inj (hc3.symm.trans hcl)
  obtain ⟨c5, hc5, hcl5⟩ := Cond.classLink_spec hown hlink e.platform hpl
  cases Option.some.inj (hc4.symm.trans hc5)
  obtain ⟨vm', X', st⟩ := X.thenCaughtThrough q (g := F0 m pc ls rest) rfl (Steps.refl _) (by rw [hT]; exact hcell) (by rw [hv]; rfl) (by obtain ⟨k9, h9, -⟩ := Vm.findClass_spec hcl; exact ⟨k9, h9⟩) pre x suf hsplit
    (fun z hz => by
      rcases hpass z hz with h | ⟨hz0, nm, hl1, hn1⟩
      · exact Or.inl h
      · obtain ⟨c6, hc6, hcl6⟩ := Cond.classLink_spec hown hl1 e.platform hpl
        obtain ⟨a8, b8, h1, h2, h3⟩ := hn1
        cases Option.some.inj (h1.symm.trans hcl)
        cases Option.some.inj (h2.symm.trans hc6)
        exact Or.inr ⟨hz0, _, hcl6, h3⟩) hx (Or.inr ⟨h0, c4, hcl5, hasg⟩)
  obtain ⟨t, a1, b1⟩ := kk (T.setVm vm') hT X'
  exact ⟨t, st.trans a1, b1⟩
end Rows
section Ends
variable {p : Program} {l : Launch} {e : Env} {R : Room} {s : State} {m : MethodId} {args : Array Value} {below : List Frame} {meth : Method} {c : Code} {H : Heap} {locs : List Loc} {cells slots : Nat} {Q : State → Prop}
variable {mc ms : Nat} {free : Addr → Prop} {A0 A1 : Nat → Prop} {H0 : Heap} {a : Array Value} {ls : Array Slot} {st0 rest : List Value}
variable {Qc : Array Value → State → Outcome → State → Prop} {XC : String → State → State → Prop}
/-- what a body that may throw owes at its end -/
def vx_MQ (below : List Frame) (Qc : Array Value → State → Outcome → State → Prop) (XC : String → State → State → Prop) (a : Array Value) (s : State) (mc ms : Nat) (free : Addr → Prop) : State → Prop := fun t =>
  ∃ o, t.status = .running ∧ Ended t below o ∧ vx_Q Qc XC mc ms free a s o t
theorem vx_ret {g : JFrame} {mc ms : Nat} (k : W p l e R s m args below meth c H locs cells slots (MQ below Qc args s mc ms free) g) : W p l e R s m args below meth c H locs cells slots (vx_MQ below Qc XC args s mc ms free) g := by
  intro T hT X
  obtain ⟨t, a1, o, b1, b2, b3, b4⟩ := k T hT X
  exact ⟨t, a1, o, b1, b2, Or.inl ⟨b3, b4⟩⟩
/-- not caught here: it goes on to the caller -/
theorem vx_widen {g : JFrame} {q : Addr} {k n : Nat} (h1 : cells ≤ k) (h2 : slots ≤ n) (kk : vx_W p l e R s m args below meth c H locs k n Q g q) : vx_W p l e R s m args below meth c H locs cells slots Q g q := fun T hT X => kk T hT (stand_widen X h1 h2)
theorem vx_out {pc : Nat} {E : String} {ce : Cell} {q : Addr} {mc ms : Nat} (hout : ∀ x ∈ c.exceptionTable.toList, covers x pc = false) (hlocks : meth.locks = false) (hcell : H[q]? = some ce) (hv : ce.vm = .none) (hcl : s.vm.findClass E = some ce.cls)
    (hx : ∀ t : State, t.heap = H → s.vm.Alike t.vm → XC E s t) (hf : ∀ z ∈ locs, free z.base) (hc : cells ≤ mc) (hs : slots ≤ ms) :
    vx_W p l e R s m args below meth c H locs cells slots (vx_MQ below Qc XC args s mc ms free) (F0 m pc ls rest) q := by
  intro T hT X
  obtain ⟨st1, hrun, hend, hW, hsm⟩ := X.leaveThrown q (g := F0 m pc ls rest) rfl rfl rfl hout hlocks
  have hcell9 : (T.setFrames (.throwing q :: below)).heap[q]? = some ce := by
    show T.heap[q]? = some ce
    rw [hT]; exact hcell
  exact ⟨_, st1, .threw q, hrun, hend, Or.inr ⟨q, rfl, E, ce, locs, hx _ hT hW.alike, hcell9, hv, hcl, hW, hsm.mono hc hs, hf⟩⟩
theorem vx_frame {U : State} {k n : Nat} (h : s.sameButNew ({ U with vm := s.vm } : State) locs k n) : s.heap.size ≤ U.heap.size ∧ ∀ q : Nat, q < s.heap.size → (∀ z ∈ locs, z.base ≠ q) → U.heap[q]? = s.heap[q]? := by
  obtain ⟨-, h2, -, -, -, h6⟩ := h
  refine ⟨h2, fun q hq hz => ?_⟩
  obtain ⟨c9, e1, e2, e3, e4⟩ := h6 q _ (Array.getElem?_eq_getElem hq)
  have hs : c9.slots = (s.heap[q]).slots := Array.ext_getElem? fun i => e4 i fun hm => hz _ hm rfl
  have h9 : c9 = s.heap[q] := by
    rw [hs] at e2
    exact e2
  have e5 : U.heap[q]? = some c9 := e1
  rw [e5, h9, Array.getElem?_eq_getElem hq]
/-- the words of a throw but the four that speak of the heap -/
def vx_no (w : Cond) : Bool := decide (w ≠ .isRef (.static Bundle.tN "UNASSIGNED_STACK" Bundle.steD)) && decide (w ≠ .isRef (.static Bundle.tN "SUPPRESSED_SENTINEL" Bundle.listD)) && decide (w ≠ .laysStatic Bundle.tN "UNASSIGNED_STACK" Bundle.steD) && decide (w ≠ .laysStatic Bundle.tN "SUPPRESSED_SENTINEL" Bundle.listD)
def vx_at0 (own : String) (ic : Nat) (X : String) (names : List String) : List Cond := (Bundle.ownAtoms0 own ic X names).filter vx_no
def vx_atS (own : String) (ic : Nat) (X : String) (names : List String) : List Cond := (Bundle.ownAtoms own ic X names).filter vx_no
/-- a word that the tables alone decide, or a good one -/
def vx_ot (w : Cond) : Bool := w.onTables || goodWord w
theorem vx_ot_at {args a' : Array Value} {s U : State} {w : Cond} (hW : s.WarmedH U.vm) (hvm : s.vm = U.vm) (hg : vx_ot w = true) (h : w.before args s = true) : w.before a' U = true := by
  simp only [vx_ot, Bool.or_eq_true] at hg
  rcases hg with hg | hg
  · exact va_tabs hg hvm h
  · exact word_at hW (good_of_word hg) h
/-- a list's words: the good ones out of the method's own list, the others by premises of their own -/
theorem vx_hat {args : Array Value} {s : State} {L B : List Cond} (h1 : ∀ w ∈ L.filter goodWord, w.before args s = true) (h2 : ∀ w ∈ L.filter (fun w => !goodWord w), w ∈ B) (h3 : ∀ w ∈ B, w.before args s = true) : ∀ w ∈ L, w.before args s = true := by
  intro w hw
  by_cases g : goodWord w = true
  · exact h1 w (List.mem_filter.mpr ⟨hw, g⟩)
  · refine h3 w (h2 w (List.mem_filter.mpr ⟨hw, ?_⟩))
    show (!goodWord w) = true
    cases hgw : goodWord w
    · rfl
    · exact absurd hgw g
theorem vx_c {args : Array Value} {s : State} {w : Cond} {B : List Cond} (h : w.before args s = true) (t : ∀ w ∈ B, w.before args s = true) : ∀ w' ∈ w :: B, w'.before args s = true := fun w' h' => (List.mem_cons.mp h').elim (fun e => by rw [e]; exact h) (t w')
theorem vx_n {args : Array Value} {s : State} : ∀ w ∈ ([] : List Cond), w.before args s = true := fun _ h => nomatch h
theorem vx_own {args : Array Value} {s : State} {L : List Cond} (h1 : ∀ w ∈ L.filter vx_no, w.before args s = true)
    (hU : (Cond.isRef (.static Bundle.tN "UNASSIGNED_STACK" Bundle.steD)).before args s = true) (hN : (Cond.isRef (.static Bundle.tN "SUPPRESSED_SENTINEL" Bundle.listD)).before args s = true)
    (lU : (Cond.laysStatic Bundle.tN "UNASSIGNED_STACK" Bundle.steD).before args s = true) (lN : (Cond.laysStatic Bundle.tN "SUPPRESSED_SENTINEL" Bundle.listD).before args s = true) : ∀ w ∈ L, w.before args s = true := by
  intro w hw
  by_cases e1 : w = .isRef (.static Bundle.tN "UNASSIGNED_STACK" Bundle.steD)
  · rw [e1]; exact hU
  · by_cases e2 : w = .isRef (.static Bundle.tN "SUPPRESSED_SENTINEL" Bundle.listD)
    · rw [e2]; exact hN
    · by_cases e3 : w = .laysStatic Bundle.tN "UNASSIGNED_STACK" Bundle.steD
      · rw [e3]; exact lU
      · by_cases e4 : w = .laysStatic Bundle.tN "SUPPRESSED_SENTINEL" Bundle.listD
        · rw [e4]; exact lN
        · exact h1 w (List.mem_filter.mpr ⟨hw, by unfold vx_no; rw [decide_eq_true e1, decide_eq_true e2, decide_eq_true e3, decide_eq_true e4]; rfl⟩)
/-- where a static field lies, its class's statics cell in H -/
def vx_L (C n d : String) (A : Nat → Prop) (U : State) (H : Heap) : Prop := ∃ (c : ClassId) (k : Class) (i : Nat) (f : Field) (a : Nat) (cell : Cell), U.vm.findClass C = some c ∧ U.fieldFound? C n d = some (c, k, i, f) ∧ f.isStatic = true ∧ k.statics = some a ∧ H[a]? = some cell ∧ cell.vm.isStatics = true ∧ cell.cls = c ∧ f.slot < cell.slots.size ∧ k.staticTypes[f.slot]? = some f.type ∧ ¬ A a
theorem vx_L.moved {C n d : String} {A : Nat → Prop} {u U : State} {H : Heap} (hvm : u.vm.Alike U.vm) (h : vx_L C n d A u H) : vx_L C n d A U H := by
  obtain ⟨c, k, i, f, a, cell, h1, h2, h3, h4, h5, h6, h7, h8, h9, h10⟩ := h
  obtain ⟨k', hi', he⟩ := State.fieldFound?_setVm hvm h2
  exact ⟨c, k', i, f, a, cell, by rw [hvm.findClass]; exact h1, hi', h3, by rw [he]; exact h4, h5, h6, h7, h8, by rw [he]; exact h9, h10⟩
theorem vx_L.kept {C n d : String} {A : Nat → Prop} {U : State} {H H1 : Heap} (h : vx_L C n d A U H) (hq : ∀ a : Nat, a < H.size → ¬ A a → H1[a]? = H[a]?) : vx_L C n d A U H1 := by
  obtain ⟨c, k, i, f, a, cell, h1, h2, h3, h4, h5, h6, h7, h8, h9, h10⟩ := h
  exact ⟨c, k, i, f, a, cell, h1, h2, h3, h4, by rw [hq a (Array.getElem?_eq_some_iff.mp h5).1 h10]; exact h5, h6, h7, h8, h9, h10⟩
theorem vx_L.narrow {C n d : String} {A B : Nat → Prop} {U : State} {H : Heap} (h : vx_L C n d A U H) (hAB : ∀ q, B q → A q) : vx_L C n d B U H := by
  obtain ⟨c, k, i, f, a, cell, h1, h2, h3, h4, h5, h6, h7, h8, h9, h10⟩ := h
  exact ⟨c, k, i, f, a, cell, h1, h2, h3, h4, h5, h6, h7, h8, h9, fun z => h10 (hAB _ z)⟩
theorem vx_L.word {C n d : String} {A : Nat → Prop} {s : State} {args : Array Value} (h : vx_L C n d A s s.heap) : (Cond.laysStatic C n d).before args s = true := by
  obtain ⟨c, k, i, f, a, cell, h1, h2, h3, h4, h5, h6, h7, h8, h9, -⟩ := h
  show (Cond.laysStatic C n d).holds args s none s [] = true
  exact Cond.laysStatic_of h1 h2 h3 h4 h5 h6 h7 h8 h9
/-- .. and what it holds: null or some reference -/
def vx_Zq (C n d : String) (A : Nat → Prop) (U : State) (H : Heap) : Prop := va_Zq C n d A U H ∧ vx_L C n d A U H
theorem vx_Zq.moved {C n d : String} {A : Nat → Prop} {u U : State} {H : Heap} (hvm : u.vm.Alike U.vm) (h : vx_Zq C n d A u H) : vx_Zq C n d A U H := ⟨va_Zq.moved hvm h.1, vx_L.moved hvm h.2⟩
theorem vx_Zq.kept {C n d : String} {A : Nat → Prop} {U : State} {H H1 : Heap} (h : vx_Zq C n d A U H) (hq : ∀ a : Nat, a < H.size → ¬ A a → H1[a]? = H[a]?) : vx_Zq C n d A U H1 := ⟨va_Zq.kept h.1 hq, vx_L.kept h.2 hq⟩
theorem vx_Zq.narrow {C n d : String} {A B : Nat → Prop} {U : State} {H : Heap} (h : vx_Zq C n d A U H) (hAB : ∀ q, B q → A q) : vx_Zq C n d B U H := ⟨va_Zq.narrow h.1 hAB, vx_L.narrow h.2 hAB⟩
theorem vx_Zqof {args : Array Value} {s : State} {C n d : String} {A : Nat → Prop} (hl : (Cond.laysStatic C n d).before args s = true) (hini : (Cond.initialized C).before args s = true) (h : (Cond.isRef (.static C n d)).before args s = true) (hA : ∀ a : Nat, a < s.heap.size → ¬ A a) : vx_Zq C n d A s s.heap := by
  refine ⟨va_Zqof hl hini h hA, ?_⟩
  obtain ⟨c, k, i, f, a, cell, h1, h2, h3, h4, h5, h6, h7, h8, h9⟩ := Cond.laysStatic_spec hl
  exact ⟨c, k, i, f, a, cell, h1, h2, h3, h4, h5, h6, h7, h8, h9, hA a (Array.getElem?_eq_some_iff.mp h5).1⟩
theorem vx_isRef {C n d : String} {v : Value} {A : Nat → Prop} {s : State} {args : Array Value} (h : va_Z C n d v A s s.heap) (hv : v.isRef = true) : (Cond.isRef (.static C n d)).before args s = true := by
  obtain ⟨cf, kf, fi, f, a, cell, h1, h2, h3, h4, h5, h6, h7, -⟩ := h
  have he : (Term.static C n d).eval args s none [] s = some v := by
    simp [Term.eval, State.fieldNamed?, h1, h2, h4, h5, h6, h7]
  simp only [Cond.before, Cond.holds, Cond.value, he]
  cases v <;> simp_all [Value.isRef]
theorem vx_isRefq {C n d : String} {A : Nat → Prop} {s : State} {args : Array Value} (h : va_Zq C n d A s s.heap) : (Cond.isRef (.static C n d)).before args s = true := by
  rcases h with h | ⟨t, h⟩
  · exact vx_isRef h rfl
  · exact vx_isRef h rfl
/-- the same frame, seen from here: as if the method were called anew in this heap -/
theorem vx_rebase {T : State} (X : Stand p l e R s m args below meth c T locs cells slots) {R' : Room} (hf : R'.frames ≤ R.frames) (hl : R'.locals ≤ R.locals) (hc : cells + R'.cells ≤ R.cells) (hs : slots + R'.slots ≤ R.slots) :
    Stand p l e R' ((T.setVm s.vm).setFrames (.invoking m args :: below)) m args below meth c T [] 0 0 := by
  have htop : (T.setVm s.vm).topJava?.isSome := X.here.top
  have hF : ((T.setVm s.vm).setFrames (.invoking m args :: below)).frames = .invoking m args :: below := State.frames_setFrames _ (State.cur_lt_of_top htop)
  obtain ⟨g₀, hg0⟩ := Option.isSome_iff_exists.mp htop
  obtain ⟨r, hr⟩ := State.topJava?_eq_some.mp hg0
  have hl9 : e.platform.stackLimits (T.setVm s.vm).me = e.platform.stackLimits s.me := X.limits
  have hb9 : (T.setVm s.vm).me.stackBytes = s.me.stackBytes := X.bytes
  refine ⟨X.admits, X.cas, X.clock, hF, ?_, X.hears, X.method, X.code, X.here, X.tail, X.warmed, ?_, ?_, ?_⟩
  · have h := X.room
    have hU : ((T.setVm s.vm).setFrames (.invoking m args :: below)).localsInUse = s.localsInUse := by
      rw [State.localsInUse_invoking hF (meth := meth) (c := c) X.method X.code, State.localsInUse_invoking X.frames X.method X.code]
    simp only [State.hasRoom, Bool.and_eq_true, decide_eq_true_eq] at h ⊢
    obtain ⟨⟨⟨⟨h1, h2, h3, h4, h5, h6⟩, h7⟩, h8⟩, h9⟩ := h
    rw [X.frames, List.length_cons] at h2 h3
    have q1 := X.heapSize
    have q2 := X.used
    simp only [hF, hU, List.length_cons, State.stackLimits_setFrames, State.stackBytes_setFrames, hl9, hb9]
    refine ⟨⟨⟨⟨by omega, by omega, by omega, by omega, by omega, h6⟩, ?_⟩, ?_⟩, X.book⟩
    · show T.heap.size + R'.cells ≤ e.platform.maxCells
      omega
    · show T.slotsUsed + R'.slots ≤ e.platform.maxSlots
      omega
  · rw [State.stackLimits_setFrames]; rfl
  · rw [State.stackBytes_setFrames]; rfl
  · refine ⟨?_, Nat.le_refl _, Nat.le_refl _, ?_, ?_, fun a c9 h9 => ⟨c9, h9, rfl, rfl, fun _ _ => rfl⟩⟩
    · obtain ⟨t, ht, -⟩ := State.frames_cons hr
      show T.setVm s.vm = { ((T.setVm s.vm).setFrames (.invoking m args :: below)).setFrames (T.setVm s.vm).frames with heap := T.heap, slotsUsed := T.slotsUsed }
      rw [State.setFrames_setFrames, State.setFrames_self ht]
      rfl
    · show T.slotsUsed = T.slotsUsed + ((T.heap.toList.drop T.heap.size).map (·.slots.size)).sum
      rw [List.drop_eq_nil_of_le (Nat.le_of_eq Array.length_toList)]
      rfl
    · show ((T.heap.toList.drop T.heap.size).map (·.slots.size)).sum ≤ 0
      rw [List.drop_eq_nil_of_le (Nat.le_of_eq Array.length_toList)]
      exact Nat.le_refl _
/-- 'throw new E()': new; dup; invokespecial; athrow -/
theorem vx_throw0 {cc : ByteArray} {pc : Nat} (hexec : p.tables.exec = Jvm.exec) (hb : c.code = cc) (hl : l.stackTraces = false) {own cls : String} {names : List String} {ik ic mc ms : Nat} {A : Nat → Prop}
    (hown : s.vm.findClass own = some m.cls) (hcls : Bundle.fit cls = true) (hnames : ∀ n ∈ names, Bundle.fit n = true)
    (hk : (Cond.classLink own ik cls).before args s = true) (hini : (Cond.initialized cls).before args s = true) (hat : ∀ w ∈ vx_at0 own ic cls names, w.before args s = true)
    (hgood : ∀ w ∈ Cond.classLink own ik cls :: Cond.initialized cls :: vx_at0 own ic cls names, vx_ot w = true)
    (hU : vx_Zq Bundle.tN "UNASSIGNED_STACK" Bundle.steD A s s.heap) (hN : vx_Zq Bundle.tN "SUPPRESSED_SENTINEL" Bundle.listD A s s.heap) (hS : va_S A s.heap H locs) (hsize : ls.size = c.maxLocals)
    (d0 : decode cc pc = .ok (.new ik, 3)) (d3 : decode cc (pc + 3) = .ok (.dup, 1)) (d4 : decode cc (pc + 4) = .ok (.invokespecial ic, 3)) (d7 : decode cc (pc + 7) = .ok (.athrow, 1))
    (hout : ∀ x ∈ c.exceptionTable.toList, covers x (pc + 7) = false)
    (hRframes : names.length + 3 < R.frames) (hRlocals : (rest.map fun v => v.category).sum + (13 * (names.length + 1) + 42) ≤ R.locals) (hRcells : cells + 1 ≤ R.cells) (hRslots : slots + 6 ≤ R.slots) (hlocks : meth.locks = false)
    (hx : ∀ t : State, s.vm.Alike t.vm → H.size ≤ t.heap.size → (∀ q : Nat, q < H.size → t.heap[q]? = H[q]?) → XC cls s t)
    (hf : ∀ z ∈ locs, free z.base) (hc : cells + 1 ≤ mc) (hs : slots + 6 ≤ ms) :
    W p l e R s m args below meth c H locs cells slots (vx_MQ below Qc XC args s mc ms free) (F0 m pc ls rest) := by
  intro T hT X
  have htr : e.platform.stackTraces = false := (show e.platform.stackTraces = l.stackTraces by rw [X.admits.platform]).trans hl
  have Y := vx_rebase X (R' := { frames := R.frames, locals := R.locals, cells := 1, slots := 6 }) (Nat.le_refl _) (Nat.le_refl _) hRcells hRslots
  obtain ⟨s', hA⟩ : ∃ z, z = (T.setVm s.vm).setFrames (.invoking m args :: below) := ⟨_, rfl⟩
  rw [← hA] at Y
  have hvm : s'.vm = s.vm := by rw [hA]; rfl
  have hhp : s'.heap = H := by rw [hA]; exact hT
  have hW0 : s.WarmedH s'.vm := by rw [hvm]; exact State.WarmedH.refl s
  have hat' : ∀ w ∈ vx_at0 own ic cls names, w.before args s' = true := fun w hw => vx_ot_at hW0 hvm.symm (hgood w (List.mem_cons_of_mem _ (List.mem_cons_of_mem _ hw))) (hat w hw)
  have hk' : (Cond.classLink own ik cls).before args s' = true := vx_ot_at hW0 hvm.symm (hgood _ List.mem_cons_self) hk
  have hini' : (Cond.initialized cls).before args s' = true := vx_ot_at hW0 hvm.symm (hgood _ (List.mem_cons_of_mem _ List.mem_cons_self)) hini
  have hU' : vx_Zq Bundle.tN "UNASSIGNED_STACK" Bundle.steD A s' s'.heap := by rw [hhp]; exact vx_Zq.moved hW0.alike (hU.kept hS.2.1)
  have hN' : vx_Zq Bundle.tN "SUPPRESSED_SENTINEL" Bundle.listD A s' s'.heap := by rw [hhp]; exact vx_Zq.moved hW0.alike (hN.kept hS.2.1)
  have h : ∀ w ∈ Bundle.ownAtoms0 own ic cls names, w.before args s' = true := vx_own hat' (vx_isRefq hU'.1) (vx_isRefq hN'.1) hU'.2.word hN'.2.word
  have hown' : s'.vm.findClass own = some m.cls := by rw [hvm]; exact hown
  have hins : (Cond.instantiable cls 6).before args s' = true := h _ (by simp [Bundle.ownAtoms0])
  obtain ⟨vm₁, cX, kX, hfX, hkX, -, -, X₁, st1⟩ := Y.newCold hexec (own := own) (C := cls) (index := ik) (n := 6) hown' hk' hins hini'
    (g := F0 m pc ls rest) rfl (by rw [hb]; exact d0) (Nat.le_refl _) (Nat.le_refl _)
  generalize hT1 : (T.setVm vm₁).pushCell { cls := cX, slots := kX.instanceTypes.map defaultValue, vm := .none } = T1 at X₁ st1
  have hcat : (Value.ref T.heap.size).category = 1 := rfl
  have hcellA : T1.heap[T.heap.size]? = some (freshCell cX kX) := by rw [← hT1]; exact State.heap_pushCell_size _ _
  have d3' : decode c.code (pc + 3) = .ok (.dup, 1) := by rw [hb]; exact d3
  obtain ⟨U, hsteps, hrun, hend, hW, hsame, ce, hce, hO⟩ := X₁.ctorThrow0 hexec htr (own := own) (cls := cls) (names := names) (ic := ic) hown' hcls hnames h (fun x hx => nomatch hx) hfX hkX hcellA (by rw [hhp, hT]; exact Nat.le_refl _)
    (g := { method := m, pc := pc + 4, locals := ls, stack := .ref T.heap.size :: .ref T.heap.size :: rest, locked := none }) rfl hsize rfl rfl (rest := rest) rfl
    (by rw [hb]; exact d4) (by rw [hb]; exact d7) hout hRframes (by simp only [List.map_cons, List.sum_cons, hcat]; omega) hlocks
  obtain ⟨f1, f2⟩ := vx_frame hsame
  rw [hhp] at f1 f2
  have hWs : s.WarmedH U.vm := State.WarmedH.trans hW0 hW
  have hcl : s.vm.findClass cls = some ce.cls := by
    have h9 := hO.cls
    rw [hvm] at h9
    exact h9
  have hall : s.sameButNew ({ U with vm := s.vm } : State) locs mc ms := by
    subst hA
    obtain ⟨e1, e2⟩ := hsame
    rw [State.setFrames_setFrames] at e1
    have h2 : (T.setVm s.vm).sameButNew ({ U with vm := s.vm } : State) [] (0 + 1) (0 + 6) := ⟨e1, e2⟩
    have h3 := X.same.trans h2
    rw [List.append_nil] at h3
    exact h3.mono hc hs
  refine ⟨U, ?_, .threw T.heap.size, hrun, hend, Or.inr ⟨T.heap.size, rfl, cls, ce, locs, hx U hWs.alike f1 (fun q hq => f2 q hq (fun z hz => nomatch hz)), hce, hO.vm, hcl, hWs, hall, hf⟩⟩
  refine st1 _ ?_
  show Steps p.tables e below (T1.setTop { method := m, pc := pc + 3, locals := ls, stack := .ref T.heap.size :: rest, locked := none }) _
  jvm_step X₁.here [X₁.here.top, hexec, d3', Value.category]
  exact hsteps
/-- 'throw new E("text")': new; dup; ldc; invokespecial; athrow -/
theorem vx_throwS {cc : ByteArray} {pc : Nat} (hexec : p.tables.exec = Jvm.exec) (hb : c.code = cc) (hl : l.stackTraces = false) {own cls text : String} {names : List String} {ik is ic mc ms sa : Nat} {A : Nat → Prop}
    (hown : s.vm.findClass own = some m.cls) (hcls : Bundle.fit cls = true) (hnames : ∀ n ∈ names, Bundle.fit n = true)
    (hk : (Cond.classLink own ik cls).before args s = true) (hini : (Cond.initialized cls).before args s = true) (hstr : vk_R own is text sa s) (hat : ∀ w ∈ vx_atS own ic cls names, w.before args s = true)
    (hgood : ∀ w ∈ Cond.classLink own ik cls :: Cond.initialized cls :: vx_atS own ic cls names, vx_ot w = true)
    (hU : vx_Zq Bundle.tN "UNASSIGNED_STACK" Bundle.steD A s s.heap) (hN : vx_Zq Bundle.tN "SUPPRESSED_SENTINEL" Bundle.listD A s s.heap) (hS : va_S A s.heap H locs) (hsize : ls.size = c.maxLocals)
    (d0 : decode cc pc = .ok (.new ik, 3)) (d3 : decode cc (pc + 3) = .ok (.dup, 1)) (d4 : decode cc (pc + 4) = .ok (.ldc is, 2)) (d6 : decode cc (pc + 6) = .ok (.invokespecial ic, 3)) (d9 : decode cc (pc + 9) = .ok (.athrow, 1))
    (hout : ∀ x ∈ c.exceptionTable.toList, covers x (pc + 9) = false)
    (hRframes : names.length + 3 < R.frames) (hRlocals : (rest.map fun v => v.category).sum + (13 * (names.length + 1) + 43) ≤ R.locals) (hRcells : cells + 1 ≤ R.cells) (hRslots : slots + 6 ≤ R.slots) (hlocks : meth.locks = false)
    (hx : ∀ t : State, s.vm.Alike t.vm → H.size ≤ t.heap.size → (∀ q : Nat, q < H.size → t.heap[q]? = H[q]?) → XC cls s t)
    (hf : ∀ z ∈ locs, free z.base) (hc : cells + 1 ≤ mc) (hs : slots + 6 ≤ ms) :
    W p l e R s m args below meth c H locs cells slots (vx_MQ below Qc XC args s mc ms free) (F0 m pc ls rest) := by
  intro T hT X
  have htr : e.platform.stackTraces = false := (show e.platform.stackTraces = l.stackTraces by rw [X.admits.platform]).trans hl
  have Y := vx_rebase X (R' := { frames := R.frames, locals := R.locals, cells := 1, slots := 6 }) (Nat.le_refl _) (Nat.le_refl _) hRcells hRslots
  obtain ⟨s', hA⟩ : ∃ z, z = (T.setVm s.vm).setFrames (.invoking m args :: below) := ⟨_, rfl⟩
  rw [← hA] at Y
  have hvm : s'.vm = s.vm := by rw [hA]; rfl
  have hhp : s'.heap = H := by rw [hA]; exact hT
  have hW0 : s.WarmedH s'.vm := by rw [hvm]; exact State.WarmedH.refl s
  have hat' : ∀ w ∈ vx_atS own ic cls names, w.before args s' = true := fun w hw => vx_ot_at hW0 hvm.symm (hgood w (List.mem_cons_of_mem _ (List.mem_cons_of_mem _ hw))) (hat w hw)
  have hk' : (Cond.classLink own ik cls).before args s' = true := vx_ot_at hW0 hvm.symm (hgood _ List.mem_cons_self) hk
  have hini' : (Cond.initialized cls).before args s' = true := vx_ot_at hW0 hvm.symm (hgood _ (List.mem_cons_of_mem _ List.mem_cons_self)) hini
  have hU' : vx_Zq Bundle.tN "UNASSIGNED_STACK" Bundle.steD A s' s'.heap := by rw [hhp]; exact vx_Zq.moved hW0.alike (hU.kept hS.2.1)
  have hN' : vx_Zq Bundle.tN "SUPPRESSED_SENTINEL" Bundle.listD A s' s'.heap := by rw [hhp]; exact vx_Zq.moved hW0.alike (hN.kept hS.2.1)
  have h : ∀ w ∈ Bundle.ownAtoms own ic cls names, w.before args s' = true := vx_own hat' (vx_isRefq hU'.1) (vx_isRefq hN'.1) hU'.2.word hN'.2.word
  have hown' : s'.vm.findClass own = some m.cls := by rw [hvm]; exact hown
  have hins : (Cond.instantiable cls 6).before args s' = true := h _ (by simp [Bundle.ownAtoms])
  obtain ⟨vm₁, cX, kX, hfX, hkX, -, -, X₁, st1⟩ := Y.newCold hexec (own := own) (C := cls) (index := ik) (n := 6) hown' hk' hins hini'
    (g := F0 m pc ls rest) rfl (by rw [hb]; exact d0) (Nat.le_refl _) (Nat.le_refl _)
  generalize hT1 : (T.setVm vm₁).pushCell { cls := cX, slots := kX.instanceTypes.map defaultValue, vm := .none } = T1 at X₁ st1
  have hcat : (Value.ref T.heap.size).category = 1 := rfl
  have hcellA : T1.heap[T.heap.size]? = some (freshCell cX kX) := by rw [← hT1]; exact State.heap_pushCell_size _ _
  have d3' : decode c.code (pc + 3) = .ok (.dup, 1) := by rw [hb]; exact d3
  have d4' : decode c.code (pc + 4) = .ok (.ldc is, 2) := by rw [hb]; exact d4
  have hstr' : vk_R own is text sa s' := vk_R.warm hW0 hstr
  obtain ⟨U, hsteps, hrun, hend, hW, hsame, ce, hce, hO⟩ := X₁.ctorThrowS hexec htr (own := own) (cls := cls) (names := names) (ic := ic) hown' hcls hnames h (fun x hx => nomatch hx) hfX hkX hcellA (by rw [hhp, hT]; exact Nat.le_refl _) (msg := .ref sa) rfl
    (g := { method := m, pc := pc + 6, locals := ls, stack := .ref sa :: .ref T.heap.size :: .ref T.heap.size :: rest, locked := none }) rfl hsize rfl rfl (rest := rest) rfl
    (by rw [hb]; exact d6) (by rw [hb]; exact d9) hout hRframes (by simp only [List.map_cons, List.sum_cons, hcat]; omega) hlocks
  obtain ⟨f1, f2⟩ := vx_frame hsame
  rw [hhp] at f1 f2
  have hWs : s.WarmedH U.vm := State.WarmedH.trans hW0 hW
  have hcl : s.vm.findClass cls = some ce.cls := by
    have h9 := hO.cls
    rw [hvm] at h9
    exact h9
  have hall : s.sameButNew ({ U with vm := s.vm } : State) locs mc ms := by
    subst hA
    obtain ⟨e1, e2⟩ := hsame
    rw [State.setFrames_setFrames] at e1
    have h2 : (T.setVm s.vm).sameButNew ({ U with vm := s.vm } : State) [] (0 + 1) (0 + 6) := ⟨e1, e2⟩
    have h3 := X.same.trans h2
    rw [List.append_nil] at h3
    exact h3.mono hc hs
  refine ⟨U, ?_, .threw T.heap.size, hrun, hend, Or.inr ⟨T.heap.size, rfl, cls, ce, locs, hx U hWs.alike f1 (fun q hq => f2 q hq (fun z hz => nomatch hz)), hce, hO.vm, hcl, hWs, hall, hf⟩⟩
  refine st1 _ ?_
  show Steps p.tables e below (T1.setTop { method := m, pc := pc + 3, locals := ls, stack := .ref T.heap.size :: rest, locked := none }) _
  jvm_step X₁.here [X₁.here.top, hexec, d3', Value.category]
  exact X₁.ldcString hexec (own := own) (text := text) (index := is) (a := sa) hown' hstr'.1 hstr'.2
    (g := { method := m, pc := pc + 4, locals := ls, stack := .ref T.heap.size :: .ref T.heap.size :: rest, locked := none }) rfl d4' _ hsteps
/-- 'throw new E("text")', the text by a wide index -/
theorem vx_throwSW {cc : ByteArray} {pc : Nat} (hexec : p.tables.exec = Jvm.exec) (hb : c.code = cc) (hl : l.stackTraces = false) {own cls text : String} {names : List String} {ik is ic mc ms sa : Nat} {A : Nat → Prop}
    (hown : s.vm.findClass own = some m.cls) (hcls : Bundle.fit cls = true) (hnames : ∀ n ∈ names, Bundle.fit n = true)
    (hk : (Cond.classLink own ik cls).before args s = true) (hini : (Cond.initialized cls).before args s = true) (hstr : vk_R own is text sa s) (hat : ∀ w ∈ vx_atS own ic cls names, w.before args s = true)
    (hgood : ∀ w ∈ Cond.classLink own ik cls :: Cond.initialized cls :: vx_atS own ic cls names, vx_ot w = true)
    (hU : vx_Zq Bundle.tN "UNASSIGNED_STACK" Bundle.steD A s s.heap) (hN : vx_Zq Bundle.tN "SUPPRESSED_SENTINEL" Bundle.listD A s s.heap) (hS : va_S A s.heap H locs) (hsize : ls.size = c.maxLocals)
    (d0 : decode cc pc = .ok (.new ik, 3)) (d3 : decode cc (pc + 3) = .ok (.dup, 1)) (d4 : decode cc (pc + 4) = .ok (.ldc_w is, 3)) (d7 : decode cc (pc + 7) = .ok (.invokespecial ic, 3)) (d10 : decode cc (pc + 10) = .ok (.athrow, 1))
    (hout : ∀ x ∈ c.exceptionTable.toList, covers x (pc + 10) = false)
    (hRframes : names.length + 3 < R.frames) (hRlocals : (rest.map fun v => v.category).sum + (13 * (names.length + 1) + 43) ≤ R.locals) (hRcells : cells + 1 ≤ R.cells) (hRslots : slots + 6 ≤ R.slots) (hlocks : meth.locks = false)
    (hx : ∀ t : State, s.vm.Alike t.vm → H.size ≤ t.heap.size → (∀ q : Nat, q < H.size → t.heap[q]? = H[q]?) → XC cls s t)
    (hf : ∀ z ∈ locs, free z.base) (hc : cells + 1 ≤ mc) (hs : slots + 6 ≤ ms) :
    W p l e R s m args below meth c H locs cells slots (vx_MQ below Qc XC args s mc ms free) (F0 m pc ls rest) := by
  intro T hT X
  have htr : e.platform.stackTraces = false := (show e.platform.stackTraces = l.stackTraces by rw [X.admits.platform]).trans hl
  have Y := vx_rebase X (R' := { frames := R.frames, locals := R.locals, cells := 1, slots := 6 }) (Nat.le_refl _) (Nat.le_refl _) hRcells hRslots
  obtain ⟨s', hA⟩ : ∃ z, z = (T.setVm s.vm).setFrames (.invoking m args :: below) := ⟨_, rfl⟩
  rw [← hA] at Y
  have hvm : s'.vm = s.vm := by rw [hA]; rfl
  have hhp : s'.heap = H := by rw [hA]; exact hT
  have hW0 : s.WarmedH s'.vm := by rw [hvm]; exact State.WarmedH.refl s
  have hat' : ∀ w ∈ vx_atS own ic cls names, w.before args s' = true := fun w hw => vx_ot_at hW0 hvm.symm (hgood w (List.mem_cons_of_mem _ (List.mem_cons_of_mem _ hw))) (hat w hw)
  have hk' : (Cond.classLink own ik cls).before args s' = true := vx_ot_at hW0 hvm.symm (hgood _ List.mem_cons_self) hk
  have hini' : (Cond.initialized cls).before args s' = true := vx_ot_at hW0 hvm.symm (hgood _ (List.mem_cons_of_mem _ List.mem_cons_self)) hini
  have hU' : vx_Zq Bundle.tN "UNASSIGNED_STACK" Bundle.steD A s' s'.heap := by rw [hhp]; exact vx_Zq.moved hW0.alike (hU.kept hS.2.1)
  have hN' : vx_Zq Bundle.tN "SUPPRESSED_SENTINEL" Bundle.listD A s' s'.heap := by rw [hhp]; exact vx_Zq.moved hW0.alike (hN.kept hS.2.1)
  have h : ∀ w ∈ Bundle.ownAtoms own ic cls names, w.before args s' = true := vx_own hat' (vx_isRefq hU'.1) (vx_isRefq hN'.1) hU'.2.word hN'.2.word
  have hown' : s'.vm.findClass own = some m.cls := by rw [hvm]; exact hown
  have hins : (Cond.instantiable cls 6).before args s' = true := h _ (by simp [Bundle.ownAtoms])
  obtain ⟨vm₁, cX, kX, hfX, hkX, -, -, X₁, st1⟩ := Y.newCold hexec (own := own) (C := cls) (index := ik) (n := 6) hown' hk' hins hini'
    (g := F0 m pc ls rest) rfl (by rw [hb]; exact d0) (Nat.le_refl _) (Nat.le_refl _)
  generalize hT1 : (T.setVm vm₁).pushCell { cls := cX, slots := kX.instanceTypes.map defaultValue, vm := .none } = T1 at X₁ st1
  have hcat : (Value.ref T.heap.size).category = 1 := rfl
  have hcellA : T1.heap[T.heap.size]? = some (freshCell cX kX) := by rw [← hT1]; exact State.heap_pushCell_size _ _
  have d3' : decode c.code (pc + 3) = .ok (.dup, 1) := by rw [hb]; exact d3
  have d4' : decode c.code (pc + 4) = .ok (.ldc_w is, 3) := by rw [hb]; exact d4
  have hstr' : vk_R own is text sa s' := vk_R.warm hW0 hstr
  obtain ⟨U, hsteps, hrun, hend, hW, hsame, ce, hce, hO⟩ := X₁.ctorThrowS hexec htr (own := own) (cls := cls) (names := names) (ic := ic) hown' hcls hnames h (fun x hx => nomatch hx) hfX hkX hcellA (by rw [hhp, hT]; exact Nat.le_refl _) (msg := .ref sa) rfl
    (g := { method := m, pc := pc + 7, locals := ls, stack := .ref sa :: .ref T.heap.size :: .ref T.heap.size :: rest, locked := none }) rfl hsize rfl rfl (rest := rest) rfl
    (by rw [hb]; exact d7) (by rw [hb]; exact d10) hout hRframes (by simp only [List.map_cons, List.sum_cons, hcat]; omega) hlocks
  obtain ⟨f1, f2⟩ := vx_frame hsame
  rw [hhp] at f1 f2
  have hWs : s.WarmedH U.vm := State.WarmedH.trans hW0 hW
  have hcl : s.vm.findClass cls = some ce.cls := by
    have h9 := hO.cls
    rw [hvm] at h9
    exact h9
  have hall : s.sameButNew ({ U with vm := s.vm } : State) locs mc ms := by
    subst hA
    obtain ⟨e1, e2⟩ := hsame
    rw [State.setFrames_setFrames] at e1
    have h2 : (T.setVm s.vm).sameButNew ({ U with vm := s.vm } : State) [] (0 + 1) (0 + 6) := ⟨e1, e2⟩
    have h3 := X.same.trans h2
    rw [List.append_nil] at h3
    exact h3.mono hc hs
  refine ⟨U, ?_, .threw T.heap.size, hrun, hend, Or.inr ⟨T.heap.size, rfl, cls, ce, locs, hx U hWs.alike f1 (fun q hq => f2 q hq (fun z hz => nomatch hz)), hce, hO.vm, hcl, hWs, hall, hf⟩⟩
  refine st1 _ ?_
  show Steps p.tables e below (T1.setTop { method := m, pc := pc + 3, locals := ls, stack := .ref T.heap.size :: rest, locked := none }) _
  jvm_step X₁.here [X₁.here.top, hexec, d3', Value.category]
  exact X₁.ldcStringW hexec (own := own) (text := text) (index := is) (a := sa) hown' hstr'.1 hstr'.2
    (g := { method := m, pc := pc + 4, locals := ls, stack := .ref T.heap.size :: .ref T.heap.size :: rest, locked := none }) rfl d4' _ hsteps
end Ends
section Bodies
variable {l : Launch}
theorem vx_ofW {y : MethodName} {ws ws' : List Cond} {rm : Room} {Pc : Array Value → State → Prop} {Qc : Array Value → State → Outcome → State → Prop} {XC : String → State → State → Prop} {mc ms : Nat} {free : Addr → Prop} {cc : ByteArray} {maxL : Nat} {ret : Option FieldType}
    (hy : plainName y.cls = true) (hw : ws = Cond.code y cc maxL ret :: ws')
    (body : ∀ p e s m args below meth c s₁, BodyLoose p l y (headSpec ws rm) cc maxL ret e s m args below meth c s₁ → c.maxLocals = maxL → (∀ x ∈ c.exceptionTable.toList, False) → Pc args s →
      W p l e (headSpec ws rm).room s m args below meth c s.heap [] 0 0 (vx_MQ below Qc XC args s mc ms free) (entryFrame m args maxL)) : vx_Met l y ws rm Pc Qc XC mc ms free := by
  refine MetFree.of_bodyS (code := cc) (maxLocals := maxL) (ret := ret) hy ?_ ?_
  · intro args s m h hn
    obtain ⟨meth, c, h1, h2, h3, h4, h5, h6, -, -⟩ := Cond.code_spec hn (atoms_spec (ws := ws) h _ (by rw [hw]; exact List.mem_cons_self))
    exact ⟨meth, c, h1, h2, h3, h4, h5, h6⟩
  · intro p e s m args below meth c s₁ B hml hP _
    have hh0 : s₁.heap = s.heap := by rw [B.state]; rfl
    have ht : ∀ x ∈ c.exceptionTable.toList, False := by
      obtain ⟨meth9, c9, h1, h2, -, -, -, -, h7, -⟩ := Cond.code_spec B.named (atoms_spec (ws := ws) B.pre _ (by rw [hw]; exact List.mem_cons_self))
      cases Option.some.inj (h1.symm.trans B.method)
      cases Option.some.inj (h2.symm.trans (Stand.of_body B).code)
      intro x hx
      rw [Array.isEmpty_iff.mp h7] at hx
      cases hx
    obtain ⟨t, a1, o, b1, b2, b3⟩ := body p e s m args below meth c s₁ B hml ht hP s₁ hh0 (Stand.of_body B)
    exact ⟨t, o, a1, b1, b2, b3⟩
/-- the table of a body with handlers -/
theorem vx_table {p : Program} {x y : MethodName} {S : Spec} {cc bytes : ByteArray} {maxL maxL' : Nat} {ret ret' : Option FieldType} {e : Env} {s s₁ : State} {m : MethodId} {args : Array Value} {below : List Frame} {meth : Method} {c : Code} {hh : List (Nat × Nat × Nat × Nat)}
    (B : BodyLoose p l y S cc maxL ret e s m args below meth c s₁) (h : (Cond.codeWith y bytes maxL' ret' hh).before args s = true) : c.exceptionTable.toList = tableOf hh := by
  obtain ⟨m9, meth9, c9, hn9, h1, h2, -, -, h6, -⟩ := Cond.codeWith_spec h
  cases Option.some.inj (hn9.symm.trans B.named)
  cases Option.some.inj (h1.symm.trans B.method)
  cases Option.some.inj (h2.symm.trans (Stand.of_body B).code)
  rw [← h6, table_eq]
end Bodies
end VXA
/-! ===== END ===== -/
/-! ===== BEGIN a static call of a method with an exception table ===== -/
section VXS
variable {p : Program} {l : Launch} {e : Env} {R : Room} {s : State} {m : MethodId} {args : Array Value} {below : List Frame} {meth : Method} {c : Code} {T : State} {H : Heap} {locs : List Loc} {cells slots : Nat}
abbrev vx_CSW (R : Room) (s : State) (args : Array Value) (own : String) (index : Nat) (y : MethodName) (bytes : ByteArray) (maxL : Nat) (ret : Option FieldType) (hh : List (Nat × Nat × Nat × Nat)) (ws : List Cond) (rm : Room) (mc ms n : Nat) : Prop :=
  (rm.cells = mc ∧ rm.slots = ms ∧ rm.frames + 1 ≤ R.frames ∧ 8 + (maxL + 11) + rm.locals ≤ R.locals ∧ (∀ w ∈ ws, ∀ (a' : Array Value) (U : State), s.WarmedH U.vm → w.before a' U = true) ∧ Cond.codeWith y bytes maxL ret hh ∈ ws) ∧
  (Cond.codeWith y bytes maxL ret hh).before args s = true ∧ (Cond.initialized y.cls).before args s = true ∧ (y.cls ≠ "java/lang/invoke/MethodHandle" ∧ y.cls ≠ "java/lang/invoke/VarHandle") ∧
  (∀ sig, parseMethodDescriptor y.desc = some sig → n = sig.parameters.length) ∧ (Cond.methodLink own index y).before args s = true ∧ (Cond.static y).before args s = true
theorem vx_cwSW {own : String} {index maxL mc ms : Nat} {y : MethodName} {bytes : ByteArray} {ret : Option FieldType} {hh : List (Nat × Nat × Nat × Nat)} {Ts ws ws' : List Cond} {rm : Room} (n : Nat) (ht : ∀ w ∈ Ts, w.before args s = true) (hT : GoodIn Ts (va_wsS own index y ws)) (hw : ws = Cond.codeWith y bytes maxL ret hh :: ws') (hrc : rm.cells = mc) (hrs : rm.slots = ms)
    (hd : y.cls ≠ "java/lang/invoke/MethodHandle" ∧ y.cls ≠ "java/lang/invoke/VarHandle" ∧ (parseMethodDescriptor y.desc).map (fun d => d.parameters.length) = some n) (hR : rm.frames + 1 ≤ R.frames ∧ 8 + (maxL + 11) + rm.locals ≤ R.locals) :
    vx_CSW R s args own index y bytes maxL ret hh ws rm mc ms n := by
  have ok : ∀ w ∈ va_wsS own index y ws, w.before args s = true := fun w h => ht w (hT w h).1
  have hG : GoodIn Ts ws := fun w h => hT w (by unfold va_wsS; exact List.mem_append_right _ h)
  have hc : Cond.codeWith y bytes maxL ret hh ∈ ws := by rw [hw]; exact List.mem_cons_self
  refine ⟨⟨hrc, hrs, hR.1, hR.2, pay_in ht hG, hc⟩, ht _ (hG _ hc).1, ok _ (by simp [va_wsS]), ⟨hd.1, hd.2.1⟩, fun sig h => ?_, ok _ (by simp [va_wsS]), ok _ (by simp [va_wsS])⟩
  have h2 := hd.2.2
  rw [h] at h2
  exact (Option.some.inj h2).symm
theorem vx_callSW (X : Stand p l e R s m args below meth c T locs cells slots) (hexec : p.tables.exec = Jvm.exec) {own : String} {index : Nat} {y : MethodName} {bytes : ByteArray} {maxL : Nat} {ret : Option FieldType} {hh : List (Nat × Nat × Nat × Nat)}
    (hown : s.vm.findClass own = some m.cls) (hlink : (Cond.methodLink own index y).before args s = true) (hstat : (Cond.static y).before args s = true) (hinit : (Cond.initialized y.cls).before args s = true)
    (hcode : (Cond.codeWith y bytes maxL ret hh).before args s = true) (hy : y.cls ≠ "java/lang/invoke/MethodHandle" ∧ y.cls ≠ "java/lang/invoke/VarHandle")
    {W9 : Nat} {Pre : Pt → Array Value → Prop} {Post : Pt → Array Value → Option Value → Pt → Prop} (hK : Back l R p e below s args y 3 W9 Pre Post)
    {g : JFrame} (hg : g.method = m) (hsize : g.locals.size = c.maxLocals) {argsL rest : List Value} (hlen : ∀ sig, parseMethodDescriptor y.desc = some sig → argsL.length = sig.parameters.length)
    (hstack : g.stack = argsL.reverse ++ rest) (hW : 2 * g.monitorRoom + (rest.map fun v => v.category).sum ≤ W9) (hdg : decode c.code g.pc = .ok (.invokestatic index, 3))
    (hpre : ∀ vm₁, s.WarmedH vm₁ → Pre ⟨T.setVm vm₁, locs, cells, slots⟩ argsL.toArray) :
    ∃ (v : Option Value) (vm₁ : Vm) (B : Pt), s.WarmedH vm₁ ∧ Stand p l e R s m args below meth c B.U B.locs B.cells B.slots ∧ Post ⟨T.setVm vm₁, locs, cells, slots⟩ argsL.toArray v B ∧
      ∀ target, Steps p.tables e below (B.U.setTop { g with pc := g.pc + 3, stack := v.toList ++ rest }) target → Steps p.tables e below (T.setTop g) target := by
  obtain ⟨mk, methM, cM, hnamed, hmethM, -, -, -, -, -, -, hsigM⟩ := Cond.codeWith_spec hcode
  have hstatic : methM.isStatic = true := Cond.static_spec hnamed hmethM hstat
  obtain ⟨kP, hkP, -⟩ := className_of_methodNamed hnamed
  have hinitP : kP.init = .initialized := Cond.initialized_spec (findClass_of_methodNamed hnamed) hkP hinit
  obtain ⟨vm₁, X₁, hstep₁⟩ := X.invokestatic hexec hown hlink hnamed hmethM hstatic hkP hinitP hy (g := g) hg (argsL := argsL) (rest := rest) (hlen _ hsigM) hstack hdg
  obtain ⟨v, B, X', hpost, hsteps⟩ := hK m meth c ⟨T.setVm vm₁, locs, cells, slots⟩ { g with stack := rest } (.invokestatic index) mk argsL.toArray X₁ hg hsize hdg hW (X₁.named hnamed) (hpre vm₁ X₁.warmed)
  exact ⟨v, vm₁, B, X₁.warmed, X', hpost, fun target h => hstep₁ _ fun acts => by rw [doInvoke_state]; exact hsteps.trans h⟩
theorem vx_runSW {y : MethodName} {bytes cc : ByteArray} {maxL nL mc ms n index : Nat} {ret : Option FieldType} {hh : List (Nat × Nat × Nat × Nat)} {ws : List Cond} {rm : Room} {Pc : Array Value → State → Prop} {Qc : Array Value → State → Outcome → State → Prop} {free : Addr → Prop} {Ts : List Cond} {own : String} {As rest : List Value} {g : JFrame}
    (S : CallFix p m c cc nL s args Ts own) (hM : Met l y ws rm Pc Qc mc ms free) (cw : vx_CSW R s args own index y bytes maxL ret hh ws rm mc ms n) (hp : PreS s H Pc As)
    (hg : g.method = m) (hn : As.length = n) (hsize : g.locals.size = nL) (hstack : g.stack = As.reverse ++ rest) (hW : 2 * g.monitorRoom + (rest.map fun v => v.category).sum ≤ 8) (hdg : decode cc g.pc = .ok (.invokestatic index, 3)) (hf : cells + mc ≤ R.cells ∧ slots + ms ≤ R.slots) :
    va_Run p l e R s m args below meth c H locs cells slots mc ms g rest (Qc As.toArray) (free) := by
  obtain ⟨⟨hrc, hrs, hfr, hlo, hws, hcw⟩, hcode, hini, hy, hlen, hl, hstt⟩ := cw
  have hK : Back l R p e below s args y 3 8 (PreOf R mc ms Pc) (PostOf Qc mc ms free) := va_backW (hh := hh) (bytes := bytes) (maxL := maxL) (ret := ret) hM hp.1 hrc hrs hfr hlo hws hcw (fun a' U hW => word_at hW (Or.inl (by first | rfl | simp [Cond.onTables, Cond.keeps, Cond.steady])) hini)
  obtain ⟨hx, hb, hml, ho, -⟩ := S
  intro T hT X
  obtain ⟨v, vm₁, ⟨U', l2, c2, s2⟩, hW₁, X', ⟨g', mk, t, L, e1, e2, hq, h1, hL, h2, h3⟩, st⟩ := vx_callSW X hx (hh := hh) (bytes := bytes) (maxL := maxL) (ret := ret) ho hl hstt hini hcode hy hK hg (hsize.trans hml.symm) (argsL := As) (rest := rest) (fun sig h => hn.trans (hlen sig h)) hstack hW (by rw [hb]; exact hdg)
    (fun vm₁ hW₁ => ⟨hf.1, hf.2, hp.2 (T.setVm vm₁) hT hW₁⟩)
  dsimp only [Pt.U, Pt.locs, Pt.cells, Pt.slots] at X' e1 e2 h1 h2 h3 st
  subst h1; subst h2; subst h3
  exact ⟨v, (T.setVm vm₁).calling g' mk As.toArray, t, U', L, hT, X', hL, e1, e2, hq, st⟩
/-- not caught here, past rows that name other classes: it goes on to the caller -/
theorem vx_outP {p : Program} {l : Launch} {e : Env} {R : Room} {s : State} {m : MethodId} {args : Array Value} {below : List Frame} {meth : Method} {c : Code} {H : Heap} {locs : List Loc} {cells slots : Nat} {free : Addr → Prop} {ls : Array Slot} {rest : List Value} {Qc : Array Value → State → Outcome → State → Prop} {XC : String → State → State → Prop}
    {pc : Nat} {own E : String} {ce : Cell} {q : Addr} {mc ms : Nat} (hown : s.vm.findClass own = some m.cls) (hlocks : meth.locks = false)
    (hpass : ∀ z ∈ c.exceptionTable.toList, covers z pc = false ∨ (z.catchType ≠ 0 ∧ ∃ nm : String, (Cond.classLink own z.catchType nm).before args s = true ∧ va_Nc E nm s)) (hcell : H[q]? = some ce) (hv : ce.vm = .none) (hcl : s.vm.findClass E = some ce.cls)
    (hx : ∀ t : State, t.heap = H → s.vm.Alike t.vm → XC E s t) (hf : ∀ z ∈ locs, free z.base) (hc : cells ≤ mc) (hs : slots ≤ ms) :
    vx_W p l e R s m args below meth c H locs cells slots (vx_MQ below Qc XC args s mc ms free) (F0 m pc ls rest) q := by
  intro T hT X
  have hpl : e.platform.magicAccessors = ({} : Platform).magicAccessors := by rw [X.admits.platform]
  obtain ⟨vm', hW', X', st⟩ := X.outThrough hlocks q (g := F0 m pc ls rest) rfl rfl rfl (cell := ce) (by rw [hT]; exact hcell) (by rw [hv]; rfl)
    (by obtain ⟨k9, h9, -⟩ := Vm.findClass_spec hcl; exact ⟨k9, h9⟩) (fun z hz => by
      rcases hpass z hz with h | ⟨hz0, nm, hl1, hn1⟩
      · exact Or.inl h
      · obtain ⟨c6, hc6, hcl6⟩ := Cond.classLink_spec hown hl1 e.platform hpl
        obtain ⟨a8, b8, h1, h2, h3⟩ := hn1
        cases Option.some.inj (h1.symm.trans hcl)
        cases Option.some.inj (h2.symm.trans hc6)
        exact Or.inr ⟨hz0, _, hcl6, h3⟩)
  obtain ⟨g₀, hfr⟩ := X'.frames_eq
  have hcell9 : ((T.setVm vm').setFrames (.throwing q :: below)).heap[q]? = some ce := by
    show T.heap[q]? = some ce
    rw [hT]; exact hcell
  have hend : Ended ((T.setVm vm').setFrames (.throwing q :: below)) below (.threw q) := State.frames_setFrames _ (State.cur_lt_of_frames hfr)
  refine ⟨(T.setVm vm').setFrames (.throwing q :: below), ?_, .threw q, X'.here.running, hend, Or.inr ⟨q, rfl, E, ce, locs, hx _ hT (X'.ends _).1.alike, hcell9, hv, hcl, (X'.ends _).1, (X'.ends _).2.mono hc hs, hf⟩⟩
  rw [X.pushThrowing_eq]
  exact st
/-- a thing of a world lies in the heap -/
theorem vx_lt {D : va_G} {cl : List vw_C} {ws : va_W} {H1 : Heap} (h : va_P D cl ws H1) {k : Nat} {q : Nat × va_E} (hk : ws[k]? = some q) : q.1 < H1.size := (h k q hk).lt
end VXS
/-! ===== END ===== -/
/-! ===== BEGIN methods with a table of their own: called by a name, returning or throwing ===== -/
section VXH
/-! vx_backW, vx_callVX, vx_callSX, vx_callVW, vx_runVW, vx_runVX, vx_runSX, vx_ofWH follow the same proofs as their sisters above (Free/Laws.lean, Shelf42/LK1.lean); vx_outP calls Shelf42/NT130.lean (outThrough). -/
section
variable {l : Launch} {R : Room} {p : Program} {e : Env} {below : List Frame} {s : State} {sargs : Array Value} {y : MethodName} {len W9 : Nat}
theorem vx_backW {ws : List Cond} {rm : Room} {Pc : Array Value → State → Prop} {Qc : Array Value → State → Outcome → State → Prop} {XC : String → State → State → Prop} {mc ms : Nat} {free : Addr → Prop} {bytes : ByteArray} {maxL : Nat} {ret : Option FieldType} {hh : List (Nat × Nat × Nat × Nat)}
    (hM : vx_Met l y ws rm Pc Qc XC mc ms free) (hblind : FrameBlind Pc) (hrc : rm.cells = mc) (hrs : rm.slots = ms)
    (hframes : rm.frames + 1 ≤ R.frames) (hlocals : W9 + (maxL + 11) + rm.locals ≤ R.locals)
    (hws : ∀ w ∈ ws, ∀ a' U, s.WarmedH U.vm → w.before a' U = true) (hcode : Cond.codeWith y bytes maxL ret hh ∈ ws) (hinit : ∀ a' U, s.WarmedH U.vm → (Cond.initialized y.cls).before a' U = true) :
    vx_Back l R p e below s sargs y len W9 (PreOf R mc ms Pc) (PostOf Qc mc ms free) (vx_Post XC mc ms free) := by
  intro m meth c A g ig mk a X hg hsize hdg hW hn hp
  have h1 : (headSpec ws rm).pre.before a A.U = true := atoms_intro fun w hw => hws w hw _ _ X.warmed
  have h2 : (Cond.codeWith y bytes maxL ret hh).before a A.U = true := hws _ hcode _ _ X.warmed
  have h3 : (Cond.initialized y.cls).before a A.U = true := hinit _ _ X.warmed
  have h4 : A.cells + (headSpec ws rm).room.cells ≤ R.cells := by rw [show (headSpec ws rm).room.cells = mc from hrc]; exact hp.1
  have h5 : A.slots + (headSpec ws rm).room.slots ≤ R.slots := by rw [show (headSpec ws rm).room.slots = ms from hrs]; exact hp.2.1
  have hPc : Pc a (A.U.calling g mk a) := hblind _ _ _ _ hp.2.2
  obtain ⟨U, Ls, c0, s0⟩ := A
  dsimp only [Pt.U, Pt.locs, Pt.cells, Pt.slots] at h1 h2 h3 h4 h5 X hn hPc ⊢
  obtain ⟨m9, methY, cY, hn9, hmY, hcY, -, hlY, -⟩ := Cond.codeWith_spec h2
  cases Option.some.inj (hn9.symm.trans hn)
  obtain ⟨kY, hkY, -⟩ := className_of_methodNamed hn
  have hinitY : kY.init = .initialized := Cond.initialized_spec (findClass_of_methodNamed hn) hkY h3
  have h : At U g.method c below := by rw [hg]; exact X.here
  have hlocals9 : W9 + (maxL + 11) + (headSpec ws rm).room.locals ≤ R.locals := hlocals
  have happ : (headSpec ws rm).appliesLoose y e.platform (U.calling g mk a) = true :=
    Spec.appliesLoose_calling (g := g) h hdg hn hkY hinitY
      (X.room_calling (g := g) (R' := (headSpec ws rm).room) hsize hmY hcY hframes (by rw [hlY]; omega) h4 h5) h1
  obtain ⟨mid, hmid⟩ := h.above
  have hfr : (U.setTop g).frames = (.java g :: mid) ++ below := by rw [State.frames_setTop' g h.top, hmid]; rfl
  obtain ⟨o, s₂, hsteps, -, hend, hq⟩ := Steps.callFree hM p X.admits X.cas X.clock (acts := []) hfr happ hPc trivial
  have hq' : vx_Q Qc XC mc ms free a (U.calling g mk a) o s₂ := hq
  rw [State.frames_setTop' g h.top] at hend
  obtain ⟨g₀, hg0⟩ := Option.isSome_iff_exists.mp h.top
  obtain ⟨r, hr⟩ := State.topJava?_eq_some.mp hg0
  have hr' : (({ U with heap := s₂.heap, slotsUsed := s₂.slotsUsed } : State).setVm s₂.vm).frames = .java g₀ :: r := hr
  rcases hq' with ⟨hqc, L, hfe, hL⟩ | ⟨q, rfl, E, ce, L, hx, hce, hcv, hcl, hW₂, hsm, hL⟩
  · obtain ⟨⟨v, rfl⟩, hW₂, e2, q2, q3, q4, q5, q6⟩ := id hfe
    have e3 : s₂ = ({ (U.calling g mk a).setFrames s₂.frames with heap := s₂.heap, slotsUsed := s₂.slotsUsed } : State).setVm s₂.vm := by
      have : s₂ = ({ s₂ with vm := (U.calling g mk a).vm } : State).setVm s₂.vm := rfl
      rw [e2] at this
      exact this
    obtain ⟨c₂, i₂, len₂, hc₂, hd₂, hf₂⟩ := hend
    have hW' : U.WarmedH s₂.vm := hW₂
    have hcc : c₂ = c := by
      have h1 : s₂.code? g.method = U.code? g.method := by
        rw [State.code?_eq, State.code?_eq, hW'.alike.method?]
      exact Option.some.inj (hc₂.symm.trans (h1.trans h.code))
    subst hcc
    have hlen : len₂ = len := by rw [hdg] at hd₂; cases hd₂; rfl
    subst hlen
    have hs₂ : s₂ = (({ U with heap := s₂.heap, slotsUsed := s₂.slotsUsed } : State).setVm s₂.vm).setTop { g with pc := g.pc + len₂, stack := v.toList ++ g.stack } := by
      refine e3.trans ?_
      rw [hf₂, State.calling_eq h.top, State.setFrames_setFrames, State.setTop_of_frames _ hr', hr]
      rfl
    have hsame : U.sameButNew ({ U with heap := s₂.heap, slotsUsed := s₂.slotsUsed } : State) L mc ms := by
      refine ⟨?_, q2, q3, q4, q5, q6⟩
      obtain ⟨t, ht, -⟩ := State.frames_cons hr
      show ({ U with heap := s₂.heap, slotsUsed := s₂.slotsUsed } : State) = { U.setFrames U.frames with heap := s₂.heap, slotsUsed := s₂.slotsUsed }
      rw [State.setFrames_self ht]
    subst hg
    refine Or.inl ⟨v, ⟨(({ U with heap := s₂.heap, slotsUsed := s₂.slotsUsed } : State).setVm s₂.vm), Ls ++ L, c0 + mc, s0 + ms⟩,
      ⟨X.admits, X.cas, X.clock, X.frames, X.room, X.hears, X.method, X.code, (X.here.setHeapUsed s₂.heap s₂.slotsUsed).setVm hW'.alike, X.tail, State.WarmedH.trans X.warmed hW', X.limits, X.bytes, X.same.trans (hsame.setVm s.vm)⟩,
      ⟨g, mk, s₂, L, rfl, rfl, hqc, rfl, hL, rfl, rfl⟩, ?_⟩
    show Steps p.tables e below _ ((({ U with heap := s₂.heap, slotsUsed := s₂.slotsUsed } : State).setVm s₂.vm).setTop { g with pc := g.pc + len₂, stack := v.toList ++ g.stack })
    rw [← hs₂]
    exact hsteps
  · obtain ⟨e2, q2, q3, q4, q5, q6⟩ := id hsm
    have e3 : s₂ = ({ (U.calling g mk a).setFrames s₂.frames with heap := s₂.heap, slotsUsed := s₂.slotsUsed } : State).setVm s₂.vm := by
      have : s₂ = ({ s₂ with vm := (U.calling g mk a).vm } : State).setVm s₂.vm := rfl
      rw [e2] at this
      exact this
    have hf₂ : s₂.frames = .throwing q :: .java g :: U.frames.tail := hend
    have hW' : U.WarmedH s₂.vm := hW₂
    have hs₂ : s₂ = ((({ U with heap := s₂.heap, slotsUsed := s₂.slotsUsed } : State).setVm s₂.vm).setTop g).pushFrame (.throwing q) := by
      refine e3.trans ?_
      rw [hf₂, State.calling_eq h.top, State.setFrames_setFrames, State.pushFrame, State.frames_setTop _ hr', State.setTop_of_frames _ hr', State.setFrames_setFrames, hr]
      rfl
    have hsame : U.sameButNew ({ U with heap := s₂.heap, slotsUsed := s₂.slotsUsed } : State) L mc ms := by
      refine ⟨?_, q2, q3, q4, q5, q6⟩
      obtain ⟨t, ht, -⟩ := State.frames_cons hr
      show ({ U with heap := s₂.heap, slotsUsed := s₂.slotsUsed } : State) = { U.setFrames U.frames with heap := s₂.heap, slotsUsed := s₂.slotsUsed }
      rw [State.setFrames_self ht]
    subst hg
    refine Or.inr ⟨q, ⟨(({ U with heap := s₂.heap, slotsUsed := s₂.slotsUsed } : State).setVm s₂.vm), Ls ++ L, c0 + mc, s0 + ms⟩,
      ⟨X.admits, X.cas, X.clock, X.frames, X.room, X.hears, X.method, X.code, (X.here.setHeapUsed s₂.heap s₂.slotsUsed).setVm hW'.alike, X.tail, State.WarmedH.trans X.warmed hW', X.limits, X.bytes, X.same.trans (hsame.setVm s.vm)⟩,
      ⟨g, mk, s₂, L, E, ce, rfl, rfl, hx, hce, hcv, hcl, rfl, hL, rfl, rfl⟩, ?_⟩
    show Steps p.tables e below _ (((({ U with heap := s₂.heap, slotsUsed := s₂.slotsUsed } : State).setVm s₂.vm).setTop g).pushFrame (.throwing q))
    rw [← hs₂]
    exact hsteps
end
variable {p : Program} {l : Launch} {e : Env} {R : Room} {s : State} {m : MethodId} {args : Array Value} {below : List Frame} {meth : Method} {c : Code} {T : State} {H : Heap} {locs : List Loc} {cells slots : Nat}
theorem vx_callVX (X : Stand p l e R s m args below meth c T locs cells slots) (hexec : p.tables.exec = Jvm.exec) {own C : String} {index : Nat} {y : MethodName} {bytes : ByteArray} {maxL : Nat} {ret : Option FieldType} {hh : List (Nat × Nat × Nat × Nat)}
    (hown : s.vm.findClass own = some m.cls) (hlink : (Cond.methodLink own index y).before args s = true) (hinst : (Cond.instanceMethod y).before args s = true) (hsel : (Cond.selects C y y).before args s = true)
    (hcode : (Cond.codeWith y bytes maxL ret hh).before args s = true) (hy : y.cls ≠ "java/lang/invoke/MethodHandle" ∧ y.cls ≠ "java/lang/invoke/VarHandle")
    {W9 : Nat} {Pre : Pt → Array Value → Prop} {Post : Pt → Array Value → Option Value → Pt → Prop} {PostX : Pt → Array Value → Addr → Pt → Prop} (hK : vx_Back l R p e below s args y 3 W9 Pre Post PostX)
    {b : Addr} {cellB : Cell} (hcell : T.heap[b]? = some cellB) (hobj : cellB.vm.isStatics = false) (hcls : s.vm.findClass C = some cellB.cls)
    {g : JFrame} (hg : g.method = m) (hsize : g.locals.size = c.maxLocals) {argsL rest : List Value} (hlen : ∀ sig, parseMethodDescriptor y.desc = some sig → argsL.length = sig.parameters.length)
    (hstack : g.stack = argsL.reverse ++ .ref b :: rest) (hW : 2 * g.monitorRoom + (rest.map fun v => v.category).sum ≤ W9) (hdg : decode c.code g.pc = .ok (.invokevirtual index, 3))
    (hpre : ∀ vm₁, s.WarmedH vm₁ → Pre ⟨T.setVm vm₁, locs, cells, slots⟩ (Value.ref b :: argsL).toArray) :
    (∃ (v : Option Value) (vm₁ : Vm) (B : Pt), s.WarmedH vm₁ ∧ Stand p l e R s m args below meth c B.U B.locs B.cells B.slots ∧ Post ⟨T.setVm vm₁, locs, cells, slots⟩ (Value.ref b :: argsL).toArray v B ∧
      ∀ target, Steps p.tables e below (B.U.setTop { g with pc := g.pc + 3, stack := v.toList ++ rest }) target → Steps p.tables e below (T.setTop g) target) ∨
    (∃ (q : Addr) (vm₁ : Vm) (B : Pt), s.WarmedH vm₁ ∧ Stand p l e R s m args below meth c B.U B.locs B.cells B.slots ∧ PostX ⟨T.setVm vm₁, locs, cells, slots⟩ (Value.ref b :: argsL).toArray q B ∧
      Steps p.tables e below (T.setTop g) ((B.U.setTop { g with stack := rest }).pushFrame (.throwing q))) := by
  obtain ⟨mk, methM, hnamed, hmethM, hstM, habM⟩ := Cond.instanceMethod_spec hinst
  obtain ⟨m8, methM', cM, hn8, hmethM', -, -, -, -, -, -, hsigM⟩ := Cond.codeWith_spec hcode
  cases Option.some.inj (hn8.symm.trans hnamed)
  cases hmethM.symm.trans hmethM'
  obtain ⟨c2, r2, m2, q1, q2, q3, q4, kP, hkP, hkPi⟩ := Cond.selects_spec hsel
  cases hcls.symm.trans q1
  cases (State.methodFound?_of_named hnamed hy).symm.trans q2
  cases hnamed.symm.trans q3
  have hselP : selectMethod e.platform s.vm cellB.cls mk = .method mk := by rw [Launch.admits_selectMethod X.admits]; exact q4
  obtain ⟨vm₁, X₁, hstep₁⟩ := X.invokevirtual hexec hown hlink hnamed hmethM hstM hkP hkPi hy (a := b) (cell := cellB) hcell
    (fun z h => by rw [h] at hobj; cases hobj) hselP hmethM habM hkP hkPi (g := g) hg (argsL := argsL) (rest := rest) (hlen _ hsigM) hstack hdg
  rcases hK m meth c ⟨T.setVm vm₁, locs, cells, slots⟩ { g with stack := rest } (.invokevirtual index) mk (Value.ref b :: argsL).toArray X₁ hg hsize hdg hW (X₁.named hnamed) (hpre vm₁ X₁.warmed) with ⟨v, B, X', hpost, hsteps⟩ | ⟨q, B, X', hpost, hsteps⟩
  · exact Or.inl ⟨v, vm₁, B, X₁.warmed, X', hpost, fun target h => hstep₁ _ fun acts => by rw [doInvoke_state]; exact hsteps.trans h⟩
  · exact Or.inr ⟨q, vm₁, B, X₁.warmed, X', hpost, hstep₁ _ fun acts => by rw [doInvoke_state]; exact hsteps⟩
theorem vx_callSX (X : Stand p l e R s m args below meth c T locs cells slots) (hexec : p.tables.exec = Jvm.exec) {own : String} {index : Nat} {y : MethodName} {bytes : ByteArray} {maxL : Nat} {ret : Option FieldType} {hh : List (Nat × Nat × Nat × Nat)}
    (hown : s.vm.findClass own = some m.cls) (hlink : (Cond.methodLink own index y).before args s = true) (hstat : (Cond.static y).before args s = true) (hinit : (Cond.initialized y.cls).before args s = true)
    (hcode : (Cond.codeWith y bytes maxL ret hh).before args s = true) (hy : y.cls ≠ "java/lang/invoke/MethodHandle" ∧ y.cls ≠ "java/lang/invoke/VarHandle")
    {W9 : Nat} {Pre : Pt → Array Value → Prop} {Post : Pt → Array Value → Option Value → Pt → Prop} {PostX : Pt → Array Value → Addr → Pt → Prop} (hK : vx_Back l R p e below s args y 3 W9 Pre Post PostX)
    {g : JFrame} (hg : g.method = m) (hsize : g.locals.size = c.maxLocals) {argsL rest : List Value} (hlen : ∀ sig, parseMethodDescriptor y.desc = some sig → argsL.length = sig.parameters.length)
    (hstack : g.stack = argsL.reverse ++ rest) (hW : 2 * g.monitorRoom + (rest.map fun v => v.category).sum ≤ W9) (hdg : decode c.code g.pc = .ok (.invokestatic index, 3))
    (hpre : ∀ vm₁, s.WarmedH vm₁ → Pre ⟨T.setVm vm₁, locs, cells, slots⟩ argsL.toArray) :
    (∃ (v : Option Value) (vm₁ : Vm) (B : Pt), s.WarmedH vm₁ ∧ Stand p l e R s m args below meth c B.U B.locs B.cells B.slots ∧ Post ⟨T.setVm vm₁, locs, cells, slots⟩ argsL.toArray v B ∧
      ∀ target, Steps p.tables e below (B.U.setTop { g with pc := g.pc + 3, stack := v.toList ++ rest }) target → Steps p.tables e below (T.setTop g) target) ∨
    (∃ (q : Addr) (vm₁ : Vm) (B : Pt), s.WarmedH vm₁ ∧ Stand p l e R s m args below meth c B.U B.locs B.cells B.slots ∧ PostX ⟨T.setVm vm₁, locs, cells, slots⟩ argsL.toArray q B ∧
      Steps p.tables e below (T.setTop g) ((B.U.setTop { g with stack := rest }).pushFrame (.throwing q))) := by
  obtain ⟨mk, methM, cM, hnamed, hmethM, -, -, -, -, -, -, hsigM⟩ := Cond.codeWith_spec hcode
  have hstatic : methM.isStatic = true := Cond.static_spec hnamed hmethM hstat
  obtain ⟨kP, hkP, -⟩ := className_of_methodNamed hnamed
  have hinitP : kP.init = .initialized := Cond.initialized_spec (findClass_of_methodNamed hnamed) hkP hinit
  obtain ⟨vm₁, X₁, hstep₁⟩ := X.invokestatic hexec hown hlink hnamed hmethM hstatic hkP hinitP hy (g := g) hg (argsL := argsL) (rest := rest) (hlen _ hsigM) hstack hdg
  rcases hK m meth c ⟨T.setVm vm₁, locs, cells, slots⟩ { g with stack := rest } (.invokestatic index) mk argsL.toArray X₁ hg hsize hdg hW (X₁.named hnamed) (hpre vm₁ X₁.warmed) with ⟨v, B, X', hpost, hsteps⟩ | ⟨q, B, X', hpost, hsteps⟩
  · exact Or.inl ⟨v, vm₁, B, X₁.warmed, X', hpost, fun target h => hstep₁ _ fun acts => by rw [doInvoke_state]; exact hsteps.trans h⟩
  · exact Or.inr ⟨q, vm₁, B, X₁.warmed, X', hpost, hstep₁ _ fun acts => by rw [doInvoke_state]; exact hsteps⟩
theorem vx_callVW (X : Stand p l e R s m args below meth c T locs cells slots) (hexec : p.tables.exec = Jvm.exec) {own C : String} {index : Nat} {y : MethodName} {bytes : ByteArray} {maxL : Nat} {ret : Option FieldType} {hh : List (Nat × Nat × Nat × Nat)}
    (hown : s.vm.findClass own = some m.cls) (hlink : (Cond.methodLink own index y).before args s = true) (hinst : (Cond.instanceMethod y).before args s = true) (hsel : (Cond.selects C y y).before args s = true)
    (hcode : (Cond.codeWith y bytes maxL ret hh).before args s = true) (hy : y.cls ≠ "java/lang/invoke/MethodHandle" ∧ y.cls ≠ "java/lang/invoke/VarHandle")
    {W9 : Nat} {Pre : Pt → Array Value → Prop} {Post : Pt → Array Value → Option Value → Pt → Prop} (hK : Back l R p e below s args y 3 W9 Pre Post)
    {b : Addr} {cellB : Cell} (hcell : T.heap[b]? = some cellB) (hobj : cellB.vm.isStatics = false) (hcls : s.vm.findClass C = some cellB.cls)
    {g : JFrame} (hg : g.method = m) (hsize : g.locals.size = c.maxLocals) {argsL rest : List Value} (hlen : ∀ sig, parseMethodDescriptor y.desc = some sig → argsL.length = sig.parameters.length)
    (hstack : g.stack = argsL.reverse ++ .ref b :: rest) (hW : 2 * g.monitorRoom + (rest.map fun v => v.category).sum ≤ W9) (hdg : decode c.code g.pc = .ok (.invokevirtual index, 3))
    (hpre : ∀ vm₁, s.WarmedH vm₁ → Pre ⟨T.setVm vm₁, locs, cells, slots⟩ (Value.ref b :: argsL).toArray) :
    ∃ (v : Option Value) (vm₁ : Vm) (B : Pt), s.WarmedH vm₁ ∧ Stand p l e R s m args below meth c B.U B.locs B.cells B.slots ∧ Post ⟨T.setVm vm₁, locs, cells, slots⟩ (Value.ref b :: argsL).toArray v B ∧
      ∀ target, Steps p.tables e below (B.U.setTop { g with pc := g.pc + 3, stack := v.toList ++ rest }) target → Steps p.tables e below (T.setTop g) target := by
  obtain ⟨mk, methM, hnamed, hmethM, hstM, habM⟩ := Cond.instanceMethod_spec hinst
  obtain ⟨m8, methM', cM, hn8, hmethM', -, -, -, -, -, -, hsigM⟩ := Cond.codeWith_spec hcode
  cases Option.some.inj (hn8.symm.trans hnamed)
  cases hmethM.symm.trans hmethM'
  obtain ⟨c2, r2, m2, q1, q2, q3, q4, kP, hkP, hkPi⟩ := Cond.selects_spec hsel
  cases hcls.symm.trans q1
  cases (State.methodFound?_of_named hnamed hy).symm.trans q2
  cases hnamed.symm.trans q3
  have hselP : selectMethod e.platform s.vm cellB.cls mk = .method mk := by rw [Launch.admits_selectMethod X.admits]; exact q4
  obtain ⟨vm₁, X₁, hstep₁⟩ := X.invokevirtual hexec hown hlink hnamed hmethM hstM hkP hkPi hy (a := b) (cell := cellB) hcell
    (fun z h => by rw [h] at hobj; cases hobj) hselP hmethM habM hkP hkPi (g := g) hg (argsL := argsL) (rest := rest) (hlen _ hsigM) hstack hdg
  obtain ⟨v, B, X', hpost, hsteps⟩ := hK m meth c ⟨T.setVm vm₁, locs, cells, slots⟩ { g with stack := rest } (.invokevirtual index) mk (Value.ref b :: argsL).toArray X₁ hg hsize hdg hW (X₁.named hnamed) (hpre vm₁ X₁.warmed)
  exact ⟨v, vm₁, B, X₁.warmed, X', hpost, fun target h => hstep₁ _ fun acts => by rw [doInvoke_state]; exact hsteps.trans h⟩
abbrev vx_CVW (R : Room) (s : State) (args : Array Value) (own C : String) (index : Nat) (y : MethodName) (bytes : ByteArray) (maxL : Nat) (ret : Option FieldType) (hh : List (Nat × Nat × Nat × Nat)) (ws : List Cond) (rm : Room) (mc ms n : Nat) : Prop :=
  (rm.cells = mc ∧ rm.slots = ms ∧ rm.frames + 1 ≤ R.frames ∧ 8 + (maxL + 11) + rm.locals ≤ R.locals ∧ (∀ w ∈ ws, ∀ (a' : Array Value) (U : State), s.WarmedH U.vm → w.before a' U = true) ∧ Cond.codeWith y bytes maxL ret hh ∈ ws) ∧
  (Cond.codeWith y bytes maxL ret hh).before args s = true ∧ (Cond.initialized y.cls).before args s = true ∧ (y.cls ≠ "java/lang/invoke/MethodHandle" ∧ y.cls ≠ "java/lang/invoke/VarHandle") ∧
  (∀ sig, parseMethodDescriptor y.desc = some sig → n = sig.parameters.length) ∧ (Cond.methodLink own index y).before args s = true ∧ (Cond.instanceMethod y).before args s = true ∧ (Cond.selects C y y).before args s = true
theorem vx_cwVW {own C : String} {index maxL mc ms : Nat} {y : MethodName} {bytes : ByteArray} {ret : Option FieldType} {hh : List (Nat × Nat × Nat × Nat)} {Ts ws ws' : List Cond} {rm : Room} (n : Nat) (ht : ∀ w ∈ Ts, w.before args s = true) (hT : GoodIn Ts (wsV own index C y ws)) (hw : ws = Cond.codeWith y bytes maxL ret hh :: ws') (hrc : rm.cells = mc) (hrs : rm.slots = ms)
    (hd : y.cls = C ∧ y.cls ≠ "java/lang/invoke/MethodHandle" ∧ y.cls ≠ "java/lang/invoke/VarHandle" ∧ (parseMethodDescriptor y.desc).map (fun d => d.parameters.length) = some n) (hR : rm.frames + 1 ≤ R.frames ∧ 8 + (maxL + 11) + rm.locals ≤ R.locals) :
    vx_CVW R s args own C index y bytes maxL ret hh ws rm mc ms n := by
  obtain ⟨hC, hd⟩ := hd
  subst hC
  have ok : ∀ w ∈ wsV own index y.cls y ws, w.before args s = true := fun w h => ht w (hT w h).1
  have hG : GoodIn Ts ws := fun w h => hT w (by unfold wsV; exact List.mem_append_right _ h)
  have hc : Cond.codeWith y bytes maxL ret hh ∈ ws := by rw [hw]; exact List.mem_cons_self
  refine ⟨⟨hrc, hrs, hR.1, hR.2, pay_in ht hG, hc⟩, ht _ (hG _ hc).1, ok _ (by simp [wsV]), ⟨hd.1, hd.2.1⟩, fun sig h => ?_, ok _ (by simp [wsV]), ok _ (by simp [wsV]), ok _ (by simp [wsV])⟩
  have h2 := hd.2.2
  rw [h] at h2
  exact (Option.some.inj h2).symm
theorem vx_runVW {y : MethodName} {bytes cc : ByteArray} {maxL nL mc ms n index : Nat} {ret : Option FieldType} {hh : List (Nat × Nat × Nat × Nat)} {ws : List Cond} {rm : Room} {Pc : Array Value → State → Prop} {Qc : Array Value → State → Outcome → State → Prop} {free : Addr → Prop} {Ts : List Cond} {own C : String} {b : Addr} {As rest : List Value} {g : JFrame}
    (S : CallFix p m c cc nL s args Ts own) (hM : Met l y ws rm Pc Qc mc ms free) (cw : vx_CVW R s args own C index y bytes maxL ret hh ws rm mc ms n) (hp : PreV s H C b Pc As)
    (hg : g.method = m) (hn : As.length = n) (hsize : g.locals.size = nL) (hstack : g.stack = As.reverse ++ .ref b :: rest) (hW : 2 * g.monitorRoom + (rest.map fun v => v.category).sum ≤ 8) (hdg : decode cc g.pc = .ok (.invokevirtual index, 3)) (hf : cells + mc ≤ R.cells ∧ slots + ms ≤ R.slots) :
    va_Run p l e R s m args below meth c H locs cells slots mc ms g rest (Qc (Value.ref b :: As).toArray) free := by
  obtain ⟨⟨hrc, hrs, hfr, hlo, hws, hcw⟩, hcode, hini, hy, hlen, hl, hin, hse⟩ := cw
  have hK : Back l R p e below s args y 3 8 (PreOf R mc ms Pc) (PostOf Qc mc ms free) := va_backW (hh := hh) (bytes := bytes) (maxL := maxL) (ret := ret) hM hp.1 hrc hrs hfr hlo hws hcw (fun a' U hW => word_at hW (Or.inl (by first | rfl | simp [Cond.onTables, Cond.keeps, Cond.steady])) hini)
  obtain ⟨hx, hb, hml, ho, -⟩ := S
  obtain ⟨-, ⟨cellB, hcB, hoB, hclB⟩, hPc⟩ := hp
  intro T hT X
  obtain ⟨v, vm₁, ⟨U', l2, c2, s2⟩, hW₁, X', ⟨g', mk, t, L, e1, e2, hq, h1, hL, h2, h3⟩, st⟩ := vx_callVW X hx (C := C) (hh := hh) (bytes := bytes) (maxL := maxL) (ret := ret) ho hl hin hse hcode hy hK (by rw [hT]; exact hcB) hoB hclB hg (hsize.trans hml.symm) (argsL := As) (rest := rest) (fun sig h => hn.trans (hlen sig h)) hstack hW (by rw [hb]; exact hdg)
    (fun vm₁ hW₁ => ⟨hf.1, hf.2, hPc (T.setVm vm₁) hT hW₁⟩)
  dsimp only [Pt.U, Pt.locs, Pt.cells, Pt.slots] at X' e1 e2 h1 h2 h3 st
  subst h1; subst h2; subst h3
  exact ⟨v, (T.setVm vm₁).calling g' mk (Value.ref b :: As).toArray, t, U', L, hT, X', hL, e1, e2, hq, st⟩
section
variable {y : MethodName} {bytes cc : ByteArray} {maxL nL mc ms n index : Nat} {ret : Option FieldType} {ws : List Cond} {rm : Room} {Pc : Array Value → State → Prop} {Qc : Array Value → State → Outcome → State → Prop} {XC : String → State → State → Prop} {free : Addr → Prop} {Ts : List Cond} {own C : String} {b : Addr} {As rest : List Value} {g : JFrame}
theorem vx_runVX {hh : List (Nat × Nat × Nat × Nat)} (S : CallFix p m c cc nL s args Ts own) (hM : vx_Met l y ws rm Pc Qc XC mc ms free) (cw : vx_CVW R s args own C index y bytes maxL ret hh ws rm mc ms n) (hp : PreV s H C b Pc As)
    (hg : g.method = m) (hn : As.length = n) (hsize : g.locals.size = nL) (hstack : g.stack = As.reverse ++ .ref b :: rest) (hW : 2 * g.monitorRoom + (rest.map fun v => v.category).sum ≤ 8) (hdg : decode cc g.pc = .ok (.invokevirtual index, 3)) (hf : cells + mc ≤ R.cells ∧ slots + ms ≤ R.slots) :
    vx_Run p l e R s m args below meth c H locs cells slots mc ms g rest (Qc (Value.ref b :: As).toArray) XC free := by
  obtain ⟨⟨hrc, hrs, hfr, hlo, hws, hcw⟩, hcode, hini, hy, hlen, hl, hin, hse⟩ := cw
  have hK : vx_Back l R p e below s args y 3 8 (PreOf R mc ms Pc) (PostOf Qc mc ms free) (vx_Post XC mc ms free) := vx_backW (hh := hh) (bytes := bytes) (maxL := maxL) (ret := ret) hM hp.1 hrc hrs hfr hlo hws hcw (fun a' U hW => word_at hW (Or.inl (by first | rfl | simp [Cond.onTables, Cond.keeps, Cond.steady])) hini)
  obtain ⟨hx, hb, hml, ho, -⟩ := S
  obtain ⟨-, ⟨cellB, hcB, hoB, hclB⟩, hPc⟩ := hp
  intro T hT X
  rcases vx_callVX X hx (C := C) (hh := hh) (bytes := bytes) (maxL := maxL) (ret := ret) ho hl hin hse hcode hy hK (by rw [hT]; exact hcB) hoB hclB hg (hsize.trans hml.symm) (argsL := As) (rest := rest) (fun sig h => hn.trans (hlen sig h)) hstack hW (by rw [hb]; exact hdg)
    (fun vm₁ hW₁ => ⟨hf.1, hf.2, hPc (T.setVm vm₁) hT hW₁⟩) with ⟨v, vm₁, ⟨U', l2, c2, s2⟩, hW₁, X', ⟨g', mk, t, L, e1, e2, hq, h1, hL, h2, h3⟩, st⟩ | ⟨q, vm₁, ⟨U', l2, c2, s2⟩, hW₁, X', ⟨g', mk, t, L, E, ce, e1, e2, hq, hce, hcv, hcl, h1, hL, h2, h3⟩, st⟩
  · dsimp only [Pt.U, Pt.locs, Pt.cells, Pt.slots] at X' e1 e2 h1 h2 h3 st
    subst h1; subst h2; subst h3
    exact Or.inl ⟨v, (T.setVm vm₁).calling g' mk (Value.ref b :: As).toArray, t, U', L, hT, X', hL, e1, e2, hq, st⟩
  · dsimp only [Pt.U, Pt.locs, Pt.cells, Pt.slots] at X' e1 e2 h1 h2 h3 st hcl
    subst h1; subst h2; subst h3
    exact Or.inr ⟨q, (T.setVm vm₁).calling g' mk (Value.ref b :: As).toArray, t, U', L, E, ce, hT, X', hL, e1, e2, hq, hce, hcv, vx_cls hW₁ hcl, st⟩
theorem vx_runSX {hh : List (Nat × Nat × Nat × Nat)} (S : CallFix p m c cc nL s args Ts own) (hM : vx_Met l y ws rm Pc Qc XC mc ms free) (cw : vx_CSW R s args own index y bytes maxL ret hh ws rm mc ms n) (hp : PreS s H Pc As)
    (hg : g.method = m) (hn : As.length = n) (hsize : g.locals.size = nL) (hstack : g.stack = As.reverse ++ rest) (hW : 2 * g.monitorRoom + (rest.map fun v => v.category).sum ≤ 8) (hdg : decode cc g.pc = .ok (.invokestatic index, 3)) (hf : cells + mc ≤ R.cells ∧ slots + ms ≤ R.slots) :
    vx_Run p l e R s m args below meth c H locs cells slots mc ms g rest (Qc As.toArray) XC free := by
  obtain ⟨⟨hrc, hrs, hfr, hlo, hws, hcw⟩, hcode, hini, hy, hlen, hl, hstt⟩ := cw
  have hK : vx_Back l R p e below s args y 3 8 (PreOf R mc ms Pc) (PostOf Qc mc ms free) (vx_Post XC mc ms free) := vx_backW (hh := hh) (bytes := bytes) (maxL := maxL) (ret := ret) hM hp.1 hrc hrs hfr hlo hws hcw (fun a' U hW => word_at hW (Or.inl (by first | rfl | simp [Cond.onTables, Cond.keeps, Cond.steady])) hini)
  obtain ⟨hx, hb, hml, ho, -⟩ := S
  intro T hT X
  rcases vx_callSX X hx (hh := hh) (bytes := bytes) (maxL := maxL) (ret := ret) ho hl hstt hini hcode hy hK hg (hsize.trans hml.symm) (argsL := As) (rest := rest) (fun sig h => hn.trans (hlen sig h)) hstack hW (by rw [hb]; exact hdg)
    (fun vm₁ hW₁ => ⟨hf.1, hf.2, hp.2 (T.setVm vm₁) hT hW₁⟩) with ⟨v, vm₁, ⟨U', l2, c2, s2⟩, hW₁, X', ⟨g', mk, t, L, e1, e2, hq, h1, hL, h2, h3⟩, st⟩ | ⟨q, vm₁, ⟨U', l2, c2, s2⟩, hW₁, X', ⟨g', mk, t, L, E, ce, e1, e2, hq, hce, hcv, hcl, h1, hL, h2, h3⟩, st⟩
  · dsimp only [Pt.U, Pt.locs, Pt.cells, Pt.slots] at X' e1 e2 h1 h2 h3 st
    subst h1; subst h2; subst h3
    exact Or.inl ⟨v, (T.setVm vm₁).calling g' mk As.toArray, t, U', L, hT, X', hL, e1, e2, hq, st⟩
  · dsimp only [Pt.U, Pt.locs, Pt.cells, Pt.slots] at X' e1 e2 h1 h2 h3 st hcl
    subst h1; subst h2; subst h3
    exact Or.inr ⟨q, (T.setVm vm₁).calling g' mk As.toArray, t, U', L, E, ce, hT, X', hL, e1, e2, hq, hce, hcv, vx_cls hW₁ hcl, st⟩
end
end VXH
theorem vx_ofWH {l : Launch} {y : MethodName} {ws ws' : List Cond} {rm : Room} {Pc : Array Value → State → Prop} {Qc : Array Value → State → Outcome → State → Prop} {XC : String → State → State → Prop} {mc ms : Nat} {free : Addr → Prop} {cc : ByteArray} {maxL : Nat} {ret : Option FieldType} {hh : List (Nat × Nat × Nat × Nat)}
    (hy : plainName y.cls = true) (hw : ws = Cond.codeWith y cc maxL ret hh :: ws')
    (body : ∀ p e s m args below meth c s₁, BodyLoose p l y (headSpec ws rm) cc maxL ret e s m args below meth c s₁ → c.maxLocals = maxL → Pc args s →
      W p l e (headSpec ws rm).room s m args below meth c s.heap [] 0 0 (vx_MQ below Qc XC args s mc ms free) (entryFrame m args maxL)) : vx_Met l y ws rm Pc Qc XC mc ms free := by
  refine MetFree.of_bodyS (code := cc) (maxLocals := maxL) (ret := ret) hy ?_ ?_
  · intro args s m h hn
    obtain ⟨m9, meth, c, hn9, h1, h2, h3, h4, -, h5, h6, -⟩ := Cond.codeWith_spec (atoms_spec (ws := ws) h _ (by rw [hw]; exact List.mem_cons_self))
    cases hn.symm.trans hn9
    exact ⟨meth, c, h1, h2, h3, h4, h5, h6⟩
  · intro p e s m args below meth c s₁ B hml hP _
    have hh0 : s₁.heap = s.heap := by rw [B.state]; rfl
    obtain ⟨t, a1, o, b1, b2, b3⟩ := body p e s m args below meth c s₁ B hml hP s₁ hh0 (Stand.of_body B)
    exact ⟨t, o, a1, b1, b2, b3⟩
/-! ===== END ===== -/
end
section
/-! ===== BEGIN printed: names, fields, word lists, decode rows ===== -/
def RX0 : String := "IssueDesk$Pattern"
def TX0 : u_T := fun k => match k with
  | 0 => ("IssueDesk$Pattern", "gap", "I", false)
  | 1 => ("IssueDesk$Pattern", "size", "I", false)
  | 2 => ("IssueDesk$Pattern", "beginAnew", "Z", false)
  | _ => ("IssueDesk$Pattern", "skipped", "I", false)
def tyX0 : Nat → FieldType := fun k => match k with
  | 0 => .int
  | 1 => .int
  | 2 => .boolean
  | _ => .int
abbrev wsX00 : List Cond := u_ws RX0 TX0 4
theorem nmX0 : ∀ a, a < 4 → ∀ b, b < 4 → a ≠ b → (TX0 a).2.1 ≠ (TX0 b).2.1 := by decide +kernel
theorem tyX0_ok : ∀ k, k < 4 → parseFieldDescriptor (TX0 k).2.2.1 = some (tyX0 k) := by decide +kernel
abbrev cX0_init : ByteArray := prog_2_method_1_code
def yX0_init : MethodName := ⟨RX0, "<init>", "()V"⟩
abbrev cX0_change : ByteArray := prog_2_method_2_code
def yX0_change : MethodName := ⟨RX0, "change", "(IIZI)V"⟩
abbrev cX0_dayBehind : ByteArray := prog_2_method_3_code
def yX0_dayBehind : MethodName := ⟨RX0, "dayBehind", "(II)I"⟩
abbrev cX0_volumeOf : ByteArray := prog_2_method_4_code
def yX0_volumeOf : MethodName := ⟨RX0, "volumeOf", "(I)I"⟩
abbrev cX0_numberOf : ByteArray := prog_2_method_5_code
def yX0_numberOf : MethodName := ⟨RX0, "numberOf", "(I)I"⟩
abbrev cX0_isInSkippedMonth : ByteArray := prog_2_method_6_code
def yX0_isInSkippedMonth : MethodName := ⟨RX0, "isInSkippedMonth", "(I)Z"⟩
def RX1 : String := "IssueDesk"
def TX1 : u_T := fun k => match k with
  | 0 => ("IssueDesk", "pattern", "LIssueDesk$Pattern;", true)
  | 1 => ("IssueDesk", "grace", "I", false)
  | 2 => ("IssueDesk", "pause", "I", false)
  | 3 => ("IssueDesk", "today", "I", false)
  | 4 => ("IssueDesk", "foretoldCount", "I", false)
  | 5 => ("IssueDesk", "waitingShift", "I", false)
  | 6 => ("IssueDesk", "issueDays", "[I", true)
  | 7 => ("IssueDesk", "states", "[I", true)
  | 8 => ("IssueDesk", "claimCounts", "[I", true)
  | 9 => ("IssueDesk", "claimDays", "[I", true)
  | 10 => ("IssueDesk", "streakLength", "I", false)
  | 11 => ("IssueDesk", "streakDifference", "I", false)
  | 12 => ("IssueDesk", "streakIssue", "I", false)
  | 13 => ("IssueDesk", "isThere", "[Z", true)
  | _ => ("IssueDesk", "thereCount", "I", false)
def tyX1 : Nat → FieldType := fun k => match k with
  | 0 => .object "IssueDesk$Pattern"
  | 1 => .int
  | 2 => .int
  | 3 => .int
  | 4 => .int
  | 5 => .int
  | 6 => .array .int
  | 7 => .array .int
  | 8 => .array .int
  | 9 => .array .int
  | 10 => .int
  | 11 => .int
  | 12 => .int
  | 13 => .array .boolean
  | _ => .int
abbrev wsX10 : List Cond := u_ws RX1 TX1 15
theorem nmX1 : ∀ a, a < 15 → ∀ b, b < 15 → a ≠ b → (TX1 a).2.1 ≠ (TX1 b).2.1 := by decide +kernel
theorem tyX1_ok : ∀ k, k < 15 → parseFieldDescriptor (TX1 k).2.2.1 = some (tyX1 k) := by decide +kernel
abbrev cX1_init : ByteArray := prog_1_method_1_code
def yX1_init : MethodName := ⟨RX1, "<init>", "()V"⟩
abbrev cX1_setPattern : ByteArray := prog_1_method_2_code
def yX1_setPattern : MethodName := ⟨RX1, "setPattern", "(IIZI)V"⟩
abbrev cX1_setClaims : ByteArray := prog_1_method_3_code
def yX1_setClaims : MethodName := ⟨RX1, "setClaims", "(II)V"⟩
abbrev cX1_advance : ByteArray := prog_1_method_4_code
def yX1_advance : MethodName := ⟨RX1, "advance", "(I)I"⟩
abbrev cX1_checkIn : ByteArray := prog_1_method_5_code
def yX1_checkIn : MethodName := ⟨RX1, "checkIn", "(II)I"⟩
abbrev cX1_skip : ByteArray := prog_1_method_6_code
def yX1_skip : MethodName := ⟨RX1, "skip", "(I)V"⟩
abbrev cX1_round : ByteArray := prog_1_method_7_code
def yX1_round : MethodName := ⟨RX1, "round", "()I"⟩
abbrev cX1_day : ByteArray := prog_1_method_8_code
def yX1_day : MethodName := ⟨RX1, "day", "()I"⟩
abbrev cX1_foretold : ByteArray := prog_1_method_9_code
def yX1_foretold : MethodName := ⟨RX1, "foretold", "()I"⟩
abbrev cX1_shift : ByteArray := prog_1_method_10_code
def yX1_shift : MethodName := ⟨RX1, "shift", "()I"⟩
abbrev cX1_dayOf : ByteArray := prog_1_method_11_code
def yX1_dayOf : MethodName := ⟨RX1, "dayOf", "(I)I"⟩
abbrev cX1_stateOf : ByteArray := prog_1_method_12_code
def yX1_stateOf : MethodName := ⟨RX1, "stateOf", "(I)I"⟩
abbrev cX1_claimsOf : ByteArray := prog_1_method_13_code
def yX1_claimsOf : MethodName := ⟨RX1, "claimsOf", "(I)I"⟩
abbrev cX1_labelOf : ByteArray := prog_1_method_14_code
def yX1_labelOf : MethodName := ⟨RX1, "labelOf", "(I)I"⟩
abbrev cX1_find : ByteArray := prog_1_method_15_code
def yX1_find : MethodName := ⟨RX1, "find", "(II)I"⟩
abbrev cX1_late : ByteArray := prog_1_method_16_code
def yX1_late : MethodName := ⟨RX1, "late", "()I"⟩
abbrev cX1_ranges : ByteArray := prog_1_method_17_code
def yX1_ranges : MethodName := ⟨RX1, "ranges", "()I"⟩
abbrev cX1_rangeAt : ByteArray := prog_1_method_18_code
def yX1_rangeAt : MethodName := ⟨RX1, "rangeAt", "(I)I"⟩
abbrev cX1_isHeld : ByteArray := prog_1_method_19_code
def yX1_isHeld : MethodName := ⟨RX1, "isHeld", "(I)Z"⟩
abbrev cX1_give : ByteArray := prog_1_method_20_code
def yX1_give : MethodName := ⟨RX1, "give", "(II)I"⟩
abbrev cX1_only : ByteArray := prog_1_method_21_code
def yX1_only : MethodName := ⟨RX1, "only", "(ZI)I"⟩
abbrev cX1_isWithin : ByteArray := prog_1_method_22_code
def yX1_isWithin : MethodName := ⟨RX1, "isWithin", "(III)Z"⟩
abbrev cX1_isIssue : ByteArray := prog_1_method_23_code
def yX1_isIssue : MethodName := ⟨RX1, "isIssue", "(I)Z"⟩
abbrev cX1_isForetold : ByteArray := prog_1_method_24_code
def yX1_isForetold : MethodName := ⟨RX1, "isForetold", "(I)Z"⟩
abbrev cX1_nextDay : ByteArray := prog_1_method_25_code
def yX1_nextDay : MethodName := ⟨RX1, "nextDay", "()I"⟩
abbrev cX1_foretellNext : ByteArray := prog_1_method_26_code
def yX1_foretellNext : MethodName := ⟨RX1, "foretellNext", "()V"⟩
abbrev cX1_foretellUpTo : ByteArray := prog_1_method_27_code
def yX1_foretellUpTo : MethodName := ⟨RX1, "foretellUpTo", "(I)V"⟩
abbrev cX1_foretellDueIssues : ByteArray := prog_1_method_28_code
def yX1_foretellDueIssues : MethodName := ⟨RX1, "foretellDueIssues", "()V"⟩
abbrev cX1_canAllCome : ByteArray := prog_1_method_29_code
def yX1_canAllCome : MethodName := ⟨RX1, "canAllCome", "(II)Z"⟩
abbrev cX1_takeIn : ByteArray := prog_1_method_30_code
def yX1_takeIn : MethodName := ⟨RX1, "takeIn", "(II)V"⟩
abbrev cX1_noteDifference : ByteArray := prog_1_method_31_code
def yX1_noteDifference : MethodName := ⟨RX1, "noteDifference", "(I)V"⟩
abbrev cX1_followsStreak : ByteArray := prog_1_method_32_code
def yX1_followsStreak : MethodName := ⟨RX1, "followsStreak", "(I)Z"⟩
abbrev cX1_canShift : ByteArray := prog_1_method_33_code
def yX1_canShift : MethodName := ⟨RX1, "canShift", "(I)Z"⟩
abbrev cX1_isLate : ByteArray := prog_1_method_34_code
def yX1_isLate : MethodName := ⟨RX1, "isLate", "(I)Z"⟩
abbrev cX1_isTimeToClaim : ByteArray := prog_1_method_35_code
def yX1_isTimeToClaim : MethodName := ⟨RX1, "isTimeToClaim", "(I)Z"⟩
abbrev cX1_isInHouse : ByteArray := prog_1_method_36_code
def yX1_isInHouse : MethodName := ⟨RX1, "isInHouse", "(I)Z"⟩
abbrev cX1_isRangeStart : ByteArray := prog_1_method_37_code
def yX1_isRangeStart : MethodName := ⟨RX1, "isRangeStart", "(I)Z"⟩
abbrev cX1_startOfRange : ByteArray := prog_1_method_38_code
def yX1_startOfRange : MethodName := ⟨RX1, "startOfRange", "(I)I"⟩
abbrev cX1_endOfRange : ByteArray := prog_1_method_39_code
def yX1_endOfRange : MethodName := ⟨RX1, "endOfRange", "(I)I"⟩
def RX2 : String := "IssueDeskModel"
def TX2 : u_T := fun k => match k with
  | 0 => ("IssueDeskModel", "day", "I", false)
  | 1 => ("IssueDeskModel", "gap", "I", false)
  | 2 => ("IssueDeskModel", "size", "I", false)
  | 3 => ("IssueDeskModel", "isAnew", "Z", false)
  | 4 => ("IssueDeskModel", "skipped", "I", false)
  | 5 => ("IssueDeskModel", "grace", "I", false)
  | 6 => ("IssueDeskModel", "pause", "I", false)
  | 7 => ("IssueDeskModel", "foretold", "I", false)
  | 8 => ("IssueDeskModel", "dayOf", "[I", true)
  | 9 => ("IssueDeskModel", "state", "[I", true)
  | 10 => ("IssueDeskModel", "claims", "[I", true)
  | 11 => ("IssueDeskModel", "claimedOn", "[I", true)
  | 12 => ("IssueDeskModel", "isThere", "[Z", true)
  | 13 => ("IssueDeskModel", "shift", "I", false)
  | 14 => ("IssueDeskModel", "before", "I", false)
  | 15 => ("IssueDeskModel", "difference", "I", false)
  | 16 => ("IssueDeskModel", "row", "I", false)
  | _ => ("IssueDeskModel", "thrown", "I", false)
def tyX2 : Nat → FieldType := fun k => match k with
  | 0 => .int
  | 1 => .int
  | 2 => .int
  | 3 => .boolean
  | 4 => .int
  | 5 => .int
  | 6 => .int
  | 7 => .int
  | 8 => .array .int
  | 9 => .array .int
  | 10 => .array .int
  | 11 => .array .int
  | 12 => .array .boolean
  | 13 => .int
  | 14 => .int
  | 15 => .int
  | 16 => .int
  | _ => .int
abbrev wsX20 : List Cond := u_ws RX2 TX2 18
theorem nmX2 : ∀ a, a < 18 → ∀ b, b < 18 → a ≠ b → (TX2 a).2.1 ≠ (TX2 b).2.1 := by decide +kernel
theorem tyX2_ok : ∀ k, k < 18 → parseFieldDescriptor (TX2 k).2.2.1 = some (tyX2 k) := by decide +kernel
abbrev cX2_init : ByteArray := prog_4_method_1_code
def yX2_init : MethodName := ⟨RX2, "<init>", "()V"⟩
abbrev cX2_thrown : ByteArray := prog_4_method_2_code
def yX2_thrown : MethodName := ⟨RX2, "thrown", "()I"⟩
abbrev cX2_can : ByteArray := prog_4_method_3_code
def yX2_can : MethodName := ⟨RX2, "can", "(I)Z"⟩
abbrev cX2_isIn : ByteArray := prog_4_method_4_code
def yX2_isIn : MethodName := ⟨RX2, "isIn", "(III)Z"⟩
abbrev cX2_isIssue : ByteArray := prog_4_method_5_code
def yX2_isIssue : MethodName := ⟨RX2, "isIssue", "(I)Z"⟩
abbrev cX2_isForetold : ByteArray := prog_4_method_6_code
def yX2_isForetold : MethodName := ⟨RX2, "isForetold", "(I)Z"⟩
abbrev cX2_isBarred : ByteArray := prog_4_method_7_code
def yX2_isBarred : MethodName := ⟨RX2, "isBarred", "(I)Z"⟩
abbrev cX2_nextDay : ByteArray := prog_4_method_8_code
def yX2_nextDay : MethodName := ⟨RX2, "nextDay", "()I"⟩
abbrev cX2_foretells : ByteArray := prog_4_method_9_code
def yX2_foretells : MethodName := ⟨RX2, "foretells", "()V"⟩
abbrev cX2_looks : ByteArray := prog_4_method_10_code
def yX2_looks : MethodName := ⟨RX2, "looks", "()V"⟩
abbrev cX2_setPattern : ByteArray := prog_4_method_11_code
def yX2_setPattern : MethodName := ⟨RX2, "setPattern", "(IIZI)V"⟩
abbrev cX2_setClaims : ByteArray := prog_4_method_12_code
def yX2_setClaims : MethodName := ⟨RX2, "setClaims", "(II)V"⟩
abbrev cX2_advance : ByteArray := prog_4_method_13_code
def yX2_advance : MethodName := ⟨RX2, "advance", "(I)I"⟩
abbrev cX2_isOpen : ByteArray := prog_4_method_14_code
def yX2_isOpen : MethodName := ⟨RX2, "isOpen", "(II)Z"⟩
abbrev cX2_follows : ByteArray := prog_4_method_15_code
def yX2_follows : MethodName := ⟨RX2, "follows", "(I)Z"⟩
abbrev cX2_counts : ByteArray := prog_4_method_16_code
def yX2_counts : MethodName := ⟨RX2, "counts", "(I)V"⟩
abbrev cX2_checkIn : ByteArray := prog_4_method_17_code
def yX2_checkIn : MethodName := ⟨RX2, "checkIn", "(II)I"⟩
abbrev cX2_skip : ByteArray := prog_4_method_18_code
def yX2_skip : MethodName := ⟨RX2, "skip", "(I)V"⟩
abbrev cX2_isLate : ByteArray := prog_4_method_19_code
def yX2_isLate : MethodName := ⟨RX2, "isLate", "(I)Z"⟩
abbrev cX2_round : ByteArray := prog_4_method_20_code
def yX2_round : MethodName := ⟨RX2, "round", "()I"⟩
abbrev cX2_day : ByteArray := prog_4_method_21_code
def yX2_day : MethodName := ⟨RX2, "day", "()I"⟩
abbrev cX2_foretold : ByteArray := prog_4_method_22_code
def yX2_foretold : MethodName := ⟨RX2, "foretold", "()I"⟩
abbrev cX2_shift : ByteArray := prog_4_method_23_code
def yX2_shift : MethodName := ⟨RX2, "shift", "()I"⟩
abbrev cX2_isAsked : ByteArray := prog_4_method_24_code
def yX2_isAsked : MethodName := ⟨RX2, "isAsked", "(I)Z"⟩
abbrev cX2_dayOf : ByteArray := prog_4_method_25_code
def yX2_dayOf : MethodName := ⟨RX2, "dayOf", "(I)I"⟩
abbrev cX2_stateOf : ByteArray := prog_4_method_26_code
def yX2_stateOf : MethodName := ⟨RX2, "stateOf", "(I)I"⟩
abbrev cX2_claimsOf : ByteArray := prog_4_method_27_code
def yX2_claimsOf : MethodName := ⟨RX2, "claimsOf", "(I)I"⟩
abbrev cX2_volume : ByteArray := prog_4_method_28_code
def yX2_volume : MethodName := ⟨RX2, "volume", "(I)I"⟩
abbrev cX2_number : ByteArray := prog_4_method_29_code
def yX2_number : MethodName := ⟨RX2, "number", "(I)I"⟩
abbrev cX2_labelOf : ByteArray := prog_4_method_30_code
def yX2_labelOf : MethodName := ⟨RX2, "labelOf", "(I)I"⟩
abbrev cX2_find : ByteArray := prog_4_method_31_code
def yX2_find : MethodName := ⟨RX2, "find", "(II)I"⟩
abbrev cX2_late : ByteArray := prog_4_method_32_code
def yX2_late : MethodName := ⟨RX2, "late", "()I"⟩
abbrev cX2_isHere : ByteArray := prog_4_method_33_code
def yX2_isHere : MethodName := ⟨RX2, "isHere", "(I)Z"⟩
abbrev cX2_allRanges : ByteArray := prog_4_method_34_code
def yX2_allRanges : MethodName := ⟨RX2, "allRanges", "()I"⟩
abbrev cX2_ranges : ByteArray := prog_4_method_35_code
def yX2_ranges : MethodName := ⟨RX2, "ranges", "()I"⟩
abbrev cX2_rangeAt : ByteArray := prog_4_method_36_code
def yX2_rangeAt : MethodName := ⟨RX2, "rangeAt", "(I)I"⟩
abbrev cX2_isHeld : ByteArray := prog_4_method_37_code
def yX2_isHeld : MethodName := ⟨RX2, "isHeld", "(I)Z"⟩
abbrev cX2_give : ByteArray := prog_4_method_38_code
def yX2_give : MethodName := ⟨RX2, "give", "(II)I"⟩
abbrev cX2_only : ByteArray := prog_4_method_39_code
def yX2_only : MethodName := ⟨RX2, "only", "(ZI)I"⟩
def RJ9 : String := "java/lang/Math"
def TJ9 : u_T := fun k => match k with
  | _ => ("", "", "", false)
def tyJ9 : Nat → FieldType := fun k => match k with
  | _ => .int
abbrev wsJ90 : List Cond := u_ws RJ9 TJ9 0
theorem nmJ9 : ∀ a, a < 0 → ∀ b, b < 0 → a ≠ b → (TJ9 a).2.1 ≠ (TJ9 b).2.1 := by decide +kernel
theorem tyJ9_ok : ∀ k, k < 0 → parseFieldDescriptor (TJ9 k).2.2.1 = some (tyJ9 k) := by decide +kernel
abbrev cJ9_max_7cf53 : ByteArray := prog_9_method_65_code
def yJ9_max_7cf53 : MethodName := ⟨RJ9, "max", "(II)I"⟩
def RJ0 : String := "java/lang/String"
def TJ0 : u_T := fun k => match k with
  | _ => ("", "", "", false)
def tyJ0 : Nat → FieldType := fun k => match k with
  | _ => .int
abbrev wsJ00 : List Cond := u_ws RJ0 TJ0 0
theorem nmJ0 : ∀ a, a < 0 → ∀ b, b < 0 → a ≠ b → (TJ0 a).2.1 ≠ (TJ0 b).2.1 := by decide +kernel
theorem tyJ0_ok : ∀ k, k < 0 → parseFieldDescriptor (TJ0 k).2.2.1 = some (tyJ0 k) := by decide +kernel
def RL : String := "IssueDeskLaw"
abbrev cL_setPattern : ByteArray := method_3_code
def yL_setPattern : MethodName := ⟨RL, "setPattern", "(LIssueDesk;IIZI)I"⟩
abbrev cL_setClaims : ByteArray := method_4_code
def yL_setClaims : MethodName := ⟨RL, "setClaims", "(LIssueDesk;II)I"⟩
abbrev cL_advance : ByteArray := method_5_code
def yL_advance : MethodName := ⟨RL, "advance", "(LIssueDesk;I[J)I"⟩
abbrev cL_checkIn : ByteArray := method_6_code
def yL_checkIn : MethodName := ⟨RL, "checkIn", "(LIssueDesk;II[J)I"⟩
abbrev cL_skip : ByteArray := method_7_code
def yL_skip : MethodName := ⟨RL, "skip", "(LIssueDesk;I)I"⟩
abbrev cL_dayOf : ByteArray := method_8_code
def yL_dayOf : MethodName := ⟨RL, "dayOf", "(LIssueDesk;I[J)I"⟩
abbrev cL_stateOf : ByteArray := method_9_code
def yL_stateOf : MethodName := ⟨RL, "stateOf", "(LIssueDesk;I[J)I"⟩
abbrev cL_claimsOf : ByteArray := method_10_code
def yL_claimsOf : MethodName := ⟨RL, "claimsOf", "(LIssueDesk;I[J)I"⟩
abbrev cL_labelOf : ByteArray := method_11_code
def yL_labelOf : MethodName := ⟨RL, "labelOf", "(LIssueDesk;I[J)I"⟩
abbrev cL_rangeAt : ByteArray := method_12_code
def yL_rangeAt : MethodName := ⟨RL, "rangeAt", "(LIssueDesk;I[J)I"⟩
abbrev cL_give : ByteArray := method_13_code
def yL_give : MethodName := ⟨RL, "give", "(LIssueDesk;II[J)I"⟩
abbrev cL_only : ByteArray := method_14_code
def yL_only : MethodName := ⟨RL, "only", "(LIssueDesk;ZI[J)I"⟩
abbrev cL_law : ByteArray := code
def yL_law : MethodName := ⟨RL, "law", "([I)Z"⟩
def wsX0_init : List Cond := .code yX0_init cX0_init 1 none :: ([.methodLink RX0 3 objectInit, .instanceMethod objectInit, .code objectInit ⟨#[0xb1]⟩ 1 none, .fieldLink RX0 9 "IssueDesk$Pattern" "gap" "I", .fieldLink RX0 15 "IssueDesk$Pattern" "size" "I", .fieldLink RX0 18 "IssueDesk$Pattern" "beginAnew" "Z", .fieldLink RX0 22 "IssueDesk$Pattern" "skipped" "I"] ++ wsX00)
def wsX0_change : List Cond := .code yX0_change cX0_change 5 none :: ([.fieldLink RX0 9 "IssueDesk$Pattern" "gap" "I", .fieldLink RX0 15 "IssueDesk$Pattern" "size" "I", .fieldLink RX0 18 "IssueDesk$Pattern" "beginAnew" "Z", .fieldLink RX0 22 "IssueDesk$Pattern" "skipped" "I"] ++ wsX00)
def wsX0_isInSkippedMonth : List Cond := .code yX0_isInSkippedMonth cX0_isInSkippedMonth 3 (some .boolean) :: ([.fieldLink RX0 22 "IssueDesk$Pattern" "skipped" "I"] ++ wsX00)
def wsX0_dayBehind : List Cond := .code yX0_dayBehind cX0_dayBehind 5 (some .int) :: ([.fieldLink RX0 9 "IssueDesk$Pattern" "gap" "I", .methodLink RX0 25 Lib.Math.max.name, .static Lib.Math.max.name, .initialized "java/lang/Math", .code Lib.Math.max.name Lib.Math.max.code 2 (some .int), .methodLink RX0 31 yX0_isInSkippedMonth, .instanceMethod yX0_isInSkippedMonth, .selects RX0 yX0_isInSkippedMonth yX0_isInSkippedMonth, .initialized RX0, .code yX0_isInSkippedMonth cX0_isInSkippedMonth 3 (some .boolean), .fieldLink RX0 22 "IssueDesk$Pattern" "skipped" "I"] ++ wsX00)
def wsX0_volumeOf : List Cond := .code yX0_volumeOf cX0_volumeOf 2 (some .int) :: ([.fieldLink RX0 15 "IssueDesk$Pattern" "size" "I"] ++ wsX00)
def wsX0_numberOf : List Cond := .code yX0_numberOf cX0_numberOf 2 (some .int) :: ([.fieldLink RX0 18 "IssueDesk$Pattern" "beginAnew" "Z", .fieldLink RX0 15 "IssueDesk$Pattern" "size" "I"] ++ wsX00)
def wsX1_init_r1 : List Cond := [Cond.methodLink RX1 1 objectInit, Cond.instanceMethod objectInit, Cond.code objectInit ⟨#[0xb1]⟩ 1 none, Cond.classLink RX1 7 RX0, Cond.instantiable RX0 4, Cond.initialized RX0, Cond.fieldLink RX1 10 "IssueDesk" "pattern" "LIssueDesk$Pattern;", Cond.fieldLink RX1 16 "IssueDesk" "grace" "I", Cond.fieldLink RX1 20 "IssueDesk" "pause" "I", Cond.arrayClass .int, Cond.fieldLink RX1 23 "IssueDesk" "issueDays" "[I", Cond.fieldLink RX1 27 "IssueDesk" "states" "[I", Cond.fieldLink RX1 30 "IssueDesk" "claimCounts" "[I", Cond.fieldLink RX1 33 "IssueDesk" "claimDays" "[I", Cond.arrayClass .boolean, Cond.fieldLink RX1 36 "IssueDesk" "isThere" "[Z", Cond.fieldLink RX1 40 "IssueDesk" "foretoldCount" "I", Cond.fieldLink RX1 43 "IssueDesk" "streakIssue" "I", Cond.methodLink RX1 9 yX0_init, Cond.instanceMethod yX0_init, Cond.code yX0_init cX0_init 1 none, Cond.methodLink RX0 3 objectInit, Cond.fieldLink RX0 9 "IssueDesk$Pattern" "gap" "I", Cond.fieldLink RX0 15 "IssueDesk$Pattern" "size" "I"]
def wsX1_init_r2 : List Cond := [Cond.fieldLink RX0 18 "IssueDesk$Pattern" "beginAnew" "Z", Cond.fieldLink RX0 22 "IssueDesk$Pattern" "skipped" "I"]
def wsX1_init : List Cond := .code yX1_init cX1_init 1 none :: ((wsX1_init_r1 ++ wsX1_init_r2) ++ wsX00 ++ wsX10)
def wsX1_isWithin : List Cond := .code yX1_isWithin cX1_isWithin 3 (some .boolean) :: ([])
def wsX1_isIssue : List Cond := .code yX1_isIssue cX1_isIssue 1 (some .boolean) :: ([])
def wsX1_nextDay : List Cond := .code yX1_nextDay cX1_nextDay 2 (some .int) :: ([.fieldLink RX1 40 "IssueDesk" "foretoldCount" "I", .fieldLink RX1 10 "IssueDesk" "pattern" "LIssueDesk$Pattern;", .fieldLink RX1 23 "IssueDesk" "issueDays" "[I", .fieldLink RX1 123 "IssueDesk" "waitingShift" "I", .methodLink RX1 82 yX1_isIssue, .static yX1_isIssue, .initialized RX1, .code yX1_isIssue cX1_isIssue 1 (some .boolean), .methodLink RX1 156 yX0_dayBehind, .instanceMethod yX0_dayBehind, .selects RX0 yX0_dayBehind yX0_dayBehind, .initialized RX0, .code yX0_dayBehind cX0_dayBehind 5 (some .int), .fieldLink RX0 9 "IssueDesk$Pattern" "gap" "I", .methodLink RX0 25 Lib.Math.max.name, .static Lib.Math.max.name, .initialized "java/lang/Math", .code Lib.Math.max.name Lib.Math.max.code 2 (some .int), .methodLink RX0 31 yX0_isInSkippedMonth, .instanceMethod yX0_isInSkippedMonth, .selects RX0 yX0_isInSkippedMonth yX0_isInSkippedMonth, .code yX0_isInSkippedMonth cX0_isInSkippedMonth 3 (some .boolean), .fieldLink RX0 22 "IssueDesk$Pattern" "skipped" "I"] ++ wsX10 ++ wsX00)
def wsX1_foretellNext_r1 : List Cond := [Cond.fieldLink RX1 40 "IssueDesk" "foretoldCount" "I", Cond.fieldLink RX1 23 "IssueDesk" "issueDays" "[I", Cond.fieldLink RX1 123 "IssueDesk" "waitingShift" "I", Cond.methodLink RX1 82 yX1_isIssue, Cond.static yX1_isIssue, Cond.initialized RX1, Cond.code yX1_isIssue cX1_isIssue 1 (some .boolean), Cond.methodLink RX1 160 yX1_nextDay, Cond.instanceMethod yX1_nextDay, Cond.selects RX1 yX1_nextDay yX1_nextDay, Cond.code yX1_nextDay cX1_nextDay 2 (some .int), Cond.fieldLink RX1 10 "IssueDesk" "pattern" "LIssueDesk$Pattern;", Cond.methodLink RX1 156 yX0_dayBehind, Cond.instanceMethod yX0_dayBehind, Cond.selects RX0 yX0_dayBehind yX0_dayBehind, Cond.initialized RX0, Cond.code yX0_dayBehind cX0_dayBehind 5 (some .int), Cond.fieldLink RX0 9 "IssueDesk$Pattern" "gap" "I", Cond.methodLink RX0 25 Lib.Math.max.name, Cond.static Lib.Math.max.name, Cond.initialized "java/lang/Math", Cond.code Lib.Math.max.name Lib.Math.max.code 2 (some .int), Cond.methodLink RX0 31 yX0_isInSkippedMonth, Cond.instanceMethod yX0_isInSkippedMonth]
def wsX1_foretellNext_r2 : List Cond := [Cond.selects RX0 yX0_isInSkippedMonth yX0_isInSkippedMonth, Cond.code yX0_isInSkippedMonth cX0_isInSkippedMonth 3 (some .boolean), Cond.fieldLink RX0 22 "IssueDesk$Pattern" "skipped" "I"]
def wsX1_foretellNext : List Cond := .code yX1_foretellNext cX1_foretellNext 1 none :: ((wsX1_foretellNext_r1 ++ wsX1_foretellNext_r2) ++ wsX10 ++ wsX00)
def wsX1_foretellDueIssues_r1 : List Cond := [Cond.fieldLink RX1 40 "IssueDesk" "foretoldCount" "I", Cond.fieldLink RX1 74 "IssueDesk" "today" "I", Cond.methodLink RX1 160 yX1_nextDay, Cond.instanceMethod yX1_nextDay, Cond.selects RX1 yX1_nextDay yX1_nextDay, Cond.initialized RX1, Cond.code yX1_nextDay cX1_nextDay 2 (some .int), Cond.fieldLink RX1 10 "IssueDesk" "pattern" "LIssueDesk$Pattern;", Cond.fieldLink RX1 23 "IssueDesk" "issueDays" "[I", Cond.fieldLink RX1 123 "IssueDesk" "waitingShift" "I", Cond.methodLink RX1 82 yX1_isIssue, Cond.static yX1_isIssue, Cond.code yX1_isIssue cX1_isIssue 1 (some .boolean), Cond.methodLink RX1 156 yX0_dayBehind, Cond.instanceMethod yX0_dayBehind, Cond.selects RX0 yX0_dayBehind yX0_dayBehind, Cond.initialized RX0, Cond.code yX0_dayBehind cX0_dayBehind 5 (some .int), Cond.fieldLink RX0 9 "IssueDesk$Pattern" "gap" "I", Cond.methodLink RX0 25 Lib.Math.max.name, Cond.static Lib.Math.max.name, Cond.initialized "java/lang/Math", Cond.code Lib.Math.max.name Lib.Math.max.code 2 (some .int), Cond.methodLink RX0 31 yX0_isInSkippedMonth]
def wsX1_foretellDueIssues_r2 : List Cond := [Cond.instanceMethod yX0_isInSkippedMonth, Cond.selects RX0 yX0_isInSkippedMonth yX0_isInSkippedMonth, Cond.code yX0_isInSkippedMonth cX0_isInSkippedMonth 3 (some .boolean), Cond.fieldLink RX0 22 "IssueDesk$Pattern" "skipped" "I", Cond.methodLink RX1 164 yX1_foretellNext, Cond.instanceMethod yX1_foretellNext, Cond.selects RX1 yX1_foretellNext yX1_foretellNext, Cond.code yX1_foretellNext cX1_foretellNext 1 none]
def wsX1_foretellDueIssues : List Cond := .code yX1_foretellDueIssues cX1_foretellDueIssues 2 none :: ((wsX1_foretellDueIssues_r1 ++ wsX1_foretellDueIssues_r2) ++ wsX10 ++ wsX00)
def wsX1_setPattern_r1 : List Cond := [Cond.classLink RX1 50 "java/lang/IllegalArgumentException", Cond.initialized "java/lang/IllegalArgumentException", Cond.fieldLink RX1 10 "IssueDesk" "pattern" "LIssueDesk$Pattern;", Cond.methodLink RX1 46 yX1_isWithin, Cond.static yX1_isWithin, Cond.initialized RX1, Cond.code yX1_isWithin cX1_isWithin 3 (some .boolean), Cond.methodLink RX1 61 yX0_change, Cond.instanceMethod yX0_change, Cond.selects RX0 yX0_change yX0_change, Cond.initialized RX0, Cond.code yX0_change cX0_change 5 none, Cond.fieldLink RX0 9 "IssueDesk$Pattern" "gap" "I", Cond.fieldLink RX0 15 "IssueDesk$Pattern" "size" "I", Cond.fieldLink RX0 18 "IssueDesk$Pattern" "beginAnew" "Z", Cond.fieldLink RX0 22 "IssueDesk$Pattern" "skipped" "I", Cond.methodLink RX1 65 yX1_foretellDueIssues, Cond.instanceMethod yX1_foretellDueIssues, Cond.selects RX1 yX1_foretellDueIssues yX1_foretellDueIssues, Cond.code yX1_foretellDueIssues cX1_foretellDueIssues 2 none, Cond.fieldLink RX1 40 "IssueDesk" "foretoldCount" "I", Cond.fieldLink RX1 74 "IssueDesk" "today" "I", Cond.methodLink RX1 160 yX1_nextDay, Cond.instanceMethod yX1_nextDay]
def wsX1_setPattern_r2 : List Cond := [Cond.selects RX1 yX1_nextDay yX1_nextDay, Cond.code yX1_nextDay cX1_nextDay 2 (some .int), Cond.fieldLink RX1 23 "IssueDesk" "issueDays" "[I", Cond.fieldLink RX1 123 "IssueDesk" "waitingShift" "I", Cond.methodLink RX1 82 yX1_isIssue, Cond.static yX1_isIssue, Cond.code yX1_isIssue cX1_isIssue 1 (some .boolean), Cond.methodLink RX1 156 yX0_dayBehind, Cond.instanceMethod yX0_dayBehind, Cond.selects RX0 yX0_dayBehind yX0_dayBehind, Cond.code yX0_dayBehind cX0_dayBehind 5 (some .int), Cond.methodLink RX0 25 Lib.Math.max.name, Cond.static Lib.Math.max.name, Cond.initialized "java/lang/Math", Cond.code Lib.Math.max.name Lib.Math.max.code 2 (some .int), Cond.methodLink RX0 31 yX0_isInSkippedMonth, Cond.instanceMethod yX0_isInSkippedMonth, Cond.selects RX0 yX0_isInSkippedMonth yX0_isInSkippedMonth, Cond.code yX0_isInSkippedMonth cX0_isInSkippedMonth 3 (some .boolean), Cond.methodLink RX1 164 yX1_foretellNext, Cond.instanceMethod yX1_foretellNext, Cond.selects RX1 yX1_foretellNext yX1_foretellNext, Cond.code yX1_foretellNext cX1_foretellNext 1 none]
def wsX1_setPattern : List Cond := .code yX1_setPattern cX1_setPattern 5 none :: ((wsX1_setPattern_r1 ++ wsX1_setPattern_r2) ++ wsX10 ++ wsX00 ++ (vx_atS RX1 54 "java/lang/IllegalArgumentException" ["java/lang/RuntimeException", "java/lang/Exception"]).filter goodWord)
def wsX1_setClaims : List Cond := .code yX1_setClaims cX1_setClaims 3 none :: ([.classLink RX1 50 "java/lang/IllegalArgumentException", .initialized "java/lang/IllegalArgumentException", .fieldLink RX1 16 "IssueDesk" "grace" "I", .fieldLink RX1 20 "IssueDesk" "pause" "I", .methodLink RX1 46 yX1_isWithin, .static yX1_isWithin, .initialized RX1, .code yX1_isWithin cX1_isWithin 3 (some .boolean)] ++ wsX10 ++ (vx_atS RX1 54 "java/lang/IllegalArgumentException" ["java/lang/RuntimeException", "java/lang/Exception"]).filter goodWord)
def wsX1_advance_r1 : List Cond := [Cond.classLink RX1 50 "java/lang/IllegalArgumentException", Cond.initialized "java/lang/IllegalArgumentException", Cond.classLink RX1 77 "java/lang/IllegalStateException", Cond.initialized "java/lang/IllegalStateException", Cond.fieldLink RX1 74 "IssueDesk" "today" "I", Cond.methodLink RX1 46 yX1_isWithin, Cond.static yX1_isWithin, Cond.initialized RX1, Cond.code yX1_isWithin cX1_isWithin 3 (some .boolean), Cond.methodLink RX1 65 yX1_foretellDueIssues, Cond.instanceMethod yX1_foretellDueIssues, Cond.selects RX1 yX1_foretellDueIssues yX1_foretellDueIssues, Cond.code yX1_foretellDueIssues cX1_foretellDueIssues 2 none, Cond.fieldLink RX1 40 "IssueDesk" "foretoldCount" "I", Cond.methodLink RX1 160 yX1_nextDay, Cond.instanceMethod yX1_nextDay, Cond.selects RX1 yX1_nextDay yX1_nextDay, Cond.code yX1_nextDay cX1_nextDay 2 (some .int), Cond.fieldLink RX1 10 "IssueDesk" "pattern" "LIssueDesk$Pattern;", Cond.fieldLink RX1 23 "IssueDesk" "issueDays" "[I", Cond.fieldLink RX1 123 "IssueDesk" "waitingShift" "I", Cond.methodLink RX1 82 yX1_isIssue, Cond.static yX1_isIssue, Cond.code yX1_isIssue cX1_isIssue 1 (some .boolean)]
def wsX1_advance_r2 : List Cond := [Cond.methodLink RX1 156 yX0_dayBehind, Cond.instanceMethod yX0_dayBehind, Cond.selects RX0 yX0_dayBehind yX0_dayBehind, Cond.initialized RX0, Cond.code yX0_dayBehind cX0_dayBehind 5 (some .int), Cond.fieldLink RX0 9 "IssueDesk$Pattern" "gap" "I", Cond.methodLink RX0 25 Lib.Math.max.name, Cond.static Lib.Math.max.name, Cond.initialized "java/lang/Math", Cond.code Lib.Math.max.name Lib.Math.max.code 2 (some .int), Cond.methodLink RX0 31 yX0_isInSkippedMonth, Cond.instanceMethod yX0_isInSkippedMonth, Cond.selects RX0 yX0_isInSkippedMonth yX0_isInSkippedMonth, Cond.code yX0_isInSkippedMonth cX0_isInSkippedMonth 3 (some .boolean), Cond.fieldLink RX0 22 "IssueDesk$Pattern" "skipped" "I", Cond.methodLink RX1 164 yX1_foretellNext, Cond.instanceMethod yX1_foretellNext, Cond.selects RX1 yX1_foretellNext yX1_foretellNext, Cond.code yX1_foretellNext cX1_foretellNext 1 none]
def wsX1_advance : List Cond := .code yX1_advance cX1_advance 2 (some .int) :: ((wsX1_advance_r1 ++ wsX1_advance_r2) ++ wsX10 ++ wsX00 ++ (vx_atS RX1 54 "java/lang/IllegalArgumentException" ["java/lang/RuntimeException", "java/lang/Exception"]).filter goodWord ++ (vx_atS RX1 81 "java/lang/IllegalStateException" ["java/lang/RuntimeException", "java/lang/Exception"]).filter goodWord)
def wsX1_isForetold : List Cond := .code yX1_isForetold cX1_isForetold 2 (some .boolean) :: ([.fieldLink RX1 40 "IssueDesk" "foretoldCount" "I", .methodLink RX1 82 yX1_isIssue, .static yX1_isIssue, .initialized RX1, .code yX1_isIssue cX1_isIssue 1 (some .boolean)] ++ wsX10)
def wsX1_canAllCome : List Cond := .code yX1_canAllCome cX1_canAllCome 4 (some .boolean) :: ([.fieldLink RX1 27 "IssueDesk" "states" "[I", .methodLink RX1 110 yX1_isForetold, .instanceMethod yX1_isForetold, .selects RX1 yX1_isForetold yX1_isForetold, .initialized RX1, .code yX1_isForetold cX1_isForetold 2 (some .boolean), .fieldLink RX1 40 "IssueDesk" "foretoldCount" "I", .methodLink RX1 82 yX1_isIssue, .static yX1_isIssue, .code yX1_isIssue cX1_isIssue 1 (some .boolean)] ++ wsX10)
def wsX1_foretellUpTo_r1 : List Cond := [Cond.fieldLink RX1 40 "IssueDesk" "foretoldCount" "I", Cond.methodLink RX1 164 yX1_foretellNext, Cond.instanceMethod yX1_foretellNext, Cond.selects RX1 yX1_foretellNext yX1_foretellNext, Cond.initialized RX1, Cond.code yX1_foretellNext cX1_foretellNext 1 none, Cond.fieldLink RX1 23 "IssueDesk" "issueDays" "[I", Cond.fieldLink RX1 123 "IssueDesk" "waitingShift" "I", Cond.methodLink RX1 82 yX1_isIssue, Cond.static yX1_isIssue, Cond.code yX1_isIssue cX1_isIssue 1 (some .boolean), Cond.methodLink RX1 160 yX1_nextDay, Cond.instanceMethod yX1_nextDay, Cond.selects RX1 yX1_nextDay yX1_nextDay, Cond.code yX1_nextDay cX1_nextDay 2 (some .int), Cond.fieldLink RX1 10 "IssueDesk" "pattern" "LIssueDesk$Pattern;", Cond.methodLink RX1 156 yX0_dayBehind, Cond.instanceMethod yX0_dayBehind, Cond.selects RX0 yX0_dayBehind yX0_dayBehind, Cond.initialized RX0, Cond.code yX0_dayBehind cX0_dayBehind 5 (some .int), Cond.fieldLink RX0 9 "IssueDesk$Pattern" "gap" "I", Cond.methodLink RX0 25 Lib.Math.max.name, Cond.static Lib.Math.max.name]
def wsX1_foretellUpTo_r2 : List Cond := [Cond.initialized "java/lang/Math", Cond.code Lib.Math.max.name Lib.Math.max.code 2 (some .int), Cond.methodLink RX0 31 yX0_isInSkippedMonth, Cond.instanceMethod yX0_isInSkippedMonth, Cond.selects RX0 yX0_isInSkippedMonth yX0_isInSkippedMonth, Cond.code yX0_isInSkippedMonth cX0_isInSkippedMonth 3 (some .boolean), Cond.fieldLink RX0 22 "IssueDesk$Pattern" "skipped" "I"]
def wsX1_foretellUpTo : List Cond := .code yX1_foretellUpTo cX1_foretellUpTo 3 none :: ((wsX1_foretellUpTo_r1 ++ wsX1_foretellUpTo_r2) ++ wsX10 ++ wsX00)
def wsX1_takeIn : List Cond := .code yX1_takeIn cX1_takeIn 4 none :: ([.fieldLink RX1 27 "IssueDesk" "states" "[I", .methodLink RX1 110 yX1_isForetold, .instanceMethod yX1_isForetold, .selects RX1 yX1_isForetold yX1_isForetold, .initialized RX1, .code yX1_isForetold cX1_isForetold 2 (some .boolean), .fieldLink RX1 40 "IssueDesk" "foretoldCount" "I", .methodLink RX1 82 yX1_isIssue, .static yX1_isIssue, .code yX1_isIssue cX1_isIssue 1 (some .boolean)] ++ wsX10)
def wsX1_followsStreak : List Cond := .code yX1_followsStreak cX1_followsStreak 3 (some .boolean) :: ([.fieldLink RX1 43 "IssueDesk" "streakIssue" "I", .fieldLink RX1 27 "IssueDesk" "states" "[I", .methodLink RX1 110 yX1_isForetold, .instanceMethod yX1_isForetold, .selects RX1 yX1_isForetold yX1_isForetold, .initialized RX1, .code yX1_isForetold cX1_isForetold 2 (some .boolean), .fieldLink RX1 40 "IssueDesk" "foretoldCount" "I", .methodLink RX1 82 yX1_isIssue, .static yX1_isIssue, .code yX1_isIssue cX1_isIssue 1 (some .boolean)] ++ wsX10)
def wsX1_canShift : List Cond := .code yX1_canShift cX1_canShift 1 (some .boolean) :: ([.methodLink RX1 46 yX1_isWithin, .static yX1_isWithin, .initialized RX1, .code yX1_isWithin cX1_isWithin 3 (some .boolean)])
def wsX1_noteDifference_r1 : List Cond := [Cond.fieldLink RX1 74 "IssueDesk" "today" "I", Cond.fieldLink RX1 23 "IssueDesk" "issueDays" "[I", Cond.fieldLink RX1 167 "IssueDesk" "streakDifference" "I", Cond.fieldLink RX1 173 "IssueDesk" "streakLength" "I", Cond.fieldLink RX1 43 "IssueDesk" "streakIssue" "I", Cond.fieldLink RX1 123 "IssueDesk" "waitingShift" "I", Cond.methodLink RX1 110 yX1_isForetold, Cond.instanceMethod yX1_isForetold, Cond.selects RX1 yX1_isForetold yX1_isForetold, Cond.initialized RX1, Cond.code yX1_isForetold cX1_isForetold 2 (some .boolean), Cond.fieldLink RX1 40 "IssueDesk" "foretoldCount" "I", Cond.methodLink RX1 82 yX1_isIssue, Cond.static yX1_isIssue, Cond.code yX1_isIssue cX1_isIssue 1 (some .boolean), Cond.methodLink RX1 170 yX1_followsStreak, Cond.instanceMethod yX1_followsStreak, Cond.selects RX1 yX1_followsStreak yX1_followsStreak, Cond.code yX1_followsStreak cX1_followsStreak 3 (some .boolean), Cond.fieldLink RX1 27 "IssueDesk" "states" "[I", Cond.methodLink RX1 176 yX1_canShift, Cond.static yX1_canShift, Cond.code yX1_canShift cX1_canShift 1 (some .boolean), Cond.methodLink RX1 46 yX1_isWithin]
def wsX1_noteDifference_r2 : List Cond := [Cond.static yX1_isWithin, Cond.code yX1_isWithin cX1_isWithin 3 (some .boolean)]
def wsX1_noteDifference : List Cond := .code yX1_noteDifference cX1_noteDifference 4 none :: ((wsX1_noteDifference_r1 ++ wsX1_noteDifference_r2) ++ wsX10)
def wsX1_checkIn_r1 : List Cond := [Cond.classLink RX1 86 "java/lang/IndexOutOfBoundsException", Cond.initialized "java/lang/IndexOutOfBoundsException", Cond.classLink RX1 50 "java/lang/IllegalArgumentException", Cond.initialized "java/lang/IllegalArgumentException", Cond.classLink RX1 77 "java/lang/IllegalStateException", Cond.initialized "java/lang/IllegalStateException", Cond.fieldLink RX1 40 "IssueDesk" "foretoldCount" "I", Cond.methodLink RX1 82 yX1_isIssue, Cond.static yX1_isIssue, Cond.initialized RX1, Cond.code yX1_isIssue cX1_isIssue 1 (some .boolean), Cond.methodLink RX1 46 yX1_isWithin, Cond.static yX1_isWithin, Cond.code yX1_isWithin cX1_isWithin 3 (some .boolean), Cond.methodLink RX1 93 yX1_canAllCome, Cond.instanceMethod yX1_canAllCome, Cond.selects RX1 yX1_canAllCome yX1_canAllCome, Cond.code yX1_canAllCome cX1_canAllCome 4 (some .boolean), Cond.fieldLink RX1 27 "IssueDesk" "states" "[I", Cond.methodLink RX1 110 yX1_isForetold, Cond.instanceMethod yX1_isForetold, Cond.selects RX1 yX1_isForetold yX1_isForetold, Cond.code yX1_isForetold cX1_isForetold 2 (some .boolean), Cond.methodLink RX1 99 yX1_foretellUpTo]
def wsX1_checkIn_r2 : List Cond := [Cond.instanceMethod yX1_foretellUpTo, Cond.selects RX1 yX1_foretellUpTo yX1_foretellUpTo, Cond.code yX1_foretellUpTo cX1_foretellUpTo 3 none, Cond.methodLink RX1 164 yX1_foretellNext, Cond.instanceMethod yX1_foretellNext, Cond.selects RX1 yX1_foretellNext yX1_foretellNext, Cond.code yX1_foretellNext cX1_foretellNext 1 none, Cond.fieldLink RX1 23 "IssueDesk" "issueDays" "[I", Cond.fieldLink RX1 123 "IssueDesk" "waitingShift" "I", Cond.methodLink RX1 160 yX1_nextDay, Cond.instanceMethod yX1_nextDay, Cond.selects RX1 yX1_nextDay yX1_nextDay, Cond.code yX1_nextDay cX1_nextDay 2 (some .int), Cond.fieldLink RX1 10 "IssueDesk" "pattern" "LIssueDesk$Pattern;", Cond.methodLink RX1 156 yX0_dayBehind, Cond.instanceMethod yX0_dayBehind, Cond.selects RX0 yX0_dayBehind yX0_dayBehind, Cond.initialized RX0, Cond.code yX0_dayBehind cX0_dayBehind 5 (some .int), Cond.fieldLink RX0 9 "IssueDesk$Pattern" "gap" "I", Cond.methodLink RX0 25 Lib.Math.max.name, Cond.static Lib.Math.max.name, Cond.initialized "java/lang/Math", Cond.code Lib.Math.max.name Lib.Math.max.code 2 (some .int)]
def wsX1_checkIn_r3 : List Cond := [Cond.methodLink RX0 31 yX0_isInSkippedMonth, Cond.instanceMethod yX0_isInSkippedMonth, Cond.selects RX0 yX0_isInSkippedMonth yX0_isInSkippedMonth, Cond.code yX0_isInSkippedMonth cX0_isInSkippedMonth 3 (some .boolean), Cond.fieldLink RX0 22 "IssueDesk$Pattern" "skipped" "I", Cond.methodLink RX1 103 yX1_takeIn, Cond.instanceMethod yX1_takeIn, Cond.selects RX1 yX1_takeIn yX1_takeIn, Cond.code yX1_takeIn cX1_takeIn 4 none, Cond.methodLink RX1 107 yX1_noteDifference, Cond.instanceMethod yX1_noteDifference, Cond.selects RX1 yX1_noteDifference yX1_noteDifference, Cond.code yX1_noteDifference cX1_noteDifference 4 none, Cond.fieldLink RX1 74 "IssueDesk" "today" "I", Cond.fieldLink RX1 167 "IssueDesk" "streakDifference" "I", Cond.fieldLink RX1 173 "IssueDesk" "streakLength" "I", Cond.fieldLink RX1 43 "IssueDesk" "streakIssue" "I", Cond.methodLink RX1 170 yX1_followsStreak, Cond.instanceMethod yX1_followsStreak, Cond.selects RX1 yX1_followsStreak yX1_followsStreak, Cond.code yX1_followsStreak cX1_followsStreak 3 (some .boolean), Cond.methodLink RX1 176 yX1_canShift, Cond.static yX1_canShift, Cond.code yX1_canShift cX1_canShift 1 (some .boolean)]
def wsX1_checkIn_r4 : List Cond := [Cond.methodLink RX1 65 yX1_foretellDueIssues, Cond.instanceMethod yX1_foretellDueIssues, Cond.selects RX1 yX1_foretellDueIssues yX1_foretellDueIssues, Cond.code yX1_foretellDueIssues cX1_foretellDueIssues 2 none]
def wsX1_checkIn : List Cond := .code yX1_checkIn cX1_checkIn 4 (some .int) :: ((wsX1_checkIn_r1 ++ (wsX1_checkIn_r2 ++ (wsX1_checkIn_r3 ++ wsX1_checkIn_r4))) ++ wsX10 ++ wsX00 ++ (vx_atS RX1 90 "java/lang/IndexOutOfBoundsException" ["java/lang/RuntimeException", "java/lang/Exception"]).filter goodWord ++ (vx_atS RX1 54 "java/lang/IllegalArgumentException" ["java/lang/RuntimeException", "java/lang/Exception"]).filter goodWord ++ (vx_atS RX1 81 "java/lang/IllegalStateException" ["java/lang/RuntimeException", "java/lang/Exception"]).filter goodWord)
def wsX1_skip : List Cond := .code yX1_skip cX1_skip 2 none :: ([.classLink RX1 86 "java/lang/IndexOutOfBoundsException", .initialized "java/lang/IndexOutOfBoundsException", .classLink RX1 77 "java/lang/IllegalStateException", .initialized "java/lang/IllegalStateException", .fieldLink RX1 27 "IssueDesk" "states" "[I", .methodLink RX1 110 yX1_isForetold, .instanceMethod yX1_isForetold, .selects RX1 yX1_isForetold yX1_isForetold, .initialized RX1, .code yX1_isForetold cX1_isForetold 2 (some .boolean), .fieldLink RX1 40 "IssueDesk" "foretoldCount" "I", .methodLink RX1 82 yX1_isIssue, .static yX1_isIssue, .code yX1_isIssue cX1_isIssue 1 (some .boolean)] ++ wsX10 ++ (vx_atS RX1 90 "java/lang/IndexOutOfBoundsException" ["java/lang/RuntimeException", "java/lang/Exception"]).filter goodWord ++ (vx_atS RX1 81 "java/lang/IllegalStateException" ["java/lang/RuntimeException", "java/lang/Exception"]).filter goodWord)
def wsX1_isLate : List Cond := .code yX1_isLate cX1_isLate 2 (some .boolean) :: ([.fieldLink RX1 27 "IssueDesk" "states" "[I", .fieldLink RX1 74 "IssueDesk" "today" "I", .fieldLink RX1 23 "IssueDesk" "issueDays" "[I", .fieldLink RX1 16 "IssueDesk" "grace" "I", .methodLink RX1 110 yX1_isForetold, .instanceMethod yX1_isForetold, .selects RX1 yX1_isForetold yX1_isForetold, .initialized RX1, .code yX1_isForetold cX1_isForetold 2 (some .boolean), .fieldLink RX1 40 "IssueDesk" "foretoldCount" "I", .methodLink RX1 82 yX1_isIssue, .static yX1_isIssue, .code yX1_isIssue cX1_isIssue 1 (some .boolean)] ++ wsX10)
def wsX1_isTimeToClaim : List Cond := .code yX1_isTimeToClaim cX1_isTimeToClaim 2 (some .boolean) :: ([.fieldLink RX1 30 "IssueDesk" "claimCounts" "[I", .fieldLink RX1 74 "IssueDesk" "today" "I", .fieldLink RX1 33 "IssueDesk" "claimDays" "[I", .fieldLink RX1 20 "IssueDesk" "pause" "I", .methodLink RX1 82 yX1_isIssue, .static yX1_isIssue, .initialized RX1, .code yX1_isIssue cX1_isIssue 1 (some .boolean)] ++ wsX10)
def wsX1_round : List Cond := .code yX1_round cX1_round 3 (some .int) :: ([.fieldLink RX1 30 "IssueDesk" "claimCounts" "[I", .fieldLink RX1 33 "IssueDesk" "claimDays" "[I", .fieldLink RX1 74 "IssueDesk" "today" "I", .fieldLink RX1 27 "IssueDesk" "states" "[I", .methodLink RX1 117 yX1_isLate, .instanceMethod yX1_isLate, .selects RX1 yX1_isLate yX1_isLate, .initialized RX1, .code yX1_isLate cX1_isLate 2 (some .boolean), .fieldLink RX1 23 "IssueDesk" "issueDays" "[I", .fieldLink RX1 16 "IssueDesk" "grace" "I", .methodLink RX1 110 yX1_isForetold, .instanceMethod yX1_isForetold, .selects RX1 yX1_isForetold yX1_isForetold, .code yX1_isForetold cX1_isForetold 2 (some .boolean), .fieldLink RX1 40 "IssueDesk" "foretoldCount" "I", .methodLink RX1 82 yX1_isIssue, .static yX1_isIssue, .code yX1_isIssue cX1_isIssue 1 (some .boolean), .methodLink RX1 120 yX1_isTimeToClaim, .instanceMethod yX1_isTimeToClaim, .selects RX1 yX1_isTimeToClaim yX1_isTimeToClaim, .code yX1_isTimeToClaim cX1_isTimeToClaim 2 (some .boolean), .fieldLink RX1 20 "IssueDesk" "pause" "I"] ++ wsX10)
def wsX1_day : List Cond := .code yX1_day cX1_day 1 (some .int) :: ([.fieldLink RX1 74 "IssueDesk" "today" "I"] ++ wsX10)
def wsX1_foretold : List Cond := .code yX1_foretold cX1_foretold 1 (some .int) :: ([.fieldLink RX1 40 "IssueDesk" "foretoldCount" "I"] ++ wsX10)
def wsX1_shift : List Cond := .code yX1_shift cX1_shift 1 (some .int) :: ([.fieldLink RX1 123 "IssueDesk" "waitingShift" "I"] ++ wsX10)
def wsX1_dayOf : List Cond := .code yX1_dayOf cX1_dayOf 2 (some .int) :: ([.classLink RX1 86 "java/lang/IndexOutOfBoundsException", .initialized "java/lang/IndexOutOfBoundsException", .fieldLink RX1 23 "IssueDesk" "issueDays" "[I", .methodLink RX1 110 yX1_isForetold, .instanceMethod yX1_isForetold, .selects RX1 yX1_isForetold yX1_isForetold, .initialized RX1, .code yX1_isForetold cX1_isForetold 2 (some .boolean), .fieldLink RX1 40 "IssueDesk" "foretoldCount" "I", .methodLink RX1 82 yX1_isIssue, .static yX1_isIssue, .code yX1_isIssue cX1_isIssue 1 (some .boolean)] ++ wsX10 ++ (vx_atS RX1 90 "java/lang/IndexOutOfBoundsException" ["java/lang/RuntimeException", "java/lang/Exception"]).filter goodWord)
def wsX1_stateOf : List Cond := .code yX1_stateOf cX1_stateOf 2 (some .int) :: ([.classLink RX1 86 "java/lang/IndexOutOfBoundsException", .initialized "java/lang/IndexOutOfBoundsException", .fieldLink RX1 27 "IssueDesk" "states" "[I", .methodLink RX1 110 yX1_isForetold, .instanceMethod yX1_isForetold, .selects RX1 yX1_isForetold yX1_isForetold, .initialized RX1, .code yX1_isForetold cX1_isForetold 2 (some .boolean), .fieldLink RX1 40 "IssueDesk" "foretoldCount" "I", .methodLink RX1 82 yX1_isIssue, .static yX1_isIssue, .code yX1_isIssue cX1_isIssue 1 (some .boolean)] ++ wsX10 ++ (vx_atS RX1 90 "java/lang/IndexOutOfBoundsException" ["java/lang/RuntimeException", "java/lang/Exception"]).filter goodWord)
def wsX1_claimsOf : List Cond := .code yX1_claimsOf cX1_claimsOf 2 (some .int) :: ([.classLink RX1 86 "java/lang/IndexOutOfBoundsException", .initialized "java/lang/IndexOutOfBoundsException", .fieldLink RX1 30 "IssueDesk" "claimCounts" "[I", .methodLink RX1 110 yX1_isForetold, .instanceMethod yX1_isForetold, .selects RX1 yX1_isForetold yX1_isForetold, .initialized RX1, .code yX1_isForetold cX1_isForetold 2 (some .boolean), .fieldLink RX1 40 "IssueDesk" "foretoldCount" "I", .methodLink RX1 82 yX1_isIssue, .static yX1_isIssue, .code yX1_isIssue cX1_isIssue 1 (some .boolean)] ++ wsX10 ++ (vx_atS RX1 90 "java/lang/IndexOutOfBoundsException" ["java/lang/RuntimeException", "java/lang/Exception"]).filter goodWord)
def wsX1_labelOf : List Cond := .code yX1_labelOf cX1_labelOf 2 (some .int) :: ([.classLink RX1 86 "java/lang/IndexOutOfBoundsException", .initialized "java/lang/IndexOutOfBoundsException", .fieldLink RX1 10 "IssueDesk" "pattern" "LIssueDesk$Pattern;", .methodLink RX1 82 yX1_isIssue, .static yX1_isIssue, .initialized RX1, .code yX1_isIssue cX1_isIssue 1 (some .boolean), .methodLink RX1 126 yX0_volumeOf, .instanceMethod yX0_volumeOf, .selects RX0 yX0_volumeOf yX0_volumeOf, .initialized RX0, .code yX0_volumeOf cX0_volumeOf 2 (some .int), .fieldLink RX0 15 "IssueDesk$Pattern" "size" "I", .methodLink RX1 130 yX0_numberOf, .instanceMethod yX0_numberOf, .selects RX0 yX0_numberOf yX0_numberOf, .code yX0_numberOf cX0_numberOf 2 (some .int), .fieldLink RX0 18 "IssueDesk$Pattern" "beginAnew" "Z"] ++ wsX10 ++ wsX00 ++ (vx_atS RX1 90 "java/lang/IndexOutOfBoundsException" ["java/lang/RuntimeException", "java/lang/Exception"]).filter goodWord)
def wsX1_find : List Cond := .code yX1_find cX1_find 4 (some .int) :: ([.fieldLink RX1 10 "IssueDesk" "pattern" "LIssueDesk$Pattern;", .methodLink RX1 126 yX0_volumeOf, .instanceMethod yX0_volumeOf, .selects RX0 yX0_volumeOf yX0_volumeOf, .initialized RX0, .code yX0_volumeOf cX0_volumeOf 2 (some .int), .fieldLink RX0 15 "IssueDesk$Pattern" "size" "I", .methodLink RX1 130 yX0_numberOf, .instanceMethod yX0_numberOf, .selects RX0 yX0_numberOf yX0_numberOf, .code yX0_numberOf cX0_numberOf 2 (some .int), .fieldLink RX0 18 "IssueDesk$Pattern" "beginAnew" "Z"] ++ wsX10 ++ wsX00)
def wsX1_late : List Cond := .code yX1_late cX1_late 3 (some .int) :: ([.methodLink RX1 117 yX1_isLate, .instanceMethod yX1_isLate, .selects RX1 yX1_isLate yX1_isLate, .initialized RX1, .code yX1_isLate cX1_isLate 2 (some .boolean), .fieldLink RX1 27 "IssueDesk" "states" "[I", .fieldLink RX1 74 "IssueDesk" "today" "I", .fieldLink RX1 23 "IssueDesk" "issueDays" "[I", .fieldLink RX1 16 "IssueDesk" "grace" "I", .methodLink RX1 110 yX1_isForetold, .instanceMethod yX1_isForetold, .selects RX1 yX1_isForetold yX1_isForetold, .code yX1_isForetold cX1_isForetold 2 (some .boolean), .fieldLink RX1 40 "IssueDesk" "foretoldCount" "I", .methodLink RX1 82 yX1_isIssue, .static yX1_isIssue, .code yX1_isIssue cX1_isIssue 1 (some .boolean)] ++ wsX10)
def wsX1_isInHouse : List Cond := .code yX1_isInHouse cX1_isInHouse 2 (some .boolean) :: ([.fieldLink RX1 27 "IssueDesk" "states" "[I", .methodLink RX1 110 yX1_isForetold, .instanceMethod yX1_isForetold, .selects RX1 yX1_isForetold yX1_isForetold, .initialized RX1, .code yX1_isForetold cX1_isForetold 2 (some .boolean), .fieldLink RX1 40 "IssueDesk" "foretoldCount" "I", .methodLink RX1 82 yX1_isIssue, .static yX1_isIssue, .code yX1_isIssue cX1_isIssue 1 (some .boolean)] ++ wsX10)
def wsX1_isRangeStart : List Cond := .code yX1_isRangeStart cX1_isRangeStart 2 (some .boolean) :: ([.methodLink RX1 153 yX1_isInHouse, .instanceMethod yX1_isInHouse, .selects RX1 yX1_isInHouse yX1_isInHouse, .initialized RX1, .code yX1_isInHouse cX1_isInHouse 2 (some .boolean), .fieldLink RX1 27 "IssueDesk" "states" "[I", .methodLink RX1 110 yX1_isForetold, .instanceMethod yX1_isForetold, .selects RX1 yX1_isForetold yX1_isForetold, .code yX1_isForetold cX1_isForetold 2 (some .boolean), .fieldLink RX1 40 "IssueDesk" "foretoldCount" "I", .methodLink RX1 82 yX1_isIssue, .static yX1_isIssue, .code yX1_isIssue cX1_isIssue 1 (some .boolean)] ++ wsX10)
def wsX1_ranges : List Cond := .code yX1_ranges cX1_ranges 3 (some .int) :: ([.methodLink RX1 133 yX1_isRangeStart, .instanceMethod yX1_isRangeStart, .selects RX1 yX1_isRangeStart yX1_isRangeStart, .initialized RX1, .code yX1_isRangeStart cX1_isRangeStart 2 (some .boolean), .methodLink RX1 153 yX1_isInHouse, .instanceMethod yX1_isInHouse, .selects RX1 yX1_isInHouse yX1_isInHouse, .code yX1_isInHouse cX1_isInHouse 2 (some .boolean), .fieldLink RX1 27 "IssueDesk" "states" "[I", .methodLink RX1 110 yX1_isForetold, .instanceMethod yX1_isForetold, .selects RX1 yX1_isForetold yX1_isForetold, .code yX1_isForetold cX1_isForetold 2 (some .boolean), .fieldLink RX1 40 "IssueDesk" "foretoldCount" "I", .methodLink RX1 82 yX1_isIssue, .static yX1_isIssue, .code yX1_isIssue cX1_isIssue 1 (some .boolean)] ++ wsX10)
def wsX1_startOfRange : List Cond := .code yX1_startOfRange cX1_startOfRange 4 (some .int) :: ([.methodLink RX1 133 yX1_isRangeStart, .instanceMethod yX1_isRangeStart, .selects RX1 yX1_isRangeStart yX1_isRangeStart, .initialized RX1, .code yX1_isRangeStart cX1_isRangeStart 2 (some .boolean), .methodLink RX1 153 yX1_isInHouse, .instanceMethod yX1_isInHouse, .selects RX1 yX1_isInHouse yX1_isInHouse, .code yX1_isInHouse cX1_isInHouse 2 (some .boolean), .fieldLink RX1 27 "IssueDesk" "states" "[I", .methodLink RX1 110 yX1_isForetold, .instanceMethod yX1_isForetold, .selects RX1 yX1_isForetold yX1_isForetold, .code yX1_isForetold cX1_isForetold 2 (some .boolean), .fieldLink RX1 40 "IssueDesk" "foretoldCount" "I", .methodLink RX1 82 yX1_isIssue, .static yX1_isIssue, .code yX1_isIssue cX1_isIssue 1 (some .boolean)] ++ wsX10)
def wsX1_endOfRange : List Cond := .code yX1_endOfRange cX1_endOfRange 3 (some .int) :: ([.methodLink RX1 153 yX1_isInHouse, .instanceMethod yX1_isInHouse, .selects RX1 yX1_isInHouse yX1_isInHouse, .initialized RX1, .code yX1_isInHouse cX1_isInHouse 2 (some .boolean), .fieldLink RX1 27 "IssueDesk" "states" "[I", .methodLink RX1 110 yX1_isForetold, .instanceMethod yX1_isForetold, .selects RX1 yX1_isForetold yX1_isForetold, .code yX1_isForetold cX1_isForetold 2 (some .boolean), .fieldLink RX1 40 "IssueDesk" "foretoldCount" "I", .methodLink RX1 82 yX1_isIssue, .static yX1_isIssue, .code yX1_isIssue cX1_isIssue 1 (some .boolean)] ++ wsX10)
def wsX1_rangeAt_r1 : List Cond := [Cond.classLink RX1 86 "java/lang/IndexOutOfBoundsException", Cond.initialized "java/lang/IndexOutOfBoundsException", Cond.methodLink RX1 136 yX1_startOfRange, Cond.instanceMethod yX1_startOfRange, Cond.selects RX1 yX1_startOfRange yX1_startOfRange, Cond.initialized RX1, Cond.code yX1_startOfRange cX1_startOfRange 4 (some .int), Cond.methodLink RX1 133 yX1_isRangeStart, Cond.instanceMethod yX1_isRangeStart, Cond.selects RX1 yX1_isRangeStart yX1_isRangeStart, Cond.code yX1_isRangeStart cX1_isRangeStart 2 (some .boolean), Cond.methodLink RX1 153 yX1_isInHouse, Cond.instanceMethod yX1_isInHouse, Cond.selects RX1 yX1_isInHouse yX1_isInHouse, Cond.code yX1_isInHouse cX1_isInHouse 2 (some .boolean), Cond.fieldLink RX1 27 "IssueDesk" "states" "[I", Cond.methodLink RX1 110 yX1_isForetold, Cond.instanceMethod yX1_isForetold, Cond.selects RX1 yX1_isForetold yX1_isForetold, Cond.code yX1_isForetold cX1_isForetold 2 (some .boolean), Cond.fieldLink RX1 40 "IssueDesk" "foretoldCount" "I", Cond.methodLink RX1 82 yX1_isIssue, Cond.static yX1_isIssue, Cond.code yX1_isIssue cX1_isIssue 1 (some .boolean)]
def wsX1_rangeAt_r2 : List Cond := [Cond.methodLink RX1 141 yX1_endOfRange, Cond.instanceMethod yX1_endOfRange, Cond.selects RX1 yX1_endOfRange yX1_endOfRange, Cond.code yX1_endOfRange cX1_endOfRange 3 (some .int)]
def wsX1_rangeAt : List Cond := .code yX1_rangeAt cX1_rangeAt 3 (some .int) :: ((wsX1_rangeAt_r1 ++ wsX1_rangeAt_r2) ++ wsX10 ++ (vx_atS RX1 90 "java/lang/IndexOutOfBoundsException" ["java/lang/RuntimeException", "java/lang/Exception"]).filter goodWord)
def wsX1_isHeld_r1 : List Cond := [Cond.methodLink RX1 133 yX1_isRangeStart, Cond.instanceMethod yX1_isRangeStart, Cond.selects RX1 yX1_isRangeStart yX1_isRangeStart, Cond.initialized RX1, Cond.code yX1_isRangeStart cX1_isRangeStart 2 (some .boolean), Cond.methodLink RX1 153 yX1_isInHouse, Cond.instanceMethod yX1_isInHouse, Cond.selects RX1 yX1_isInHouse yX1_isInHouse, Cond.code yX1_isInHouse cX1_isInHouse 2 (some .boolean), Cond.fieldLink RX1 27 "IssueDesk" "states" "[I", Cond.methodLink RX1 110 yX1_isForetold, Cond.instanceMethod yX1_isForetold, Cond.selects RX1 yX1_isForetold yX1_isForetold, Cond.code yX1_isForetold cX1_isForetold 2 (some .boolean), Cond.fieldLink RX1 40 "IssueDesk" "foretoldCount" "I", Cond.methodLink RX1 82 yX1_isIssue, Cond.static yX1_isIssue, Cond.code yX1_isIssue cX1_isIssue 1 (some .boolean), Cond.methodLink RX1 141 yX1_endOfRange, Cond.instanceMethod yX1_endOfRange, Cond.selects RX1 yX1_endOfRange yX1_endOfRange, Cond.code yX1_endOfRange cX1_endOfRange 3 (some .int), Cond.methodLink RX1 46 yX1_isWithin, Cond.static yX1_isWithin]
def wsX1_isHeld_r2 : List Cond := [Cond.code yX1_isWithin cX1_isWithin 3 (some .boolean)]
def wsX1_isHeld : List Cond := .code yX1_isHeld cX1_isHeld 3 (some .boolean) :: ((wsX1_isHeld_r1 ++ wsX1_isHeld_r2) ++ wsX10)
def wsX1_give : List Cond := .code yX1_give cX1_give 4 (some .int) :: ([.classLink RX1 50 "java/lang/IllegalArgumentException", .initialized "java/lang/IllegalArgumentException", .fieldLink RX1 36 "IssueDesk" "isThere" "[Z", .fieldLink RX1 148 "IssueDesk" "thereCount" "I", .methodLink RX1 82 yX1_isIssue, .static yX1_isIssue, .initialized RX1, .code yX1_isIssue cX1_isIssue 1 (some .boolean), .methodLink RX1 46 yX1_isWithin, .static yX1_isWithin, .code yX1_isWithin cX1_isWithin 3 (some .boolean)] ++ wsX10 ++ (vx_atS RX1 54 "java/lang/IllegalArgumentException" ["java/lang/RuntimeException", "java/lang/Exception"]).filter goodWord)
def wsX1_only : List Cond := .code yX1_only cX1_only 6 (some .int) :: ([.classLink RX1 50 "java/lang/IllegalArgumentException", .initialized "java/lang/IllegalArgumentException", .fieldLink RX1 36 "IssueDesk" "isThere" "[Z", .methodLink RX1 153 yX1_isInHouse, .instanceMethod yX1_isInHouse, .selects RX1 yX1_isInHouse yX1_isInHouse, .initialized RX1, .code yX1_isInHouse cX1_isInHouse 2 (some .boolean), .fieldLink RX1 27 "IssueDesk" "states" "[I", .methodLink RX1 110 yX1_isForetold, .instanceMethod yX1_isForetold, .selects RX1 yX1_isForetold yX1_isForetold, .code yX1_isForetold cX1_isForetold 2 (some .boolean), .fieldLink RX1 40 "IssueDesk" "foretoldCount" "I", .methodLink RX1 82 yX1_isIssue, .static yX1_isIssue, .code yX1_isIssue cX1_isIssue 1 (some .boolean)] ++ wsX10 ++ (vx_atS RX1 54 "java/lang/IllegalArgumentException" ["java/lang/RuntimeException", "java/lang/Exception"]).filter goodWord)
def wsX2_init : List Cond := .code yX2_init cX2_init 1 none :: ([.methodLink RX2 1 objectInit, .instanceMethod objectInit, .code objectInit ⟨#[0xb1]⟩ 1 none, .fieldLink RX2 7 "IssueDeskModel" "gap" "I", .fieldLink RX2 13 "IssueDeskModel" "size" "I", .fieldLink RX2 16 "IssueDeskModel" "isAnew" "Z", .fieldLink RX2 20 "IssueDeskModel" "grace" "I", .fieldLink RX2 23 "IssueDeskModel" "pause" "I", .arrayClass .int, .fieldLink RX2 26 "IssueDeskModel" "dayOf" "[I", .fieldLink RX2 30 "IssueDeskModel" "state" "[I", .fieldLink RX2 33 "IssueDeskModel" "claims" "[I", .fieldLink RX2 36 "IssueDeskModel" "claimedOn" "[I", .arrayClass .boolean, .fieldLink RX2 39 "IssueDeskModel" "isThere" "[Z", .fieldLink RX2 43 "IssueDeskModel" "before" "I", .fieldLink RX2 46 "IssueDeskModel" "foretold" "I"] ++ wsX20)
def wsX2_thrown : List Cond := .code yX2_thrown cX2_thrown 1 (some .int) :: ([.fieldLink RX2 49 "IssueDeskModel" "thrown" "I"] ++ wsX20)
def wsX2_can : List Cond := .code yX2_can cX2_can 2 (some .boolean) :: ([.fieldLink RX2 49 "IssueDeskModel" "thrown" "I"] ++ wsX20)
def wsX2_isIn : List Cond := .code yX2_isIn cX2_isIn 3 (some .boolean) :: ([])
def wsX2_isIssue : List Cond := .code yX2_isIssue cX2_isIssue 1 (some .boolean) :: ([.methodLink RX2 52 yX2_isIn, .static yX2_isIn, .initialized RX2, .code yX2_isIn cX2_isIn 3 (some .boolean)])
def wsX2_isForetold : List Cond := .code yX2_isForetold cX2_isForetold 2 (some .boolean) :: ([.fieldLink RX2 46 "IssueDeskModel" "foretold" "I", .methodLink RX2 52 yX2_isIn, .static yX2_isIn, .initialized RX2, .code yX2_isIn cX2_isIn 3 (some .boolean)] ++ wsX20)
def wsX2_isBarred : List Cond := .code yX2_isBarred cX2_isBarred 2 (some .boolean) :: ([.fieldLink RX2 56 "IssueDeskModel" "skipped" "I"] ++ wsX20)
def wsX2_nextDay : List Cond := .code yX2_nextDay cX2_nextDay 3 (some .int) :: ([.fieldLink RX2 26 "IssueDeskModel" "dayOf" "[I", .fieldLink RX2 46 "IssueDeskModel" "foretold" "I", .fieldLink RX2 7 "IssueDeskModel" "gap" "I", .fieldLink RX2 59 "IssueDeskModel" "shift" "I", .methodLink RX2 62 yX2_isBarred, .instanceMethod yX2_isBarred, .selects RX2 yX2_isBarred yX2_isBarred, .initialized RX2, .code yX2_isBarred cX2_isBarred 2 (some .boolean), .fieldLink RX2 56 "IssueDeskModel" "skipped" "I"] ++ wsX20)
def wsX2_foretells : List Cond := .code yX2_foretells cX2_foretells 1 none :: ([.fieldLink RX2 26 "IssueDeskModel" "dayOf" "[I", .fieldLink RX2 46 "IssueDeskModel" "foretold" "I", .fieldLink RX2 59 "IssueDeskModel" "shift" "I", .methodLink RX2 66 yX2_nextDay, .instanceMethod yX2_nextDay, .selects RX2 yX2_nextDay yX2_nextDay, .initialized RX2, .code yX2_nextDay cX2_nextDay 3 (some .int), .fieldLink RX2 7 "IssueDeskModel" "gap" "I", .methodLink RX2 62 yX2_isBarred, .instanceMethod yX2_isBarred, .selects RX2 yX2_isBarred yX2_isBarred, .code yX2_isBarred cX2_isBarred 2 (some .boolean), .fieldLink RX2 56 "IssueDeskModel" "skipped" "I"] ++ wsX20)
def wsX2_looks : List Cond := .code yX2_looks cX2_looks 1 none :: ([.fieldLink RX2 46 "IssueDeskModel" "foretold" "I", .fieldLink RX2 70 "IssueDeskModel" "day" "I", .methodLink RX2 66 yX2_nextDay, .instanceMethod yX2_nextDay, .selects RX2 yX2_nextDay yX2_nextDay, .initialized RX2, .code yX2_nextDay cX2_nextDay 3 (some .int), .fieldLink RX2 26 "IssueDeskModel" "dayOf" "[I", .fieldLink RX2 7 "IssueDeskModel" "gap" "I", .fieldLink RX2 59 "IssueDeskModel" "shift" "I", .methodLink RX2 62 yX2_isBarred, .instanceMethod yX2_isBarred, .selects RX2 yX2_isBarred yX2_isBarred, .code yX2_isBarred cX2_isBarred 2 (some .boolean), .fieldLink RX2 56 "IssueDeskModel" "skipped" "I", .methodLink RX2 73 yX2_foretells, .instanceMethod yX2_foretells, .selects RX2 yX2_foretells yX2_foretells, .code yX2_foretells cX2_foretells 1 none] ++ wsX20)
def wsX2_setPattern_r1 : List Cond := [Cond.fieldLink RX2 7 "IssueDeskModel" "gap" "I", Cond.fieldLink RX2 13 "IssueDeskModel" "size" "I", Cond.fieldLink RX2 16 "IssueDeskModel" "isAnew" "Z", Cond.fieldLink RX2 56 "IssueDeskModel" "skipped" "I", Cond.methodLink RX2 52 yX2_isIn, Cond.static yX2_isIn, Cond.initialized RX2, Cond.code yX2_isIn cX2_isIn 3 (some .boolean), Cond.methodLink RX2 76 yX2_can, Cond.instanceMethod yX2_can, Cond.selects RX2 yX2_can yX2_can, Cond.code yX2_can cX2_can 2 (some .boolean), Cond.fieldLink RX2 49 "IssueDeskModel" "thrown" "I", Cond.methodLink RX2 79 yX2_looks, Cond.instanceMethod yX2_looks, Cond.selects RX2 yX2_looks yX2_looks, Cond.code yX2_looks cX2_looks 1 none, Cond.fieldLink RX2 46 "IssueDeskModel" "foretold" "I", Cond.fieldLink RX2 70 "IssueDeskModel" "day" "I", Cond.methodLink RX2 66 yX2_nextDay, Cond.instanceMethod yX2_nextDay, Cond.selects RX2 yX2_nextDay yX2_nextDay, Cond.code yX2_nextDay cX2_nextDay 3 (some .int), Cond.fieldLink RX2 26 "IssueDeskModel" "dayOf" "[I"]
def wsX2_setPattern_r2 : List Cond := [Cond.fieldLink RX2 59 "IssueDeskModel" "shift" "I", Cond.methodLink RX2 62 yX2_isBarred, Cond.instanceMethod yX2_isBarred, Cond.selects RX2 yX2_isBarred yX2_isBarred, Cond.code yX2_isBarred cX2_isBarred 2 (some .boolean), Cond.methodLink RX2 73 yX2_foretells, Cond.instanceMethod yX2_foretells, Cond.selects RX2 yX2_foretells yX2_foretells, Cond.code yX2_foretells cX2_foretells 1 none]
def wsX2_setPattern : List Cond := .code yX2_setPattern cX2_setPattern 5 none :: ((wsX2_setPattern_r1 ++ wsX2_setPattern_r2) ++ wsX20)
def wsX2_setClaims : List Cond := .code yX2_setClaims cX2_setClaims 3 none :: ([.fieldLink RX2 20 "IssueDeskModel" "grace" "I", .fieldLink RX2 23 "IssueDeskModel" "pause" "I", .methodLink RX2 52 yX2_isIn, .static yX2_isIn, .initialized RX2, .code yX2_isIn cX2_isIn 3 (some .boolean), .methodLink RX2 76 yX2_can, .instanceMethod yX2_can, .selects RX2 yX2_can yX2_can, .code yX2_can cX2_can 2 (some .boolean), .fieldLink RX2 49 "IssueDeskModel" "thrown" "I"] ++ wsX20)
def wsX2_advance_r1 : List Cond := [Cond.fieldLink RX2 70 "IssueDeskModel" "day" "I", Cond.methodLink RX2 52 yX2_isIn, Cond.static yX2_isIn, Cond.initialized RX2, Cond.code yX2_isIn cX2_isIn 3 (some .boolean), Cond.methodLink RX2 76 yX2_can, Cond.instanceMethod yX2_can, Cond.selects RX2 yX2_can yX2_can, Cond.code yX2_can cX2_can 2 (some .boolean), Cond.fieldLink RX2 49 "IssueDeskModel" "thrown" "I", Cond.methodLink RX2 79 yX2_looks, Cond.instanceMethod yX2_looks, Cond.selects RX2 yX2_looks yX2_looks, Cond.code yX2_looks cX2_looks 1 none, Cond.fieldLink RX2 46 "IssueDeskModel" "foretold" "I", Cond.methodLink RX2 66 yX2_nextDay, Cond.instanceMethod yX2_nextDay, Cond.selects RX2 yX2_nextDay yX2_nextDay, Cond.code yX2_nextDay cX2_nextDay 3 (some .int), Cond.fieldLink RX2 26 "IssueDeskModel" "dayOf" "[I", Cond.fieldLink RX2 7 "IssueDeskModel" "gap" "I", Cond.fieldLink RX2 59 "IssueDeskModel" "shift" "I", Cond.methodLink RX2 62 yX2_isBarred, Cond.instanceMethod yX2_isBarred]
def wsX2_advance_r2 : List Cond := [Cond.selects RX2 yX2_isBarred yX2_isBarred, Cond.code yX2_isBarred cX2_isBarred 2 (some .boolean), Cond.fieldLink RX2 56 "IssueDeskModel" "skipped" "I", Cond.methodLink RX2 73 yX2_foretells, Cond.instanceMethod yX2_foretells, Cond.selects RX2 yX2_foretells yX2_foretells, Cond.code yX2_foretells cX2_foretells 1 none]
def wsX2_advance : List Cond := .code yX2_advance cX2_advance 2 (some .int) :: ((wsX2_advance_r1 ++ wsX2_advance_r2) ++ wsX20)
def wsX2_isOpen : List Cond := .code yX2_isOpen cX2_isOpen 5 (some .boolean) :: ([.fieldLink RX2 46 "IssueDeskModel" "foretold" "I", .fieldLink RX2 30 "IssueDeskModel" "state" "[I"] ++ wsX20)
def wsX2_follows : List Cond := .code yX2_follows cX2_follows 4 (some .boolean) :: ([.fieldLink RX2 43 "IssueDeskModel" "before" "I", .fieldLink RX2 30 "IssueDeskModel" "state" "[I"] ++ wsX20)
def wsX2_counts : List Cond := .code yX2_counts cX2_counts 3 none :: ([.fieldLink RX2 70 "IssueDeskModel" "day" "I", .fieldLink RX2 26 "IssueDeskModel" "dayOf" "[I", .fieldLink RX2 82 "IssueDeskModel" "row" "I", .fieldLink RX2 88 "IssueDeskModel" "difference" "I", .fieldLink RX2 43 "IssueDeskModel" "before" "I", .fieldLink RX2 59 "IssueDeskModel" "shift" "I", .methodLink RX2 85 yX2_follows, .instanceMethod yX2_follows, .selects RX2 yX2_follows yX2_follows, .initialized RX2, .code yX2_follows cX2_follows 4 (some .boolean), .fieldLink RX2 30 "IssueDeskModel" "state" "[I", .methodLink RX2 52 yX2_isIn, .static yX2_isIn, .code yX2_isIn cX2_isIn 3 (some .boolean)] ++ wsX20)
def wsX2_checkIn_r1 : List Cond := [Cond.fieldLink RX2 46 "IssueDeskModel" "foretold" "I", Cond.fieldLink RX2 30 "IssueDeskModel" "state" "[I", Cond.methodLink RX2 52 yX2_isIn, Cond.static yX2_isIn, Cond.initialized RX2, Cond.code yX2_isIn cX2_isIn 3 (some .boolean), Cond.methodLink RX2 91 yX2_isIssue, Cond.static yX2_isIssue, Cond.code yX2_isIssue cX2_isIssue 1 (some .boolean), Cond.methodLink RX2 94 yX2_isOpen, Cond.instanceMethod yX2_isOpen, Cond.selects RX2 yX2_isOpen yX2_isOpen, Cond.code yX2_isOpen cX2_isOpen 5 (some .boolean), Cond.methodLink RX2 76 yX2_can, Cond.instanceMethod yX2_can, Cond.selects RX2 yX2_can yX2_can, Cond.code yX2_can cX2_can 2 (some .boolean), Cond.fieldLink RX2 49 "IssueDeskModel" "thrown" "I", Cond.methodLink RX2 73 yX2_foretells, Cond.instanceMethod yX2_foretells, Cond.selects RX2 yX2_foretells yX2_foretells, Cond.code yX2_foretells cX2_foretells 1 none, Cond.fieldLink RX2 26 "IssueDeskModel" "dayOf" "[I", Cond.fieldLink RX2 59 "IssueDeskModel" "shift" "I"]
def wsX2_checkIn_r2 : List Cond := [Cond.methodLink RX2 66 yX2_nextDay, Cond.instanceMethod yX2_nextDay, Cond.selects RX2 yX2_nextDay yX2_nextDay, Cond.code yX2_nextDay cX2_nextDay 3 (some .int), Cond.fieldLink RX2 7 "IssueDeskModel" "gap" "I", Cond.methodLink RX2 62 yX2_isBarred, Cond.instanceMethod yX2_isBarred, Cond.selects RX2 yX2_isBarred yX2_isBarred, Cond.code yX2_isBarred cX2_isBarred 2 (some .boolean), Cond.fieldLink RX2 56 "IssueDeskModel" "skipped" "I", Cond.methodLink RX2 98 yX2_counts, Cond.instanceMethod yX2_counts, Cond.selects RX2 yX2_counts yX2_counts, Cond.code yX2_counts cX2_counts 3 none, Cond.fieldLink RX2 70 "IssueDeskModel" "day" "I", Cond.fieldLink RX2 82 "IssueDeskModel" "row" "I", Cond.fieldLink RX2 88 "IssueDeskModel" "difference" "I", Cond.fieldLink RX2 43 "IssueDeskModel" "before" "I", Cond.methodLink RX2 85 yX2_follows, Cond.instanceMethod yX2_follows, Cond.selects RX2 yX2_follows yX2_follows, Cond.code yX2_follows cX2_follows 4 (some .boolean), Cond.methodLink RX2 79 yX2_looks, Cond.instanceMethod yX2_looks]
def wsX2_checkIn_r3 : List Cond := [Cond.selects RX2 yX2_looks yX2_looks, Cond.code yX2_looks cX2_looks 1 none]
def wsX2_checkIn : List Cond := .code yX2_checkIn cX2_checkIn 5 (some .int) :: ((wsX2_checkIn_r1 ++ (wsX2_checkIn_r2 ++ wsX2_checkIn_r3)) ++ wsX20)
def wsX2_skip : List Cond := .code yX2_skip cX2_skip 2 none :: ([.fieldLink RX2 30 "IssueDeskModel" "state" "[I", .methodLink RX2 102 yX2_isForetold, .instanceMethod yX2_isForetold, .selects RX2 yX2_isForetold yX2_isForetold, .initialized RX2, .code yX2_isForetold cX2_isForetold 2 (some .boolean), .fieldLink RX2 46 "IssueDeskModel" "foretold" "I", .methodLink RX2 52 yX2_isIn, .static yX2_isIn, .code yX2_isIn cX2_isIn 3 (some .boolean), .methodLink RX2 76 yX2_can, .instanceMethod yX2_can, .selects RX2 yX2_can yX2_can, .code yX2_can cX2_can 2 (some .boolean), .fieldLink RX2 49 "IssueDeskModel" "thrown" "I"] ++ wsX20)
def wsX2_isLate : List Cond := .code yX2_isLate cX2_isLate 2 (some .boolean) :: ([.fieldLink RX2 30 "IssueDeskModel" "state" "[I", .fieldLink RX2 70 "IssueDeskModel" "day" "I", .fieldLink RX2 26 "IssueDeskModel" "dayOf" "[I", .fieldLink RX2 20 "IssueDeskModel" "grace" "I"] ++ wsX20)
def wsX2_round : List Cond := .code yX2_round cX2_round 3 (some .int) :: ([.fieldLink RX2 49 "IssueDeskModel" "thrown" "I", .fieldLink RX2 46 "IssueDeskModel" "foretold" "I", .fieldLink RX2 33 "IssueDeskModel" "claims" "[I", .fieldLink RX2 70 "IssueDeskModel" "day" "I", .fieldLink RX2 36 "IssueDeskModel" "claimedOn" "[I", .fieldLink RX2 23 "IssueDeskModel" "pause" "I", .fieldLink RX2 30 "IssueDeskModel" "state" "[I", .methodLink RX2 105 yX2_isLate, .instanceMethod yX2_isLate, .selects RX2 yX2_isLate yX2_isLate, .initialized RX2, .code yX2_isLate cX2_isLate 2 (some .boolean), .fieldLink RX2 26 "IssueDeskModel" "dayOf" "[I", .fieldLink RX2 20 "IssueDeskModel" "grace" "I"] ++ wsX20)
def wsX2_day : List Cond := .code yX2_day cX2_day 1 (some .int) :: ([.fieldLink RX2 49 "IssueDeskModel" "thrown" "I", .fieldLink RX2 70 "IssueDeskModel" "day" "I"] ++ wsX20)
def wsX2_foretold : List Cond := .code yX2_foretold cX2_foretold 1 (some .int) :: ([.fieldLink RX2 49 "IssueDeskModel" "thrown" "I", .fieldLink RX2 46 "IssueDeskModel" "foretold" "I"] ++ wsX20)
def wsX2_shift : List Cond := .code yX2_shift cX2_shift 1 (some .int) :: ([.fieldLink RX2 49 "IssueDeskModel" "thrown" "I", .fieldLink RX2 59 "IssueDeskModel" "shift" "I"] ++ wsX20)
def wsX2_isAsked : List Cond := .code yX2_isAsked cX2_isAsked 2 (some .boolean) :: ([.methodLink RX2 102 yX2_isForetold, .instanceMethod yX2_isForetold, .selects RX2 yX2_isForetold yX2_isForetold, .initialized RX2, .code yX2_isForetold cX2_isForetold 2 (some .boolean), .fieldLink RX2 46 "IssueDeskModel" "foretold" "I", .methodLink RX2 52 yX2_isIn, .static yX2_isIn, .code yX2_isIn cX2_isIn 3 (some .boolean), .methodLink RX2 76 yX2_can, .instanceMethod yX2_can, .selects RX2 yX2_can yX2_can, .code yX2_can cX2_can 2 (some .boolean), .fieldLink RX2 49 "IssueDeskModel" "thrown" "I"] ++ wsX20)
def wsX2_dayOf : List Cond := .code yX2_dayOf cX2_dayOf 2 (some .int) :: ([.fieldLink RX2 26 "IssueDeskModel" "dayOf" "[I", .methodLink RX2 108 yX2_isAsked, .instanceMethod yX2_isAsked, .selects RX2 yX2_isAsked yX2_isAsked, .initialized RX2, .code yX2_isAsked cX2_isAsked 2 (some .boolean), .methodLink RX2 102 yX2_isForetold, .instanceMethod yX2_isForetold, .selects RX2 yX2_isForetold yX2_isForetold, .code yX2_isForetold cX2_isForetold 2 (some .boolean), .fieldLink RX2 46 "IssueDeskModel" "foretold" "I", .methodLink RX2 52 yX2_isIn, .static yX2_isIn, .code yX2_isIn cX2_isIn 3 (some .boolean), .methodLink RX2 76 yX2_can, .instanceMethod yX2_can, .selects RX2 yX2_can yX2_can, .code yX2_can cX2_can 2 (some .boolean), .fieldLink RX2 49 "IssueDeskModel" "thrown" "I"] ++ wsX20)
def wsX2_stateOf : List Cond := .code yX2_stateOf cX2_stateOf 2 (some .int) :: ([.fieldLink RX2 30 "IssueDeskModel" "state" "[I", .methodLink RX2 108 yX2_isAsked, .instanceMethod yX2_isAsked, .selects RX2 yX2_isAsked yX2_isAsked, .initialized RX2, .code yX2_isAsked cX2_isAsked 2 (some .boolean), .methodLink RX2 102 yX2_isForetold, .instanceMethod yX2_isForetold, .selects RX2 yX2_isForetold yX2_isForetold, .code yX2_isForetold cX2_isForetold 2 (some .boolean), .fieldLink RX2 46 "IssueDeskModel" "foretold" "I", .methodLink RX2 52 yX2_isIn, .static yX2_isIn, .code yX2_isIn cX2_isIn 3 (some .boolean), .methodLink RX2 76 yX2_can, .instanceMethod yX2_can, .selects RX2 yX2_can yX2_can, .code yX2_can cX2_can 2 (some .boolean), .fieldLink RX2 49 "IssueDeskModel" "thrown" "I"] ++ wsX20)
def wsX2_claimsOf : List Cond := .code yX2_claimsOf cX2_claimsOf 2 (some .int) :: ([.fieldLink RX2 33 "IssueDeskModel" "claims" "[I", .methodLink RX2 108 yX2_isAsked, .instanceMethod yX2_isAsked, .selects RX2 yX2_isAsked yX2_isAsked, .initialized RX2, .code yX2_isAsked cX2_isAsked 2 (some .boolean), .methodLink RX2 102 yX2_isForetold, .instanceMethod yX2_isForetold, .selects RX2 yX2_isForetold yX2_isForetold, .code yX2_isForetold cX2_isForetold 2 (some .boolean), .fieldLink RX2 46 "IssueDeskModel" "foretold" "I", .methodLink RX2 52 yX2_isIn, .static yX2_isIn, .code yX2_isIn cX2_isIn 3 (some .boolean), .methodLink RX2 76 yX2_can, .instanceMethod yX2_can, .selects RX2 yX2_can yX2_can, .code yX2_can cX2_can 2 (some .boolean), .fieldLink RX2 49 "IssueDeskModel" "thrown" "I"] ++ wsX20)
def wsX2_volume : List Cond := .code yX2_volume cX2_volume 2 (some .int) :: ([.fieldLink RX2 13 "IssueDeskModel" "size" "I"] ++ wsX20)
def wsX2_number : List Cond := .code yX2_number cX2_number 2 (some .int) :: ([.fieldLink RX2 16 "IssueDeskModel" "isAnew" "Z", .fieldLink RX2 13 "IssueDeskModel" "size" "I"] ++ wsX20)
def wsX2_labelOf : List Cond := .code yX2_labelOf cX2_labelOf 2 (some .int) :: ([.methodLink RX2 91 yX2_isIssue, .static yX2_isIssue, .initialized RX2, .code yX2_isIssue cX2_isIssue 1 (some .boolean), .methodLink RX2 52 yX2_isIn, .static yX2_isIn, .code yX2_isIn cX2_isIn 3 (some .boolean), .methodLink RX2 76 yX2_can, .instanceMethod yX2_can, .selects RX2 yX2_can yX2_can, .code yX2_can cX2_can 2 (some .boolean), .fieldLink RX2 49 "IssueDeskModel" "thrown" "I", .methodLink RX2 111 yX2_volume, .instanceMethod yX2_volume, .selects RX2 yX2_volume yX2_volume, .code yX2_volume cX2_volume 2 (some .int), .fieldLink RX2 13 "IssueDeskModel" "size" "I", .methodLink RX2 115 yX2_number, .instanceMethod yX2_number, .selects RX2 yX2_number yX2_number, .code yX2_number cX2_number 2 (some .int), .fieldLink RX2 16 "IssueDeskModel" "isAnew" "Z"] ++ wsX20)
def wsX2_find : List Cond := .code yX2_find cX2_find 5 (some .int) :: ([.fieldLink RX2 49 "IssueDeskModel" "thrown" "I", .methodLink RX2 111 yX2_volume, .instanceMethod yX2_volume, .selects RX2 yX2_volume yX2_volume, .initialized RX2, .code yX2_volume cX2_volume 2 (some .int), .fieldLink RX2 13 "IssueDeskModel" "size" "I", .methodLink RX2 115 yX2_number, .instanceMethod yX2_number, .selects RX2 yX2_number yX2_number, .code yX2_number cX2_number 2 (some .int), .fieldLink RX2 16 "IssueDeskModel" "isAnew" "Z"] ++ wsX20)
def wsX2_late : List Cond := .code yX2_late cX2_late 3 (some .int) :: ([.fieldLink RX2 49 "IssueDeskModel" "thrown" "I", .fieldLink RX2 46 "IssueDeskModel" "foretold" "I", .methodLink RX2 105 yX2_isLate, .instanceMethod yX2_isLate, .selects RX2 yX2_isLate yX2_isLate, .initialized RX2, .code yX2_isLate cX2_isLate 2 (some .boolean), .fieldLink RX2 30 "IssueDeskModel" "state" "[I", .fieldLink RX2 70 "IssueDeskModel" "day" "I", .fieldLink RX2 26 "IssueDeskModel" "dayOf" "[I", .fieldLink RX2 20 "IssueDeskModel" "grace" "I"] ++ wsX20)
def wsX2_isHere : List Cond := .code yX2_isHere cX2_isHere 2 (some .boolean) :: ([.fieldLink RX2 30 "IssueDeskModel" "state" "[I", .methodLink RX2 102 yX2_isForetold, .instanceMethod yX2_isForetold, .selects RX2 yX2_isForetold yX2_isForetold, .initialized RX2, .code yX2_isForetold cX2_isForetold 2 (some .boolean), .fieldLink RX2 46 "IssueDeskModel" "foretold" "I", .methodLink RX2 52 yX2_isIn, .static yX2_isIn, .code yX2_isIn cX2_isIn 3 (some .boolean)] ++ wsX20)
def wsX2_allRanges : List Cond := .code yX2_allRanges cX2_allRanges 3 (some .int) :: ([.fieldLink RX2 46 "IssueDeskModel" "foretold" "I", .methodLink RX2 118 yX2_isHere, .instanceMethod yX2_isHere, .selects RX2 yX2_isHere yX2_isHere, .initialized RX2, .code yX2_isHere cX2_isHere 2 (some .boolean), .fieldLink RX2 30 "IssueDeskModel" "state" "[I", .methodLink RX2 102 yX2_isForetold, .instanceMethod yX2_isForetold, .selects RX2 yX2_isForetold yX2_isForetold, .code yX2_isForetold cX2_isForetold 2 (some .boolean), .methodLink RX2 52 yX2_isIn, .static yX2_isIn, .code yX2_isIn cX2_isIn 3 (some .boolean)] ++ wsX20)
def wsX2_ranges : List Cond := .code yX2_ranges cX2_ranges 1 (some .int) :: ([.fieldLink RX2 49 "IssueDeskModel" "thrown" "I", .methodLink RX2 121 yX2_allRanges, .instanceMethod yX2_allRanges, .selects RX2 yX2_allRanges yX2_allRanges, .initialized RX2, .code yX2_allRanges cX2_allRanges 3 (some .int), .fieldLink RX2 46 "IssueDeskModel" "foretold" "I", .methodLink RX2 118 yX2_isHere, .instanceMethod yX2_isHere, .selects RX2 yX2_isHere yX2_isHere, .code yX2_isHere cX2_isHere 2 (some .boolean), .fieldLink RX2 30 "IssueDeskModel" "state" "[I", .methodLink RX2 102 yX2_isForetold, .instanceMethod yX2_isForetold, .selects RX2 yX2_isForetold yX2_isForetold, .code yX2_isForetold cX2_isForetold 2 (some .boolean), .methodLink RX2 52 yX2_isIn, .static yX2_isIn, .code yX2_isIn cX2_isIn 3 (some .boolean)] ++ wsX20)
def wsX2_rangeAt : List Cond := .code yX2_rangeAt cX2_rangeAt 5 (some .int) :: ([.methodLink RX2 121 yX2_allRanges, .instanceMethod yX2_allRanges, .selects RX2 yX2_allRanges yX2_allRanges, .initialized RX2, .code yX2_allRanges cX2_allRanges 3 (some .int), .fieldLink RX2 46 "IssueDeskModel" "foretold" "I", .methodLink RX2 118 yX2_isHere, .instanceMethod yX2_isHere, .selects RX2 yX2_isHere yX2_isHere, .code yX2_isHere cX2_isHere 2 (some .boolean), .fieldLink RX2 30 "IssueDeskModel" "state" "[I", .methodLink RX2 102 yX2_isForetold, .instanceMethod yX2_isForetold, .selects RX2 yX2_isForetold yX2_isForetold, .code yX2_isForetold cX2_isForetold 2 (some .boolean), .methodLink RX2 52 yX2_isIn, .static yX2_isIn, .code yX2_isIn cX2_isIn 3 (some .boolean), .methodLink RX2 76 yX2_can, .instanceMethod yX2_can, .selects RX2 yX2_can yX2_can, .code yX2_can cX2_can 2 (some .boolean), .fieldLink RX2 49 "IssueDeskModel" "thrown" "I"] ++ wsX20)
def wsX2_isHeld : List Cond := .code yX2_isHeld cX2_isHeld 2 (some .boolean) :: ([.fieldLink RX2 49 "IssueDeskModel" "thrown" "I", .methodLink RX2 118 yX2_isHere, .instanceMethod yX2_isHere, .selects RX2 yX2_isHere yX2_isHere, .initialized RX2, .code yX2_isHere cX2_isHere 2 (some .boolean), .fieldLink RX2 30 "IssueDeskModel" "state" "[I", .methodLink RX2 102 yX2_isForetold, .instanceMethod yX2_isForetold, .selects RX2 yX2_isForetold yX2_isForetold, .code yX2_isForetold cX2_isForetold 2 (some .boolean), .fieldLink RX2 46 "IssueDeskModel" "foretold" "I", .methodLink RX2 52 yX2_isIn, .static yX2_isIn, .code yX2_isIn cX2_isIn 3 (some .boolean)] ++ wsX20)
def wsX2_give : List Cond := .code yX2_give cX2_give 5 (some .int) :: ([.fieldLink RX2 39 "IssueDeskModel" "isThere" "[Z", .methodLink RX2 91 yX2_isIssue, .static yX2_isIssue, .initialized RX2, .code yX2_isIssue cX2_isIssue 1 (some .boolean), .methodLink RX2 52 yX2_isIn, .static yX2_isIn, .code yX2_isIn cX2_isIn 3 (some .boolean), .methodLink RX2 76 yX2_can, .instanceMethod yX2_can, .selects RX2 yX2_can yX2_can, .code yX2_can cX2_can 2 (some .boolean), .fieldLink RX2 49 "IssueDeskModel" "thrown" "I"] ++ wsX20)
def wsX2_only : List Cond := .code yX2_only cX2_only 6 (some .int) :: ([.fieldLink RX2 39 "IssueDeskModel" "isThere" "[Z", .methodLink RX2 76 yX2_can, .instanceMethod yX2_can, .selects RX2 yX2_can yX2_can, .initialized RX2, .code yX2_can cX2_can 2 (some .boolean), .fieldLink RX2 49 "IssueDeskModel" "thrown" "I", .methodLink RX2 118 yX2_isHere, .instanceMethod yX2_isHere, .selects RX2 yX2_isHere yX2_isHere, .code yX2_isHere cX2_isHere 2 (some .boolean), .fieldLink RX2 30 "IssueDeskModel" "state" "[I", .methodLink RX2 102 yX2_isForetold, .instanceMethod yX2_isForetold, .selects RX2 yX2_isForetold yX2_isForetold, .code yX2_isForetold cX2_isForetold 2 (some .boolean), .fieldLink RX2 46 "IssueDeskModel" "foretold" "I", .methodLink RX2 52 yX2_isIn, .static yX2_isIn, .code yX2_isIn cX2_isIn 3 (some .boolean)] ++ wsX20)
def wsJ9_max_7cf53 : List Cond := .code yJ9_max_7cf53 cJ9_max_7cf53 2 (some .int) :: ([])
def wsL_setPattern_r1 : List Cond := [Cond.classLink RL 13 "java/lang/IllegalArgumentException", Cond.methodLink RL 7 yX1_setPattern, Cond.instanceMethod yX1_setPattern, Cond.selects RX1 yX1_setPattern yX1_setPattern, Cond.initialized RX1, Cond.code yX1_setPattern cX1_setPattern 5 none, Cond.classLink RX1 50 "java/lang/IllegalArgumentException", Cond.initialized "java/lang/IllegalArgumentException", Cond.fieldLink RX1 10 "IssueDesk" "pattern" "LIssueDesk$Pattern;", Cond.methodLink RX1 46 yX1_isWithin, Cond.static yX1_isWithin, Cond.code yX1_isWithin cX1_isWithin 3 (some .boolean), Cond.methodLink RX1 61 yX0_change, Cond.instanceMethod yX0_change, Cond.selects RX0 yX0_change yX0_change, Cond.initialized RX0, Cond.code yX0_change cX0_change 5 none, Cond.fieldLink RX0 9 "IssueDesk$Pattern" "gap" "I", Cond.fieldLink RX0 15 "IssueDesk$Pattern" "size" "I", Cond.fieldLink RX0 18 "IssueDesk$Pattern" "beginAnew" "Z", Cond.fieldLink RX0 22 "IssueDesk$Pattern" "skipped" "I", Cond.methodLink RX1 65 yX1_foretellDueIssues, Cond.instanceMethod yX1_foretellDueIssues, Cond.selects RX1 yX1_foretellDueIssues yX1_foretellDueIssues]
def wsL_setPattern_r2 : List Cond := [Cond.code yX1_foretellDueIssues cX1_foretellDueIssues 2 none, Cond.fieldLink RX1 40 "IssueDesk" "foretoldCount" "I", Cond.fieldLink RX1 74 "IssueDesk" "today" "I", Cond.methodLink RX1 160 yX1_nextDay, Cond.instanceMethod yX1_nextDay, Cond.selects RX1 yX1_nextDay yX1_nextDay, Cond.code yX1_nextDay cX1_nextDay 2 (some .int), Cond.fieldLink RX1 23 "IssueDesk" "issueDays" "[I", Cond.fieldLink RX1 123 "IssueDesk" "waitingShift" "I", Cond.methodLink RX1 82 yX1_isIssue, Cond.static yX1_isIssue, Cond.code yX1_isIssue cX1_isIssue 1 (some .boolean), Cond.methodLink RX1 156 yX0_dayBehind, Cond.instanceMethod yX0_dayBehind, Cond.selects RX0 yX0_dayBehind yX0_dayBehind, Cond.code yX0_dayBehind cX0_dayBehind 5 (some .int), Cond.methodLink RX0 25 Lib.Math.max.name, Cond.static Lib.Math.max.name, Cond.initialized "java/lang/Math", Cond.code Lib.Math.max.name Lib.Math.max.code 2 (some .int), Cond.methodLink RX0 31 yX0_isInSkippedMonth, Cond.instanceMethod yX0_isInSkippedMonth, Cond.selects RX0 yX0_isInSkippedMonth yX0_isInSkippedMonth, Cond.code yX0_isInSkippedMonth cX0_isInSkippedMonth 3 (some .boolean)]
def wsL_setPattern_r3 : List Cond := [Cond.methodLink RX1 164 yX1_foretellNext, Cond.instanceMethod yX1_foretellNext, Cond.selects RX1 yX1_foretellNext yX1_foretellNext, Cond.code yX1_foretellNext cX1_foretellNext 1 none]
def wsL_setPattern : List Cond := .codeWith yL_setPattern cL_setPattern 6 (some .int) [(0, 9, 12, 13)] :: ((wsL_setPattern_r1 ++ (wsL_setPattern_r2 ++ wsL_setPattern_r3)) ++ wsX10 ++ wsX00 ++ (vx_atS RX1 54 "java/lang/IllegalArgumentException" ["java/lang/RuntimeException", "java/lang/Exception"]).filter goodWord)
def wsL_setClaims : List Cond := .codeWith yL_setClaims cL_setClaims 4 (some .int) [(0, 6, 9, 13)] :: ([.classLink RL 13 "java/lang/IllegalArgumentException", .methodLink RL 15 yX1_setClaims, .instanceMethod yX1_setClaims, .selects RX1 yX1_setClaims yX1_setClaims, .initialized RX1, .code yX1_setClaims cX1_setClaims 3 none, .classLink RX1 50 "java/lang/IllegalArgumentException", .initialized "java/lang/IllegalArgumentException", .fieldLink RX1 16 "IssueDesk" "grace" "I", .fieldLink RX1 20 "IssueDesk" "pause" "I", .methodLink RX1 46 yX1_isWithin, .static yX1_isWithin, .code yX1_isWithin cX1_isWithin 3 (some .boolean)] ++ wsX10 ++ (vx_atS RX1 54 "java/lang/IllegalArgumentException" ["java/lang/RuntimeException", "java/lang/Exception"]).filter goodWord)
def wsL_advance_r1 : List Cond := [Cond.classLink RL 13 "java/lang/IllegalArgumentException", Cond.classLink RL 23 "java/lang/IllegalStateException", Cond.methodLink RL 19 yX1_advance, Cond.instanceMethod yX1_advance, Cond.selects RX1 yX1_advance yX1_advance, Cond.initialized RX1, Cond.code yX1_advance cX1_advance 2 (some .int), Cond.classLink RX1 50 "java/lang/IllegalArgumentException", Cond.initialized "java/lang/IllegalArgumentException", Cond.classLink RX1 77 "java/lang/IllegalStateException", Cond.initialized "java/lang/IllegalStateException", Cond.fieldLink RX1 74 "IssueDesk" "today" "I", Cond.methodLink RX1 46 yX1_isWithin, Cond.static yX1_isWithin, Cond.code yX1_isWithin cX1_isWithin 3 (some .boolean), Cond.methodLink RX1 65 yX1_foretellDueIssues, Cond.instanceMethod yX1_foretellDueIssues, Cond.selects RX1 yX1_foretellDueIssues yX1_foretellDueIssues, Cond.code yX1_foretellDueIssues cX1_foretellDueIssues 2 none, Cond.fieldLink RX1 40 "IssueDesk" "foretoldCount" "I", Cond.methodLink RX1 160 yX1_nextDay, Cond.instanceMethod yX1_nextDay, Cond.selects RX1 yX1_nextDay yX1_nextDay, Cond.code yX1_nextDay cX1_nextDay 2 (some .int)]
def wsL_advance_r2 : List Cond := [Cond.fieldLink RX1 10 "IssueDesk" "pattern" "LIssueDesk$Pattern;", Cond.fieldLink RX1 23 "IssueDesk" "issueDays" "[I", Cond.fieldLink RX1 123 "IssueDesk" "waitingShift" "I", Cond.methodLink RX1 82 yX1_isIssue, Cond.static yX1_isIssue, Cond.code yX1_isIssue cX1_isIssue 1 (some .boolean), Cond.methodLink RX1 156 yX0_dayBehind, Cond.instanceMethod yX0_dayBehind, Cond.selects RX0 yX0_dayBehind yX0_dayBehind, Cond.initialized RX0, Cond.code yX0_dayBehind cX0_dayBehind 5 (some .int), Cond.fieldLink RX0 9 "IssueDesk$Pattern" "gap" "I", Cond.methodLink RX0 25 Lib.Math.max.name, Cond.static Lib.Math.max.name, Cond.initialized "java/lang/Math", Cond.code Lib.Math.max.name Lib.Math.max.code 2 (some .int), Cond.methodLink RX0 31 yX0_isInSkippedMonth, Cond.instanceMethod yX0_isInSkippedMonth, Cond.selects RX0 yX0_isInSkippedMonth yX0_isInSkippedMonth, Cond.code yX0_isInSkippedMonth cX0_isInSkippedMonth 3 (some .boolean), Cond.fieldLink RX0 22 "IssueDesk$Pattern" "skipped" "I", Cond.methodLink RX1 164 yX1_foretellNext, Cond.instanceMethod yX1_foretellNext, Cond.selects RX1 yX1_foretellNext yX1_foretellNext]
def wsL_advance_r3 : List Cond := [Cond.code yX1_foretellNext cX1_foretellNext 1 none]
def wsL_advance : List Cond := .codeWith yL_advance cL_advance 4 (some .int) [(0, 9, 12, 13), (0, 9, 15, 23)] :: ((wsL_advance_r1 ++ (wsL_advance_r2 ++ wsL_advance_r3)) ++ wsX10 ++ wsX00 ++ (vx_atS RX1 54 "java/lang/IllegalArgumentException" ["java/lang/RuntimeException", "java/lang/Exception"]).filter goodWord ++ (vx_atS RX1 81 "java/lang/IllegalStateException" ["java/lang/RuntimeException", "java/lang/Exception"]).filter goodWord)
def wsL_checkIn_r1 : List Cond := [Cond.classLink RL 29 "java/lang/IndexOutOfBoundsException", Cond.classLink RL 13 "java/lang/IllegalArgumentException", Cond.classLink RL 23 "java/lang/IllegalStateException", Cond.methodLink RL 25 yX1_checkIn, Cond.instanceMethod yX1_checkIn, Cond.selects RX1 yX1_checkIn yX1_checkIn, Cond.initialized RX1, Cond.code yX1_checkIn cX1_checkIn 4 (some .int), Cond.classLink RX1 86 "java/lang/IndexOutOfBoundsException", Cond.initialized "java/lang/IndexOutOfBoundsException", Cond.classLink RX1 50 "java/lang/IllegalArgumentException", Cond.initialized "java/lang/IllegalArgumentException", Cond.classLink RX1 77 "java/lang/IllegalStateException", Cond.initialized "java/lang/IllegalStateException", Cond.fieldLink RX1 40 "IssueDesk" "foretoldCount" "I", Cond.methodLink RX1 82 yX1_isIssue, Cond.static yX1_isIssue, Cond.code yX1_isIssue cX1_isIssue 1 (some .boolean), Cond.methodLink RX1 46 yX1_isWithin, Cond.static yX1_isWithin, Cond.code yX1_isWithin cX1_isWithin 3 (some .boolean), Cond.methodLink RX1 93 yX1_canAllCome, Cond.instanceMethod yX1_canAllCome, Cond.selects RX1 yX1_canAllCome yX1_canAllCome]
def wsL_checkIn_r2 : List Cond := [Cond.code yX1_canAllCome cX1_canAllCome 4 (some .boolean), Cond.fieldLink RX1 27 "IssueDesk" "states" "[I", Cond.methodLink RX1 110 yX1_isForetold, Cond.instanceMethod yX1_isForetold, Cond.selects RX1 yX1_isForetold yX1_isForetold, Cond.code yX1_isForetold cX1_isForetold 2 (some .boolean), Cond.methodLink RX1 99 yX1_foretellUpTo, Cond.instanceMethod yX1_foretellUpTo, Cond.selects RX1 yX1_foretellUpTo yX1_foretellUpTo, Cond.code yX1_foretellUpTo cX1_foretellUpTo 3 none, Cond.methodLink RX1 164 yX1_foretellNext, Cond.instanceMethod yX1_foretellNext, Cond.selects RX1 yX1_foretellNext yX1_foretellNext, Cond.code yX1_foretellNext cX1_foretellNext 1 none, Cond.fieldLink RX1 23 "IssueDesk" "issueDays" "[I", Cond.fieldLink RX1 123 "IssueDesk" "waitingShift" "I", Cond.methodLink RX1 160 yX1_nextDay, Cond.instanceMethod yX1_nextDay, Cond.selects RX1 yX1_nextDay yX1_nextDay, Cond.code yX1_nextDay cX1_nextDay 2 (some .int), Cond.fieldLink RX1 10 "IssueDesk" "pattern" "LIssueDesk$Pattern;", Cond.methodLink RX1 156 yX0_dayBehind, Cond.instanceMethod yX0_dayBehind, Cond.selects RX0 yX0_dayBehind yX0_dayBehind]
def wsL_checkIn_r3 : List Cond := [Cond.initialized RX0, Cond.code yX0_dayBehind cX0_dayBehind 5 (some .int), Cond.fieldLink RX0 9 "IssueDesk$Pattern" "gap" "I", Cond.methodLink RX0 25 Lib.Math.max.name, Cond.static Lib.Math.max.name, Cond.initialized "java/lang/Math", Cond.code Lib.Math.max.name Lib.Math.max.code 2 (some .int), Cond.methodLink RX0 31 yX0_isInSkippedMonth, Cond.instanceMethod yX0_isInSkippedMonth, Cond.selects RX0 yX0_isInSkippedMonth yX0_isInSkippedMonth, Cond.code yX0_isInSkippedMonth cX0_isInSkippedMonth 3 (some .boolean), Cond.fieldLink RX0 22 "IssueDesk$Pattern" "skipped" "I", Cond.methodLink RX1 103 yX1_takeIn, Cond.instanceMethod yX1_takeIn, Cond.selects RX1 yX1_takeIn yX1_takeIn, Cond.code yX1_takeIn cX1_takeIn 4 none, Cond.methodLink RX1 107 yX1_noteDifference, Cond.instanceMethod yX1_noteDifference, Cond.selects RX1 yX1_noteDifference yX1_noteDifference, Cond.code yX1_noteDifference cX1_noteDifference 4 none, Cond.fieldLink RX1 74 "IssueDesk" "today" "I", Cond.fieldLink RX1 167 "IssueDesk" "streakDifference" "I", Cond.fieldLink RX1 173 "IssueDesk" "streakLength" "I", Cond.fieldLink RX1 43 "IssueDesk" "streakIssue" "I"]
def wsL_checkIn_r4 : List Cond := [Cond.methodLink RX1 170 yX1_followsStreak, Cond.instanceMethod yX1_followsStreak, Cond.selects RX1 yX1_followsStreak yX1_followsStreak, Cond.code yX1_followsStreak cX1_followsStreak 3 (some .boolean), Cond.methodLink RX1 176 yX1_canShift, Cond.static yX1_canShift, Cond.code yX1_canShift cX1_canShift 1 (some .boolean), Cond.methodLink RX1 65 yX1_foretellDueIssues, Cond.instanceMethod yX1_foretellDueIssues, Cond.selects RX1 yX1_foretellDueIssues yX1_foretellDueIssues, Cond.code yX1_foretellDueIssues cX1_foretellDueIssues 2 none]
def wsL_checkIn : List Cond := .codeWith yL_checkIn cL_checkIn 5 (some .int) [(0, 10, 13, 29), (0, 10, 17, 13), (0, 10, 21, 23)] :: ((wsL_checkIn_r1 ++ (wsL_checkIn_r2 ++ (wsL_checkIn_r3 ++ wsL_checkIn_r4))) ++ wsX10 ++ wsX00 ++ (vx_atS RX1 90 "java/lang/IndexOutOfBoundsException" ["java/lang/RuntimeException", "java/lang/Exception"]).filter goodWord ++ (vx_atS RX1 54 "java/lang/IllegalArgumentException" ["java/lang/RuntimeException", "java/lang/Exception"]).filter goodWord ++ (vx_atS RX1 81 "java/lang/IllegalStateException" ["java/lang/RuntimeException", "java/lang/Exception"]).filter goodWord)
def wsL_skip : List Cond := .codeWith yL_skip cL_skip 3 (some .int) [(0, 5, 8, 29), (0, 5, 11, 23)] :: ([.classLink RL 29 "java/lang/IndexOutOfBoundsException", .classLink RL 23 "java/lang/IllegalStateException", .methodLink RL 31 yX1_skip, .instanceMethod yX1_skip, .selects RX1 yX1_skip yX1_skip, .initialized RX1, .code yX1_skip cX1_skip 2 none, .classLink RX1 86 "java/lang/IndexOutOfBoundsException", .initialized "java/lang/IndexOutOfBoundsException", .classLink RX1 77 "java/lang/IllegalStateException", .initialized "java/lang/IllegalStateException", .fieldLink RX1 27 "IssueDesk" "states" "[I", .methodLink RX1 110 yX1_isForetold, .instanceMethod yX1_isForetold, .selects RX1 yX1_isForetold yX1_isForetold, .code yX1_isForetold cX1_isForetold 2 (some .boolean), .fieldLink RX1 40 "IssueDesk" "foretoldCount" "I", .methodLink RX1 82 yX1_isIssue, .static yX1_isIssue, .code yX1_isIssue cX1_isIssue 1 (some .boolean)] ++ wsX10 ++ (vx_atS RX1 90 "java/lang/IndexOutOfBoundsException" ["java/lang/RuntimeException", "java/lang/Exception"]).filter goodWord ++ (vx_atS RX1 81 "java/lang/IllegalStateException" ["java/lang/RuntimeException", "java/lang/Exception"]).filter goodWord)
def wsL_dayOf : List Cond := .codeWith yL_dayOf cL_dayOf 4 (some .int) [(0, 9, 12, 29)] :: ([.classLink RL 29 "java/lang/IndexOutOfBoundsException", .methodLink RL 35 yX1_dayOf, .instanceMethod yX1_dayOf, .selects RX1 yX1_dayOf yX1_dayOf, .initialized RX1, .code yX1_dayOf cX1_dayOf 2 (some .int), .classLink RX1 86 "java/lang/IndexOutOfBoundsException", .initialized "java/lang/IndexOutOfBoundsException", .fieldLink RX1 23 "IssueDesk" "issueDays" "[I", .methodLink RX1 110 yX1_isForetold, .instanceMethod yX1_isForetold, .selects RX1 yX1_isForetold yX1_isForetold, .code yX1_isForetold cX1_isForetold 2 (some .boolean), .fieldLink RX1 40 "IssueDesk" "foretoldCount" "I", .methodLink RX1 82 yX1_isIssue, .static yX1_isIssue, .code yX1_isIssue cX1_isIssue 1 (some .boolean)] ++ wsX10 ++ (vx_atS RX1 90 "java/lang/IndexOutOfBoundsException" ["java/lang/RuntimeException", "java/lang/Exception"]).filter goodWord)
def wsL_stateOf : List Cond := .codeWith yL_stateOf cL_stateOf 4 (some .int) [(0, 9, 12, 29)] :: ([.classLink RL 29 "java/lang/IndexOutOfBoundsException", .methodLink RL 38 yX1_stateOf, .instanceMethod yX1_stateOf, .selects RX1 yX1_stateOf yX1_stateOf, .initialized RX1, .code yX1_stateOf cX1_stateOf 2 (some .int), .classLink RX1 86 "java/lang/IndexOutOfBoundsException", .initialized "java/lang/IndexOutOfBoundsException", .fieldLink RX1 27 "IssueDesk" "states" "[I", .methodLink RX1 110 yX1_isForetold, .instanceMethod yX1_isForetold, .selects RX1 yX1_isForetold yX1_isForetold, .code yX1_isForetold cX1_isForetold 2 (some .boolean), .fieldLink RX1 40 "IssueDesk" "foretoldCount" "I", .methodLink RX1 82 yX1_isIssue, .static yX1_isIssue, .code yX1_isIssue cX1_isIssue 1 (some .boolean)] ++ wsX10 ++ (vx_atS RX1 90 "java/lang/IndexOutOfBoundsException" ["java/lang/RuntimeException", "java/lang/Exception"]).filter goodWord)
def wsL_claimsOf : List Cond := .codeWith yL_claimsOf cL_claimsOf 4 (some .int) [(0, 9, 12, 29)] :: ([.classLink RL 29 "java/lang/IndexOutOfBoundsException", .methodLink RL 41 yX1_claimsOf, .instanceMethod yX1_claimsOf, .selects RX1 yX1_claimsOf yX1_claimsOf, .initialized RX1, .code yX1_claimsOf cX1_claimsOf 2 (some .int), .classLink RX1 86 "java/lang/IndexOutOfBoundsException", .initialized "java/lang/IndexOutOfBoundsException", .fieldLink RX1 30 "IssueDesk" "claimCounts" "[I", .methodLink RX1 110 yX1_isForetold, .instanceMethod yX1_isForetold, .selects RX1 yX1_isForetold yX1_isForetold, .code yX1_isForetold cX1_isForetold 2 (some .boolean), .fieldLink RX1 40 "IssueDesk" "foretoldCount" "I", .methodLink RX1 82 yX1_isIssue, .static yX1_isIssue, .code yX1_isIssue cX1_isIssue 1 (some .boolean)] ++ wsX10 ++ (vx_atS RX1 90 "java/lang/IndexOutOfBoundsException" ["java/lang/RuntimeException", "java/lang/Exception"]).filter goodWord)
def wsL_labelOf : List Cond := .codeWith yL_labelOf cL_labelOf 4 (some .int) [(0, 9, 12, 29)] :: ([.classLink RL 29 "java/lang/IndexOutOfBoundsException", .methodLink RL 44 yX1_labelOf, .instanceMethod yX1_labelOf, .selects RX1 yX1_labelOf yX1_labelOf, .initialized RX1, .code yX1_labelOf cX1_labelOf 2 (some .int), .classLink RX1 86 "java/lang/IndexOutOfBoundsException", .initialized "java/lang/IndexOutOfBoundsException", .fieldLink RX1 10 "IssueDesk" "pattern" "LIssueDesk$Pattern;", .methodLink RX1 82 yX1_isIssue, .static yX1_isIssue, .code yX1_isIssue cX1_isIssue 1 (some .boolean), .methodLink RX1 126 yX0_volumeOf, .instanceMethod yX0_volumeOf, .selects RX0 yX0_volumeOf yX0_volumeOf, .initialized RX0, .code yX0_volumeOf cX0_volumeOf 2 (some .int), .fieldLink RX0 15 "IssueDesk$Pattern" "size" "I", .methodLink RX1 130 yX0_numberOf, .instanceMethod yX0_numberOf, .selects RX0 yX0_numberOf yX0_numberOf, .code yX0_numberOf cX0_numberOf 2 (some .int), .fieldLink RX0 18 "IssueDesk$Pattern" "beginAnew" "Z"] ++ wsX10 ++ wsX00 ++ (vx_atS RX1 90 "java/lang/IndexOutOfBoundsException" ["java/lang/RuntimeException", "java/lang/Exception"]).filter goodWord)
def wsL_rangeAt_r1 : List Cond := [Cond.classLink RL 29 "java/lang/IndexOutOfBoundsException", Cond.methodLink RL 47 yX1_rangeAt, Cond.instanceMethod yX1_rangeAt, Cond.selects RX1 yX1_rangeAt yX1_rangeAt, Cond.initialized RX1, Cond.code yX1_rangeAt cX1_rangeAt 3 (some .int), Cond.classLink RX1 86 "java/lang/IndexOutOfBoundsException", Cond.initialized "java/lang/IndexOutOfBoundsException", Cond.methodLink RX1 136 yX1_startOfRange, Cond.instanceMethod yX1_startOfRange, Cond.selects RX1 yX1_startOfRange yX1_startOfRange, Cond.code yX1_startOfRange cX1_startOfRange 4 (some .int), Cond.methodLink RX1 133 yX1_isRangeStart, Cond.instanceMethod yX1_isRangeStart, Cond.selects RX1 yX1_isRangeStart yX1_isRangeStart, Cond.code yX1_isRangeStart cX1_isRangeStart 2 (some .boolean), Cond.methodLink RX1 153 yX1_isInHouse, Cond.instanceMethod yX1_isInHouse, Cond.selects RX1 yX1_isInHouse yX1_isInHouse, Cond.code yX1_isInHouse cX1_isInHouse 2 (some .boolean), Cond.fieldLink RX1 27 "IssueDesk" "states" "[I", Cond.methodLink RX1 110 yX1_isForetold, Cond.instanceMethod yX1_isForetold, Cond.selects RX1 yX1_isForetold yX1_isForetold]
def wsL_rangeAt_r2 : List Cond := [Cond.code yX1_isForetold cX1_isForetold 2 (some .boolean), Cond.fieldLink RX1 40 "IssueDesk" "foretoldCount" "I", Cond.methodLink RX1 82 yX1_isIssue, Cond.static yX1_isIssue, Cond.code yX1_isIssue cX1_isIssue 1 (some .boolean), Cond.methodLink RX1 141 yX1_endOfRange, Cond.instanceMethod yX1_endOfRange, Cond.selects RX1 yX1_endOfRange yX1_endOfRange, Cond.code yX1_endOfRange cX1_endOfRange 3 (some .int)]
def wsL_rangeAt : List Cond := .codeWith yL_rangeAt cL_rangeAt 4 (some .int) [(0, 9, 12, 29)] :: ((wsL_rangeAt_r1 ++ wsL_rangeAt_r2) ++ wsX10 ++ (vx_atS RX1 90 "java/lang/IndexOutOfBoundsException" ["java/lang/RuntimeException", "java/lang/Exception"]).filter goodWord)
def wsL_give : List Cond := .codeWith yL_give cL_give 5 (some .int) [(0, 10, 13, 13)] :: ([.classLink RL 13 "java/lang/IllegalArgumentException", .methodLink RL 50 yX1_give, .instanceMethod yX1_give, .selects RX1 yX1_give yX1_give, .initialized RX1, .code yX1_give cX1_give 4 (some .int), .classLink RX1 50 "java/lang/IllegalArgumentException", .initialized "java/lang/IllegalArgumentException", .fieldLink RX1 36 "IssueDesk" "isThere" "[Z", .fieldLink RX1 148 "IssueDesk" "thereCount" "I", .methodLink RX1 82 yX1_isIssue, .static yX1_isIssue, .code yX1_isIssue cX1_isIssue 1 (some .boolean), .methodLink RX1 46 yX1_isWithin, .static yX1_isWithin, .code yX1_isWithin cX1_isWithin 3 (some .boolean)] ++ wsX10 ++ (vx_atS RX1 54 "java/lang/IllegalArgumentException" ["java/lang/RuntimeException", "java/lang/Exception"]).filter goodWord)
def wsL_only : List Cond := .codeWith yL_only cL_only 5 (some .int) [(0, 10, 13, 13)] :: ([.classLink RL 13 "java/lang/IllegalArgumentException", .methodLink RL 53 yX1_only, .instanceMethod yX1_only, .selects RX1 yX1_only yX1_only, .initialized RX1, .code yX1_only cX1_only 6 (some .int), .classLink RX1 50 "java/lang/IllegalArgumentException", .initialized "java/lang/IllegalArgumentException", .fieldLink RX1 36 "IssueDesk" "isThere" "[Z", .methodLink RX1 153 yX1_isInHouse, .instanceMethod yX1_isInHouse, .selects RX1 yX1_isInHouse yX1_isInHouse, .code yX1_isInHouse cX1_isInHouse 2 (some .boolean), .fieldLink RX1 27 "IssueDesk" "states" "[I", .methodLink RX1 110 yX1_isForetold, .instanceMethod yX1_isForetold, .selects RX1 yX1_isForetold yX1_isForetold, .code yX1_isForetold cX1_isForetold 2 (some .boolean), .fieldLink RX1 40 "IssueDesk" "foretoldCount" "I", .methodLink RX1 82 yX1_isIssue, .static yX1_isIssue, .code yX1_isIssue cX1_isIssue 1 (some .boolean)] ++ wsX10 ++ (vx_atS RX1 54 "java/lang/IllegalArgumentException" ["java/lang/RuntimeException", "java/lang/Exception"]).filter goodWord)
def wsL_law0_r1 : List Cond := [Cond.classLink RL 8 RX1, Cond.instantiable RX1 15, Cond.initialized RX1, Cond.classLink RL 58 RX2, Cond.instantiable RX2 18, Cond.initialized RX2, Cond.arrayClass .long, Cond.methodLink RL 57 yX1_init, Cond.instanceMethod yX1_init, Cond.code yX1_init cX1_init 1 none, Cond.methodLink RX1 1 objectInit, Cond.instanceMethod objectInit, Cond.code objectInit ⟨#[0xb1]⟩ 1 none, Cond.classLink RX1 7 RX0, Cond.instantiable RX0 4, Cond.initialized RX0, Cond.fieldLink RX1 10 "IssueDesk" "pattern" "LIssueDesk$Pattern;", Cond.fieldLink RX1 16 "IssueDesk" "grace" "I", Cond.fieldLink RX1 20 "IssueDesk" "pause" "I", Cond.arrayClass .int, Cond.fieldLink RX1 23 "IssueDesk" "issueDays" "[I", Cond.fieldLink RX1 27 "IssueDesk" "states" "[I", Cond.fieldLink RX1 30 "IssueDesk" "claimCounts" "[I", Cond.fieldLink RX1 33 "IssueDesk" "claimDays" "[I"]
def wsL_law0_r2 : List Cond := [Cond.arrayClass .boolean, Cond.fieldLink RX1 36 "IssueDesk" "isThere" "[Z", Cond.fieldLink RX1 40 "IssueDesk" "foretoldCount" "I", Cond.fieldLink RX1 43 "IssueDesk" "streakIssue" "I", Cond.methodLink RX1 9 yX0_init, Cond.instanceMethod yX0_init, Cond.code yX0_init cX0_init 1 none, Cond.methodLink RX0 3 objectInit, Cond.fieldLink RX0 9 "IssueDesk$Pattern" "gap" "I", Cond.fieldLink RX0 15 "IssueDesk$Pattern" "size" "I", Cond.fieldLink RX0 18 "IssueDesk$Pattern" "beginAnew" "Z", Cond.fieldLink RX0 22 "IssueDesk$Pattern" "skipped" "I", Cond.methodLink RL 60 yX2_init, Cond.instanceMethod yX2_init, Cond.code yX2_init cX2_init 1 none, Cond.methodLink RX2 1 objectInit, Cond.fieldLink RX2 7 "IssueDeskModel" "gap" "I", Cond.fieldLink RX2 13 "IssueDeskModel" "size" "I", Cond.fieldLink RX2 16 "IssueDeskModel" "isAnew" "Z", Cond.fieldLink RX2 20 "IssueDeskModel" "grace" "I", Cond.fieldLink RX2 23 "IssueDeskModel" "pause" "I", Cond.fieldLink RX2 26 "IssueDeskModel" "dayOf" "[I", Cond.fieldLink RX2 30 "IssueDeskModel" "state" "[I", Cond.fieldLink RX2 33 "IssueDeskModel" "claims" "[I"]
def wsL_law0_r3 : List Cond := [Cond.fieldLink RX2 36 "IssueDeskModel" "claimedOn" "[I", Cond.fieldLink RX2 39 "IssueDeskModel" "isThere" "[Z", Cond.fieldLink RX2 43 "IssueDeskModel" "before" "I", Cond.fieldLink RX2 46 "IssueDeskModel" "foretold" "I", Cond.methodLink RL 61 yL_setPattern, Cond.static yL_setPattern, Cond.initialized RL, Cond.codeWith yL_setPattern cL_setPattern 6 (some .int) [(0, 9, 12, 13)], Cond.classLink RL 13 "java/lang/IllegalArgumentException", Cond.methodLink RL 7 yX1_setPattern, Cond.instanceMethod yX1_setPattern, Cond.selects RX1 yX1_setPattern yX1_setPattern, Cond.code yX1_setPattern cX1_setPattern 5 none, Cond.classLink RX1 50 "java/lang/IllegalArgumentException", Cond.initialized "java/lang/IllegalArgumentException", Cond.methodLink RX1 46 yX1_isWithin, Cond.static yX1_isWithin, Cond.code yX1_isWithin cX1_isWithin 3 (some .boolean), Cond.methodLink RX1 61 yX0_change, Cond.instanceMethod yX0_change, Cond.selects RX0 yX0_change yX0_change, Cond.code yX0_change cX0_change 5 none, Cond.methodLink RX1 65 yX1_foretellDueIssues, Cond.instanceMethod yX1_foretellDueIssues]
def wsL_law0_r4 : List Cond := [Cond.selects RX1 yX1_foretellDueIssues yX1_foretellDueIssues, Cond.code yX1_foretellDueIssues cX1_foretellDueIssues 2 none, Cond.fieldLink RX1 74 "IssueDesk" "today" "I", Cond.methodLink RX1 160 yX1_nextDay, Cond.instanceMethod yX1_nextDay, Cond.selects RX1 yX1_nextDay yX1_nextDay, Cond.code yX1_nextDay cX1_nextDay 2 (some .int), Cond.fieldLink RX1 123 "IssueDesk" "waitingShift" "I", Cond.methodLink RX1 82 yX1_isIssue, Cond.static yX1_isIssue, Cond.code yX1_isIssue cX1_isIssue 1 (some .boolean), Cond.methodLink RX1 156 yX0_dayBehind, Cond.instanceMethod yX0_dayBehind, Cond.selects RX0 yX0_dayBehind yX0_dayBehind, Cond.code yX0_dayBehind cX0_dayBehind 5 (some .int), Cond.methodLink RX0 25 Lib.Math.max.name, Cond.static Lib.Math.max.name, Cond.initialized "java/lang/Math", Cond.code Lib.Math.max.name Lib.Math.max.code 2 (some .int), Cond.methodLink RX0 31 yX0_isInSkippedMonth, Cond.instanceMethod yX0_isInSkippedMonth, Cond.selects RX0 yX0_isInSkippedMonth yX0_isInSkippedMonth, Cond.code yX0_isInSkippedMonth cX0_isInSkippedMonth 3 (some .boolean), Cond.methodLink RX1 164 yX1_foretellNext]
def wsL_law0_r5 : List Cond := [Cond.instanceMethod yX1_foretellNext, Cond.selects RX1 yX1_foretellNext yX1_foretellNext, Cond.code yX1_foretellNext cX1_foretellNext 1 none, Cond.methodLink RL 66 yX2_setPattern, Cond.instanceMethod yX2_setPattern, Cond.selects RX2 yX2_setPattern yX2_setPattern, Cond.code yX2_setPattern cX2_setPattern 5 none, Cond.fieldLink RX2 56 "IssueDeskModel" "skipped" "I", Cond.methodLink RX2 52 yX2_isIn, Cond.static yX2_isIn, Cond.code yX2_isIn cX2_isIn 3 (some .boolean), Cond.methodLink RX2 76 yX2_can, Cond.instanceMethod yX2_can, Cond.selects RX2 yX2_can yX2_can, Cond.code yX2_can cX2_can 2 (some .boolean), Cond.fieldLink RX2 49 "IssueDeskModel" "thrown" "I", Cond.methodLink RX2 79 yX2_looks, Cond.instanceMethod yX2_looks, Cond.selects RX2 yX2_looks yX2_looks, Cond.code yX2_looks cX2_looks 1 none, Cond.fieldLink RX2 70 "IssueDeskModel" "day" "I", Cond.methodLink RX2 66 yX2_nextDay, Cond.instanceMethod yX2_nextDay, Cond.selects RX2 yX2_nextDay yX2_nextDay]
def wsL_law0_r6 : List Cond := [Cond.code yX2_nextDay cX2_nextDay 3 (some .int), Cond.fieldLink RX2 59 "IssueDeskModel" "shift" "I", Cond.methodLink RX2 62 yX2_isBarred, Cond.instanceMethod yX2_isBarred, Cond.selects RX2 yX2_isBarred yX2_isBarred, Cond.code yX2_isBarred cX2_isBarred 2 (some .boolean), Cond.methodLink RX2 73 yX2_foretells, Cond.instanceMethod yX2_foretells, Cond.selects RX2 yX2_foretells yX2_foretells, Cond.code yX2_foretells cX2_foretells 1 none, Cond.methodLink RL 67 yX2_thrown, Cond.instanceMethod yX2_thrown, Cond.selects RX2 yX2_thrown yX2_thrown, Cond.code yX2_thrown cX2_thrown 1 (some .int), Cond.methodLink RL 71 yL_setClaims, Cond.static yL_setClaims, Cond.codeWith yL_setClaims cL_setClaims 4 (some .int) [(0, 6, 9, 13)], Cond.methodLink RL 15 yX1_setClaims, Cond.instanceMethod yX1_setClaims, Cond.selects RX1 yX1_setClaims yX1_setClaims, Cond.code yX1_setClaims cX1_setClaims 3 none, Cond.methodLink RL 74 yX2_setClaims, Cond.instanceMethod yX2_setClaims, Cond.selects RX2 yX2_setClaims yX2_setClaims]
def wsL_law0_r7 : List Cond := [Cond.code yX2_setClaims cX2_setClaims 3 none, Cond.methodLink RL 75 yL_advance, Cond.static yL_advance, Cond.codeWith yL_advance cL_advance 4 (some .int) [(0, 9, 12, 13), (0, 9, 15, 23)], Cond.classLink RL 23 "java/lang/IllegalStateException", Cond.methodLink RL 19 yX1_advance, Cond.instanceMethod yX1_advance, Cond.selects RX1 yX1_advance yX1_advance, Cond.code yX1_advance cX1_advance 2 (some .int), Cond.classLink RX1 77 "java/lang/IllegalStateException", Cond.initialized "java/lang/IllegalStateException", Cond.methodLink RL 78 yX2_advance, Cond.instanceMethod yX2_advance, Cond.selects RX2 yX2_advance yX2_advance, Cond.code yX2_advance cX2_advance 2 (some .int), Cond.methodLink RL 79 yL_checkIn, Cond.static yL_checkIn, Cond.codeWith yL_checkIn cL_checkIn 5 (some .int) [(0, 10, 13, 29), (0, 10, 17, 13), (0, 10, 21, 23)], Cond.classLink RL 29 "java/lang/IndexOutOfBoundsException", Cond.methodLink RL 25 yX1_checkIn, Cond.instanceMethod yX1_checkIn, Cond.selects RX1 yX1_checkIn yX1_checkIn, Cond.code yX1_checkIn cX1_checkIn 4 (some .int), Cond.classLink RX1 86 "java/lang/IndexOutOfBoundsException"]
def wsL_law0_r8 : List Cond := [Cond.initialized "java/lang/IndexOutOfBoundsException", Cond.methodLink RX1 93 yX1_canAllCome, Cond.instanceMethod yX1_canAllCome, Cond.selects RX1 yX1_canAllCome yX1_canAllCome, Cond.code yX1_canAllCome cX1_canAllCome 4 (some .boolean), Cond.methodLink RX1 110 yX1_isForetold, Cond.instanceMethod yX1_isForetold, Cond.selects RX1 yX1_isForetold yX1_isForetold, Cond.code yX1_isForetold cX1_isForetold 2 (some .boolean), Cond.methodLink RX1 99 yX1_foretellUpTo, Cond.instanceMethod yX1_foretellUpTo, Cond.selects RX1 yX1_foretellUpTo yX1_foretellUpTo, Cond.code yX1_foretellUpTo cX1_foretellUpTo 3 none, Cond.methodLink RX1 103 yX1_takeIn, Cond.instanceMethod yX1_takeIn, Cond.selects RX1 yX1_takeIn yX1_takeIn, Cond.code yX1_takeIn cX1_takeIn 4 none, Cond.methodLink RX1 107 yX1_noteDifference, Cond.instanceMethod yX1_noteDifference, Cond.selects RX1 yX1_noteDifference yX1_noteDifference, Cond.code yX1_noteDifference cX1_noteDifference 4 none, Cond.fieldLink RX1 167 "IssueDesk" "streakDifference" "I", Cond.fieldLink RX1 173 "IssueDesk" "streakLength" "I", Cond.methodLink RX1 170 yX1_followsStreak]
def wsL_law0_r9 : List Cond := [Cond.instanceMethod yX1_followsStreak, Cond.selects RX1 yX1_followsStreak yX1_followsStreak, Cond.code yX1_followsStreak cX1_followsStreak 3 (some .boolean), Cond.methodLink RX1 176 yX1_canShift, Cond.static yX1_canShift, Cond.code yX1_canShift cX1_canShift 1 (some .boolean), Cond.methodLink RL 82 yX2_checkIn, Cond.instanceMethod yX2_checkIn, Cond.selects RX2 yX2_checkIn yX2_checkIn, Cond.code yX2_checkIn cX2_checkIn 5 (some .int), Cond.methodLink RX2 91 yX2_isIssue, Cond.static yX2_isIssue, Cond.code yX2_isIssue cX2_isIssue 1 (some .boolean), Cond.methodLink RX2 94 yX2_isOpen, Cond.instanceMethod yX2_isOpen, Cond.selects RX2 yX2_isOpen yX2_isOpen, Cond.code yX2_isOpen cX2_isOpen 5 (some .boolean), Cond.methodLink RX2 98 yX2_counts, Cond.instanceMethod yX2_counts, Cond.selects RX2 yX2_counts yX2_counts, Cond.code yX2_counts cX2_counts 3 none, Cond.fieldLink RX2 82 "IssueDeskModel" "row" "I", Cond.fieldLink RX2 88 "IssueDeskModel" "difference" "I", Cond.methodLink RX2 85 yX2_follows]
def wsL_law0_r10 : List Cond := [Cond.instanceMethod yX2_follows, Cond.selects RX2 yX2_follows yX2_follows, Cond.code yX2_follows cX2_follows 4 (some .boolean), Cond.methodLink RL 83 yL_skip, Cond.static yL_skip, Cond.codeWith yL_skip cL_skip 3 (some .int) [(0, 5, 8, 29), (0, 5, 11, 23)], Cond.methodLink RL 31 yX1_skip, Cond.instanceMethod yX1_skip, Cond.selects RX1 yX1_skip yX1_skip, Cond.code yX1_skip cX1_skip 2 none, Cond.methodLink RL 86 yX2_skip, Cond.instanceMethod yX2_skip, Cond.selects RX2 yX2_skip yX2_skip, Cond.code yX2_skip cX2_skip 2 none, Cond.methodLink RX2 102 yX2_isForetold, Cond.instanceMethod yX2_isForetold, Cond.selects RX2 yX2_isForetold yX2_isForetold, Cond.code yX2_isForetold cX2_isForetold 2 (some .boolean), Cond.methodLink RL 87 yX1_round, Cond.instanceMethod yX1_round, Cond.selects RX1 yX1_round yX1_round, Cond.code yX1_round cX1_round 3 (some .int), Cond.methodLink RX1 117 yX1_isLate, Cond.instanceMethod yX1_isLate]
def wsL_law0_r11 : List Cond := [Cond.selects RX1 yX1_isLate yX1_isLate, Cond.code yX1_isLate cX1_isLate 2 (some .boolean), Cond.methodLink RX1 120 yX1_isTimeToClaim, Cond.instanceMethod yX1_isTimeToClaim, Cond.selects RX1 yX1_isTimeToClaim yX1_isTimeToClaim, Cond.code yX1_isTimeToClaim cX1_isTimeToClaim 2 (some .boolean), Cond.methodLink RL 90 yX2_round, Cond.instanceMethod yX2_round, Cond.selects RX2 yX2_round yX2_round, Cond.code yX2_round cX2_round 3 (some .int), Cond.methodLink RX2 105 yX2_isLate, Cond.instanceMethod yX2_isLate, Cond.selects RX2 yX2_isLate yX2_isLate, Cond.code yX2_isLate cX2_isLate 2 (some .boolean), Cond.methodLink RL 91 yX1_day, Cond.instanceMethod yX1_day, Cond.selects RX1 yX1_day yX1_day, Cond.code yX1_day cX1_day 1 (some .int), Cond.methodLink RL 94 yX2_day, Cond.instanceMethod yX2_day, Cond.selects RX2 yX2_day yX2_day, Cond.code yX2_day cX2_day 1 (some .int), Cond.methodLink RL 95 yX1_foretold, Cond.instanceMethod yX1_foretold]
def wsL_law0_r12 : List Cond := [Cond.selects RX1 yX1_foretold yX1_foretold, Cond.code yX1_foretold cX1_foretold 1 (some .int), Cond.methodLink RL 98 yX2_foretold, Cond.instanceMethod yX2_foretold, Cond.selects RX2 yX2_foretold yX2_foretold, Cond.code yX2_foretold cX2_foretold 1 (some .int), Cond.methodLink RL 99 yX1_shift, Cond.instanceMethod yX1_shift, Cond.selects RX1 yX1_shift yX1_shift, Cond.code yX1_shift cX1_shift 1 (some .int), Cond.methodLink RL 102 yX2_shift, Cond.instanceMethod yX2_shift, Cond.selects RX2 yX2_shift yX2_shift, Cond.code yX2_shift cX2_shift 1 (some .int), Cond.methodLink RL 103 yL_dayOf, Cond.static yL_dayOf, Cond.codeWith yL_dayOf cL_dayOf 4 (some .int) [(0, 9, 12, 29)], Cond.methodLink RL 35 yX1_dayOf, Cond.instanceMethod yX1_dayOf, Cond.selects RX1 yX1_dayOf yX1_dayOf, Cond.code yX1_dayOf cX1_dayOf 2 (some .int), Cond.methodLink RL 105 yX2_dayOf, Cond.instanceMethod yX2_dayOf, Cond.selects RX2 yX2_dayOf yX2_dayOf]
def wsL_law0_r13 : List Cond := [Cond.code yX2_dayOf cX2_dayOf 2 (some .int), Cond.methodLink RX2 108 yX2_isAsked, Cond.instanceMethod yX2_isAsked, Cond.selects RX2 yX2_isAsked yX2_isAsked, Cond.code yX2_isAsked cX2_isAsked 2 (some .boolean), Cond.methodLink RL 106 yL_stateOf, Cond.static yL_stateOf, Cond.codeWith yL_stateOf cL_stateOf 4 (some .int) [(0, 9, 12, 29)], Cond.methodLink RL 38 yX1_stateOf, Cond.instanceMethod yX1_stateOf, Cond.selects RX1 yX1_stateOf yX1_stateOf, Cond.code yX1_stateOf cX1_stateOf 2 (some .int), Cond.methodLink RL 108 yX2_stateOf, Cond.instanceMethod yX2_stateOf, Cond.selects RX2 yX2_stateOf yX2_stateOf, Cond.code yX2_stateOf cX2_stateOf 2 (some .int), Cond.methodLink RL 109 yL_claimsOf, Cond.static yL_claimsOf, Cond.codeWith yL_claimsOf cL_claimsOf 4 (some .int) [(0, 9, 12, 29)], Cond.methodLink RL 41 yX1_claimsOf, Cond.instanceMethod yX1_claimsOf, Cond.selects RX1 yX1_claimsOf yX1_claimsOf, Cond.code yX1_claimsOf cX1_claimsOf 2 (some .int), Cond.methodLink RL 111 yX2_claimsOf]
def wsL_law0_r14 : List Cond := [Cond.instanceMethod yX2_claimsOf, Cond.selects RX2 yX2_claimsOf yX2_claimsOf, Cond.code yX2_claimsOf cX2_claimsOf 2 (some .int), Cond.methodLink RL 112 yL_labelOf, Cond.static yL_labelOf, Cond.codeWith yL_labelOf cL_labelOf 4 (some .int) [(0, 9, 12, 29)], Cond.methodLink RL 44 yX1_labelOf, Cond.instanceMethod yX1_labelOf, Cond.selects RX1 yX1_labelOf yX1_labelOf, Cond.code yX1_labelOf cX1_labelOf 2 (some .int), Cond.methodLink RX1 126 yX0_volumeOf, Cond.instanceMethod yX0_volumeOf, Cond.selects RX0 yX0_volumeOf yX0_volumeOf, Cond.code yX0_volumeOf cX0_volumeOf 2 (some .int), Cond.methodLink RX1 130 yX0_numberOf, Cond.instanceMethod yX0_numberOf, Cond.selects RX0 yX0_numberOf yX0_numberOf, Cond.code yX0_numberOf cX0_numberOf 2 (some .int), Cond.methodLink RL 114 yX2_labelOf, Cond.instanceMethod yX2_labelOf, Cond.selects RX2 yX2_labelOf yX2_labelOf, Cond.code yX2_labelOf cX2_labelOf 2 (some .int), Cond.methodLink RX2 111 yX2_volume, Cond.instanceMethod yX2_volume]
def wsL_law0_r15 : List Cond := [Cond.selects RX2 yX2_volume yX2_volume, Cond.code yX2_volume cX2_volume 2 (some .int), Cond.methodLink RX2 115 yX2_number, Cond.instanceMethod yX2_number, Cond.selects RX2 yX2_number yX2_number, Cond.code yX2_number cX2_number 2 (some .int), Cond.methodLink RL 115 yX1_find, Cond.instanceMethod yX1_find, Cond.selects RX1 yX1_find yX1_find, Cond.code yX1_find cX1_find 4 (some .int), Cond.methodLink RL 118 yX2_find, Cond.instanceMethod yX2_find, Cond.selects RX2 yX2_find yX2_find, Cond.code yX2_find cX2_find 5 (some .int), Cond.methodLink RL 119 yX1_late, Cond.instanceMethod yX1_late, Cond.selects RX1 yX1_late yX1_late, Cond.code yX1_late cX1_late 3 (some .int), Cond.methodLink RL 122 yX2_late, Cond.instanceMethod yX2_late, Cond.selects RX2 yX2_late yX2_late, Cond.code yX2_late cX2_late 3 (some .int), Cond.methodLink RL 123 yX1_ranges, Cond.instanceMethod yX1_ranges]
def wsL_law0_r16 : List Cond := [Cond.selects RX1 yX1_ranges yX1_ranges, Cond.code yX1_ranges cX1_ranges 3 (some .int), Cond.methodLink RX1 133 yX1_isRangeStart, Cond.instanceMethod yX1_isRangeStart, Cond.selects RX1 yX1_isRangeStart yX1_isRangeStart, Cond.code yX1_isRangeStart cX1_isRangeStart 2 (some .boolean), Cond.methodLink RX1 153 yX1_isInHouse, Cond.instanceMethod yX1_isInHouse, Cond.selects RX1 yX1_isInHouse yX1_isInHouse, Cond.code yX1_isInHouse cX1_isInHouse 2 (some .boolean), Cond.methodLink RL 126 yX2_ranges, Cond.instanceMethod yX2_ranges, Cond.selects RX2 yX2_ranges yX2_ranges, Cond.code yX2_ranges cX2_ranges 1 (some .int), Cond.methodLink RX2 121 yX2_allRanges, Cond.instanceMethod yX2_allRanges, Cond.selects RX2 yX2_allRanges yX2_allRanges, Cond.code yX2_allRanges cX2_allRanges 3 (some .int), Cond.methodLink RX2 118 yX2_isHere, Cond.instanceMethod yX2_isHere, Cond.selects RX2 yX2_isHere yX2_isHere, Cond.code yX2_isHere cX2_isHere 2 (some .boolean), Cond.methodLink RL 127 yL_rangeAt, Cond.static yL_rangeAt]
def wsL_law0_r17 : List Cond := [Cond.codeWith yL_rangeAt cL_rangeAt 4 (some .int) [(0, 9, 12, 29)], Cond.methodLink RL 47 yX1_rangeAt, Cond.instanceMethod yX1_rangeAt, Cond.selects RX1 yX1_rangeAt yX1_rangeAt, Cond.code yX1_rangeAt cX1_rangeAt 3 (some .int), Cond.methodLink RX1 136 yX1_startOfRange, Cond.instanceMethod yX1_startOfRange, Cond.selects RX1 yX1_startOfRange yX1_startOfRange, Cond.code yX1_startOfRange cX1_startOfRange 4 (some .int), Cond.methodLink RX1 141 yX1_endOfRange, Cond.instanceMethod yX1_endOfRange, Cond.selects RX1 yX1_endOfRange yX1_endOfRange, Cond.code yX1_endOfRange cX1_endOfRange 3 (some .int), Cond.methodLink RL 129 yX2_rangeAt, Cond.instanceMethod yX2_rangeAt, Cond.selects RX2 yX2_rangeAt yX2_rangeAt, Cond.code yX2_rangeAt cX2_rangeAt 5 (some .int), Cond.methodLink RL 130 yX1_isHeld, Cond.instanceMethod yX1_isHeld, Cond.selects RX1 yX1_isHeld yX1_isHeld, Cond.code yX1_isHeld cX1_isHeld 3 (some .boolean), Cond.methodLink RL 134 yX2_isHeld, Cond.instanceMethod yX2_isHeld, Cond.selects RX2 yX2_isHeld yX2_isHeld]
def wsL_law0_r18 : List Cond := [Cond.code yX2_isHeld cX2_isHeld 2 (some .boolean), Cond.methodLink RL 135 yL_give, Cond.static yL_give, Cond.codeWith yL_give cL_give 5 (some .int) [(0, 10, 13, 13)], Cond.methodLink RL 50 yX1_give, Cond.instanceMethod yX1_give, Cond.selects RX1 yX1_give yX1_give, Cond.code yX1_give cX1_give 4 (some .int), Cond.fieldLink RX1 148 "IssueDesk" "thereCount" "I", Cond.methodLink RL 137 yX2_give, Cond.instanceMethod yX2_give, Cond.selects RX2 yX2_give yX2_give, Cond.code yX2_give cX2_give 5 (some .int), Cond.methodLink RL 138 yL_only, Cond.static yL_only, Cond.codeWith yL_only cL_only 5 (some .int) [(0, 10, 13, 13)], Cond.methodLink RL 53 yX1_only, Cond.instanceMethod yX1_only, Cond.selects RX1 yX1_only yX1_only, Cond.code yX1_only cX1_only 6 (some .int), Cond.methodLink RL 141 yX2_only, Cond.instanceMethod yX2_only, Cond.selects RX2 yX2_only yX2_only, Cond.code yX2_only cX2_only 6 (some .int)]
def wsL_law0 : List Cond := (wsL_law0_r1 ++ (wsL_law0_r2 ++ (wsL_law0_r3 ++ (wsL_law0_r4 ++ (wsL_law0_r5 ++ (wsL_law0_r6 ++ (wsL_law0_r7 ++ (wsL_law0_r8 ++ (wsL_law0_r9 ++ (wsL_law0_r10 ++ (wsL_law0_r11 ++ (wsL_law0_r12 ++ (wsL_law0_r13 ++ (wsL_law0_r14 ++ (wsL_law0_r15 ++ (wsL_law0_r16 ++ (wsL_law0_r17 ++ wsL_law0_r18))))))))))))))))) ++ wsX10 ++ wsX20 ++ wsX00 ++ ([] : List Cond)
def wsL_law : List Cond := wsL_law0 ++ (vx_atS RX1 54 "java/lang/IllegalArgumentException" ["java/lang/RuntimeException", "java/lang/Exception"]).filter goodWord ++ (vx_atS RX1 81 "java/lang/IllegalStateException" ["java/lang/RuntimeException", "java/lang/Exception"]).filter goodWord ++ (vx_atS RX1 90 "java/lang/IndexOutOfBoundsException" ["java/lang/RuntimeException", "java/lang/Exception"]).filter goodWord
abbrev vwCl : List vw_C := [(RX0, TX0, 4), (RX1, TX1, 15), (RX2, TX2, 18)]
end
section
/-! the two worlds: the desk's cells and the reference's, both told by one state (g: numbers, f: rows) -/
def dF (a : Nat → Nat) (g : Nat → Int32) (tc : Int32) : List Value := [.ref (a 1), .int (g 5), .int (g 6), .int (g 0), .int (g 7), .int (g 8), .ref (a 2), .ref (a 3), .ref (a 4), .ref (a 5), .int (g 11), .int (g 10), .int (g 9), .ref (a 6), .int tc]
def pF (g : Nat → Int32) : List Value := [.int (g 1), .int (g 2), .int (g 3), .int (g 4)]
def mF (b : Nat → Nat) (g : Nat → Int32) (t : Int32) : List Value := [.int (g 0), .int (g 1), .int (g 2), .int (g 3), .int (g 4), .int (g 5), .int (g 6), .int (g 7), .ref (b 1), .ref (b 2), .ref (b 3), .ref (b 4), .ref (b 5), .int (g 8), .int (g 9), .int (g 10), .int (g 11), .int t]
def wD (a : Nat → Nat) (cI cZ : ClassId) (g : Nat → Int32) (f : Nat → Nat → Int32) (cd : Nat → Int32) (tc : Int32) : va_W :=
  [(a 0, .inr (1, dF a g tc)), (a 1, .inr (0, pF g)),
   (a 2, .inl (cI, 200, .inl (f 0))), (a 3, .inl (cI, 200, .inl (f 1))), (a 4, .inl (cI, 200, .inl (f 2))), (a 5, .inl (cI, 200, .inl cd)), (a 6, .inl (cZ, 200, .inl (f 4)))]
def wM (b : Nat → Nat) (cI cZ : ClassId) (g : Nat → Int32) (f : Nat → Nat → Int32) (t : Int32) : va_W :=
  [(b 0, .inr (2, mF b g t)),
   (b 1, .inl (cI, 200, .inl (f 0))), (b 2, .inl (cI, 200, .inl (f 1))), (b 3, .inl (cI, 200, .inl (f 2))), (b 4, .inl (cI, 200, .inl (f 3))), (b 5, .inl (cZ, 200, .inl (f 4)))]
def aS (a : Nat → Nat) (n sz : Nat) : Nat → Prop := fun q => (∃ i, i < n ∧ q = a i) ∨ sz ≤ q
def apart (a : Nat → Nat) (n : Nat) : Prop := ∀ i j, i < n → j < n → a i = a j → i = j
abbrev tyIZ (cI cZ : ClassId) : List (ClassId × FieldType) := [(cI, .int), (cZ, .boolean)]
def up2 (f : Nat → Nat → Int32) (r : Nat) (h : Nat → Int32) : Nat → Nat → Int32 := fun q => if q = r then h else f q
theorem wD_at {a : Nat → Nat} {cI cZ : ClassId} {g : Nat → Int32} {f : Nat → Nat → Int32} {cd : Nat → Int32} {tc : Int32} : ∀ (k : Nat) (q : Nat × va_E), (wD a cI cZ g f cd tc)[k]? = some q → k < 7 ∧ q.1 = a k
  | 0, q, h => by obtain rfl := Option.some.inj h; exact ⟨by decide, rfl⟩
  | 1, q, h => by obtain rfl := Option.some.inj h; exact ⟨by decide, rfl⟩
  | 2, q, h => by obtain rfl := Option.some.inj h; exact ⟨by decide, rfl⟩
  | 3, q, h => by obtain rfl := Option.some.inj h; exact ⟨by decide, rfl⟩
  | 4, q, h => by obtain rfl := Option.some.inj h; exact ⟨by decide, rfl⟩
  | 5, q, h => by obtain rfl := Option.some.inj h; exact ⟨by decide, rfl⟩
  | 6, q, h => by obtain rfl := Option.some.inj h; exact ⟨by decide, rfl⟩
  | k + 7, q, h => by simp [wD] at h
theorem wM_at {a : Nat → Nat} {cI cZ : ClassId} {g : Nat → Int32} {f : Nat → Nat → Int32} {t : Int32} : ∀ (k : Nat) (q : Nat × va_E), (wM a cI cZ g f t)[k]? = some q → k < 6 ∧ q.1 = a k
  | 0, q, h => by obtain rfl := Option.some.inj h; exact ⟨by decide, rfl⟩
  | 1, q, h => by obtain rfl := Option.some.inj h; exact ⟨by decide, rfl⟩
  | 2, q, h => by obtain rfl := Option.some.inj h; exact ⟨by decide, rfl⟩
  | 3, q, h => by obtain rfl := Option.some.inj h; exact ⟨by decide, rfl⟩
  | 4, q, h => by obtain rfl := Option.some.inj h; exact ⟨by decide, rfl⟩
  | 5, q, h => by obtain rfl := Option.some.inj h; exact ⟨by decide, rfl⟩
  | k + 6, q, h => by simp [wM] at h
theorem wD_D {a : Nat → Nat} {cI cZ : ClassId} {g : Nat → Int32} {f : Nat → Nat → Int32} {cd : Nat → Int32} {tc : Int32} (h : apart a 7) (sz : Nat) : va_D (aS a 7 sz) (wD a cI cZ g f cd tc) :=
  ⟨fun i j p q hp hq e => h i j (wD_at i p hp).1 (wD_at j q hq).1 (by rw [← (wD_at i p hp).2, ← (wD_at j q hq).2]; exact e), fun k q hq => Or.inl ⟨k, wD_at k q hq⟩⟩
theorem wM_D {a : Nat → Nat} {cI cZ : ClassId} {g : Nat → Int32} {f : Nat → Nat → Int32} {t : Int32} (h : apart a 6) (sz : Nat) : va_D (aS a 6 sz) (wM a cI cZ g f t) :=
  ⟨fun i j p q hp hq e => h i j (wM_at i p hp).1 (wM_at j q hq).1 (by rw [← (wM_at i p hp).2, ← (wM_at j q hq).2]; exact e), fun k q hq => Or.inl ⟨k, wM_at k q hq⟩⟩
abbrev SD : Type := (Nat → Int32) × (Nat → Nat → Int32) × (Nat → Int32) × Int32
abbrev SM : Type := (Nat → Int32) × (Nat → Nat → Int32) × Int32
abbrev wfD (a : Nat → Nat) (cI cZ : ClassId) (u : SD) : va_W := wD a cI cZ u.1 u.2.1 u.2.2.1 u.2.2.2
abbrev wfM (b : Nat → Nat) (cI cZ : ClassId) (u : SM) : va_W := wM b cI cZ u.1 u.2.1 u.2.2
/-! contracts: a reader (nothing changes), a writer (its world changes), one that throws -/
def rdr (l : Launch) (y : MethodName) (wl : List Cond) (rm : Room) (G : va_G) (ws : va_W) (tys : List (ClassId × FieldType)) (av : List Value) (post : Int32 → Prop) : Prop :=
  Met l y wl rm (va_Pc av (fun U => va_P G vwCl ws U.heap ∧ va_K G vwCl tys U)) (vp_Si post) 0 0 (fun _ => False)
def wri {S : Type} (l : Launch) (y : MethodName) (wl : List Cond) (rm : Room) (G : va_G) (ws : va_W) (tys : List (ClassId × FieldType)) (A : Nat → Prop) (sz : Nat) (av : List Value) (post : Int32 → S → Prop) (wf : S → va_W) : Prop :=
  Met l y wl rm (va_Pc av (fun U => U.heap.size = sz ∧ va_P G vwCl ws U.heap ∧ va_K G vwCl tys U)) (va_Qi post (fun u t => va_P G vwCl (wf u) t.heap) A) 0 0 A
def wrv {S : Type} (l : Launch) (y : MethodName) (wl : List Cond) (rm : Room) (G : va_G) (ws : va_W) (tys : List (ClassId × FieldType)) (A : Nat → Prop) (sz : Nat) (av : List Value) (post : S → Prop) (wf : S → va_W) : Prop :=
  Met l y wl rm (va_Pc av (fun U => U.heap.size = sz ∧ va_P G vwCl ws U.heap ∧ va_K G vwCl tys U)) (va_Qv post (fun u t => va_P G vwCl (wf u) t.heap) A) 0 0 A
theorem fb_r {G : va_G} {ws : va_W} {tys : List (ClassId × FieldType)} {av : List Value} : FrameBlind (va_Pc av (fun U => va_P G vwCl ws U.heap ∧ va_K G vwCl tys U)) :=
  fun a U g mk q => ⟨q.1, q.2.1, va_K.moved (u := U) (U := U.calling g mk a) (Vm.Alike.refl U.vm) q.2.2⟩
theorem fb_w {G : va_G} {ws : va_W} {tys : List (ClassId × FieldType)} {av : List Value} {sz : Nat} : FrameBlind (va_Pc av (fun U => U.heap.size = sz ∧ va_P G vwCl ws U.heap ∧ va_K G vwCl tys U)) :=
  fun a U g mk q => ⟨q.1, q.2.1, q.2.2.1, va_K.moved (u := U) (U := U.calling g mk a) (Vm.Alike.refl U.vm) q.2.2.2⟩
section Base
variable {l : Launch} {y : MethodName} {wl wl' : List Cond} {rm : Room} {G : va_G} {ws : va_W} {tys : List (ClassId × FieldType)} {av : List Value} {cc : ByteArray} {nL : Nat} {ret : Option FieldType}
theorem rdr_of {post : Int32 → Prop} {ty : FieldType} (hy : plainName y.cls = true) (hw : wl = .code y cc nL (some ty) :: wl') (hle : (lg_sl av).length ≤ nL)
    (body : ∀ (p : Program) (e : Env) (s : State) (m : MethodId) (args : Array Value) (below : List Frame) (meth : Method) (c : Code) (H : Heap) (ls : Array Slot) (Q : State → Prop), p.tables.exec = Jvm.exec → c.code = cc → c.maxLocals = nL → s.vm.findClass y.cls = some m.cls → (∀ w ∈ wl, w.before args s = true) → va_P G vwCl ws H → va_K G vwCl tys s →
      (∀ (v : Int32) (pc : Nat) (ls : Array Slot), decode cc pc = .ok (.ireturn, 1) → narrow ty (.int v) = .int v → post v → W p l e rm s m args below meth c H [] 0 0 Q (F0 m pc ls [.int v])) → lv_has ls nL (lv_args 0 av) →
      W p l e rm s m args below meth c H [] 0 0 Q (F0 m 0 ls [])) : rdr l y wl rm G ws tys av post := by
  refine Met.ofW (cc := cc) (maxL := nL) (ret := some ty) hy hw ?_
  intro p e s m args below meth c s₁ B hml hv
  obtain ⟨rfl, hP, hK⟩ := hv
  have hl := lv_entry av (n := nL) hle
  rw [lg_entry_eq]
  generalize (lg_sl av ++ List.replicate (nL - (lg_sl av).length) Slot.unset).toArray = ls at hl ⊢
  exact body p e s m _ below meth c s.heap ls _ B.exec B.bytes hml (findClass_of_methodNamed B.named) (atoms_spec (ws := wl) B.pre) hP hK
    (fun v pc ls hdg hn hp => W.zret B.exec B.bytes B.returns hn (fun t ht _ => ⟨v, rfl, hp, ht⟩) (fun q h => by cases h) hdg B.notSynchronized) hl
theorem wri_of {S : Type} {post : Int32 → S → Prop} {wf : S → va_W} {a : Nat → Nat} {n sz : Nat} {ty : FieldType} (hy : plainName y.cls = true) (hw : wl = .code y cc nL (some ty) :: wl') (hle : (lg_sl av).length ≤ nL)
    (body : ∀ (p : Program) (e : Env) (s : State) (m : MethodId) (args : Array Value) (below : List Frame) (meth : Method) (c : Code) (H : Heap) (locs : List Loc) (ls : Array Slot) (Q : State → Prop), p.tables.exec = Jvm.exec → c.code = cc → c.maxLocals = nL → s.vm.findClass y.cls = some m.cls → (∀ w ∈ wl, w.before args s = true) → va_P G vwCl ws H → va_K G vwCl tys s → va_S (aS a n s.heap.size) s.heap H locs →
      (∀ (v : Int32) (u : S) (pc : Nat) (ls : Array Slot) (H : Heap) (locs : List Loc), decode cc pc = .ok (.ireturn, 1) → narrow ty (.int v) = .int v → va_P G vwCl (wf u) H → va_S (aS a n s.heap.size) s.heap H locs → post v u → W p l e rm s m args below meth c H locs 0 0 Q (F0 m pc ls [.int v])) → lv_has ls nL (lv_args 0 av) →
      W p l e rm s m args below meth c H locs 0 0 Q (F0 m 0 ls [])) : wri l y wl rm G ws tys (aS a n sz) sz av post wf := by
  refine Met.ofW (cc := cc) (maxL := nL) (ret := some ty) hy hw ?_
  intro p e s m args below meth c s₁ B hml hv
  obtain ⟨rfl, rfl, hP, hK⟩ := hv
  have hl := lv_entry av (n := nL) hle
  rw [lg_entry_eq]
  generalize (lg_sl av ++ List.replicate (nL - (lg_sl av).length) Slot.unset).toArray = ls at hl ⊢
  exact body p e s m _ below meth c s.heap [] ls _ B.exec B.bytes hml (findClass_of_methodNamed B.named) (atoms_spec (ws := wl) B.pre) hP hK va_S.rf
    (fun v u pc ls H locs hdg hn hP hS hp => W.zret B.exec B.bytes B.returns hn (fun t ht _ => ⟨⟨v, u, rfl, hp, by subst ht; exact hP⟩, hS.F ht⟩) hS.2.2 hdg B.notSynchronized) hl
theorem wrv_of {S : Type} {post : S → Prop} {wf : S → va_W} {a : Nat → Nat} {n sz : Nat} (hy : plainName y.cls = true) (hw : wl = .code y cc nL none :: wl') (hle : (lg_sl av).length ≤ nL)
    (body : ∀ (p : Program) (e : Env) (s : State) (m : MethodId) (args : Array Value) (below : List Frame) (meth : Method) (c : Code) (H : Heap) (locs : List Loc) (ls : Array Slot) (Q : State → Prop), p.tables.exec = Jvm.exec → c.code = cc → c.maxLocals = nL → s.vm.findClass y.cls = some m.cls → (∀ w ∈ wl, w.before args s = true) → va_P G vwCl ws H → va_K G vwCl tys s → va_S (aS a n s.heap.size) s.heap H locs →
      (∀ (u : S) (pc : Nat) (ls : Array Slot) (H : Heap) (locs : List Loc), decode cc pc = .ok (.return_, 1) → va_P G vwCl (wf u) H → va_S (aS a n s.heap.size) s.heap H locs → post u → W p l e rm s m args below meth c H locs 0 0 Q (F0 m pc ls [])) → lv_has ls nL (lv_args 0 av) →
      W p l e rm s m args below meth c H locs 0 0 Q (F0 m 0 ls [])) : wrv l y wl rm G ws tys (aS a n sz) sz av post wf := by
  refine Met.ofW (cc := cc) (maxL := nL) (ret := none) hy hw ?_
  intro p e s m args below meth c s₁ B hml hv
  obtain ⟨rfl, rfl, hP, hK⟩ := hv
  have hl := lv_entry av (n := nL) hle
  rw [lg_entry_eq]
  generalize (lg_sl av ++ List.replicate (nL - (lg_sl av).length) Slot.unset).toArray = ls at hl ⊢
  exact body p e s m _ below meth c s.heap [] ls _ B.exec B.bytes hml (findClass_of_methodNamed B.named) (atoms_spec (ws := wl) B.pre) hP hK va_S.rf
    (fun u pc ls H locs hdg hP hS hp => W.vret B.exec B.bytes B.returns (fun t ht _ => ⟨⟨u, rfl, hp, by subst ht; exact hP⟩, hS.F ht⟩) hS.2.2 hdg B.notSynchronized) hl
end Base
section Walk
variable {p : Program} {l : Launch} {e : Env} {R : Room} {s : State} {m : MethodId} {args : Array Value} {below : List Frame} {meth : Method} {c : Code} {H : Heap} {locs : List Loc} {cells slots : Nat} {Q : State → Prop}
variable {G : va_G} {ws : va_W} {tys : List (ClassId × FieldType)} {pc : Nat} {ls : Array Slot} {rest st0 : List Value} {cc : ByteArray}
variable {y : MethodName} {bytes : ByteArray} {maxL nL n index : Nat} {ret : Option FieldType} {wl : List Cond} {rm : Room} {Ts : List Cond} {own C : String} {b : Addr} {As : List Value}
theorem rdr_V {post : Int32 → Prop} (S : CallFix p m c cc nL s args Ts own) (hM : rdr l y wl rm G ws tys (.ref b :: As) post) (cw : CallW R s args own C index y bytes maxL ret wl rm 0 0 n)
    (hrecv : ∃ cell : Cell, H[b]? = some cell ∧ cell.vm.isStatics = false ∧ s.vm.findClass C = some cell.cls) (hP : va_P G vwCl ws H) (hK : va_K G vwCl tys s) (hn : As.length = n) (hls : ls.size = nL) (hst : st0 = As.reverse ++ .ref b :: rest) (hW : (rest.map fun v => v.category).sum ≤ 8) (hdg : decode cc pc = .ok (.invokevirtual index, 3)) (hf : cells ≤ R.cells ∧ slots ≤ R.slots)
    (kk : ∀ r : Int32, post r → W p l e R s m args below meth c H locs cells slots Q (F0 m (pc + 3) ls (.int r :: rest))) : W p l e R s m args below meth c H locs cells slots Q (F0 m pc ls st0) :=
  vp_callSi (W.runV S hM cw ⟨fb_r, hrecv, fun U hU hW => ⟨rfl, by rw [hU]; exact hP, va_K.moved hW.alike hK⟩⟩ rfl hn hls hst (lv_room hW) hdg hf) kk
theorem rdr_S {post : Int32 → Prop} (S : CallFix p m c cc nL s args Ts own) (hM : rdr l y wl rm G ws tys As post) (cw : CallB R s args own index y bytes maxL ret wl rm 0 0 n ∧ (Cond.static y).before args s = true)
    (hP : va_P G vwCl ws H) (hK : va_K G vwCl tys s) (hn : As.length = n) (hls : ls.size = nL) (hst : st0 = As.reverse ++ rest) (hW : (rest.map fun v => v.category).sum ≤ 8) (hdg : decode cc pc = .ok (.invokestatic index, 3)) (hf : cells ≤ R.cells ∧ slots ≤ R.slots)
    (kk : ∀ r : Int32, post r → W p l e R s m args below meth c H locs cells slots Q (F0 m (pc + 3) ls (.int r :: rest))) : W p l e R s m args below meth c H locs cells slots Q (F0 m pc ls st0) :=
  vp_callSi (W.runS S hM cw ⟨fb_r, fun U hU hW => ⟨rfl, by rw [hU]; exact hP, va_K.moved hW.alike hK⟩⟩ rfl hn hls hst (lv_room hW) hdg hf) kk
theorem aS_up {a : Nat → Nat} {k : Nat} {H0 : Heap} (hS : va_S (aS a k H0.size) H0 H locs) : ∀ q, aS a k H.size q → aS a k H0.size q := fun q h => h.elim Or.inl (fun h => Or.inr (Nat.le_trans hS.1 h))
theorem wri_V {S' : Type} {post : Int32 → S' → Prop} {wf : S' → va_W} {a : Nat → Nat} {k : Nat} (S : CallFix p m c cc nL s args Ts own) (hM : wri l y wl rm G ws tys (aS a k H.size) H.size (.ref b :: As) post wf) (cw : CallW R s args own C index y bytes maxL ret wl rm 0 0 n)
    (hrecv : ∃ cell : Cell, H[b]? = some cell ∧ cell.vm.isStatics = false ∧ s.vm.findClass C = some cell.cls) (hP : va_P G vwCl ws H) (hK : va_K G vwCl tys s) (hS : va_S (aS a k s.heap.size) s.heap H locs) (hn : As.length = n) (hls : ls.size = nL) (hst : st0 = As.reverse ++ .ref b :: rest) (hW : (rest.map fun v => v.category).sum ≤ 8) (hdg : decode cc pc = .ok (.invokevirtual index, 3)) (hf : cells ≤ R.cells ∧ slots ≤ R.slots)
    (kk : ∀ (r : Int32) (u : S') (H1 : Heap) (locs1 : List Loc), post r u → va_P G vwCl (wf u) H1 → va_S (aS a k s.heap.size) s.heap H1 locs1 → W p l e R s m args below meth c H1 locs1 cells slots Q (F0 m (pc + 3) ls (.int r :: rest))) : W p l e R s m args below meth c H locs cells slots Q (F0 m pc ls st0) :=
  va_calli (va_runV S hM cw ⟨fb_w, hrecv, fun U hU hW => ⟨rfl, by rw [hU], by rw [hU]; exact hP, va_K.moved hW.alike hK⟩⟩ rfl hn hls hst (lv_room hW) hdg hf) hS (fun q _ h => aS_up hS q h) (fun q h => aS_up hS q h) (fun r u t H1 locs1 ht _ hp hB _ _ hS1 => kk r u H1 locs1 hp (by rw [← ht]; exact hB) hS1)
theorem wrv_V {S' : Type} {post : S' → Prop} {wf : S' → va_W} {a : Nat → Nat} {k : Nat} (S : CallFix p m c cc nL s args Ts own) (hM : wrv l y wl rm G ws tys (aS a k H.size) H.size (.ref b :: As) post wf) (cw : CallW R s args own C index y bytes maxL ret wl rm 0 0 n)
    (hrecv : ∃ cell : Cell, H[b]? = some cell ∧ cell.vm.isStatics = false ∧ s.vm.findClass C = some cell.cls) (hP : va_P G vwCl ws H) (hK : va_K G vwCl tys s) (hS : va_S (aS a k s.heap.size) s.heap H locs) (hn : As.length = n) (hls : ls.size = nL) (hst : st0 = As.reverse ++ .ref b :: rest) (hW : (rest.map fun v => v.category).sum ≤ 8) (hdg : decode cc pc = .ok (.invokevirtual index, 3)) (hf : cells ≤ R.cells ∧ slots ≤ R.slots)
    (kk : ∀ (u : S') (H1 : Heap) (locs1 : List Loc), post u → va_P G vwCl (wf u) H1 → va_S (aS a k s.heap.size) s.heap H1 locs1 → W p l e R s m args below meth c H1 locs1 cells slots Q (F0 m (pc + 3) ls rest)) : W p l e R s m args below meth c H locs cells slots Q (F0 m pc ls st0) :=
  va_callv (va_runV S hM cw ⟨fb_w, hrecv, fun U hU hW => ⟨rfl, by rw [hU], by rw [hU]; exact hP, va_K.moved hW.alike hK⟩⟩ rfl hn hls hst (lv_room hW) hdg hf) hS (fun q _ h => aS_up hS q h) (fun q h => aS_up hS q h) (fun u t H1 locs1 ht _ hp hB _ _ hS1 => kk u H1 locs1 hp (by rw [← ht]; exact hB) hS1)
theorem top_eq {x z : Int32} (h : x = z) (k : W p l e R s m args below meth c H locs cells slots Q (F0 m pc ls (.int z :: rest))) : W p l e R s m args below meth c H locs cells slots Q (F0 m pc ls (.int x :: rest)) := h ▸ k
theorem tX0_own : ∀ k, k < 4 → (TX0 k).1 = RX0 := by decide +kernel
theorem tX1_own : ∀ k, k < 15 → (TX1 k).1 = RX1 := by decide +kernel
theorem tX2_own : ∀ k, k < 18 → (TX2 k).1 = RX2 := by decide +kernel
section Fields
variable {a : Nat → Nat} {cI cZ : ClassId} {g g' : Nat → Int32} {f f' : Nat → Nat → Int32} {cd cd' : Nat → Int32} {tc tc' : Int32}
theorem dget (hx : p.tables.exec = Jvm.exec) (hb : c.code = cc) (hts : ∀ w ∈ wl, w.before args s = true) (hin : ∀ w ∈ wsX10, w ∈ wl) (hown : s.vm.findClass RX1 = some m.cls) (hK : va_K G vwCl tys s) (hP : va_P G vwCl (wD a cI cZ g f cd tc) H) (k : Nat) (hk : k < 15) (hlink : Cond.fieldLink RX1 index RX1 (TX1 k).2.1 (TX1 k).2.2.1 ∈ wl) {v : Value} (hv : (dF a g tc)[k]? = some v) (hdg : decode cc pc = .ok (.getfield index, 3))
    (kk : W p l e R s m args below meth c H locs cells slots Q (F0 m (pc + 3) ls (v :: rest))) : W p l e R s m args below meth c H locs cells slots Q (F0 m pc ls (.ref (a 0) :: rest)) :=
  va_get (own := RX1) (C := RX1) (T := TX1) (N := 15) (ci := 1) hx hb hts hin hown hK hP 0 rfl rfl k hk (hts _ hlink) (fun x h => by rw [tX1_own k hk] at h; exact h) hv hdg kk
theorem pget (hx : p.tables.exec = Jvm.exec) (hb : c.code = cc) (hts : ∀ w ∈ wl, w.before args s = true) (hin : ∀ w ∈ wsX00, w ∈ wl) (hown : s.vm.findClass RX0 = some m.cls) (hK : va_K G vwCl tys s) (hP : va_P G vwCl (wD a cI cZ g f cd tc) H) (k : Nat) (hk : k < 4) (hlink : Cond.fieldLink RX0 index RX0 (TX0 k).2.1 (TX0 k).2.2.1 ∈ wl) {v : Value} (hv : (pF g)[k]? = some v) (hdg : decode cc pc = .ok (.getfield index, 3))
    (kk : W p l e R s m args below meth c H locs cells slots Q (F0 m (pc + 3) ls (v :: rest))) : W p l e R s m args below meth c H locs cells slots Q (F0 m pc ls (.ref (a 1) :: rest)) :=
  va_get (own := RX0) (C := RX0) (T := TX0) (N := 4) (ci := 0) hx hb hts hin hown hK hP 1 rfl rfl k hk (hts _ hlink) (fun x h => by rw [tX0_own k hk] at h; exact h) hv hdg kk
theorem mget (hx : p.tables.exec = Jvm.exec) (hb : c.code = cc) (hts : ∀ w ∈ wl, w.before args s = true) (hin : ∀ w ∈ wsX20, w ∈ wl) (hown : s.vm.findClass RX2 = some m.cls) (hK : va_K G vwCl tys s) (hP : va_P G vwCl (wM a cI cZ g f tc) H) (k : Nat) (hk : k < 18) (hlink : Cond.fieldLink RX2 index RX2 (TX2 k).2.1 (TX2 k).2.2.1 ∈ wl) {v : Value} (hv : (mF a g tc)[k]? = some v) (hdg : decode cc pc = .ok (.getfield index, 3))
    (kk : W p l e R s m args below meth c H locs cells slots Q (F0 m (pc + 3) ls (v :: rest))) : W p l e R s m args below meth c H locs cells slots Q (F0 m pc ls (.ref (a 0) :: rest)) :=
  va_get (own := RX2) (C := RX2) (T := TX2) (N := 18) (ci := 2) hx hb hts hin hown hK hP 0 rfl rfl k hk (hts _ hlink) (fun x h => by rw [tX2_own k hk] at h; exact h) hv hdg kk
theorem dput {v : Value} (g' : Nat → Int32) (tc' : Int32) (hx : p.tables.exec = Jvm.exec) (hb : c.code = cc) (hts : ∀ w ∈ wl, w.before args s = true) (hin : ∀ w ∈ wsX10, w ∈ wl) (hown : s.vm.findClass RX1 = some m.cls) (hK : va_K G vwCl tys s) (hP : va_P G vwCl (wD a cI cZ g f cd tc) H) (hap : apart a 7) (hS : va_S (aS a 7 s.heap.size) s.heap H locs) (k : Nat) (hk : k < 15) (hlink : Cond.fieldLink RX1 index RX1 (TX1 k).2.1 (TX1 k).2.2.1 ∈ wl) (hfin : (TX1 k).2.2.2 = false) (hn : narrow (tyX1 k) v = v) (hfit : fits (tyX1 k) v = true) (hset : (dF a g tc).set k v = dF a g' tc') (hpf : pF g = pF g') (hdg : decode cc pc = .ok (.putfield index, 3))
    (kk : ∀ (H1 : Heap) (locs1 : List Loc), va_P G vwCl (wD a cI cZ g' f cd tc') H1 → va_S (aS a 7 s.heap.size) s.heap H1 locs1 → W p l e R s m args below meth c H1 locs1 cells slots Q (F0 m (pc + 3) ls rest)) : W p l e R s m args below meth c H locs cells slots Q (F0 m pc ls (v :: .ref (a 0) :: rest)) := by
  refine va_put (own := RX1) (C := RX1) (T := TX1) (N := 15) (ci := 1) (fs := dF a g tc) hx hb hts hin tyX1 tyX1_ok nmX1 hown hK hP (wD_D hap _) hS 0 rfl rfl k hk (hts _ hlink) (fun x h => by rw [tX1_own k hk] at h; exact h) hfin (tyX1_ok k hk) hn hfit hk hdg (fun H1 locs1 hP1 _ hS1 => kk H1 locs1 ?_ hS1)
  have e : (wD a cI cZ g f cd tc).set 0 (a 0, .inr (1, (dF a g tc).set k v)) = wD a cI cZ g' f cd tc' := by rw [hset]; simp only [wD, List.set_cons_zero, hpf]
  rw [← e]; exact hP1
theorem mput {v : Value} (g' : Nat → Int32) (tc' : Int32) (hx : p.tables.exec = Jvm.exec) (hb : c.code = cc) (hts : ∀ w ∈ wl, w.before args s = true) (hin : ∀ w ∈ wsX20, w ∈ wl) (hown : s.vm.findClass RX2 = some m.cls) (hK : va_K G vwCl tys s) (hP : va_P G vwCl (wM a cI cZ g f tc) H) (hap : apart a 6) (hS : va_S (aS a 6 s.heap.size) s.heap H locs) (k : Nat) (hk : k < 18) (hlink : Cond.fieldLink RX2 index RX2 (TX2 k).2.1 (TX2 k).2.2.1 ∈ wl) (hfin : (TX2 k).2.2.2 = false) (hn : narrow (tyX2 k) v = v) (hfit : fits (tyX2 k) v = true) (hset : (mF a g tc).set k v = mF a g' tc') (hdg : decode cc pc = .ok (.putfield index, 3))
    (kk : ∀ (H1 : Heap) (locs1 : List Loc), va_P G vwCl (wM a cI cZ g' f tc') H1 → va_S (aS a 6 s.heap.size) s.heap H1 locs1 → W p l e R s m args below meth c H1 locs1 cells slots Q (F0 m (pc + 3) ls rest)) : W p l e R s m args below meth c H locs cells slots Q (F0 m pc ls (v :: .ref (a 0) :: rest)) := by
  refine va_put (own := RX2) (C := RX2) (T := TX2) (N := 18) (ci := 2) (fs := mF a g tc) hx hb hts hin tyX2 tyX2_ok nmX2 hown hK hP (wM_D hap _) hS 0 rfl rfl k hk (hts _ hlink) (fun x h => by rw [tX2_own k hk] at h; exact h) hfin (tyX2_ok k hk) hn hfit hk hdg (fun H1 locs1 hP1 _ hS1 => kk H1 locs1 ?_ hS1)
  have e : (wM a cI cZ g f tc).set 0 (a 0, .inr (2, (mF a g tc).set k v)) = wM a cI cZ g' f tc' := by rw [hset]; simp only [wM, List.set_cons_zero]
  rw [← e]; exact hP1
theorem pput {v : Value} (g' : Nat → Int32) (hx : p.tables.exec = Jvm.exec) (hb : c.code = cc) (hts : ∀ w ∈ wl, w.before args s = true) (hin : ∀ w ∈ wsX00, w ∈ wl) (hown : s.vm.findClass RX0 = some m.cls) (hK : va_K G vwCl tys s) (hP : va_P G vwCl (wD a cI cZ g f cd tc) H) (hap : apart a 7) (hS : va_S (aS a 7 s.heap.size) s.heap H locs) (k : Nat) (hk : k < 4) (hlink : Cond.fieldLink RX0 index RX0 (TX0 k).2.1 (TX0 k).2.2.1 ∈ wl) (hfin : (TX0 k).2.2.2 = false) (hn : narrow (tyX0 k) v = v) (hfit : fits (tyX0 k) v = true) (hset : (pF g).set k v = pF g') (hdf : dF a g tc = dF a g' tc) (hdg : decode cc pc = .ok (.putfield index, 3))
    (kk : ∀ (H1 : Heap) (locs1 : List Loc), va_P G vwCl (wD a cI cZ g' f cd tc) H1 → va_S (aS a 7 s.heap.size) s.heap H1 locs1 → W p l e R s m args below meth c H1 locs1 cells slots Q (F0 m (pc + 3) ls rest)) : W p l e R s m args below meth c H locs cells slots Q (F0 m pc ls (v :: .ref (a 1) :: rest)) := by
  refine va_put (own := RX0) (C := RX0) (T := TX0) (N := 4) (ci := 0) (fs := pF g) hx hb hts hin tyX0 tyX0_ok nmX0 hown hK hP (wD_D hap _) hS 1 rfl rfl k hk (hts _ hlink) (fun x h => by rw [tX0_own k hk] at h; exact h) hfin (tyX0_ok k hk) hn hfit hk hdg (fun H1 locs1 hP1 _ hS1 => kk H1 locs1 ?_ hS1)
  have e : (wD a cI cZ g f cd tc).set 1 (a 1, .inr (0, (pF g).set k v)) = wD a cI cZ g' f cd tc := by rw [hset]; simp only [wD, List.set_cons_zero, List.set_cons_succ, hdf]
  rw [← e]; exact hP1
variable {h : Nat → Int32} {ad : Nat} {i : Int32} {j : Nat} {x : Int32}
theorem arI (hx : p.tables.exec = Jvm.exec) (hb : c.code = cc) (hK : va_K G vwCl (tyIZ cI cZ) s) (hP : va_P G vwCl ws H) (q0 : Nat) (ha : ws[q0]? = some (ad, .inl (cI, 200, .inl h))) (hi : i = nI j) (hj : j < 200) (hdg : decode cc pc = .ok (.iaload, 1))
    (kk : W p l e R s m args below meth c H locs cells slots Q (F0 m (pc + 1) ls (.int (h j) :: rest))) : W p l e R s m args below meth c H locs cells slots Q (F0 m pc ls (.int i :: .ref ad :: rest)) := by
  subst hi
  refine va_iald hx hb hK hP q0 0 ha rfl (vp_in_nI hj (by decide)) hdg ?_
  rw [nI_clamp (Nat.lt_trans hj (by decide))]; exact kk
theorem arZ (hx : p.tables.exec = Jvm.exec) (hb : c.code = cc) (hK : va_K G vwCl (tyIZ cI cZ) s) (hP : va_P G vwCl ws H) (q0 : Nat) (ha : ws[q0]? = some (ad, .inl (cZ, 200, .inl h))) (hi : i = nI j) (hj : j < 200) (hdg : decode cc pc = .ok (.baload, 1))
    (kk : W p l e R s m args below meth c H locs cells slots Q (F0 m (pc + 1) ls (.int (h j) :: rest))) : W p l e R s m args below meth c H locs cells slots Q (F0 m pc ls (.int i :: .ref ad :: rest)) := by
  subst hi
  refine va_zald hx hb hK hP q0 1 ha rfl (vp_in_nI hj (by decide)) hdg ?_
  rw [nI_clamp (Nat.lt_trans hj (by decide))]; exact kk
theorem asI {A : Nat → Prop} {H0 : Heap} (ws' : va_W) (hx : p.tables.exec = Jvm.exec) (hb : c.code = cc) (hK : va_K G vwCl (tyIZ cI cZ) s) (hP : va_P G vwCl ws H) (hD : va_D A ws) (hS : va_S A H0 H locs) (q0 : Nat) (ha : ws[q0]? = some (ad, .inl (cI, 200, .inl h))) (hi : i = nI j) (hj : j < 200) (hset : ws.set q0 (ad, .inl (cI, 200, .inl (upd h j x))) = ws') (hdg : decode cc pc = .ok (.iastore, 1))
    (kk : ∀ (H1 : Heap) (locs1 : List Loc), va_P G vwCl ws' H1 → va_S A H0 H1 locs1 → W p l e R s m args below meth c H1 locs1 cells slots Q (F0 m (pc + 1) ls rest)) : W p l e R s m args below meth c H locs cells slots Q (F0 m pc ls (.int x :: .int i :: .ref ad :: rest)) := by
  subst hi; subst hset
  refine va_iast hx hb hK hP hD hS q0 0 ha rfl (vp_in_nI hj (by decide)) hdg (fun H1 locs1 hP1 _ hS1 => kk H1 locs1 ?_ hS1)
  rw [nI_clamp (Nat.lt_trans hj (by decide))] at hP1; exact hP1
theorem asZ {A : Nat → Prop} {H0 : Heap} (ws' : va_W) (hx : p.tables.exec = Jvm.exec) (hb : c.code = cc) (hK : va_K G vwCl (tyIZ cI cZ) s) (hP : va_P G vwCl ws H) (hD : va_D A ws) (hS : va_S A H0 H locs) (q0 : Nat) (ha : ws[q0]? = some (ad, .inl (cZ, 200, .inl h))) (hi : i = nI j) (hj : j < 200) (hv : vp_nar .boolean x = x) (hset : ws.set q0 (ad, .inl (cZ, 200, .inl (upd h j x))) = ws') (hdg : decode cc pc = .ok (.bastore, 1))
    (kk : ∀ (H1 : Heap) (locs1 : List Loc), va_P G vwCl ws' H1 → va_S A H0 H1 locs1 → W p l e R s m args below meth c H1 locs1 cells slots Q (F0 m (pc + 1) ls rest)) : W p l e R s m args below meth c H locs cells slots Q (F0 m pc ls (.int x :: .int i :: .ref ad :: rest)) := by
  subst hi; subst hset
  refine va_zast hx hb hK hP hD hS q0 1 ha rfl (vp_in_nI hj (by decide)) hdg (fun H1 locs1 hP1 _ hS1 => kk H1 locs1 ?_ hS1)
  rw [nI_clamp (Nat.lt_trans hj (by decide)), hv] at hP1; exact hP1
end Fields
end Walk
end
