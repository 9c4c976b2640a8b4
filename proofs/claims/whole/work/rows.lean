section
-- ===== PART A: goes FIRST, ahead of the names: the tables' words, and 'selects' of the private methods out of them =====
/-- a private method of a class that the tables say can be made, by its rows of tables_1 -/
def lw_okq (q : MethodName × Nat) : Prop := (q.1.cls ≠ "java/lang/invoke/MethodHandle" ∧ q.1.cls ≠ "java/lang/invoke/VarHandle") ∧ Cond.instantiable q.1.cls q.2 ∈ tables_1 ∧ Cond.privateMethod q.1 ∈ tables_1 ∧ Cond.instanceMethod q.1 ∈ tables_1
theorem lw_p0 : lw_okq (⟨"IssueDesk", "isLate", "(I)Z"⟩, 15) := ⟨⟨by decide +kernel, by decide +kernel⟩, List.mem_of_getElem? (i := 12) (by decide +kernel), List.mem_of_getElem? (i := 91) (by decide +kernel), List.mem_of_getElem? (i := 92) (by decide +kernel)⟩
theorem lw_p1 : lw_okq (⟨"IssueDesk", "isForetold", "(I)Z"⟩, 15) := ⟨⟨by decide +kernel, by decide +kernel⟩, List.mem_of_getElem? (i := 12) (by decide +kernel), List.mem_of_getElem? (i := 95) (by decide +kernel), List.mem_of_getElem? (i := 96) (by decide +kernel)⟩
theorem lw_p2 : lw_okq (⟨"IssueDesk", "isTimeToClaim", "(I)Z"⟩, 15) := ⟨⟨by decide +kernel, by decide +kernel⟩, List.mem_of_getElem? (i := 12) (by decide +kernel), List.mem_of_getElem? (i := 102) (by decide +kernel), List.mem_of_getElem? (i := 103) (by decide +kernel)⟩
theorem lw_p3 : lw_okq (⟨"IssueDesk", "isRangeStart", "(I)Z"⟩, 15) := ⟨⟨by decide +kernel, by decide +kernel⟩, List.mem_of_getElem? (i := 12) (by decide +kernel), List.mem_of_getElem? (i := 138) (by decide +kernel), List.mem_of_getElem? (i := 139) (by decide +kernel)⟩
theorem lw_p4 : lw_okq (⟨"IssueDesk", "isInHouse", "(I)Z"⟩, 15) := ⟨⟨by decide +kernel, by decide +kernel⟩, List.mem_of_getElem? (i := 12) (by decide +kernel), List.mem_of_getElem? (i := 142) (by decide +kernel), List.mem_of_getElem? (i := 143) (by decide +kernel)⟩
theorem lw_p5 : lw_okq (⟨"IssueDesk", "endOfRange", "(I)I"⟩, 15) := ⟨⟨by decide +kernel, by decide +kernel⟩, List.mem_of_getElem? (i := 12) (by decide +kernel), List.mem_of_getElem? (i := 150) (by decide +kernel), List.mem_of_getElem? (i := 151) (by decide +kernel)⟩
theorem lw_p6 : lw_okq (⟨"java/lang/Throwable", "fillInStackTrace", "(I)Ljava/lang/Throwable;"⟩, 6) := ⟨⟨by decide +kernel, by decide +kernel⟩, List.mem_of_getElem? (i := 203) (by decide +kernel), List.mem_of_getElem? (i := 201) (by decide +kernel), List.mem_of_getElem? (i := 202) (by decide +kernel)⟩
theorem lw_p7 : lw_okq (⟨"IssueDesk", "foretellDueIssues", "()V"⟩, 15) := ⟨⟨by decide +kernel, by decide +kernel⟩, List.mem_of_getElem? (i := 12) (by decide +kernel), List.mem_of_getElem? (i := 239) (by decide +kernel), List.mem_of_getElem? (i := 240) (by decide +kernel)⟩
theorem lw_p8 : lw_okq (⟨"IssueDesk", "nextDay", "()I"⟩, 15) := ⟨⟨by decide +kernel, by decide +kernel⟩, List.mem_of_getElem? (i := 12) (by decide +kernel), List.mem_of_getElem? (i := 243) (by decide +kernel), List.mem_of_getElem? (i := 244) (by decide +kernel)⟩
theorem lw_p9 : lw_okq (⟨"IssueDesk$Pattern", "isInSkippedMonth", "(I)Z"⟩, 4) := ⟨⟨by decide +kernel, by decide +kernel⟩, List.mem_of_getElem? (i := 20) (by decide +kernel), List.mem_of_getElem? (i := 254) (by decide +kernel), List.mem_of_getElem? (i := 255) (by decide +kernel)⟩
theorem lw_p10 : lw_okq (⟨"IssueDesk", "foretellNext", "()V"⟩, 15) := ⟨⟨by decide +kernel, by decide +kernel⟩, List.mem_of_getElem? (i := 12) (by decide +kernel), List.mem_of_getElem? (i := 258) (by decide +kernel), List.mem_of_getElem? (i := 259) (by decide +kernel)⟩
theorem lw_p11 : lw_okq (⟨"IssueDesk", "canAllCome", "(II)Z"⟩, 15) := ⟨⟨by decide +kernel, by decide +kernel⟩, List.mem_of_getElem? (i := 12) (by decide +kernel), List.mem_of_getElem? (i := 321) (by decide +kernel), List.mem_of_getElem? (i := 322) (by decide +kernel)⟩
theorem lw_p12 : lw_okq (⟨"IssueDesk", "foretellUpTo", "(I)V"⟩, 15) := ⟨⟨by decide +kernel, by decide +kernel⟩, List.mem_of_getElem? (i := 12) (by decide +kernel), List.mem_of_getElem? (i := 326) (by decide +kernel), List.mem_of_getElem? (i := 327) (by decide +kernel)⟩
theorem lw_p13 : lw_okq (⟨"IssueDesk", "takeIn", "(II)V"⟩, 15) := ⟨⟨by decide +kernel, by decide +kernel⟩, List.mem_of_getElem? (i := 12) (by decide +kernel), List.mem_of_getElem? (i := 330) (by decide +kernel), List.mem_of_getElem? (i := 331) (by decide +kernel)⟩
theorem lw_p14 : lw_okq (⟨"IssueDesk", "noteDifference", "(I)V"⟩, 15) := ⟨⟨by decide +kernel, by decide +kernel⟩, List.mem_of_getElem? (i := 12) (by decide +kernel), List.mem_of_getElem? (i := 334) (by decide +kernel), List.mem_of_getElem? (i := 335) (by decide +kernel)⟩
theorem lw_p15 : lw_okq (⟨"IssueDesk", "followsStreak", "(I)Z"⟩, 15) := ⟨⟨by decide +kernel, by decide +kernel⟩, List.mem_of_getElem? (i := 12) (by decide +kernel), List.mem_of_getElem? (i := 338) (by decide +kernel), List.mem_of_getElem? (i := 339) (by decide +kernel)⟩
def lw_privs_1 : List (MethodName × Nat) := [(⟨"IssueDesk", "isLate", "(I)Z"⟩, 15), (⟨"IssueDesk", "isForetold", "(I)Z"⟩, 15), (⟨"IssueDesk", "isTimeToClaim", "(I)Z"⟩, 15), (⟨"IssueDesk", "isRangeStart", "(I)Z"⟩, 15), (⟨"IssueDesk", "isInHouse", "(I)Z"⟩, 15), (⟨"IssueDesk", "endOfRange", "(I)I"⟩, 15), (⟨"java/lang/Throwable", "fillInStackTrace", "(I)Ljava/lang/Throwable;"⟩, 6), (⟨"IssueDesk", "foretellDueIssues", "()V"⟩, 15), (⟨"IssueDesk", "nextDay", "()I"⟩, 15), (⟨"IssueDesk$Pattern", "isInSkippedMonth", "(I)Z"⟩, 4), (⟨"IssueDesk", "foretellNext", "()V"⟩, 15), (⟨"IssueDesk", "canAllCome", "(II)Z"⟩, 15), (⟨"IssueDesk", "foretellUpTo", "(I)V"⟩, 15), (⟨"IssueDesk", "takeIn", "(II)V"⟩, 15), (⟨"IssueDesk", "noteDifference", "(I)V"⟩, 15), (⟨"IssueDesk", "followsStreak", "(I)Z"⟩, 15)]
theorem lw_r1 : ∀ q ∈ lw_privs_1, lw_okq q := List.forall_mem_cons.mpr ⟨lw_p0, List.forall_mem_cons.mpr ⟨lw_p1, List.forall_mem_cons.mpr ⟨lw_p2, List.forall_mem_cons.mpr ⟨lw_p3, List.forall_mem_cons.mpr ⟨lw_p4, List.forall_mem_cons.mpr ⟨lw_p5, List.forall_mem_cons.mpr ⟨lw_p6, List.forall_mem_cons.mpr ⟨lw_p7, List.forall_mem_cons.mpr ⟨lw_p8, List.forall_mem_cons.mpr ⟨lw_p9, List.forall_mem_cons.mpr ⟨lw_p10, List.forall_mem_cons.mpr ⟨lw_p11, List.forall_mem_cons.mpr ⟨lw_p12, List.forall_mem_cons.mpr ⟨lw_p13, List.forall_mem_cons.mpr ⟨lw_p14, List.forall_mem_cons.mpr ⟨lw_p15, fun _ h => absurd h List.not_mem_nil⟩⟩⟩⟩⟩⟩⟩⟩⟩⟩⟩⟩⟩⟩⟩⟩
theorem lw_p16 : lw_okq (⟨"IssueDesk", "startOfRange", "(I)I"⟩, 15) := ⟨⟨by decide +kernel, by decide +kernel⟩, List.mem_of_getElem? (i := 12) (by decide +kernel), List.mem_of_getElem? (i := 389) (by decide +kernel), List.mem_of_getElem? (i := 390) (by decide +kernel)⟩
theorem lw_p17 : lw_okq (⟨"IssueDeskModel", "can", "(I)Z"⟩, 18) := ⟨⟨by decide +kernel, by decide +kernel⟩, List.mem_of_getElem? (i := 411) (by decide +kernel), List.mem_of_getElem? (i := 483) (by decide +kernel), List.mem_of_getElem? (i := 484) (by decide +kernel)⟩
theorem lw_p18 : lw_okq (⟨"IssueDeskModel", "looks", "()V"⟩, 18) := ⟨⟨by decide +kernel, by decide +kernel⟩, List.mem_of_getElem? (i := 411) (by decide +kernel), List.mem_of_getElem? (i := 487) (by decide +kernel), List.mem_of_getElem? (i := 488) (by decide +kernel)⟩
theorem lw_p19 : lw_okq (⟨"IssueDeskModel", "nextDay", "()I"⟩, 18) := ⟨⟨by decide +kernel, by decide +kernel⟩, List.mem_of_getElem? (i := 411) (by decide +kernel), List.mem_of_getElem? (i := 491) (by decide +kernel), List.mem_of_getElem? (i := 492) (by decide +kernel)⟩
theorem lw_p20 : lw_okq (⟨"IssueDeskModel", "isBarred", "(I)Z"⟩, 18) := ⟨⟨by decide +kernel, by decide +kernel⟩, List.mem_of_getElem? (i := 411) (by decide +kernel), List.mem_of_getElem? (i := 495) (by decide +kernel), List.mem_of_getElem? (i := 496) (by decide +kernel)⟩
theorem lw_p21 : lw_okq (⟨"IssueDeskModel", "foretells", "()V"⟩, 18) := ⟨⟨by decide +kernel, by decide +kernel⟩, List.mem_of_getElem? (i := 411) (by decide +kernel), List.mem_of_getElem? (i := 499) (by decide +kernel), List.mem_of_getElem? (i := 500) (by decide +kernel)⟩
theorem lw_p22 : lw_okq (⟨"IssueDeskModel", "isOpen", "(II)Z"⟩, 18) := ⟨⟨by decide +kernel, by decide +kernel⟩, List.mem_of_getElem? (i := 411) (by decide +kernel), List.mem_of_getElem? (i := 518) (by decide +kernel), List.mem_of_getElem? (i := 519) (by decide +kernel)⟩
theorem lw_p23 : lw_okq (⟨"IssueDeskModel", "counts", "(I)V"⟩, 18) := ⟨⟨by decide +kernel, by decide +kernel⟩, List.mem_of_getElem? (i := 411) (by decide +kernel), List.mem_of_getElem? (i := 522) (by decide +kernel), List.mem_of_getElem? (i := 523) (by decide +kernel)⟩
theorem lw_p24 : lw_okq (⟨"IssueDeskModel", "follows", "(I)Z"⟩, 18) := ⟨⟨by decide +kernel, by decide +kernel⟩, List.mem_of_getElem? (i := 411) (by decide +kernel), List.mem_of_getElem? (i := 526) (by decide +kernel), List.mem_of_getElem? (i := 527) (by decide +kernel)⟩
theorem lw_p25 : lw_okq (⟨"IssueDeskModel", "isForetold", "(I)Z"⟩, 18) := ⟨⟨by decide +kernel, by decide +kernel⟩, List.mem_of_getElem? (i := 411) (by decide +kernel), List.mem_of_getElem? (i := 534) (by decide +kernel), List.mem_of_getElem? (i := 535) (by decide +kernel)⟩
theorem lw_p26 : lw_okq (⟨"IssueDeskModel", "isLate", "(I)Z"⟩, 18) := ⟨⟨by decide +kernel, by decide +kernel⟩, List.mem_of_getElem? (i := 411) (by decide +kernel), List.mem_of_getElem? (i := 542) (by decide +kernel), List.mem_of_getElem? (i := 543) (by decide +kernel)⟩
theorem lw_p27 : lw_okq (⟨"IssueDeskModel", "isAsked", "(I)Z"⟩, 18) := ⟨⟨by decide +kernel, by decide +kernel⟩, List.mem_of_getElem? (i := 411) (by decide +kernel), List.mem_of_getElem? (i := 562) (by decide +kernel), List.mem_of_getElem? (i := 563) (by decide +kernel)⟩
theorem lw_p28 : lw_okq (⟨"IssueDeskModel", "volume", "(I)I"⟩, 18) := ⟨⟨by decide +kernel, by decide +kernel⟩, List.mem_of_getElem? (i := 411) (by decide +kernel), List.mem_of_getElem? (i := 578) (by decide +kernel), List.mem_of_getElem? (i := 579) (by decide +kernel)⟩
theorem lw_p29 : lw_okq (⟨"IssueDeskModel", "number", "(I)I"⟩, 18) := ⟨⟨by decide +kernel, by decide +kernel⟩, List.mem_of_getElem? (i := 411) (by decide +kernel), List.mem_of_getElem? (i := 582) (by decide +kernel), List.mem_of_getElem? (i := 583) (by decide +kernel)⟩
theorem lw_p30 : lw_okq (⟨"IssueDeskModel", "allRanges", "()I"⟩, 18) := ⟨⟨by decide +kernel, by decide +kernel⟩, List.mem_of_getElem? (i := 411) (by decide +kernel), List.mem_of_getElem? (i := 598) (by decide +kernel), List.mem_of_getElem? (i := 599) (by decide +kernel)⟩
theorem lw_p31 : lw_okq (⟨"IssueDeskModel", "isHere", "(I)Z"⟩, 18) := ⟨⟨by decide +kernel, by decide +kernel⟩, List.mem_of_getElem? (i := 411) (by decide +kernel), List.mem_of_getElem? (i := 602) (by decide +kernel), List.mem_of_getElem? (i := 603) (by decide +kernel)⟩
def lw_privs_2 : List (MethodName × Nat) := [(⟨"IssueDesk", "startOfRange", "(I)I"⟩, 15), (⟨"IssueDeskModel", "can", "(I)Z"⟩, 18), (⟨"IssueDeskModel", "looks", "()V"⟩, 18), (⟨"IssueDeskModel", "nextDay", "()I"⟩, 18), (⟨"IssueDeskModel", "isBarred", "(I)Z"⟩, 18), (⟨"IssueDeskModel", "foretells", "()V"⟩, 18), (⟨"IssueDeskModel", "isOpen", "(II)Z"⟩, 18), (⟨"IssueDeskModel", "counts", "(I)V"⟩, 18), (⟨"IssueDeskModel", "follows", "(I)Z"⟩, 18), (⟨"IssueDeskModel", "isForetold", "(I)Z"⟩, 18), (⟨"IssueDeskModel", "isLate", "(I)Z"⟩, 18), (⟨"IssueDeskModel", "isAsked", "(I)Z"⟩, 18), (⟨"IssueDeskModel", "volume", "(I)I"⟩, 18), (⟨"IssueDeskModel", "number", "(I)I"⟩, 18), (⟨"IssueDeskModel", "allRanges", "()I"⟩, 18), (⟨"IssueDeskModel", "isHere", "(I)Z"⟩, 18)]
theorem lw_r2 : ∀ q ∈ lw_privs_2, lw_okq q := List.forall_mem_cons.mpr ⟨lw_p16, List.forall_mem_cons.mpr ⟨lw_p17, List.forall_mem_cons.mpr ⟨lw_p18, List.forall_mem_cons.mpr ⟨lw_p19, List.forall_mem_cons.mpr ⟨lw_p20, List.forall_mem_cons.mpr ⟨lw_p21, List.forall_mem_cons.mpr ⟨lw_p22, List.forall_mem_cons.mpr ⟨lw_p23, List.forall_mem_cons.mpr ⟨lw_p24, List.forall_mem_cons.mpr ⟨lw_p25, List.forall_mem_cons.mpr ⟨lw_p26, List.forall_mem_cons.mpr ⟨lw_p27, List.forall_mem_cons.mpr ⟨lw_p28, List.forall_mem_cons.mpr ⟨lw_p29, List.forall_mem_cons.mpr ⟨lw_p30, List.forall_mem_cons.mpr ⟨lw_p31, fun _ h => absurd h List.not_mem_nil⟩⟩⟩⟩⟩⟩⟩⟩⟩⟩⟩⟩⟩⟩⟩⟩
def lw_privs : List (MethodName × Nat) := lw_privs_1 ++ (lw_privs_2)
def lw_tbl : List Cond := k2_sels lw_privs ++ tables_1
theorem lw_privs_ok : ∀ q ∈ lw_privs, lw_okq q := by
  show ∀ q ∈ lw_privs_1 ++ (lw_privs_2), lw_okq q
  exact List.forall_mem_append.mpr ⟨lw_r1, lw_r2⟩
-- ===== end of PART A; then your names; then what follows =====
end
section
/-! ===== BEGIN words of one list among another's, by their places ===== -/
theorem goodIn_r {big : List Cond} (ws : List Cond) (ps : List Nat) (hp : ws = ps.filterMap (fun i => big[i]?)) (h : ws.all goodWord = true) : GoodIn big ws := by
  intro w hw
  have h1 := List.all_eq_true.mp h w hw
  rw [hp] at hw
  obtain ⟨i, -, hi⟩ := List.mem_filterMap.mp hw
  have hm : w ∈ big := by first | exact List.mem_of_getElem? hi | exact List.getElem?_mem hi
  exact ⟨hm, good_of_word h1⟩
theorem goodIn_app {big a b : List Cond} (ha : GoodIn big a) (hb : GoodIn big b) : GoodIn big (a ++ b) := fun w h => (List.mem_append.mp h).elim (ha w) (hb w)
theorem goodIn_ca {big a b : List Cond} {c : Cond} (ha : GoodIn big (c :: a)) (hb : GoodIn big b) : GoodIn big (c :: (a ++ b)) := fun w h => (List.mem_cons.mp h).elim (fun e => ha w (List.mem_cons.mpr (Or.inl e))) (fun h => (List.mem_append.mp h).elim (fun h => ha w (List.mem_cons.mpr (Or.inr h))) (hb w))
theorem goodIn_sub {big ws : List Cond} (hm : ∀ w ∈ ws, w ∈ big) (h : ws.all goodWord = true) : GoodIn big ws := fun w hw => ⟨hm w hw, good_of_word (List.all_eq_true.mp h w hw)⟩
/-! ===== END ===== -/

/-! ===== BEGIN exceptions that leave a method, and their catching by the caller (launches without stack traces) ===== -/
section VXA
/-! The laws vx_back, vx_callV, vx_callS, vx_callSW, vx_throw0, vx_throwS follow proofs of the library, with one case more: JvmDerived/Free/Laws.lean (Back.of_free), Shelf42/LK1.lean (callV, callS), Shelf/KitTraced.lean (throwNew0V, throwNewS). -/
/-- where a method has thrown q: the class by its name, the cell, what was written, the world -/
def vx_T (XC : String → State → State → Prop) (st : State) (q : Addr) (t : State) (mc ms : Nat) (free : Addr → Prop) : Prop :=
  ∃ (E : String) (ce : Cell) (L : List Loc), XC E st t ∧ t.heap[q]? = some ce ∧ ce.vm = .none ∧ st.vm.findClass E = some ce.cls ∧ st.WarmedH t.vm ∧ st.sameButNew ({ t with vm := st.vm } : State) L mc ms ∧ ∀ z ∈ L, free z.base
def vx_Q (Qc : Array Value → State → Outcome → State → Prop) (XC : String → State → State → Prop) (mc ms : Nat) (free : Addr → Prop) : Array Value → State → Outcome → State → Prop := fun a st o t =>
  (Qc a st o t ∧ ∃ L, FrameEnd st o t L mc ms ∧ ∀ q ∈ L, free q.base) ∨ ∃ q, o = .threw q ∧ vx_T XC st q t mc ms free
/-- a callee that returns or throws -/
def vx_Met (l : Launch) (y : MethodName) (ws : List Cond) (rm : Room) (Pc : Array Value → State → Prop) (Qc : Array Value → State → Outcome → State → Prop) (XC : String → State → State → Prop) (mc ms : Nat) (free : Addr → Prop) : Prop :=
  MetFree l y (headSpec ws rm) Pc (fun _ _ _ _ _ => True) (vx_Q Qc XC mc ms free)
def vx_Post (XC : String → State → State → Prop) (mc ms : Nat) (free : Addr → Prop) : Pt → Array Value → Addr → Pt → Prop := fun A a q B =>
  ∃ (g : JFrame) (mk : MethodId) (t : State) (L : List Loc) (E : String) (ce : Cell), B.U.heap = t.heap ∧ B.U.vm = t.vm ∧ XC E (A.U.calling g mk a) t ∧ t.heap[q]? = some ce ∧ ce.vm = .none ∧ A.U.vm.findClass E = some ce.cls ∧ B.locs = A.locs ++ L ∧ (∀ z ∈ L, free z.base) ∧ B.cells = A.cells + mc ∧ B.slots = A.slots + ms
def vx_Back (l : Launch) (R : Room) (p : Program) (e : Env) (below : List Frame) (s : State) (sargs : Array Value) (y : MethodName) (len W9 : Nat)
    (Pre : Pt → Array Value → Prop) (Post : Pt → Array Value → Option Value → Pt → Prop) (PostX : Pt → Array Value → Addr → Pt → Prop) : Prop :=
  ∀ (m : MethodId) (meth : Method) (c : Code) (A : Pt) (g : JFrame) (ig : Instr) (mk : MethodId) (a : Array Value),
    Stand p l e R s m sargs below meth c A.U A.locs A.cells A.slots → g.method = m → g.locals.size = c.maxLocals → decode c.code g.pc = .ok (ig, len) →
    2 * g.monitorRoom + (g.stack.map fun v => v.category).sum ≤ W9 → A.U.methodNamed? y = some mk → Pre A a →
    (∃ (v : Option Value) (B : Pt), Stand p l e R s m sargs below meth c B.U B.locs B.cells B.slots ∧ Post A a v B ∧
      Steps p.tables e below (doInvoke e (A.U.setTop g) [] mk a).1 (B.U.setTop { g with pc := g.pc + len, stack := v.toList ++ g.stack })) ∨
    (∃ (q : Addr) (B : Pt), Stand p l e R s m sargs below meth c B.U B.locs B.cells B.slots ∧ PostX A a q B ∧
      Steps p.tables e below (doInvoke e (A.U.setTop g) [] mk a).1 ((B.U.setTop g).pushFrame (.throwing q)))
section Payer
variable {l : Launch} {R : Room} {p : Program} {e : Env} {below : List Frame} {s : State} {sargs : Array Value} {y : MethodName} {len W9 : Nat}
theorem vx_back {ws : List Cond} {rm : Room} {Pc : Array Value → State → Prop} {Qc : Array Value → State → Outcome → State → Prop} {XC : String → State → State → Prop} {mc ms : Nat} {free : Addr → Prop} {bytes : ByteArray} {maxL : Nat} {ret : Option FieldType}
    (hM : vx_Met l y ws rm Pc Qc XC mc ms free) (hblind : FrameBlind Pc) (hrc : rm.cells = mc) (hrs : rm.slots = ms)
    (hframes : rm.frames + 1 ≤ R.frames) (hlocals : W9 + (maxL + 11) + rm.locals ≤ R.locals)
    (hws : ∀ w ∈ ws, ∀ a' U, s.WarmedH U.vm → w.before a' U = true) (hcode : Cond.code y bytes maxL ret ∈ ws) (hinit : ∀ a' U, s.WarmedH U.vm → (Cond.initialized y.cls).before a' U = true) :
    vx_Back l R p e below s sargs y len W9 (PreOf R mc ms Pc) (PostOf Qc mc ms free) (vx_Post XC mc ms free) := by
  intro m meth c A g ig mk a X hg hsize hdg hW hn hp
  have h1 : (headSpec ws rm).pre.before a A.U = true := atoms_intro fun w hw => hws w hw _ _ X.warmed
  have h2 : (Cond.code y bytes maxL ret).before a A.U = true := hws _ hcode _ _ X.warmed
  have h3 : (Cond.initialized y.cls).before a A.U = true := hinit _ _ X.warmed
  have h4 : A.cells + (headSpec ws rm).room.cells ≤ R.cells := by rw [show (headSpec ws rm).room.cells = mc from hrc]; exact hp.1
  have h5 : A.slots + (headSpec ws rm).room.slots ≤ R.slots := by rw [show (headSpec ws rm).room.slots = ms from hrs]; exact hp.2.1
  have hPc : Pc a (A.U.calling g mk a) := hblind _ _ _ _ hp.2.2
  obtain ⟨U, Ls, c0, s0⟩ := A
  dsimp only [Pt.U, Pt.locs, Pt.cells, Pt.slots] at h1 h2 h3 h4 h5 X hn hPc ⊢
  obtain ⟨methY, cY, hmY, hcY, -, hlY, -, -, -, -⟩ := Cond.code_spec hn h2
  obtain ⟨kY, hkY, -⟩ := className_of_methodNamed hn
  have hinitY : kY.init = .initialized := Cond.initialized_spec (findClass_of_methodNamed hn) hkY h3
  have h : At U g.method c below := by rw [hg]; exact X.here
  have hlocals9 : W9 + (maxL + 11) + (headSpec ws rm).room.locals ≤ R.locals := hlocals
  have happ : (headSpec ws rm).appliesLoose y e.platform (U.calling g mk a) = true :=
    Spec.appliesLoose_calling (g := g) h hdg hn hkY hinitY
      (X.room_calling (g := g) (R' := (headSpec ws rm).room) hsize hmY hcY hframes (by rw [hlY]; omega) h4 h5) h1
  obtain ⟨mid, hmid⟩ := h.above
  have hfr : (U.setTop g).frames = (.java g :: mid) ++ below := by rw [State.frames_setTop' g h.top, hmid]; rfl
  obtain ⟨o, s₂, hsteps, -, hend, hq⟩ := Steps.callFree hM p X.admits X.cas X.clock (acts := []) hfr happ hPc trivial
  have hq' : vx_Q Qc XC mc ms free a (U.calling g mk a) o s₂ := hq
  rw [State.frames_setTop' g h.top] at hend
  obtain ⟨g₀, hg0⟩ := Option.isSome_iff_exists.mp h.top
  obtain ⟨r, hr⟩ := State.topJava?_eq_some.mp hg0
  have hr' : (({ U with heap := s₂.heap, slotsUsed := s₂.slotsUsed } : State).setVm s₂.vm).frames = .java g₀ :: r := hr
  rcases hq' with ⟨hqc, L, hfe, hL⟩ | ⟨q, rfl, E, ce, L, hx, hce, hcv, hcl, hW₂, hsm, hL⟩
  · obtain ⟨⟨v, rfl⟩, hW₂, e2, q2, q3, q4, q5, q6⟩ := id hfe
    have e3 : s₂ = ({ (U.calling g mk a).setFrames s₂.frames with heap := s₂.heap, slotsUsed := s₂.slotsUsed } : State).setVm s₂.vm := by
      have : s₂ = ({ s₂ with vm := (U.calling g mk a).vm } : State).setVm s₂.vm := rfl
      rw [e2] at this
      exact this
    obtain ⟨c₂, i₂, len₂, hc₂, hd₂, hf₂⟩ := hend
    have hW' : U.WarmedH s₂.vm := hW₂
    have hcc : c₂ = c := by
      have h1 : s₂.code? g.method = U.code? g.method := by
        rw [State.code?_eq, State.code?_eq, hW'.alike.method?]
      exact Option.some.inj (hc₂.symm.trans (h1.trans h.code))
    subst hcc
    have hlen : len₂ = len := by rw [hdg] at hd₂; cases hd₂; rfl
    subst hlen
    have hs₂ : s₂ = (({ U with heap := s₂.heap, slotsUsed := s₂.slotsUsed } : State).setVm s₂.vm).setTop { g with pc := g.pc + len₂, stack := v.toList ++ g.stack } := by
      refine e3.trans ?_
      rw [hf₂, State.calling_eq h.top, State.setFrames_setFrames, State.setTop_of_frames _ hr', hr]
      rfl
    have hsame : U.sameButNew ({ U with heap := s₂.heap, slotsUsed := s₂.slotsUsed } : State) L mc ms := by
      refine ⟨?_, q2, q3, q4, q5, q6⟩
      obtain ⟨t, ht, -⟩ := State.frames_cons hr
      show ({ U with heap := s₂.heap, slotsUsed := s₂.slotsUsed } : State) = { U.setFrames U.frames with heap := s₂.heap, slotsUsed := s₂.slotsUsed }
      rw [State.setFrames_self ht]
    subst hg
    refine Or.inl ⟨v, ⟨(({ U with heap := s₂.heap, slotsUsed := s₂.slotsUsed } : State).setVm s₂.vm), Ls ++ L, c0 + mc, s0 + ms⟩,
      ⟨X.admits, X.cas, X.clock, X.frames, X.room, X.hears, X.method, X.code, (X.here.setHeapUsed s₂.heap s₂.slotsUsed).setVm hW'.alike, X.tail, State.WarmedH.trans X.warmed hW', X.limits, X.bytes, X.same.trans (hsame.setVm s.vm)⟩,
      ⟨g, mk, s₂, L, rfl, rfl, hqc, rfl, hL, rfl, rfl⟩, ?_⟩
    show Steps p.tables e below _ ((({ U with heap := s₂.heap, slotsUsed := s₂.slotsUsed } : State).setVm s₂.vm).setTop { g with pc := g.pc + len₂, stack := v.toList ++ g.stack })
    rw [← hs₂]
    exact hsteps
  · obtain ⟨e2, q2, q3, q4, q5, q6⟩ := id hsm
    have e3 : s₂ = ({ (U.calling g mk a).setFrames s₂.frames with heap := s₂.heap, slotsUsed := s₂.slotsUsed } : State).setVm s₂.vm := by
      have : s₂ = ({ s₂ with vm := (U.calling g mk a).vm } : State).setVm s₂.vm := rfl
      rw [e2] at this
      exact this
    have hf₂ : s₂.frames = .throwing q :: .java g :: U.frames.tail := hend
    have hW' : U.WarmedH s₂.vm := hW₂
    have hs₂ : s₂ = ((({ U with heap := s₂.heap, slotsUsed := s₂.slotsUsed } : State).setVm s₂.vm).setTop g).pushFrame (.throwing q) := by
      refine e3.trans ?_
      rw [hf₂, State.calling_eq h.top, State.setFrames_setFrames, State.pushFrame, State.frames_setTop _ hr', State.setTop_of_frames _ hr', State.setFrames_setFrames, hr]
      rfl
    have hsame : U.sameButNew ({ U with heap := s₂.heap, slotsUsed := s₂.slotsUsed } : State) L mc ms := by
      refine ⟨?_, q2, q3, q4, q5, q6⟩
      obtain ⟨t, ht, -⟩ := State.frames_cons hr
      show ({ U with heap := s₂.heap, slotsUsed := s₂.slotsUsed } : State) = { U.setFrames U.frames with heap := s₂.heap, slotsUsed := s₂.slotsUsed }
      rw [State.setFrames_self ht]
    subst hg
    refine Or.inr ⟨q, ⟨(({ U with heap := s₂.heap, slotsUsed := s₂.slotsUsed } : State).setVm s₂.vm), Ls ++ L, c0 + mc, s0 + ms⟩,
      ⟨X.admits, X.cas, X.clock, X.frames, X.room, X.hears, X.method, X.code, (X.here.setHeapUsed s₂.heap s₂.slotsUsed).setVm hW'.alike, X.tail, State.WarmedH.trans X.warmed hW', X.limits, X.bytes, X.same.trans (hsame.setVm s.vm)⟩,
      ⟨g, mk, s₂, L, E, ce, rfl, rfl, hx, hce, hcv, hcl, rfl, hL, rfl, rfl⟩, ?_⟩
    show Steps p.tables e below _ (((({ U with heap := s₂.heap, slotsUsed := s₂.slotsUsed } : State).setVm s₂.vm).setTop g).pushFrame (.throwing q))
    rw [← hs₂]
    exact hsteps
end Payer
section Calls
variable {p : Program} {l : Launch} {e : Env} {R : Room} {s : State} {m : MethodId} {args : Array Value} {below : List Frame} {meth : Method} {c : Code} {T : State} {locs : List Loc} {cells slots : Nat}
theorem vx_callV (X : Stand p l e R s m args below meth c T locs cells slots) (hexec : p.tables.exec = Jvm.exec) {own C : String} {index : Nat} {y : MethodName} {bytes : ByteArray} {maxL : Nat} {ret : Option FieldType}
    (hown : s.vm.findClass own = some m.cls) (hlink : (Cond.methodLink own index y).before args s = true) (hinst : (Cond.instanceMethod y).before args s = true) (hsel : (Cond.selects C y y).before args s = true)
    (hcode : (Cond.code y bytes maxL ret).before args s = true) (hy : y.cls ≠ "java/lang/invoke/MethodHandle" ∧ y.cls ≠ "java/lang/invoke/VarHandle")
    {W9 : Nat} {Pre : Pt → Array Value → Prop} {Post : Pt → Array Value → Option Value → Pt → Prop} {PostX : Pt → Array Value → Addr → Pt → Prop} (hK : vx_Back l R p e below s args y 3 W9 Pre Post PostX)
    {b : Addr} {cellB : Cell} (hcell : T.heap[b]? = some cellB) (hobj : cellB.vm.isStatics = false) (hcls : s.vm.findClass C = some cellB.cls)
    {g : JFrame} (hg : g.method = m) (hsize : g.locals.size = c.maxLocals) {argsL rest : List Value} (hlen : ∀ sig, parseMethodDescriptor y.desc = some sig → argsL.length = sig.parameters.length)
    (hstack : g.stack = argsL.reverse ++ .ref b :: rest) (hW : 2 * g.monitorRoom + (rest.map fun v => v.category).sum ≤ W9) (hdg : decode c.code g.pc = .ok (.invokevirtual index, 3))
    (hpre : ∀ vm₁, s.WarmedH vm₁ → Pre ⟨T.setVm vm₁, locs, cells, slots⟩ (Value.ref b :: argsL).toArray) :
    (∃ (v : Option Value) (vm₁ : Vm) (B : Pt), s.WarmedH vm₁ ∧ Stand p l e R s m args below meth c B.U B.locs B.cells B.slots ∧ Post ⟨T.setVm vm₁, locs, cells, slots⟩ (Value.ref b :: argsL).toArray v B ∧
      ∀ target, Steps p.tables e below (B.U.setTop { g with pc := g.pc + 3, stack := v.toList ++ rest }) target → Steps p.tables e below (T.setTop g) target) ∨
    (∃ (q : Addr) (vm₁ : Vm) (B : Pt), s.WarmedH vm₁ ∧ Stand p l e R s m args below meth c B.U B.locs B.cells B.slots ∧ PostX ⟨T.setVm vm₁, locs, cells, slots⟩ (Value.ref b :: argsL).toArray q B ∧
      Steps p.tables e below (T.setTop g) ((B.U.setTop { g with stack := rest }).pushFrame (.throwing q))) := by
  obtain ⟨mk, methM, hnamed, hmethM, hstM, habM⟩ := Cond.instanceMethod_spec hinst
  obtain ⟨methM', cM, hmethM', -, -, -, -, -, -, hsigM⟩ := Cond.code_spec hnamed hcode
  cases hmethM.symm.trans hmethM'
  obtain ⟨c2, r2, m2, q1, q2, q3, q4, kP, hkP, hkPi⟩ := Cond.selects_spec hsel
  cases hcls.symm.trans q1
  cases (State.methodFound?_of_named hnamed hy).symm.trans q2
  cases hnamed.symm.trans q3
  have hselP : selectMethod e.platform s.vm cellB.cls mk = .method mk := by rw [Launch.admits_selectMethod X.admits]; exact q4
  obtain ⟨vm₁, X₁, hstep₁⟩ := X.invokevirtual hexec hown hlink hnamed hmethM hstM hkP hkPi hy (a := b) (cell := cellB) hcell
    (fun z h => by rw [h] at hobj; cases hobj) hselP hmethM habM hkP hkPi (g := g) hg (argsL := argsL) (rest := rest) (hlen _ hsigM) hstack hdg
  rcases hK m meth c ⟨T.setVm vm₁, locs, cells, slots⟩ { g with stack := rest } (.invokevirtual index) mk (Value.ref b :: argsL).toArray X₁ hg hsize hdg hW (X₁.named hnamed) (hpre vm₁ X₁.warmed) with ⟨v, B, X', hpost, hsteps⟩ | ⟨q, B, X', hpost, hsteps⟩
  · exact Or.inl ⟨v, vm₁, B, X₁.warmed, X', hpost, fun target h => hstep₁ _ fun acts => by rw [doInvoke_state]; exact hsteps.trans h⟩
  · exact Or.inr ⟨q, vm₁, B, X₁.warmed, X', hpost, hstep₁ _ fun acts => by rw [doInvoke_state]; exact hsteps⟩
theorem vx_callS (X : Stand p l e R s m args below meth c T locs cells slots) (hexec : p.tables.exec = Jvm.exec) {own : String} {index : Nat} {y : MethodName} {bytes : ByteArray} {maxL : Nat} {ret : Option FieldType}
    (hown : s.vm.findClass own = some m.cls) (hlink : (Cond.methodLink own index y).before args s = true) (hstat : (Cond.static y).before args s = true) (hinit : (Cond.initialized y.cls).before args s = true)
    (hcode : (Cond.code y bytes maxL ret).before args s = true) (hy : y.cls ≠ "java/lang/invoke/MethodHandle" ∧ y.cls ≠ "java/lang/invoke/VarHandle")
    {W9 : Nat} {Pre : Pt → Array Value → Prop} {Post : Pt → Array Value → Option Value → Pt → Prop} {PostX : Pt → Array Value → Addr → Pt → Prop} (hK : vx_Back l R p e below s args y 3 W9 Pre Post PostX)
    {g : JFrame} (hg : g.method = m) (hsize : g.locals.size = c.maxLocals) {argsL rest : List Value} (hlen : ∀ sig, parseMethodDescriptor y.desc = some sig → argsL.length = sig.parameters.length)
    (hstack : g.stack = argsL.reverse ++ rest) (hW : 2 * g.monitorRoom + (rest.map fun v => v.category).sum ≤ W9) (hdg : decode c.code g.pc = .ok (.invokestatic index, 3))
    (hpre : ∀ vm₁, s.WarmedH vm₁ → Pre ⟨T.setVm vm₁, locs, cells, slots⟩ argsL.toArray) :
    (∃ (v : Option Value) (vm₁ : Vm) (B : Pt), s.WarmedH vm₁ ∧ Stand p l e R s m args below meth c B.U B.locs B.cells B.slots ∧ Post ⟨T.setVm vm₁, locs, cells, slots⟩ argsL.toArray v B ∧
      ∀ target, Steps p.tables e below (B.U.setTop { g with pc := g.pc + 3, stack := v.toList ++ rest }) target → Steps p.tables e below (T.setTop g) target) ∨
    (∃ (q : Addr) (vm₁ : Vm) (B : Pt), s.WarmedH vm₁ ∧ Stand p l e R s m args below meth c B.U B.locs B.cells B.slots ∧ PostX ⟨T.setVm vm₁, locs, cells, slots⟩ argsL.toArray q B ∧
      Steps p.tables e below (T.setTop g) ((B.U.setTop { g with stack := rest }).pushFrame (.throwing q))) := by
  obtain ⟨mk, hnamed⟩ := Cond.code_named hcode
  obtain ⟨methM, cM, hmethM, -, -, -, -, -, -, hsigM⟩ := Cond.code_spec hnamed hcode
  have hstatic : methM.isStatic = true := Cond.static_spec hnamed hmethM hstat
  obtain ⟨kP, hkP, -⟩ := className_of_methodNamed hnamed
  have hinitP : kP.init = .initialized := Cond.initialized_spec (findClass_of_methodNamed hnamed) hkP hinit
  obtain ⟨vm₁, X₁, hstep₁⟩ := X.invokestatic hexec hown hlink hnamed hmethM hstatic hkP hinitP hy (g := g) hg (argsL := argsL) (rest := rest) (hlen _ hsigM) hstack hdg
  rcases hK m meth c ⟨T.setVm vm₁, locs, cells, slots⟩ { g with stack := rest } (.invokestatic index) mk argsL.toArray X₁ hg hsize hdg hW (X₁.named hnamed) (hpre vm₁ X₁.warmed) with ⟨v, B, X', hpost, hsteps⟩ | ⟨q, B, X', hpost, hsteps⟩
  · exact Or.inl ⟨v, vm₁, B, X₁.warmed, X', hpost, fun target h => hstep₁ _ fun acts => by rw [doInvoke_state]; exact hsteps.trans h⟩
  · exact Or.inr ⟨q, vm₁, B, X₁.warmed, X', hpost, hstep₁ _ fun acts => by rw [doInvoke_state]; exact hsteps⟩
end Calls
theorem vx_cls {s : State} {T : State} {vm₁ : Vm} {E : String} {k : ClassId} (hW : s.WarmedH vm₁) (h : (T.setVm vm₁).vm.findClass E = some k) : s.vm.findClass E = some k := by
  have h1 : vm₁.findClass E = some k := h
  rw [hW.alike.findClass] at h1
  exact h1
/-- the method's frame g, with q thrown over it -/
def vx_W (p : Program) (l : Launch) (e : Env) (R : Room) (s : State) (m : MethodId) (args : Array Value) (below : List Frame) (meth : Method) (c : Code) (H : Heap) (locs : List Loc) (cells slots : Nat) (Q : State → Prop) (g : JFrame) (q : Addr) : Prop :=
  ∀ T : State, T.heap = H → Stand p l e R s m args below meth c T locs cells slots → ∃ t, Steps p.tables e below ((T.setTop g).pushFrame (.throwing q)) t ∧ Q t
def vx_Run (p : Program) (l : Launch) (e : Env) (R : Room) (s : State) (m : MethodId) (args : Array Value) (below : List Frame) (meth : Method) (c : Code) (H : Heap) (locs : List Loc) (cells slots mc ms : Nat) (g : JFrame) (rest : List Value) (Qa : State → Outcome → State → Prop) (XC : String → State → State → Prop) (free : Addr → Prop) : Prop :=
  ∀ T : State, T.heap = H → Stand p l e R s m args below meth c T locs cells slots →
    (∃ (v : Option Value) (st₀ t T' : State) (L : List Loc), st₀.heap = H ∧ Stand p l e R s m args below meth c T' (locs ++ L) (cells + mc) (slots + ms) ∧ (∀ q ∈ L, free q.base) ∧ T'.heap = t.heap ∧ T'.vm = t.vm ∧ Qa st₀ (.returned v) t ∧
      Goes p e below T g T' { g with pc := g.pc + 3, stack := v.toList ++ rest }) ∨
    (∃ (q : Addr) (st₀ t T' : State) (L : List Loc) (E : String) (ce : Cell), st₀.heap = H ∧ Stand p l e R s m args below meth c T' (locs ++ L) (cells + mc) (slots + ms) ∧ (∀ z ∈ L, free z.base) ∧ T'.heap = t.heap ∧ T'.vm = t.vm ∧ XC E st₀ t ∧ t.heap[q]? = some ce ∧ ce.vm = .none ∧ s.vm.findClass E = some ce.cls ∧
      Steps p.tables e below (T.setTop g) ((T'.setTop { g with stack := rest }).pushFrame (.throwing q)))
def vx_X {S : Type} (px : S → Prop) (B : String → S → State → Prop) (A : Nat → Prop) : String → State → State → Prop := fun E st t => ∃ u : S, px u ∧ B E u t ∧ va_F A st t
section Runs
variable {p : Program} {l : Launch} {e : Env} {R : Room} {s : State} {m : MethodId} {args : Array Value} {below : List Frame} {meth : Method} {c : Code} {H : Heap} {locs : List Loc} {cells slots : Nat}
variable {y : MethodName} {bytes cc : ByteArray} {maxL nL mc ms n index : Nat} {ret : Option FieldType} {ws : List Cond} {rm : Room} {Pc : Array Value → State → Prop} {Qc : Array Value → State → Outcome → State → Prop} {XC : String → State → State → Prop} {free : Addr → Prop} {Ts : List Cond} {own C : String} {b : Addr} {As rest : List Value} {g : JFrame}
theorem vx_callBack (cb : CallB R s args own index y bytes maxL ret ws rm mc ms n) (hM : vx_Met l y ws rm Pc Qc XC mc ms free) (hbl : FrameBlind Pc) : vx_Back l R p e below s args y 3 8 (PreOf R mc ms Pc) (PostOf Qc mc ms free) (vx_Post XC mc ms free) := by
  obtain ⟨hrc, hrs, hfr, hlo, hws, hcw, -, hini, -⟩ := cb
  exact vx_back (bytes := bytes) (maxL := maxL) (ret := ret) hM hbl hrc hrs hfr hlo hws hcw (fun a' U hW => word_at hW (Or.inl (by first | rfl | simp [Cond.onTables, Cond.keeps, Cond.steady])) hini)
theorem vx_runV (S : CallFix p m c cc nL s args Ts own) (hM : vx_Met l y ws rm Pc Qc XC mc ms free) (cw : CallW R s args own C index y bytes maxL ret ws rm mc ms n) (hp : PreV s H C b Pc As)
    (hg : g.method = m) (hn : As.length = n) (hsize : g.locals.size = nL) (hstack : g.stack = As.reverse ++ .ref b :: rest) (hW : 2 * g.monitorRoom + (rest.map fun v => v.category).sum ≤ 8) (hdg : decode cc g.pc = .ok (.invokevirtual index, 3)) (hf : cells + mc ≤ R.cells ∧ slots + ms ≤ R.slots) :
    vx_Run p l e R s m args below meth c H locs cells slots mc ms g rest (Qc (Value.ref b :: As).toArray) XC free := by
  have hK : vx_Back l R p e below s args y 3 8 (PreOf R mc ms Pc) (PostOf Qc mc ms free) (vx_Post XC mc ms free) := vx_callBack cw.1 hM hp.1
  obtain ⟨⟨-, -, -, -, -, -, hcode, -, hy, hlen, hl⟩, hin, hse⟩ := cw
  obtain ⟨hx, hb, hml, ho, -⟩ := S
  obtain ⟨-, ⟨cellB, hcB, hoB, hclB⟩, hPc⟩ := hp
  intro T hT X
  rcases vx_callV X hx (C := C) (bytes := bytes) (maxL := maxL) (ret := ret) ho hl hin hse hcode hy hK (by rw [hT]; exact hcB) hoB hclB hg (hsize.trans hml.symm) (argsL := As) (rest := rest) (fun sig h => hn.trans (hlen sig h)) hstack hW (by rw [hb]; exact hdg)
    (fun vm₁ hW₁ => ⟨hf.1, hf.2, hPc (T.setVm vm₁) hT hW₁⟩) with ⟨v, vm₁, ⟨U', l2, c2, s2⟩, hW₁, X', ⟨g', mk, t, L, e1, e2, hq, h1, hL, h2, h3⟩, st⟩ | ⟨q, vm₁, ⟨U', l2, c2, s2⟩, hW₁, X', ⟨g', mk, t, L, E, ce, e1, e2, hq, hce, hcv, hcl, h1, hL, h2, h3⟩, st⟩
  · dsimp only [Pt.U, Pt.locs, Pt.cells, Pt.slots] at X' e1 e2 h1 h2 h3 st
    subst h1; subst h2; subst h3
    exact Or.inl ⟨v, (T.setVm vm₁).calling g' mk (Value.ref b :: As).toArray, t, U', L, hT, X', hL, e1, e2, hq, st⟩
  · dsimp only [Pt.U, Pt.locs, Pt.cells, Pt.slots] at X' e1 e2 h1 h2 h3 st hcl
    subst h1; subst h2; subst h3
    exact Or.inr ⟨q, (T.setVm vm₁).calling g' mk (Value.ref b :: As).toArray, t, U', L, E, ce, hT, X', hL, e1, e2, hq, hce, hcv, vx_cls hW₁ hcl, st⟩
theorem vx_runS (S : CallFix p m c cc nL s args Ts own) (hM : vx_Met l y ws rm Pc Qc XC mc ms free) (cw : CallB R s args own index y bytes maxL ret ws rm mc ms n ∧ (Cond.static y).before args s = true) (hp : PreS s H Pc As)
    (hg : g.method = m) (hn : As.length = n) (hsize : g.locals.size = nL) (hstack : g.stack = As.reverse ++ rest) (hW : 2 * g.monitorRoom + (rest.map fun v => v.category).sum ≤ 8) (hdg : decode cc g.pc = .ok (.invokestatic index, 3)) (hf : cells + mc ≤ R.cells ∧ slots + ms ≤ R.slots) :
    vx_Run p l e R s m args below meth c H locs cells slots mc ms g rest (Qc As.toArray) XC free := by
  have hK : vx_Back l R p e below s args y 3 8 (PreOf R mc ms Pc) (PostOf Qc mc ms free) (vx_Post XC mc ms free) := vx_callBack cw.1 hM hp.1
  obtain ⟨⟨-, -, -, -, -, -, hcode, hini, hy, hlen, hl⟩, hstt⟩ := cw
  obtain ⟨hx, hb, hml, ho, -⟩ := S
  intro T hT X
  rcases vx_callS X hx (bytes := bytes) (maxL := maxL) (ret := ret) ho hl hstt hini hcode hy hK hg (hsize.trans hml.symm) (argsL := As) (rest := rest) (fun sig h => hn.trans (hlen sig h)) hstack hW (by rw [hb]; exact hdg)
    (fun vm₁ hW₁ => ⟨hf.1, hf.2, hp.2 (T.setVm vm₁) hT hW₁⟩) with ⟨v, vm₁, ⟨U', l2, c2, s2⟩, hW₁, X', ⟨g', mk, t, L, e1, e2, hq, h1, hL, h2, h3⟩, st⟩ | ⟨q, vm₁, ⟨U', l2, c2, s2⟩, hW₁, X', ⟨g', mk, t, L, E, ce, e1, e2, hq, hce, hcv, hcl, h1, hL, h2, h3⟩, st⟩
  · dsimp only [Pt.U, Pt.locs, Pt.cells, Pt.slots] at X' e1 e2 h1 h2 h3 st
    subst h1; subst h2; subst h3
    exact Or.inl ⟨v, (T.setVm vm₁).calling g' mk As.toArray, t, U', L, hT, X', hL, e1, e2, hq, st⟩
  · dsimp only [Pt.U, Pt.locs, Pt.cells, Pt.slots] at X' e1 e2 h1 h2 h3 st hcl
    subst h1; subst h2; subst h3
    exact Or.inr ⟨q, (T.setVm vm₁).calling g' mk As.toArray, t, U', L, E, ce, hT, X', hL, e1, e2, hq, hce, hcv, vx_cls hW₁ hcl, st⟩
end Runs
section Rows
variable {p : Program} {l : Launch} {e : Env} {R : Room} {s : State} {m : MethodId} {args : Array Value} {below : List Frame} {meth : Method} {c : Code} {H : Heap} {locs : List Loc} {cells slots : Nat} {Q : State → Prop}
variable {mc ms : Nat} {free : Addr → Prop} {A0 A1 : Nat → Prop} {H0 : Heap} {a : Array Value} {pc : Nat} {ls : Array Slot} {st0 rest : List Value}
theorem vx_keep {st₀ t T' : State} {L : List Loc} (h0 : st₀.heap = H) (e1 : T'.heap = t.heap) (hS : va_S A0 H0 H locs) (hA : ∀ q, q < H.size → A1 q → A0 q) (hf : ∀ q, free q → A0 q) (hL : ∀ q ∈ L, free q.base) (hF : va_F A1 st₀ t) :
    H.size ≤ T'.heap.size ∧ (∀ q : Nat, q < H.size → ¬ A1 q → T'.heap[q]? = H[q]?) ∧ va_S A0 H0 T'.heap (locs ++ L) := by
  obtain ⟨hz, hk⟩ := hF
  rw [h0] at hz hk
  exact ⟨by rw [e1]; exact hz, fun q h1 h2 => by rw [e1]; exact hk q h1 h2,
    ⟨Nat.le_trans hS.1 (by rw [e1]; exact hz), fun q h1 h2 => by rw [e1, hk q (Nat.lt_of_lt_of_le h1 hS.1) (fun z => h2 (hA q (Nat.lt_of_lt_of_le h1 hS.1) z))]; exact hS.2.1 q h1 h2, fun q hq => by
      rcases List.mem_append.mp hq with h | h
      · exact hS.2.2 q h
      · exact hf _ (hL q h)⟩⟩
theorem vx_calli {S SX : Type} {post : Int32 → S → Prop} {px : SX → Prop} {B : S → State → Prop} {BX : String → SX → State → Prop} {AX : Nat → Prop} (hr : vx_Run p l e R s m args below meth c H locs cells slots mc ms (F0 m pc ls st0) rest (va_Qi post B A1 a) (vx_X px BX AX) free) (hS : va_S A0 H0 H locs) (hA : ∀ q, q < H.size → A1 q → A0 q) (hf : ∀ q, free q → A0 q) (hAX : ∀ q, q < H.size → AX q → A0 q)
    (kx : ∀ (E : String) (ce : Cell) (q9 : Addr) (u : SX) (t : State) (H1 : Heap) (locs1 : List Loc), t.heap = H1 → s.vm.Alike t.vm → px u → BX E u t → H.size ≤ H1.size → (∀ q : Nat, q < H.size → ¬ AX q → H1[q]? = H[q]?) → va_S A0 H0 H1 locs1 → H1[q9]? = some ce → ce.vm = .none → s.vm.findClass E = some ce.cls → vx_W p l e R s m args below meth c H1 locs1 (cells + mc) (slots + ms) Q (F0 m pc ls rest) q9)
    (kk : ∀ (r : Int32) (u : S) (t : State) (H1 : Heap) (locs1 : List Loc), t.heap = H1 → s.vm.Alike t.vm → post r u → B u t → H.size ≤ H1.size → (∀ q : Nat, q < H.size → ¬ A1 q → H1[q]? = H[q]?) → va_S A0 H0 H1 locs1 → W p l e R s m args below meth c H1 locs1 (cells + mc) (slots + ms) Q (F0 m (pc + 3) ls (.int r :: rest))) : W p l e R s m args below meth c H locs cells slots Q (F0 m pc ls st0) := by
  intro T hT X
  rcases hr T hT X with ⟨v, st₀, t, T', L, h0, X', hL, e1, e2, ⟨⟨r, u, hv, hp, hb⟩, hF⟩, st⟩ | ⟨q, st₀, t, T', L, E, ce, h0, X', hL, e1, e2, ⟨u, hp, hb, hF⟩, hce, hcv, hcl, st⟩
  · cases hv
    obtain ⟨k1, k2, k3⟩ := vx_keep h0 e1 hS hA hf hL hF
    obtain ⟨t2, a1, b1⟩ := kk r u t T'.heap (locs ++ L) e1.symm (by rw [← e2]; exact X'.warmed.alike) hp hb k1 k2 k3 T' rfl X'
    exact ⟨t2, st t2 a1, b1⟩
  · obtain ⟨k1, k2, k3⟩ := vx_keep h0 e1 hS hAX hf hL hF
    obtain ⟨t2, a1, b1⟩ := kx E ce q u t T'.heap (locs ++ L) e1.symm (by rw [← e2]; exact X'.warmed.alike) hp hb k1 k2 k3 (by rw [e1]; exact hce) hcv hcl T' rfl X'
    exact ⟨t2, st.trans a1, b1⟩
theorem vx_calll {S SX : Type} {post : Int64 → S → Prop} {px : SX → Prop} {B : S → State → Prop} {BX : String → SX → State → Prop} {AX : Nat → Prop} (hr : vx_Run p l e R s m args below meth c H locs cells slots mc ms (F0 m pc ls st0) rest (va_Ql post B A1 a) (vx_X px BX AX) free) (hS : va_S A0 H0 H locs) (hA : ∀ q, q < H.size → A1 q → A0 q) (hf : ∀ q, free q → A0 q) (hAX : ∀ q, q < H.size → AX q → A0 q)
    (kx : ∀ (E : String) (ce : Cell) (q9 : Addr) (u : SX) (t : State) (H1 : Heap) (locs1 : List Loc), t.heap = H1 → s.vm.Alike t.vm → px u → BX E u t → H.size ≤ H1.size → (∀ q : Nat, q < H.size → ¬ AX q → H1[q]? = H[q]?) → va_S A0 H0 H1 locs1 → H1[q9]? = some ce → ce.vm = .none → s.vm.findClass E = some ce.cls → vx_W p l e R s m args below meth c H1 locs1 (cells + mc) (slots + ms) Q (F0 m pc ls rest) q9)
    (kk : ∀ (r : Int64) (u : S) (t : State) (H1 : Heap) (locs1 : List Loc), t.heap = H1 → s.vm.Alike t.vm → post r u → B u t → H.size ≤ H1.size → (∀ q : Nat, q < H.size → ¬ A1 q → H1[q]? = H[q]?) → va_S A0 H0 H1 locs1 → W p l e R s m args below meth c H1 locs1 (cells + mc) (slots + ms) Q (F0 m (pc + 3) ls (.long r :: rest))) : W p l e R s m args below meth c H locs cells slots Q (F0 m pc ls st0) := by
  intro T hT X
  rcases hr T hT X with ⟨v, st₀, t, T', L, h0, X', hL, e1, e2, ⟨⟨r, u, hv, hp, hb⟩, hF⟩, st⟩ | ⟨q, st₀, t, T', L, E, ce, h0, X', hL, e1, e2, ⟨u, hp, hb, hF⟩, hce, hcv, hcl, st⟩
  · cases hv
    obtain ⟨k1, k2, k3⟩ := vx_keep h0 e1 hS hA hf hL hF
    obtain ⟨t2, a1, b1⟩ := kk r u t T'.heap (locs ++ L) e1.symm (by rw [← e2]; exact X'.warmed.alike) hp hb k1 k2 k3 T' rfl X'
    exact ⟨t2, st t2 a1, b1⟩
  · obtain ⟨k1, k2, k3⟩ := vx_keep h0 e1 hS hAX hf hL hF
    obtain ⟨t2, a1, b1⟩ := kx E ce q u t T'.heap (locs ++ L) e1.symm (by rw [← e2]; exact X'.warmed.alike) hp hb k1 k2 k3 (by rw [e1]; exact hce) hcv hcl T' rfl X'
    exact ⟨t2, st.trans a1, b1⟩
theorem vx_callf {S SX : Type} {post : UInt32 → S → Prop} {px : SX → Prop} {B : S → State → Prop} {BX : String → SX → State → Prop} {AX : Nat → Prop} (hr : vx_Run p l e R s m args below meth c H locs cells slots mc ms (F0 m pc ls st0) rest (va_Qf post B A1 a) (vx_X px BX AX) free) (hS : va_S A0 H0 H locs) (hA : ∀ q, q < H.size → A1 q → A0 q) (hf : ∀ q, free q → A0 q) (hAX : ∀ q, q < H.size → AX q → A0 q)
    (kx : ∀ (E : String) (ce : Cell) (q9 : Addr) (u : SX) (t : State) (H1 : Heap) (locs1 : List Loc), t.heap = H1 → s.vm.Alike t.vm → px u → BX E u t → H.size ≤ H1.size → (∀ q : Nat, q < H.size → ¬ AX q → H1[q]? = H[q]?) → va_S A0 H0 H1 locs1 → H1[q9]? = some ce → ce.vm = .none → s.vm.findClass E = some ce.cls → vx_W p l e R s m args below meth c H1 locs1 (cells + mc) (slots + ms) Q (F0 m pc ls rest) q9)
    (kk : ∀ (r : UInt32) (u : S) (t : State) (H1 : Heap) (locs1 : List Loc), t.heap = H1 → s.vm.Alike t.vm → post r u → B u t → H.size ≤ H1.size → (∀ q : Nat, q < H.size → ¬ A1 q → H1[q]? = H[q]?) → va_S A0 H0 H1 locs1 → W p l e R s m args below meth c H1 locs1 (cells + mc) (slots + ms) Q (F0 m (pc + 3) ls (.float r :: rest))) : W p l e R s m args below meth c H locs cells slots Q (F0 m pc ls st0) := by
  intro T hT X
  rcases hr T hT X with ⟨v, st₀, t, T', L, h0, X', hL, e1, e2, ⟨⟨r, u, hv, hp, hb⟩, hF⟩, st⟩ | ⟨q, st₀, t, T', L, E, ce, h0, X', hL, e1, e2, ⟨u, hp, hb, hF⟩, hce, hcv, hcl, st⟩
  · cases hv
    obtain ⟨k1, k2, k3⟩ := vx_keep h0 e1 hS hA hf hL hF
    obtain ⟨t2, a1, b1⟩ := kk r u t T'.heap (locs ++ L) e1.symm (by rw [← e2]; exact X'.warmed.alike) hp hb k1 k2 k3 T' rfl X'
    exact ⟨t2, st t2 a1, b1⟩
  · obtain ⟨k1, k2, k3⟩ := vx_keep h0 e1 hS hAX hf hL hF
    obtain ⟨t2, a1, b1⟩ := kx E ce q u t T'.heap (locs ++ L) e1.symm (by rw [← e2]; exact X'.warmed.alike) hp hb k1 k2 k3 (by rw [e1]; exact hce) hcv hcl T' rfl X'
    exact ⟨t2, st.trans a1, b1⟩
theorem vx_calld {S SX : Type} {post : UInt64 → S → Prop} {px : SX → Prop} {B : S → State → Prop} {BX : String → SX → State → Prop} {AX : Nat → Prop} (hr : vx_Run p l e R s m args below meth c H locs cells slots mc ms (F0 m pc ls st0) rest (va_Qd post B A1 a) (vx_X px BX AX) free) (hS : va_S A0 H0 H locs) (hA : ∀ q, q < H.size → A1 q → A0 q) (hf : ∀ q, free q → A0 q) (hAX : ∀ q, q < H.size → AX q → A0 q)
    (kx : ∀ (E : String) (ce : Cell) (q9 : Addr) (u : SX) (t : State) (H1 : Heap) (locs1 : List Loc), t.heap = H1 → s.vm.Alike t.vm → px u → BX E u t → H.size ≤ H1.size → (∀ q : Nat, q < H.size → ¬ AX q → H1[q]? = H[q]?) → va_S A0 H0 H1 locs1 → H1[q9]? = some ce → ce.vm = .none → s.vm.findClass E = some ce.cls → vx_W p l e R s m args below meth c H1 locs1 (cells + mc) (slots + ms) Q (F0 m pc ls rest) q9)
    (kk : ∀ (r : UInt64) (u : S) (t : State) (H1 : Heap) (locs1 : List Loc), t.heap = H1 → s.vm.Alike t.vm → post r u → B u t → H.size ≤ H1.size → (∀ q : Nat, q < H.size → ¬ A1 q → H1[q]? = H[q]?) → va_S A0 H0 H1 locs1 → W p l e R s m args below meth c H1 locs1 (cells + mc) (slots + ms) Q (F0 m (pc + 3) ls (.double r :: rest))) : W p l e R s m args below meth c H locs cells slots Q (F0 m pc ls st0) := by
  intro T hT X
  rcases hr T hT X with ⟨v, st₀, t, T', L, h0, X', hL, e1, e2, ⟨⟨r, u, hv, hp, hb⟩, hF⟩, st⟩ | ⟨q, st₀, t, T', L, E, ce, h0, X', hL, e1, e2, ⟨u, hp, hb, hF⟩, hce, hcv, hcl, st⟩
  · cases hv
    obtain ⟨k1, k2, k3⟩ := vx_keep h0 e1 hS hA hf hL hF
    obtain ⟨t2, a1, b1⟩ := kk r u t T'.heap (locs ++ L) e1.symm (by rw [← e2]; exact X'.warmed.alike) hp hb k1 k2 k3 T' rfl X'
    exact ⟨t2, st t2 a1, b1⟩
  · obtain ⟨k1, k2, k3⟩ := vx_keep h0 e1 hS hAX hf hL hF
    obtain ⟨t2, a1, b1⟩ := kx E ce q u t T'.heap (locs ++ L) e1.symm (by rw [← e2]; exact X'.warmed.alike) hp hb k1 k2 k3 (by rw [e1]; exact hce) hcv hcl T' rfl X'
    exact ⟨t2, st.trans a1, b1⟩
theorem vx_callv {S SX : Type} {post : S → Prop} {px : SX → Prop} {B : S → State → Prop} {BX : String → SX → State → Prop} {AX : Nat → Prop} (hr : vx_Run p l e R s m args below meth c H locs cells slots mc ms (F0 m pc ls st0) rest (va_Qv post B A1 a) (vx_X px BX AX) free) (hS : va_S A0 H0 H locs) (hA : ∀ q, q < H.size → A1 q → A0 q) (hf : ∀ q, free q → A0 q) (hAX : ∀ q, q < H.size → AX q → A0 q)
    (kx : ∀ (E : String) (ce : Cell) (q9 : Addr) (u : SX) (t : State) (H1 : Heap) (locs1 : List Loc), t.heap = H1 → s.vm.Alike t.vm → px u → BX E u t → H.size ≤ H1.size → (∀ q : Nat, q < H.size → ¬ AX q → H1[q]? = H[q]?) → va_S A0 H0 H1 locs1 → H1[q9]? = some ce → ce.vm = .none → s.vm.findClass E = some ce.cls → vx_W p l e R s m args below meth c H1 locs1 (cells + mc) (slots + ms) Q (F0 m pc ls rest) q9)
    (kk : ∀ (u : S) (t : State) (H1 : Heap) (locs1 : List Loc), t.heap = H1 → s.vm.Alike t.vm → post u → B u t → H.size ≤ H1.size → (∀ q : Nat, q < H.size → ¬ A1 q → H1[q]? = H[q]?) → va_S A0 H0 H1 locs1 → W p l e R s m args below meth c H1 locs1 (cells + mc) (slots + ms) Q (F0 m (pc + 3) ls (rest))) : W p l e R s m args below meth c H locs cells slots Q (F0 m pc ls st0) := by
  intro T hT X
  rcases hr T hT X with ⟨v, st₀, t, T', L, h0, X', hL, e1, e2, ⟨⟨u, hv, hp, hb⟩, hF⟩, st⟩ | ⟨q, st₀, t, T', L, E, ce, h0, X', hL, e1, e2, ⟨u, hp, hb, hF⟩, hce, hcv, hcl, st⟩
  · cases hv
    obtain ⟨k1, k2, k3⟩ := vx_keep h0 e1 hS hA hf hL hF
    obtain ⟨t2, a1, b1⟩ := kk u t T'.heap (locs ++ L) e1.symm (by rw [← e2]; exact X'.warmed.alike) hp hb k1 k2 k3 T' rfl X'
    exact ⟨t2, st t2 a1, b1⟩
  · obtain ⟨k1, k2, k3⟩ := vx_keep h0 e1 hS hAX hf hL hF
    obtain ⟨t2, a1, b1⟩ := kx E ce q u t T'.heap (locs ++ L) e1.symm (by rw [← e2]; exact X'.warmed.alike) hp hb k1 k2 k3 (by rw [e1]; exact hce) hcv hcl T' rfl X'
    exact ⟨t2, st.trans a1, b1⟩
/-- caught by the row x of this method's table; the rows ahead don't take it -/
theorem vx_catch {own name : String} {E : String} {ce : Cell} {q : Addr} (hown : s.vm.findClass own = some m.cls) (pre : List ExceptionTableEntry) (x : ExceptionTableEntry) (suf : List ExceptionTableEntry) (hsplit : c.exceptionTable.toList = pre ++ x :: suf)
    (hpass : ∀ z ∈ pre, covers z pc = false ∨ (z.catchType ≠ 0 ∧ ∃ nm : String, (Cond.classLink own z.catchType nm).before args s = true ∧ va_Nc E nm s)) (hx : covers x pc = true) (h0 : x.catchType ≠ 0)
    (hlink : (Cond.classLink own x.catchType name).before args s = true) (hcast : (Cond.castable E name).before args s = true) (hcell : H[q]? = some ce) (hv : ce.vm = .none) (hcl : s.vm.findClass E = some ce.cls)
    (kk : W p l e R s m args below meth c H locs cells slots Q (F0 m x.handlerPc ls [.ref q])) : vx_W p l e R s m args below meth c H locs cells slots Q (F0 m pc ls rest) q := by
  intro T hT X
  have hpl : e.platform.magicAccessors = ({} : Platform).magicAccessors := by rw [X.admits.platform]
  obtain ⟨c3, c4, hc3, hc4, hasg⟩ := Cond.castable_spec hcast
  cases Option.some.inj (hc3.symm.trans hcl)
  obtain ⟨c5, hc5, hcl5⟩ := Cond.classLink_spec hown hlink e.platform hpl
  cases Option.some.inj (hc4.symm.trans hc5)
  obtain ⟨vm', X', st⟩ := X.thenCaughtThrough q (g := F0 m pc ls rest) rfl (Steps.refl _) (by rw [hT]; exact hcell) (by rw [hv]; rfl) (by obtain ⟨k9, h9, -⟩ := Vm.findClass_spec hcl; exact ⟨k9, h9⟩) pre x suf hsplit
    (fun z hz => by
      rcases hpass z hz with h | ⟨hz0, nm, hl1, hn1⟩
      · exact Or.inl h
      · obtain ⟨c6, hc6, hcl6⟩ := Cond.classLink_spec hown hl1 e.platform hpl
        obtain ⟨a8, b8, h1, h2, h3⟩ := hn1
        cases Option.some.inj (h1.symm.trans hcl)
        cases Option.some.inj (h2.symm.trans hc6)
        exact Or.inr ⟨hz0, _, hcl6, h3⟩) hx (Or.inr ⟨h0, c4, hcl5, hasg⟩)
  obtain ⟨t, a1, b1⟩ := kk (T.setVm vm') hT X'
  exact ⟨t, st.trans a1, b1⟩
end Rows
section Ends
variable {p : Program} {l : Launch} {e : Env} {R : Room} {s : State} {m : MethodId} {args : Array Value} {below : List Frame} {meth : Method} {c : Code} {H : Heap} {locs : List Loc} {cells slots : Nat} {Q : State → Prop}
variable {mc ms : Nat} {free : Addr → Prop} {A0 A1 : Nat → Prop} {H0 : Heap} {a : Array Value} {ls : Array Slot} {st0 rest : List Value}
variable {Qc : Array Value → State → Outcome → State → Prop} {XC : String → State → State → Prop}
/-- what a body that may throw owes at its end -/
def vx_MQ (below : List Frame) (Qc : Array Value → State → Outcome → State → Prop) (XC : String → State → State → Prop) (a : Array Value) (s : State) (mc ms : Nat) (free : Addr → Prop) : State → Prop := fun t =>
  ∃ o, t.status = .running ∧ Ended t below o ∧ vx_Q Qc XC mc ms free a s o t
theorem vx_ret {g : JFrame} {mc ms : Nat} (k : W p l e R s m args below meth c H locs cells slots (MQ below Qc args s mc ms free) g) : W p l e R s m args below meth c H locs cells slots (vx_MQ below Qc XC args s mc ms free) g := by
  intro T hT X
  obtain ⟨t, a1, o, b1, b2, b3, b4⟩ := k T hT X
  exact ⟨t, a1, o, b1, b2, Or.inl ⟨b3, b4⟩⟩
/-- not caught here: it goes on to the caller -/
theorem vx_widen {g : JFrame} {q : Addr} {k n : Nat} (h1 : cells ≤ k) (h2 : slots ≤ n) (kk : vx_W p l e R s m args below meth c H locs k n Q g q) : vx_W p l e R s m args below meth c H locs cells slots Q g q := fun T hT X => kk T hT (stand_widen X h1 h2)
theorem vx_out {pc : Nat} {E : String} {ce : Cell} {q : Addr} {mc ms : Nat} (hout : ∀ x ∈ c.exceptionTable.toList, covers x pc = false) (hlocks : meth.locks = false) (hcell : H[q]? = some ce) (hv : ce.vm = .none) (hcl : s.vm.findClass E = some ce.cls)
    (hx : ∀ t : State, t.heap = H → s.vm.Alike t.vm → XC E s t) (hf : ∀ z ∈ locs, free z.base) (hc : cells ≤ mc) (hs : slots ≤ ms) :
    vx_W p l e R s m args below meth c H locs cells slots (vx_MQ below Qc XC args s mc ms free) (F0 m pc ls rest) q := by
  intro T hT X
  obtain ⟨st1, hrun, hend, hW, hsm⟩ := X.leaveThrown q (g := F0 m pc ls rest) rfl rfl rfl hout hlocks
  have hcell9 : (T.setFrames (.throwing q :: below)).heap[q]? = some ce := by
    show T.heap[q]? = some ce
    rw [hT]; exact hcell
  exact ⟨_, st1, .threw q, hrun, hend, Or.inr ⟨q, rfl, E, ce, locs, hx _ hT hW.alike, hcell9, hv, hcl, hW, hsm.mono hc hs, hf⟩⟩
theorem vx_frame {U : State} {k n : Nat} (h : s.sameButNew ({ U with vm := s.vm } : State) locs k n) : s.heap.size ≤ U.heap.size ∧ ∀ q : Nat, q < s.heap.size → (∀ z ∈ locs, z.base ≠ q) → U.heap[q]? = s.heap[q]? := by
  obtain ⟨-, h2, -, -, -, h6⟩ := h
  refine ⟨h2, fun q hq hz => ?_⟩
  obtain ⟨c9, e1, e2, e3, e4⟩ := h6 q _ (Array.getElem?_eq_getElem hq)
  have hs : c9.slots = (s.heap[q]).slots := Array.ext_getElem? fun i => e4 i fun hm => hz _ hm rfl
  have h9 : c9 = s.heap[q] := by
    rw [hs] at e2
    exact e2
  have e5 : U.heap[q]? = some c9 := e1
  rw [e5, h9, Array.getElem?_eq_getElem hq]
/-- the words of a throw but the four that speak of the heap -/
def vx_no (w : Cond) : Bool := decide (w ≠ .isRef (.static Bundle.tN "UNASSIGNED_STACK" Bundle.steD)) && decide (w ≠ .isRef (.static Bundle.tN "SUPPRESSED_SENTINEL" Bundle.listD)) && decide (w ≠ .laysStatic Bundle.tN "UNASSIGNED_STACK" Bundle.steD) && decide (w ≠ .laysStatic Bundle.tN "SUPPRESSED_SENTINEL" Bundle.listD)
def vx_at0 (own : String) (ic : Nat) (X : String) (names : List String) : List Cond := (Bundle.ownAtoms0 own ic X names).filter vx_no
def vx_atS (own : String) (ic : Nat) (X : String) (names : List String) : List Cond := (Bundle.ownAtoms own ic X names).filter vx_no
/-- a word that the tables alone decide, or a good one -/
def vx_ot (w : Cond) : Bool := w.onTables || goodWord w
theorem vx_ot_at {args a' : Array Value} {s U : State} {w : Cond} (hW : s.WarmedH U.vm) (hvm : s.vm = U.vm) (hg : vx_ot w = true) (h : w.before args s = true) : w.before a' U = true := by
  simp only [vx_ot, Bool.or_eq_true] at hg
  rcases hg with hg | hg
  · exact va_tabs hg hvm h
  · exact word_at hW (good_of_word hg) h
/-- a list's words: the good ones out of the method's own list, the others by premises of their own -/
theorem vx_hat {args : Array Value} {s : State} {L B : List Cond} (h1 : ∀ w ∈ L.filter goodWord, w.before args s = true) (h2 : ∀ w ∈ L.filter (fun w => !goodWord w), w ∈ B) (h3 : ∀ w ∈ B, w.before args s = true) : ∀ w ∈ L, w.before args s = true := by
  intro w hw
  by_cases g : goodWord w = true
  · exact h1 w (List.mem_filter.mpr ⟨hw, g⟩)
  · refine h3 w (h2 w (List.mem_filter.mpr ⟨hw, ?_⟩))
    show (!goodWord w) = true
    cases hgw : goodWord w
    · rfl
    · exact absurd hgw g
theorem vx_c {args : Array Value} {s : State} {w : Cond} {B : List Cond} (h : w.before args s = true) (t : ∀ w ∈ B, w.before args s = true) : ∀ w' ∈ w :: B, w'.before args s = true := fun w' h' => (List.mem_cons.mp h').elim (fun e => by rw [e]; exact h) (t w')
theorem vx_n {args : Array Value} {s : State} : ∀ w ∈ ([] : List Cond), w.before args s = true := fun _ h => nomatch h
theorem vx_own {args : Array Value} {s : State} {L : List Cond} (h1 : ∀ w ∈ L.filter vx_no, w.before args s = true)
    (hU : (Cond.isRef (.static Bundle.tN "UNASSIGNED_STACK" Bundle.steD)).before args s = true) (hN : (Cond.isRef (.static Bundle.tN "SUPPRESSED_SENTINEL" Bundle.listD)).before args s = true)
    (lU : (Cond.laysStatic Bundle.tN "UNASSIGNED_STACK" Bundle.steD).before args s = true) (lN : (Cond.laysStatic Bundle.tN "SUPPRESSED_SENTINEL" Bundle.listD).before args s = true) : ∀ w ∈ L, w.before args s = true := by
  intro w hw
  by_cases e1 : w = .isRef (.static Bundle.tN "UNASSIGNED_STACK" Bundle.steD)
  · rw [e1]; exact hU
  · by_cases e2 : w = .isRef (.static Bundle.tN "SUPPRESSED_SENTINEL" Bundle.listD)
    · rw [e2]; exact hN
    · by_cases e3 : w = .laysStatic Bundle.tN "UNASSIGNED_STACK" Bundle.steD
      · rw [e3]; exact lU
      · by_cases e4 : w = .laysStatic Bundle.tN "SUPPRESSED_SENTINEL" Bundle.listD
        · rw [e4]; exact lN
        · exact h1 w (List.mem_filter.mpr ⟨hw, by unfold vx_no; rw [decide_eq_true e1, decide_eq_true e2, decide_eq_true e3, decide_eq_true e4]; rfl⟩)
/-- where a static field lies, its class's statics cell in H -/
def vx_L (C n d : String) (A : Nat → Prop) (U : State) (H : Heap) : Prop := ∃ (c : ClassId) (k : Class) (i : Nat) (f : Field) (a : Nat) (cell : Cell), U.vm.findClass C = some c ∧ U.fieldFound? C n d = some (c, k, i, f) ∧ f.isStatic = true ∧ k.statics = some a ∧ H[a]? = some cell ∧ cell.vm.isStatics = true ∧ cell.cls = c ∧ f.slot < cell.slots.size ∧ k.staticTypes[f.slot]? = some f.type ∧ ¬ A a
theorem vx_L.moved {C n d : String} {A : Nat → Prop} {u U : State} {H : Heap} (hvm : u.vm.Alike U.vm) (h : vx_L C n d A u H) : vx_L C n d A U H := by
  obtain ⟨c, k, i, f, a, cell, h1, h2, h3, h4, h5, h6, h7, h8, h9, h10⟩ := h
  obtain ⟨k', hi', he⟩ := State.fieldFound?_setVm hvm h2
  exact ⟨c, k', i, f, a, cell, by rw [hvm.findClass]; exact h1, hi', h3, by rw [he]; exact h4, h5, h6, h7, h8, by rw [he]; exact h9, h10⟩
theorem vx_L.kept {C n d : String} {A : Nat → Prop} {U : State} {H H1 : Heap} (h : vx_L C n d A U H) (hq : ∀ a : Nat, a < H.size → ¬ A a → H1[a]? = H[a]?) : vx_L C n d A U H1 := by
  obtain ⟨c, k, i, f, a, cell, h1, h2, h3, h4, h5, h6, h7, h8, h9, h10⟩ := h
  exact ⟨c, k, i, f, a, cell, h1, h2, h3, h4, by rw [hq a (Array.getElem?_eq_some_iff.mp h5).1 h10]; exact h5, h6, h7, h8, h9, h10⟩
theorem vx_L.narrow {C n d : String} {A B : Nat → Prop} {U : State} {H : Heap} (h : vx_L C n d A U H) (hAB : ∀ q, B q → A q) : vx_L C n d B U H := by
  obtain ⟨c, k, i, f, a, cell, h1, h2, h3, h4, h5, h6, h7, h8, h9, h10⟩ := h
  exact ⟨c, k, i, f, a, cell, h1, h2, h3, h4, h5, h6, h7, h8, h9, fun z => h10 (hAB _ z)⟩
theorem vx_L.word {C n d : String} {A : Nat → Prop} {s : State} {args : Array Value} (h : vx_L C n d A s s.heap) : (Cond.laysStatic C n d).before args s = true := by
  obtain ⟨c, k, i, f, a, cell, h1, h2, h3, h4, h5, h6, h7, h8, h9, -⟩ := h
  show (Cond.laysStatic C n d).holds args s none s [] = true
  exact Cond.laysStatic_of h1 h2 h3 h4 h5 h6 h7 h8 h9
/-- .. and what it holds: null or some reference -/
def vx_Zq (C n d : String) (A : Nat → Prop) (U : State) (H : Heap) : Prop := va_Zq C n d A U H ∧ vx_L C n d A U H
theorem vx_Zq.moved {C n d : String} {A : Nat → Prop} {u U : State} {H : Heap} (hvm : u.vm.Alike U.vm) (h : vx_Zq C n d A u H) : vx_Zq C n d A U H := ⟨va_Zq.moved hvm h.1, vx_L.moved hvm h.2⟩
theorem vx_Zq.kept {C n d : String} {A : Nat → Prop} {U : State} {H H1 : Heap} (h : vx_Zq C n d A U H) (hq : ∀ a : Nat, a < H.size → ¬ A a → H1[a]? = H[a]?) : vx_Zq C n d A U H1 := ⟨va_Zq.kept h.1 hq, vx_L.kept h.2 hq⟩
theorem vx_Zq.narrow {C n d : String} {A B : Nat → Prop} {U : State} {H : Heap} (h : vx_Zq C n d A U H) (hAB : ∀ q, B q → A q) : vx_Zq C n d B U H := ⟨va_Zq.narrow h.1 hAB, vx_L.narrow h.2 hAB⟩
theorem vx_Zqof {args : Array Value} {s : State} {C n d : String} {A : Nat → Prop} (hl : (Cond.laysStatic C n d).before args s = true) (hini : (Cond.initialized C).before args s = true) (h : (Cond.isRef (.static C n d)).before args s = true) (hA : ∀ a : Nat, a < s.heap.size → ¬ A a) : vx_Zq C n d A s s.heap := by
  refine ⟨va_Zqof hl hini h hA, ?_⟩
  obtain ⟨c, k, i, f, a, cell, h1, h2, h3, h4, h5, h6, h7, h8, h9⟩ := Cond.laysStatic_spec hl
  exact ⟨c, k, i, f, a, cell, h1, h2, h3, h4, h5, h6, h7, h8, h9, hA a (Array.getElem?_eq_some_iff.mp h5).1⟩
theorem vx_isRef {C n d : String} {v : Value} {A : Nat → Prop} {s : State} {args : Array Value} (h : va_Z C n d v A s s.heap) (hv : v.isRef = true) : (Cond.isRef (.static C n d)).before args s = true := by
  obtain ⟨cf, kf, fi, f, a, cell, h1, h2, h3, h4, h5, h6, h7, -⟩ := h
  have he : (Term.static C n d).eval args s none [] s = some v := by
    simp [Term.eval, State.fieldNamed?, h1, h2, h4, h5, h6, h7]
  simp only [Cond.before, Cond.holds, Cond.value, he]
  cases v <;> simp_all [Value.isRef]
theorem vx_isRefq {C n d : String} {A : Nat → Prop} {s : State} {args : Array Value} (h : va_Zq C n d A s s.heap) : (Cond.isRef (.static C n d)).before args s = true := by
  rcases h with h | ⟨t, h⟩
  · exact vx_isRef h rfl
  · exact vx_isRef h rfl
/-- the same frame, seen from here: as if the method were called anew in this heap -/
theorem vx_rebase {T : State} (X : Stand p l e R s m args below meth c T locs cells slots) {R' : Room} (hf : R'.frames ≤ R.frames) (hl : R'.locals ≤ R.locals) (hc : cells + R'.cells ≤ R.cells) (hs : slots + R'.slots ≤ R.slots) :
    Stand p l e R' ((T.setVm s.vm).setFrames (.invoking m args :: below)) m args below meth c T [] 0 0 := by
  have htop : (T.setVm s.vm).topJava?.isSome := X.here.top
  have hF : ((T.setVm s.vm).setFrames (.invoking m args :: below)).frames = .invoking m args :: below := State.frames_setFrames _ (State.cur_lt_of_top htop)
  obtain ⟨g₀, hg0⟩ := Option.isSome_iff_exists.mp htop
  obtain ⟨r, hr⟩ := State.topJava?_eq_some.mp hg0
  have hl9 : e.platform.stackLimits (T.setVm s.vm).me = e.platform.stackLimits s.me := X.limits
  have hb9 : (T.setVm s.vm).me.stackBytes = s.me.stackBytes := X.bytes
  refine ⟨X.admits, X.cas, X.clock, hF, ?_, X.hears, X.method, X.code, X.here, X.tail, X.warmed, ?_, ?_, ?_⟩
  · have h := X.room
    have hU : ((T.setVm s.vm).setFrames (.invoking m args :: below)).localsInUse = s.localsInUse := by
      rw [State.localsInUse_invoking hF (meth := meth) (c := c) X.method X.code, State.localsInUse_invoking X.frames X.method X.code]
    simp only [State.hasRoom, Bool.and_eq_true, decide_eq_true_eq] at h ⊢
    obtain ⟨⟨⟨⟨h1, h2, h3, h4, h5, h6⟩, h7⟩, h8⟩, h9⟩ := h
    rw [X.frames, List.length_cons] at h2 h3
    have q1 := X.heapSize
    have q2 := X.used
    simp only [hF, hU, List.length_cons, State.stackLimits_setFrames, State.stackBytes_setFrames, hl9, hb9]
    refine ⟨⟨⟨⟨by omega, by omega, by omega, by omega, by omega, h6⟩, ?_⟩, ?_⟩, X.book⟩
    · show T.heap.size + R'.cells ≤ e.platform.maxCells
      omega
    · show T.slotsUsed + R'.slots ≤ e.platform.maxSlots
      omega
  · rw [State.stackLimits_setFrames]; rfl
  · rw [State.stackBytes_setFrames]; rfl
  · refine ⟨?_, Nat.le_refl _, Nat.le_refl _, ?_, ?_, fun a c9 h9 => ⟨c9, h9, rfl, rfl, fun _ _ => rfl⟩⟩
    · obtain ⟨t, ht, -⟩ := State.frames_cons hr
      show T.setVm s.vm = { ((T.setVm s.vm).setFrames (.invoking m args :: below)).setFrames (T.setVm s.vm).frames with heap := T.heap, slotsUsed := T.slotsUsed }
      rw [State.setFrames_setFrames, State.setFrames_self ht]
      rfl
    · show T.slotsUsed = T.slotsUsed + ((T.heap.toList.drop T.heap.size).map (·.slots.size)).sum
      rw [List.drop_eq_nil_of_le (Nat.le_of_eq Array.length_toList)]
      rfl
    · show ((T.heap.toList.drop T.heap.size).map (·.slots.size)).sum ≤ 0
      rw [List.drop_eq_nil_of_le (Nat.le_of_eq Array.length_toList)]
      exact Nat.le_refl _
/-- 'throw new E()': new; dup; invokespecial; athrow -/
theorem vx_throw0 {cc : ByteArray} {pc : Nat} (hexec : p.tables.exec = Jvm.exec) (hb : c.code = cc) (hl : l.stackTraces = false) {own cls : String} {names : List String} {ik ic mc ms : Nat} {A : Nat → Prop}
    (hown : s.vm.findClass own = some m.cls) (hcls : Bundle.fit cls = true) (hnames : ∀ n ∈ names, Bundle.fit n = true)
    (hk : (Cond.classLink own ik cls).before args s = true) (hini : (Cond.initialized cls).before args s = true) (hat : ∀ w ∈ vx_at0 own ic cls names, w.before args s = true)
    (hgood : ∀ w ∈ Cond.classLink own ik cls :: Cond.initialized cls :: vx_at0 own ic cls names, vx_ot w = true)
    (hU : vx_Zq Bundle.tN "UNASSIGNED_STACK" Bundle.steD A s s.heap) (hN : vx_Zq Bundle.tN "SUPPRESSED_SENTINEL" Bundle.listD A s s.heap) (hS : va_S A s.heap H locs) (hsize : ls.size = c.maxLocals)
    (d0 : decode cc pc = .ok (.new ik, 3)) (d3 : decode cc (pc + 3) = .ok (.dup, 1)) (d4 : decode cc (pc + 4) = .ok (.invokespecial ic, 3)) (d7 : decode cc (pc + 7) = .ok (.athrow, 1))
    (hout : ∀ x ∈ c.exceptionTable.toList, covers x (pc + 7) = false)
    (hRframes : names.length + 3 < R.frames) (hRlocals : (rest.map fun v => v.category).sum + (13 * (names.length + 1) + 42) ≤ R.locals) (hRcells : cells + 1 ≤ R.cells) (hRslots : slots + 6 ≤ R.slots) (hlocks : meth.locks = false)
    (hx : ∀ t : State, s.vm.Alike t.vm → H.size ≤ t.heap.size → (∀ q : Nat, q < H.size → t.heap[q]? = H[q]?) → XC cls s t)
    (hf : ∀ z ∈ locs, free z.base) (hc : cells + 1 ≤ mc) (hs : slots + 6 ≤ ms) :
    W p l e R s m args below meth c H locs cells slots (vx_MQ below Qc XC args s mc ms free) (F0 m pc ls rest) := by
  intro T hT X
  have htr : e.platform.stackTraces = false := (show e.platform.stackTraces = l.stackTraces by rw [X.admits.platform]).trans hl
  have Y := vx_rebase X (R' := { frames := R.frames, locals := R.locals, cells := 1, slots := 6 }) (Nat.le_refl _) (Nat.le_refl _) hRcells hRslots
  obtain ⟨s', hA⟩ : ∃ z, z = (T.setVm s.vm).setFrames (.invoking m args :: below) := ⟨_, rfl⟩
  rw [← hA] at Y
  have hvm : s'.vm = s.vm := by rw [hA]; rfl
  have hhp : s'.heap = H := by rw [hA]; exact hT
  have hW0 : s.WarmedH s'.vm := by rw [hvm]; exact State.WarmedH.refl s
  have hat' : ∀ w ∈ vx_at0 own ic cls names, w.before args s' = true := fun w hw => vx_ot_at hW0 hvm.symm (hgood w (List.mem_cons_of_mem _ (List.mem_cons_of_mem _ hw))) (hat w hw)
  have hk' : (Cond.classLink own ik cls).before args s' = true := vx_ot_at hW0 hvm.symm (hgood _ List.mem_cons_self) hk
  have hini' : (Cond.initialized cls).before args s' = true := vx_ot_at hW0 hvm.symm (hgood _ (List.mem_cons_of_mem _ List.mem_cons_self)) hini
  have hU' : vx_Zq Bundle.tN "UNASSIGNED_STACK" Bundle.steD A s' s'.heap := by rw [hhp]; exact vx_Zq.moved hW0.alike (hU.kept hS.2.1)
  have hN' : vx_Zq Bundle.tN "SUPPRESSED_SENTINEL" Bundle.listD A s' s'.heap := by rw [hhp]; exact vx_Zq.moved hW0.alike (hN.kept hS.2.1)
  have h : ∀ w ∈ Bundle.ownAtoms0 own ic cls names, w.before args s' = true := vx_own hat' (vx_isRefq hU'.1) (vx_isRefq hN'.1) hU'.2.word hN'.2.word
  have hown' : s'.vm.findClass own = some m.cls := by rw [hvm]; exact hown
  have hins : (Cond.instantiable cls 6).before args s' = true := h _ (by simp [Bundle.ownAtoms0])
  obtain ⟨vm₁, cX, kX, hfX, hkX, -, -, X₁, st1⟩ := Y.newCold hexec (own := own) (C := cls) (index := ik) (n := 6) hown' hk' hins hini'
    (g := F0 m pc ls rest) rfl (by rw [hb]; exact d0) (Nat.le_refl _) (Nat.le_refl _)
  generalize hT1 : (T.setVm vm₁).pushCell { cls := cX, slots := kX.instanceTypes.map defaultValue, vm := .none } = T1 at X₁ st1
  have hcat : (Value.ref T.heap.size).category = 1 := rfl
  have hcellA : T1.heap[T.heap.size]? = some (freshCell cX kX) := by rw [← hT1]; exact State.heap_pushCell_size _ _
  have d3' : decode c.code (pc + 3) = .ok (.dup, 1) := by rw [hb]; exact d3
  obtain ⟨U, hsteps, hrun, hend, hW, hsame, ce, hce, hO⟩ := X₁.ctorThrow0 hexec htr (own := own) (cls := cls) (names := names) (ic := ic) hown' hcls hnames h (fun x hx => nomatch hx) hfX hkX hcellA (by rw [hhp, hT]; exact Nat.le_refl _)
    (g := { method := m, pc := pc + 4, locals := ls, stack := .ref T.heap.size :: .ref T.heap.size :: rest, locked := none }) rfl hsize rfl rfl (rest := rest) rfl
    (by rw [hb]; exact d4) (by rw [hb]; exact d7) hout hRframes (by simp only [List.map_cons, List.sum_cons, hcat]; omega) hlocks
  obtain ⟨f1, f2⟩ := vx_frame hsame
  rw [hhp] at f1 f2
  have hWs : s.WarmedH U.vm := State.WarmedH.trans hW0 hW
  have hcl : s.vm.findClass cls = some ce.cls := by
    have h9 := hO.cls
    rw [hvm] at h9
    exact h9
  have hall : s.sameButNew ({ U with vm := s.vm } : State) locs mc ms := by
    subst hA
    obtain ⟨e1, e2⟩ := hsame
    rw [State.setFrames_setFrames] at e1
    have h2 : (T.setVm s.vm).sameButNew ({ U with vm := s.vm } : State) [] (0 + 1) (0 + 6) := ⟨e1, e2⟩
    have h3 := X.same.trans h2
    rw [List.append_nil] at h3
    exact h3.mono hc hs
  refine ⟨U, ?_, .threw T.heap.size, hrun, hend, Or.inr ⟨T.heap.size, rfl, cls, ce, locs, hx U hWs.alike f1 (fun q hq => f2 q hq (fun z hz => nomatch hz)), hce, hO.vm, hcl, hWs, hall, hf⟩⟩
  refine st1 _ ?_
  show Steps p.tables e below (T1.setTop { method := m, pc := pc + 3, locals := ls, stack := .ref T.heap.size :: rest, locked := none }) _
  jvm_step X₁.here [X₁.here.top, hexec, d3', Value.category]
  exact hsteps
/-- 'throw new E("text")': new; dup; ldc; invokespecial; athrow -/
theorem vx_throwS {cc : ByteArray} {pc : Nat} (hexec : p.tables.exec = Jvm.exec) (hb : c.code = cc) (hl : l.stackTraces = false) {own cls text : String} {names : List String} {ik is ic mc ms sa : Nat} {A : Nat → Prop}
    (hown : s.vm.findClass own = some m.cls) (hcls : Bundle.fit cls = true) (hnames : ∀ n ∈ names, Bundle.fit n = true)
    (hk : (Cond.classLink own ik cls).before args s = true) (hini : (Cond.initialized cls).before args s = true) (hstr : vk_R own is text sa s) (hat : ∀ w ∈ vx_atS own ic cls names, w.before args s = true)
    (hgood : ∀ w ∈ Cond.classLink own ik cls :: Cond.initialized cls :: vx_atS own ic cls names, vx_ot w = true)
    (hU : vx_Zq Bundle.tN "UNASSIGNED_STACK" Bundle.steD A s s.heap) (hN : vx_Zq Bundle.tN "SUPPRESSED_SENTINEL" Bundle.listD A s s.heap) (hS : va_S A s.heap H locs) (hsize : ls.size = c.maxLocals)
    (d0 : decode cc pc = .ok (.new ik, 3)) (d3 : decode cc (pc + 3) = .ok (.dup, 1)) (d4 : decode cc (pc + 4) = .ok (.ldc is, 2)) (d6 : decode cc (pc + 6) = .ok (.invokespecial ic, 3)) (d9 : decode cc (pc + 9) = .ok (.athrow, 1))
    (hout : ∀ x ∈ c.exceptionTable.toList, covers x (pc + 9) = false)
    (hRframes : names.length + 3 < R.frames) (hRlocals : (rest.map fun v => v.category).sum + (13 * (names.length + 1) + 43) ≤ R.locals) (hRcells : cells + 1 ≤ R.cells) (hRslots : slots + 6 ≤ R.slots) (hlocks : meth.locks = false)
    (hx : ∀ t : State, s.vm.Alike t.vm → H.size ≤ t.heap.size → (∀ q : Nat, q < H.size → t.heap[q]? = H[q]?) → XC cls s t)
    (hf : ∀ z ∈ locs, free z.base) (hc : cells + 1 ≤ mc) (hs : slots + 6 ≤ ms) :
    W p l e R s m args below meth c H locs cells slots (vx_MQ below Qc XC args s mc ms free) (F0 m pc ls rest) := by
  intro T hT X
  have htr : e.platform.stackTraces = false := (show e.platform.stackTraces = l.stackTraces by rw [X.admits.platform]).trans hl
  have Y := vx_rebase X (R' := { frames := R.frames, locals := R.locals, cells := 1, slots := 6 }) (Nat.le_refl _) (Nat.le_refl _) hRcells hRslots
  obtain ⟨s', hA⟩ : ∃ z, z = (T.setVm s.vm).setFrames (.invoking m args :: below) := ⟨_, rfl⟩
  rw [← hA] at Y
  have hvm : s'.vm = s.vm := by rw [hA]; rfl
  have hhp : s'.heap = H := by rw [hA]; exact hT
  have hW0 : s.WarmedH s'.vm := by rw [hvm]; exact State.WarmedH.refl s
  have hat' : ∀ w ∈ vx_atS own ic cls names, w.before args s' = true := fun w hw => vx_ot_at hW0 hvm.symm (hgood w (List.mem_cons_of_mem _ (List.mem_cons_of_mem _ hw))) (hat w hw)
  have hk' : (Cond.classLink own ik cls).before args s' = true := vx_ot_at hW0 hvm.symm (hgood _ List.mem_cons_self) hk
  have hini' : (Cond.initialized cls).before args s' = true := vx_ot_at hW0 hvm.symm (hgood _ (List.mem_cons_of_mem _ List.mem_cons_self)) hini
  have hU' : vx_Zq Bundle.tN "UNASSIGNED_STACK" Bundle.steD A s' s'.heap := by rw [hhp]; exact vx_Zq.moved hW0.alike (hU.kept hS.2.1)
  have hN' : vx_Zq Bundle.tN "SUPPRESSED_SENTINEL" Bundle.listD A s' s'.heap := by rw [hhp]; exact vx_Zq.moved hW0.alike (hN.kept hS.2.1)
  have h : ∀ w ∈ Bundle.ownAtoms own ic cls names, w.before args s' = true := vx_own hat' (vx_isRefq hU'.1) (vx_isRefq hN'.1) hU'.2.word hN'.2.word
  have hown' : s'.vm.findClass own = some m.cls := by rw [hvm]; exact hown
  have hins : (Cond.instantiable cls 6).before args s' = true := h _ (by simp [Bundle.ownAtoms])
  obtain ⟨vm₁, cX, kX, hfX, hkX, -, -, X₁, st1⟩ := Y.newCold hexec (own := own) (C := cls) (index := ik) (n := 6) hown' hk' hins hini'
    (g := F0 m pc ls rest) rfl (by rw [hb]; exact d0) (Nat.le_refl _) (Nat.le_refl _)
  generalize hT1 : (T.setVm vm₁).pushCell { cls := cX, slots := kX.instanceTypes.map defaultValue, vm := .none } = T1 at X₁ st1
  have hcat : (Value.ref T.heap.size).category = 1 := rfl
  have hcellA : T1.heap[T.heap.size]? = some (freshCell cX kX) := by rw [← hT1]; exact State.heap_pushCell_size _ _
  have d3' : decode c.code (pc + 3) = .ok (.dup, 1) := by rw [hb]; exact d3
  have d4' : decode c.code (pc + 4) = .ok (.ldc is, 2) := by rw [hb]; exact d4
  have hstr' : vk_R own is text sa s' := vk_R.warm hW0 hstr
  obtain ⟨U, hsteps, hrun, hend, hW, hsame, ce, hce, hO⟩ := X₁.ctorThrowS hexec htr (own := own) (cls := cls) (names := names) (ic := ic) hown' hcls hnames h (fun x hx => nomatch hx) hfX hkX hcellA (by rw [hhp, hT]; exact Nat.le_refl _) (msg := .ref sa) rfl
    (g := { method := m, pc := pc + 6, locals := ls, stack := .ref sa :: .ref T.heap.size :: .ref T.heap.size :: rest, locked := none }) rfl hsize rfl rfl (rest := rest) rfl
    (by rw [hb]; exact d6) (by rw [hb]; exact d9) hout hRframes (by simp only [List.map_cons, List.sum_cons, hcat]; omega) hlocks
  obtain ⟨f1, f2⟩ := vx_frame hsame
  rw [hhp] at f1 f2
  have hWs : s.WarmedH U.vm := State.WarmedH.trans hW0 hW
  have hcl : s.vm.findClass cls = some ce.cls := by
    have h9 := hO.cls
    rw [hvm] at h9
    exact h9
  have hall : s.sameButNew ({ U with vm := s.vm } : State) locs mc ms := by
    subst hA
    obtain ⟨e1, e2⟩ := hsame
    rw [State.setFrames_setFrames] at e1
    have h2 : (T.setVm s.vm).sameButNew ({ U with vm := s.vm } : State) [] (0 + 1) (0 + 6) := ⟨e1, e2⟩
    have h3 := X.same.trans h2
    rw [List.append_nil] at h3
    exact h3.mono hc hs
  refine ⟨U, ?_, .threw T.heap.size, hrun, hend, Or.inr ⟨T.heap.size, rfl, cls, ce, locs, hx U hWs.alike f1 (fun q hq => f2 q hq (fun z hz => nomatch hz)), hce, hO.vm, hcl, hWs, hall, hf⟩⟩
  refine st1 _ ?_
  show Steps p.tables e below (T1.setTop { method := m, pc := pc + 3, locals := ls, stack := .ref T.heap.size :: rest, locked := none }) _
  jvm_step X₁.here [X₁.here.top, hexec, d3', Value.category]
  exact X₁.ldcString hexec (own := own) (text := text) (index := is) (a := sa) hown' hstr'.1 hstr'.2
    (g := { method := m, pc := pc + 4, locals := ls, stack := .ref T.heap.size :: .ref T.heap.size :: rest, locked := none }) rfl d4' _ hsteps
/-- 'throw new E("text")', the text by a wide index -/
theorem vx_throwSW {cc : ByteArray} {pc : Nat} (hexec : p.tables.exec = Jvm.exec) (hb : c.code = cc) (hl : l.stackTraces = false) {own cls text : String} {names : List String} {ik is ic mc ms sa : Nat} {A : Nat → Prop}
    (hown : s.vm.findClass own = some m.cls) (hcls : Bundle.fit cls = true) (hnames : ∀ n ∈ names, Bundle.fit n = true)
    (hk : (Cond.classLink own ik cls).before args s = true) (hini : (Cond.initialized cls).before args s = true) (hstr : vk_R own is text sa s) (hat : ∀ w ∈ vx_atS own ic cls names, w.before args s = true)
    (hgood : ∀ w ∈ Cond.classLink own ik cls :: Cond.initialized cls :: vx_atS own ic cls names, vx_ot w = true)
    (hU : vx_Zq Bundle.tN "UNASSIGNED_STACK" Bundle.steD A s s.heap) (hN : vx_Zq Bundle.tN "SUPPRESSED_SENTINEL" Bundle.listD A s s.heap) (hS : va_S A s.heap H locs) (hsize : ls.size = c.maxLocals)
    (d0 : decode cc pc = .ok (.new ik, 3)) (d3 : decode cc (pc + 3) = .ok (.dup, 1)) (d4 : decode cc (pc + 4) = .ok (.ldc_w is, 3)) (d7 : decode cc (pc + 7) = .ok (.invokespecial ic, 3)) (d10 : decode cc (pc + 10) = .ok (.athrow, 1))
    (hout : ∀ x ∈ c.exceptionTable.toList, covers x (pc + 10) = false)
    (hRframes : names.length + 3 < R.frames) (hRlocals : (rest.map fun v => v.category).sum + (13 * (names.length + 1) + 43) ≤ R.locals) (hRcells : cells + 1 ≤ R.cells) (hRslots : slots + 6 ≤ R.slots) (hlocks : meth.locks = false)
    (hx : ∀ t : State, s.vm.Alike t.vm → H.size ≤ t.heap.size → (∀ q : Nat, q < H.size → t.heap[q]? = H[q]?) → XC cls s t)
    (hf : ∀ z ∈ locs, free z.base) (hc : cells + 1 ≤ mc) (hs : slots + 6 ≤ ms) :
    W p l e R s m args below meth c H locs cells slots (vx_MQ below Qc XC args s mc ms free) (F0 m pc ls rest) := by
  intro T hT X
  have htr : e.platform.stackTraces = false := (show e.platform.stackTraces = l.stackTraces by rw [X.admits.platform]).trans hl
  have Y := vx_rebase X (R' := { frames := R.frames, locals := R.locals, cells := 1, slots := 6 }) (Nat.le_refl _) (Nat.le_refl _) hRcells hRslots
  obtain ⟨s', hA⟩ : ∃ z, z = (T.setVm s.vm).setFrames (.invoking m args :: below) := ⟨_, rfl⟩
  rw [← hA] at Y
  have hvm : s'.vm = s.vm := by rw [hA]; rfl
  have hhp : s'.heap = H := by rw [hA]; exact hT
  have hW0 : s.WarmedH s'.vm := by rw [hvm]; exact State.WarmedH.refl s
  have hat' : ∀ w ∈ vx_atS own ic cls names, w.before args s' = true := fun w hw => vx_ot_at hW0 hvm.symm (hgood w (List.mem_cons_of_mem _ (List.mem_cons_of_mem _ hw))) (hat w hw)
  have hk' : (Cond.classLink own ik cls).before args s' = true := vx_ot_at hW0 hvm.symm (hgood _ List.mem_cons_self) hk
  have hini' : (Cond.initialized cls).before args s' = true := vx_ot_at hW0 hvm.symm (hgood _ (List.mem_cons_of_mem _ List.mem_cons_self)) hini
  have hU' : vx_Zq Bundle.tN "UNASSIGNED_STACK" Bundle.steD A s' s'.heap := by rw [hhp]; exact vx_Zq.moved hW0.alike (hU.kept hS.2.1)
  have hN' : vx_Zq Bundle.tN "SUPPRESSED_SENTINEL" Bundle.listD A s' s'.heap := by rw [hhp]; exact vx_Zq.moved hW0.alike (hN.kept hS.2.1)
  have h : ∀ w ∈ Bundle.ownAtoms own ic cls names, w.before args s' = true := vx_own hat' (vx_isRefq hU'.1) (vx_isRefq hN'.1) hU'.2.word hN'.2.word
  have hown' : s'.vm.findClass own = some m.cls := by rw [hvm]; exact hown
  have hins : (Cond.instantiable cls 6).before args s' = true := h _ (by simp [Bundle.ownAtoms])
  obtain ⟨vm₁, cX, kX, hfX, hkX, -, -, X₁, st1⟩ := Y.newCold hexec (own := own) (C := cls) (index := ik) (n := 6) hown' hk' hins hini'
    (g := F0 m pc ls rest) rfl (by rw [hb]; exact d0) (Nat.le_refl _) (Nat.le_refl _)
  generalize hT1 : (T.setVm vm₁).pushCell { cls := cX, slots := kX.instanceTypes.map defaultValue, vm := .none } = T1 at X₁ st1
  have hcat : (Value.ref T.heap.size).category = 1 := rfl
  have hcellA : T1.heap[T.heap.size]? = some (freshCell cX kX) := by rw [← hT1]; exact State.heap_pushCell_size _ _
  have d3' : decode c.code (pc + 3) = .ok (.dup, 1) := by rw [hb]; exact d3
  have d4' : decode c.code (pc + 4) = .ok (.ldc_w is, 3) := by rw [hb]; exact d4
  have hstr' : vk_R own is text sa s' := vk_R.warm hW0 hstr
  obtain ⟨U, hsteps, hrun, hend, hW, hsame, ce, hce, hO⟩ := X₁.ctorThrowS hexec htr (own := own) (cls := cls) (names := names) (ic := ic) hown' hcls hnames h (fun x hx => nomatch hx) hfX hkX hcellA (by rw [hhp, hT]; exact Nat.le_refl _) (msg := .ref sa) rfl
    (g := { method := m, pc := pc + 7, locals := ls, stack := .ref sa :: .ref T.heap.size :: .ref T.heap.size :: rest, locked := none }) rfl hsize rfl rfl (rest := rest) rfl
    (by rw [hb]; exact d7) (by rw [hb]; exact d10) hout hRframes (by simp only [List.map_cons, List.sum_cons, hcat]; omega) hlocks
  obtain ⟨f1, f2⟩ := vx_frame hsame
  rw [hhp] at f1 f2
  have hWs : s.WarmedH U.vm := State.WarmedH.trans hW0 hW
  have hcl : s.vm.findClass cls = some ce.cls := by
    have h9 := hO.cls
    rw [hvm] at h9
    exact h9
  have hall : s.sameButNew ({ U with vm := s.vm } : State) locs mc ms := by
    subst hA
    obtain ⟨e1, e2⟩ := hsame
    rw [State.setFrames_setFrames] at e1
    have h2 : (T.setVm s.vm).sameButNew ({ U with vm := s.vm } : State) [] (0 + 1) (0 + 6) := ⟨e1, e2⟩
    have h3 := X.same.trans h2
    rw [List.append_nil] at h3
    exact h3.mono hc hs
  refine ⟨U, ?_, .threw T.heap.size, hrun, hend, Or.inr ⟨T.heap.size, rfl, cls, ce, locs, hx U hWs.alike f1 (fun q hq => f2 q hq (fun z hz => nomatch hz)), hce, hO.vm, hcl, hWs, hall, hf⟩⟩
  refine st1 _ ?_
  show Steps p.tables e below (T1.setTop { method := m, pc := pc + 3, locals := ls, stack := .ref T.heap.size :: rest, locked := none }) _
  jvm_step X₁.here [X₁.here.top, hexec, d3', Value.category]
  exact X₁.ldcStringW hexec (own := own) (text := text) (index := is) (a := sa) hown' hstr'.1 hstr'.2
    (g := { method := m, pc := pc + 4, locals := ls, stack := .ref T.heap.size :: .ref T.heap.size :: rest, locked := none }) rfl d4' _ hsteps
end Ends
section Bodies
variable {l : Launch}
theorem vx_ofW {y : MethodName} {ws ws' : List Cond} {rm : Room} {Pc : Array Value → State → Prop} {Qc : Array Value → State → Outcome → State → Prop} {XC : String → State → State → Prop} {mc ms : Nat} {free : Addr → Prop} {cc : ByteArray} {maxL : Nat} {ret : Option FieldType}
    (hy : plainName y.cls = true) (hw : ws = Cond.code y cc maxL ret :: ws')
    (body : ∀ p e s m args below meth c s₁, BodyLoose p l y (headSpec ws rm) cc maxL ret e s m args below meth c s₁ → c.maxLocals = maxL → (∀ x ∈ c.exceptionTable.toList, False) → Pc args s →
      W p l e (headSpec ws rm).room s m args below meth c s.heap [] 0 0 (vx_MQ below Qc XC args s mc ms free) (entryFrame m args maxL)) : vx_Met l y ws rm Pc Qc XC mc ms free := by
  refine MetFree.of_bodyS (code := cc) (maxLocals := maxL) (ret := ret) hy ?_ ?_
  · intro args s m h hn
    obtain ⟨meth, c, h1, h2, h3, h4, h5, h6, -, -⟩ := Cond.code_spec hn (atoms_spec (ws := ws) h _ (by rw [hw]; exact List.mem_cons_self))
    exact ⟨meth, c, h1, h2, h3, h4, h5, h6⟩
  · intro p e s m args below meth c s₁ B hml hP _
    have hh0 : s₁.heap = s.heap := by rw [B.state]; rfl
    have ht : ∀ x ∈ c.exceptionTable.toList, False := by
      obtain ⟨meth9, c9, h1, h2, -, -, -, -, h7, -⟩ := Cond.code_spec B.named (atoms_spec (ws := ws) B.pre _ (by rw [hw]; exact List.mem_cons_self))
      cases Option.some.inj (h1.symm.trans B.method)
      cases Option.some.inj (h2.symm.trans (Stand.of_body B).code)
      intro x hx
      rw [Array.isEmpty_iff.mp h7] at hx
      cases hx
    obtain ⟨t, a1, o, b1, b2, b3⟩ := body p e s m args below meth c s₁ B hml ht hP s₁ hh0 (Stand.of_body B)
    exact ⟨t, o, a1, b1, b2, b3⟩
/-- the table of a body with handlers -/
theorem vx_table {p : Program} {x y : MethodName} {S : Spec} {cc bytes : ByteArray} {maxL maxL' : Nat} {ret ret' : Option FieldType} {e : Env} {s s₁ : State} {m : MethodId} {args : Array Value} {below : List Frame} {meth : Method} {c : Code} {hh : List (Nat × Nat × Nat × Nat)}
    (B : BodyLoose p l y S cc maxL ret e s m args below meth c s₁) (h : (Cond.codeWith y bytes maxL' ret' hh).before args s = true) : c.exceptionTable.toList = tableOf hh := by
  obtain ⟨m9, meth9, c9, hn9, h1, h2, -, -, h6, -⟩ := Cond.codeWith_spec h
  cases Option.some.inj (hn9.symm.trans B.named)
  cases Option.some.inj (h1.symm.trans B.method)
  cases Option.some.inj (h2.symm.trans (Stand.of_body B).code)
  rw [← h6, table_eq]
end Bodies
end VXA
/-! ===== END ===== -/
/-! ===== BEGIN a static call of a method with an exception table ===== -/
section VXS
variable {p : Program} {l : Launch} {e : Env} {R : Room} {s : State} {m : MethodId} {args : Array Value} {below : List Frame} {meth : Method} {c : Code} {T : State} {H : Heap} {locs : List Loc} {cells slots : Nat}
abbrev vx_CSW (R : Room) (s : State) (args : Array Value) (own : String) (index : Nat) (y : MethodName) (bytes : ByteArray) (maxL : Nat) (ret : Option FieldType) (hh : List (Nat × Nat × Nat × Nat)) (ws : List Cond) (rm : Room) (mc ms n : Nat) : Prop :=
  (rm.cells = mc ∧ rm.slots = ms ∧ rm.frames + 1 ≤ R.frames ∧ 8 + (maxL + 11) + rm.locals ≤ R.locals ∧ (∀ w ∈ ws, ∀ (a' : Array Value) (U : State), s.WarmedH U.vm → w.before a' U = true) ∧ Cond.codeWith y bytes maxL ret hh ∈ ws) ∧
  (Cond.codeWith y bytes maxL ret hh).before args s = true ∧ (Cond.initialized y.cls).before args s = true ∧ (y.cls ≠ "java/lang/invoke/MethodHandle" ∧ y.cls ≠ "java/lang/invoke/VarHandle") ∧
  (∀ sig, parseMethodDescriptor y.desc = some sig → n = sig.parameters.length) ∧ (Cond.methodLink own index y).before args s = true ∧ (Cond.static y).before args s = true
theorem vx_cwSW {own : String} {index maxL mc ms : Nat} {y : MethodName} {bytes : ByteArray} {ret : Option FieldType} {hh : List (Nat × Nat × Nat × Nat)} {Ts ws ws' : List Cond} {rm : Room} (n : Nat) (ht : ∀ w ∈ Ts, w.before args s = true) (hT : GoodIn Ts (va_wsS own index y ws)) (hw : ws = Cond.codeWith y bytes maxL ret hh :: ws') (hrc : rm.cells = mc) (hrs : rm.slots = ms)
    (hd : y.cls ≠ "java/lang/invoke/MethodHandle" ∧ y.cls ≠ "java/lang/invoke/VarHandle" ∧ (parseMethodDescriptor y.desc).map (fun d => d.parameters.length) = some n) (hR : rm.frames + 1 ≤ R.frames ∧ 8 + (maxL + 11) + rm.locals ≤ R.locals) :
    vx_CSW R s args own index y bytes maxL ret hh ws rm mc ms n := by
  have ok : ∀ w ∈ va_wsS own index y ws, w.before args s = true := fun w h => ht w (hT w h).1
  have hG : GoodIn Ts ws := fun w h => hT w (by unfold va_wsS; exact List.mem_append_right _ h)
  have hc : Cond.codeWith y bytes maxL ret hh ∈ ws := by rw [hw]; exact List.mem_cons_self
  refine ⟨⟨hrc, hrs, hR.1, hR.2, pay_in ht hG, hc⟩, ht _ (hG _ hc).1, ok _ (by simp [va_wsS]), ⟨hd.1, hd.2.1⟩, fun sig h => ?_, ok _ (by simp [va_wsS]), ok _ (by simp [va_wsS])⟩
  have h2 := hd.2.2
  rw [h] at h2
  exact (Option.some.inj h2).symm
theorem vx_callSW (X : Stand p l e R s m args below meth c T locs cells slots) (hexec : p.tables.exec = Jvm.exec) {own : String} {index : Nat} {y : MethodName} {bytes : ByteArray} {maxL : Nat} {ret : Option FieldType} {hh : List (Nat × Nat × Nat × Nat)}
    (hown : s.vm.findClass own = some m.cls) (hlink : (Cond.methodLink own index y).before args s = true) (hstat : (Cond.static y).before args s = true) (hinit : (Cond.initialized y.cls).before args s = true)
    (hcode : (Cond.codeWith y bytes maxL ret hh).before args s = true) (hy : y.cls ≠ "java/lang/invoke/MethodHandle" ∧ y.cls ≠ "java/lang/invoke/VarHandle")
    {W9 : Nat} {Pre : Pt → Array Value → Prop} {Post : Pt → Array Value → Option Value → Pt → Prop} (hK : Back l R p e below s args y 3 W9 Pre Post)
    {g : JFrame} (hg : g.method = m) (hsize : g.locals.size = c.maxLocals) {argsL rest : List Value} (hlen : ∀ sig, parseMethodDescriptor y.desc = some sig → argsL.length = sig.parameters.length)
    (hstack : g.stack = argsL.reverse ++ rest) (hW : 2 * g.monitorRoom + (rest.map fun v => v.category).sum ≤ W9) (hdg : decode c.code g.pc = .ok (.invokestatic index, 3))
    (hpre : ∀ vm₁, s.WarmedH vm₁ → Pre ⟨T.setVm vm₁, locs, cells, slots⟩ argsL.toArray) :
    ∃ (v : Option Value) (vm₁ : Vm) (B : Pt), s.WarmedH vm₁ ∧ Stand p l e R s m args below meth c B.U B.locs B.cells B.slots ∧ Post ⟨T.setVm vm₁, locs, cells, slots⟩ argsL.toArray v B ∧
      ∀ target, Steps p.tables e below (B.U.setTop { g with pc := g.pc + 3, stack := v.toList ++ rest }) target → Steps p.tables e below (T.setTop g) target := by
  obtain ⟨mk, methM, cM, hnamed, hmethM, -, -, -, -, -, -, hsigM⟩ := Cond.codeWith_spec hcode
  have hstatic : methM.isStatic = true := Cond.static_spec hnamed hmethM hstat
  obtain ⟨kP, hkP, -⟩ := className_of_methodNamed hnamed
  have hinitP : kP.init = .initialized := Cond.initialized_spec (findClass_of_methodNamed hnamed) hkP hinit
  obtain ⟨vm₁, X₁, hstep₁⟩ := X.invokestatic hexec hown hlink hnamed hmethM hstatic hkP hinitP hy (g := g) hg (argsL := argsL) (rest := rest) (hlen _ hsigM) hstack hdg
  obtain ⟨v, B, X', hpost, hsteps⟩ := hK m meth c ⟨T.setVm vm₁, locs, cells, slots⟩ { g with stack := rest } (.invokestatic index) mk argsL.toArray X₁ hg hsize hdg hW (X₁.named hnamed) (hpre vm₁ X₁.warmed)
  exact ⟨v, vm₁, B, X₁.warmed, X', hpost, fun target h => hstep₁ _ fun acts => by rw [doInvoke_state]; exact hsteps.trans h⟩
theorem vx_runSW {y : MethodName} {bytes cc : ByteArray} {maxL nL mc ms n index : Nat} {ret : Option FieldType} {hh : List (Nat × Nat × Nat × Nat)} {ws : List Cond} {rm : Room} {Pc : Array Value → State → Prop} {Qc : Array Value → State → Outcome → State → Prop} {free : Addr → Prop} {Ts : List Cond} {own : String} {As rest : List Value} {g : JFrame}
    (S : CallFix p m c cc nL s args Ts own) (hM : Met l y ws rm Pc Qc mc ms free) (cw : vx_CSW R s args own index y bytes maxL ret hh ws rm mc ms n) (hp : PreS s H Pc As)
    (hg : g.method = m) (hn : As.length = n) (hsize : g.locals.size = nL) (hstack : g.stack = As.reverse ++ rest) (hW : 2 * g.monitorRoom + (rest.map fun v => v.category).sum ≤ 8) (hdg : decode cc g.pc = .ok (.invokestatic index, 3)) (hf : cells + mc ≤ R.cells ∧ slots + ms ≤ R.slots) :
    va_Run p l e R s m args below meth c H locs cells slots mc ms g rest (Qc As.toArray) (free) := by
  obtain ⟨⟨hrc, hrs, hfr, hlo, hws, hcw⟩, hcode, hini, hy, hlen, hl, hstt⟩ := cw
  have hK : Back l R p e below s args y 3 8 (PreOf R mc ms Pc) (PostOf Qc mc ms free) := va_backW (hh := hh) (bytes := bytes) (maxL := maxL) (ret := ret) hM hp.1 hrc hrs hfr hlo hws hcw (fun a' U hW => word_at hW (Or.inl (by first | rfl | simp [Cond.onTables, Cond.keeps, Cond.steady])) hini)
  obtain ⟨hx, hb, hml, ho, -⟩ := S
  intro T hT X
  obtain ⟨v, vm₁, ⟨U', l2, c2, s2⟩, hW₁, X', ⟨g', mk, t, L, e1, e2, hq, h1, hL, h2, h3⟩, st⟩ := vx_callSW X hx (hh := hh) (bytes := bytes) (maxL := maxL) (ret := ret) ho hl hstt hini hcode hy hK hg (hsize.trans hml.symm) (argsL := As) (rest := rest) (fun sig h => hn.trans (hlen sig h)) hstack hW (by rw [hb]; exact hdg)
    (fun vm₁ hW₁ => ⟨hf.1, hf.2, hp.2 (T.setVm vm₁) hT hW₁⟩)
  dsimp only [Pt.U, Pt.locs, Pt.cells, Pt.slots] at X' e1 e2 h1 h2 h3 st
  subst h1; subst h2; subst h3
  exact ⟨v, (T.setVm vm₁).calling g' mk As.toArray, t, U', L, hT, X', hL, e1, e2, hq, st⟩
/-- not caught here, past rows that name other classes: it goes on to the caller -/
theorem vx_outP {p : Program} {l : Launch} {e : Env} {R : Room} {s : State} {m : MethodId} {args : Array Value} {below : List Frame} {meth : Method} {c : Code} {H : Heap} {locs : List Loc} {cells slots : Nat} {free : Addr → Prop} {ls : Array Slot} {rest : List Value} {Qc : Array Value → State → Outcome → State → Prop} {XC : String → State → State → Prop}
    {pc : Nat} {own E : String} {ce : Cell} {q : Addr} {mc ms : Nat} (hown : s.vm.findClass own = some m.cls) (hlocks : meth.locks = false)
    (hpass : ∀ z ∈ c.exceptionTable.toList, covers z pc = false ∨ (z.catchType ≠ 0 ∧ ∃ nm : String, (Cond.classLink own z.catchType nm).before args s = true ∧ va_Nc E nm s)) (hcell : H[q]? = some ce) (hv : ce.vm = .none) (hcl : s.vm.findClass E = some ce.cls)
    (hx : ∀ t : State, t.heap = H → s.vm.Alike t.vm → XC E s t) (hf : ∀ z ∈ locs, free z.base) (hc : cells ≤ mc) (hs : slots ≤ ms) :
    vx_W p l e R s m args below meth c H locs cells slots (vx_MQ below Qc XC args s mc ms free) (F0 m pc ls rest) q := by
  intro T hT X
  have hpl : e.platform.magicAccessors = ({} : Platform).magicAccessors := by rw [X.admits.platform]
  obtain ⟨vm', hW', X', st⟩ := X.outThrough hlocks q (g := F0 m pc ls rest) rfl rfl rfl (cell := ce) (by rw [hT]; exact hcell) (by rw [hv]; rfl)
    (by obtain ⟨k9, h9, -⟩ := Vm.findClass_spec hcl; exact ⟨k9, h9⟩) (fun z hz => by
      rcases hpass z hz with h | ⟨hz0, nm, hl1, hn1⟩
      · exact Or.inl h
      · obtain ⟨c6, hc6, hcl6⟩ := Cond.classLink_spec hown hl1 e.platform hpl
        obtain ⟨a8, b8, h1, h2, h3⟩ := hn1
        cases Option.some.inj (h1.symm.trans hcl)
        cases Option.some.inj (h2.symm.trans hc6)
        exact Or.inr ⟨hz0, _, hcl6, h3⟩)
  obtain ⟨g₀, hfr⟩ := X'.frames_eq
  have hcell9 : ((T.setVm vm').setFrames (.throwing q :: below)).heap[q]? = some ce := by
    show T.heap[q]? = some ce
    rw [hT]; exact hcell
  have hend : Ended ((T.setVm vm').setFrames (.throwing q :: below)) below (.threw q) := State.frames_setFrames _ (State.cur_lt_of_frames hfr)
  refine ⟨(T.setVm vm').setFrames (.throwing q :: below), ?_, .threw q, X'.here.running, hend, Or.inr ⟨q, rfl, E, ce, locs, hx _ hT (X'.ends _).1.alike, hcell9, hv, hcl, (X'.ends _).1, (X'.ends _).2.mono hc hs, hf⟩⟩
  rw [X.pushThrowing_eq]
  exact st
/-- a thing of a world lies in the heap -/
theorem vx_lt {D : va_G} {cl : List vw_C} {ws : va_W} {H1 : Heap} (h : va_P D cl ws H1) {k : Nat} {q : Nat × va_E} (hk : ws[k]? = some q) : q.1 < H1.size := (h k q hk).lt
end VXS
/-! ===== END ===== -/
/-! ===== BEGIN methods with a table of their own: called by a name, returning or throwing ===== -/
section VXH
/-! vx_backW, vx_callVX, vx_callSX, vx_callVW, vx_runVW, vx_runVX, vx_runSX, vx_ofWH follow the same proofs as their sisters above (Free/Laws.lean, Shelf42/LK1.lean); vx_outP calls Shelf42/NT130.lean (outThrough). -/
section
variable {l : Launch} {R : Room} {p : Program} {e : Env} {below : List Frame} {s : State} {sargs : Array Value} {y : MethodName} {len W9 : Nat}
theorem vx_backW {ws : List Cond} {rm : Room} {Pc : Array Value → State → Prop} {Qc : Array Value → State → Outcome → State → Prop} {XC : String → State → State → Prop} {mc ms : Nat} {free : Addr → Prop} {bytes : ByteArray} {maxL : Nat} {ret : Option FieldType} {hh : List (Nat × Nat × Nat × Nat)}
    (hM : vx_Met l y ws rm Pc Qc XC mc ms free) (hblind : FrameBlind Pc) (hrc : rm.cells = mc) (hrs : rm.slots = ms)
    (hframes : rm.frames + 1 ≤ R.frames) (hlocals : W9 + (maxL + 11) + rm.locals ≤ R.locals)
    (hws : ∀ w ∈ ws, ∀ a' U, s.WarmedH U.vm → w.before a' U = true) (hcode : Cond.codeWith y bytes maxL ret hh ∈ ws) (hinit : ∀ a' U, s.WarmedH U.vm → (Cond.initialized y.cls).before a' U = true) :
    vx_Back l R p e below s sargs y len W9 (PreOf R mc ms Pc) (PostOf Qc mc ms free) (vx_Post XC mc ms free) := by
  intro m meth c A g ig mk a X hg hsize hdg hW hn hp
  have h1 : (headSpec ws rm).pre.before a A.U = true := atoms_intro fun w hw => hws w hw _ _ X.warmed
  have h2 : (Cond.codeWith y bytes maxL ret hh).before a A.U = true := hws _ hcode _ _ X.warmed
  have h3 : (Cond.initialized y.cls).before a A.U = true := hinit _ _ X.warmed
  have h4 : A.cells + (headSpec ws rm).room.cells ≤ R.cells := by rw [show (headSpec ws rm).room.cells = mc from hrc]; exact hp.1
  have h5 : A.slots + (headSpec ws rm).room.slots ≤ R.slots := by rw [show (headSpec ws rm).room.slots = ms from hrs]; exact hp.2.1
  have hPc : Pc a (A.U.calling g mk a) := hblind _ _ _ _ hp.2.2
  obtain ⟨U, Ls, c0, s0⟩ := A
  dsimp only [Pt.U, Pt.locs, Pt.cells, Pt.slots] at h1 h2 h3 h4 h5 X hn hPc ⊢
  obtain ⟨m9, methY, cY, hn9, hmY, hcY, -, hlY, -⟩ := Cond.codeWith_spec h2
  cases Option.some.inj (hn9.symm.trans hn)
  obtain ⟨kY, hkY, -⟩ := className_of_methodNamed hn
  have hinitY : kY.init = .initialized := Cond.initialized_spec (findClass_of_methodNamed hn) hkY h3
  have h : At U g.method c below := by rw [hg]; exact X.here
  have hlocals9 : W9 + (maxL + 11) + (headSpec ws rm).room.locals ≤ R.locals := hlocals
  have happ : (headSpec ws rm).appliesLoose y e.platform (U.calling g mk a) = true :=
    Spec.appliesLoose_calling (g := g) h hdg hn hkY hinitY
      (X.room_calling (g := g) (R' := (headSpec ws rm).room) hsize hmY hcY hframes (by rw [hlY]; omega) h4 h5) h1
  obtain ⟨mid, hmid⟩ := h.above
  have hfr : (U.setTop g).frames = (.java g :: mid) ++ below := by rw [State.frames_setTop' g h.top, hmid]; rfl
  obtain ⟨o, s₂, hsteps, -, hend, hq⟩ := Steps.callFree hM p X.admits X.cas X.clock (acts := []) hfr happ hPc trivial
  have hq' : vx_Q Qc XC mc ms free a (U.calling g mk a) o s₂ := hq
  rw [State.frames_setTop' g h.top] at hend
  obtain ⟨g₀, hg0⟩ := Option.isSome_iff_exists.mp h.top
  obtain ⟨r, hr⟩ := State.topJava?_eq_some.mp hg0
  have hr' : (({ U with heap := s₂.heap, slotsUsed := s₂.slotsUsed } : State).setVm s₂.vm).frames = .java g₀ :: r := hr
  rcases hq' with ⟨hqc, L, hfe, hL⟩ | ⟨q, rfl, E, ce, L, hx, hce, hcv, hcl, hW₂, hsm, hL⟩
  · obtain ⟨⟨v, rfl⟩, hW₂, e2, q2, q3, q4, q5, q6⟩ := id hfe
    have e3 : s₂ = ({ (U.calling g mk a).setFrames s₂.frames with heap := s₂.heap, slotsUsed := s₂.slotsUsed } : State).setVm s₂.vm := by
      have : s₂ = ({ s₂ with vm := (U.calling g mk a).vm } : State).setVm s₂.vm := rfl
      rw [e2] at this
      exact this
    obtain ⟨c₂, i₂, len₂, hc₂, hd₂, hf₂⟩ := hend
    have hW' : U.WarmedH s₂.vm := hW₂
    have hcc : c₂ = c := by
      have h1 : s₂.code? g.method = U.code? g.method := by
        rw [State.code?_eq, State.code?_eq, hW'.alike.method?]
      exact Option.some.inj (hc₂.symm.trans (h1.trans h.code))
    subst hcc
    have hlen : len₂ = len := by rw [hdg] at hd₂; cases hd₂; rfl
    subst hlen
    have hs₂ : s₂ = (({ U with heap := s₂.heap, slotsUsed := s₂.slotsUsed } : State).setVm s₂.vm).setTop { g with pc := g.pc + len₂, stack := v.toList ++ g.stack } := by
      refine e3.trans ?_
      rw [hf₂, State.calling_eq h.top, State.setFrames_setFrames, State.setTop_of_frames _ hr', hr]
      rfl
    have hsame : U.sameButNew ({ U with heap := s₂.heap, slotsUsed := s₂.slotsUsed } : State) L mc ms := by
      refine ⟨?_, q2, q3, q4, q5, q6⟩
      obtain ⟨t, ht, -⟩ := State.frames_cons hr
      show ({ U with heap := s₂.heap, slotsUsed := s₂.slotsUsed } : State) = { U.setFrames U.frames with heap := s₂.heap, slotsUsed := s₂.slotsUsed }
      rw [State.setFrames_self ht]
    subst hg
    refine Or.inl ⟨v, ⟨(({ U with heap := s₂.heap, slotsUsed := s₂.slotsUsed } : State).setVm s₂.vm), Ls ++ L, c0 + mc, s0 + ms⟩,
      ⟨X.admits, X.cas, X.clock, X.frames, X.room, X.hears, X.method, X.code, (X.here.setHeapUsed s₂.heap s₂.slotsUsed).setVm hW'.alike, X.tail, State.WarmedH.trans X.warmed hW', X.limits, X.bytes, X.same.trans (hsame.setVm s.vm)⟩,
      ⟨g, mk, s₂, L, rfl, rfl, hqc, rfl, hL, rfl, rfl⟩, ?_⟩
    show Steps p.tables e below _ ((({ U with heap := s₂.heap, slotsUsed := s₂.slotsUsed } : State).setVm s₂.vm).setTop { g with pc := g.pc + len₂, stack := v.toList ++ g.stack })
    rw [← hs₂]
    exact hsteps
  · obtain ⟨e2, q2, q3, q4, q5, q6⟩ := id hsm
    have e3 : s₂ = ({ (U.calling g mk a).setFrames s₂.frames with heap := s₂.heap, slotsUsed := s₂.slotsUsed } : State).setVm s₂.vm := by
      have : s₂ = ({ s₂ with vm := (U.calling g mk a).vm } : State).setVm s₂.vm := rfl
      rw [e2] at this
      exact this
    have hf₂ : s₂.frames = .throwing q :: .java g :: U.frames.tail := hend
    have hW' : U.WarmedH s₂.vm := hW₂
    have hs₂ : s₂ = ((({ U with heap := s₂.heap, slotsUsed := s₂.slotsUsed } : State).setVm s₂.vm).setTop g).pushFrame (.throwing q) := by
      refine e3.trans ?_
      rw [hf₂, State.calling_eq h.top, State.setFrames_setFrames, State.pushFrame, State.frames_setTop _ hr', State.setTop_of_frames _ hr', State.setFrames_setFrames, hr]
      rfl
    have hsame : U.sameButNew ({ U with heap := s₂.heap, slotsUsed := s₂.slotsUsed } : State) L mc ms := by
      refine ⟨?_, q2, q3, q4, q5, q6⟩
      obtain ⟨t, ht, -⟩ := State.frames_cons hr
      show ({ U with heap := s₂.heap, slotsUsed := s₂.slotsUsed } : State) = { U.setFrames U.frames with heap := s₂.heap, slotsUsed := s₂.slotsUsed }
      rw [State.setFrames_self ht]
    subst hg
    refine Or.inr ⟨q, ⟨(({ U with heap := s₂.heap, slotsUsed := s₂.slotsUsed } : State).setVm s₂.vm), Ls ++ L, c0 + mc, s0 + ms⟩,
      ⟨X.admits, X.cas, X.clock, X.frames, X.room, X.hears, X.method, X.code, (X.here.setHeapUsed s₂.heap s₂.slotsUsed).setVm hW'.alike, X.tail, State.WarmedH.trans X.warmed hW', X.limits, X.bytes, X.same.trans (hsame.setVm s.vm)⟩,
      ⟨g, mk, s₂, L, E, ce, rfl, rfl, hx, hce, hcv, hcl, rfl, hL, rfl, rfl⟩, ?_⟩
    show Steps p.tables e below _ (((({ U with heap := s₂.heap, slotsUsed := s₂.slotsUsed } : State).setVm s₂.vm).setTop g).pushFrame (.throwing q))
    rw [← hs₂]
    exact hsteps
end
variable {p : Program} {l : Launch} {e : Env} {R : Room} {s : State} {m : MethodId} {args : Array Value} {below : List Frame} {meth : Method} {c : Code} {T : State} {H : Heap} {locs : List Loc} {cells slots : Nat}
theorem vx_callVX (X : Stand p l e R s m args below meth c T locs cells slots) (hexec : p.tables.exec = Jvm.exec) {own C : String} {index : Nat} {y : MethodName} {bytes : ByteArray} {maxL : Nat} {ret : Option FieldType} {hh : List (Nat × Nat × Nat × Nat)}
    (hown : s.vm.findClass own = some m.cls) (hlink : (Cond.methodLink own index y).before args s = true) (hinst : (Cond.instanceMethod y).before args s = true) (hsel : (Cond.selects C y y).before args s = true)
    (hcode : (Cond.codeWith y bytes maxL ret hh).before args s = true) (hy : y.cls ≠ "java/lang/invoke/MethodHandle" ∧ y.cls ≠ "java/lang/invoke/VarHandle")
    {W9 : Nat} {Pre : Pt → Array Value → Prop} {Post : Pt → Array Value → Option Value → Pt → Prop} {PostX : Pt → Array Value → Addr → Pt → Prop} (hK : vx_Back l R p e below s args y 3 W9 Pre Post PostX)
    {b : Addr} {cellB : Cell} (hcell : T.heap[b]? = some cellB) (hobj : cellB.vm.isStatics = false) (hcls : s.vm.findClass C = some cellB.cls)
    {g : JFrame} (hg : g.method = m) (hsize : g.locals.size = c.maxLocals) {argsL rest : List Value} (hlen : ∀ sig, parseMethodDescriptor y.desc = some sig → argsL.length = sig.parameters.length)
    (hstack : g.stack = argsL.reverse ++ .ref b :: rest) (hW : 2 * g.monitorRoom + (rest.map fun v => v.category).sum ≤ W9) (hdg : decode c.code g.pc = .ok (.invokevirtual index, 3))
    (hpre : ∀ vm₁, s.WarmedH vm₁ → Pre ⟨T.setVm vm₁, locs, cells, slots⟩ (Value.ref b :: argsL).toArray) :
    (∃ (v : Option Value) (vm₁ : Vm) (B : Pt), s.WarmedH vm₁ ∧ Stand p l e R s m args below meth c B.U B.locs B.cells B.slots ∧ Post ⟨T.setVm vm₁, locs, cells, slots⟩ (Value.ref b :: argsL).toArray v B ∧
      ∀ target, Steps p.tables e below (B.U.setTop { g with pc := g.pc + 3, stack := v.toList ++ rest }) target → Steps p.tables e below (T.setTop g) target) ∨
    (∃ (q : Addr) (vm₁ : Vm) (B : Pt), s.WarmedH vm₁ ∧ Stand p l e R s m args below meth c B.U B.locs B.cells B.slots ∧ PostX ⟨T.setVm vm₁, locs, cells, slots⟩ (Value.ref b :: argsL).toArray q B ∧
      Steps p.tables e below (T.setTop g) ((B.U.setTop { g with stack := rest }).pushFrame (.throwing q))) := by
  obtain ⟨mk, methM, hnamed, hmethM, hstM, habM⟩ := Cond.instanceMethod_spec hinst
  obtain ⟨m8, methM', cM, hn8, hmethM', -, -, -, -, -, -, hsigM⟩ := Cond.codeWith_spec hcode
  cases Option.some.inj (hn8.symm.trans hnamed)
  cases hmethM.symm.trans hmethM'
  obtain ⟨c2, r2, m2, q1, q2, q3, q4, kP, hkP, hkPi⟩ := Cond.selects_spec hsel
  cases hcls.symm.trans q1
  cases (State.methodFound?_of_named hnamed hy).symm.trans q2
  cases hnamed.symm.trans q3
  have hselP : selectMethod e.platform s.vm cellB.cls mk = .method mk := by rw [Launch.admits_selectMethod X.admits]; exact q4
  obtain ⟨vm₁, X₁, hstep₁⟩ := X.invokevirtual hexec hown hlink hnamed hmethM hstM hkP hkPi hy (a := b) (cell := cellB) hcell
    (fun z h => by rw [h] at hobj; cases hobj) hselP hmethM habM hkP hkPi (g := g) hg (argsL := argsL) (rest := rest) (hlen _ hsigM) hstack hdg
  rcases hK m meth c ⟨T.setVm vm₁, locs, cells, slots⟩ { g with stack := rest } (.invokevirtual index) mk (Value.ref b :: argsL).toArray X₁ hg hsize hdg hW (X₁.named hnamed) (hpre vm₁ X₁.warmed) with ⟨v, B, X', hpost, hsteps⟩ | ⟨q, B, X', hpost, hsteps⟩
  · exact Or.inl ⟨v, vm₁, B, X₁.warmed, X', hpost, fun target h => hstep₁ _ fun acts => by rw [doInvoke_state]; exact hsteps.trans h⟩
  · exact Or.inr ⟨q, vm₁, B, X₁.warmed, X', hpost, hstep₁ _ fun acts => by rw [doInvoke_state]; exact hsteps⟩
theorem vx_callSX (X : Stand p l e R s m args below meth c T locs cells slots) (hexec : p.tables.exec = Jvm.exec) {own : String} {index : Nat} {y : MethodName} {bytes : ByteArray} {maxL : Nat} {ret : Option FieldType} {hh : List (Nat × Nat × Nat × Nat)}
    (hown : s.vm.findClass own = some m.cls) (hlink : (Cond.methodLink own index y).before args s = true) (hstat : (Cond.static y).before args s = true) (hinit : (Cond.initialized y.cls).before args s = true)
    (hcode : (Cond.codeWith y bytes maxL ret hh).before args s = true) (hy : y.cls ≠ "java/lang/invoke/MethodHandle" ∧ y.cls ≠ "java/lang/invoke/VarHandle")
    {W9 : Nat} {Pre : Pt → Array Value → Prop} {Post : Pt → Array Value → Option Value → Pt → Prop} {PostX : Pt → Array Value → Addr → Pt → Prop} (hK : vx_Back l R p e below s args y 3 W9 Pre Post PostX)
    {g : JFrame} (hg : g.method = m) (hsize : g.locals.size = c.maxLocals) {argsL rest : List Value} (hlen : ∀ sig, parseMethodDescriptor y.desc = some sig → argsL.length = sig.parameters.length)
    (hstack : g.stack = argsL.reverse ++ rest) (hW : 2 * g.monitorRoom + (rest.map fun v => v.category).sum ≤ W9) (hdg : decode c.code g.pc = .ok (.invokestatic index, 3))
    (hpre : ∀ vm₁, s.WarmedH vm₁ → Pre ⟨T.setVm vm₁, locs, cells, slots⟩ argsL.toArray) :
    (∃ (v : Option Value) (vm₁ : Vm) (B : Pt), s.WarmedH vm₁ ∧ Stand p l e R s m args below meth c B.U B.locs B.cells B.slots ∧ Post ⟨T.setVm vm₁, locs, cells, slots⟩ argsL.toArray v B ∧
      ∀ target, Steps p.tables e below (B.U.setTop { g with pc := g.pc + 3, stack := v.toList ++ rest }) target → Steps p.tables e below (T.setTop g) target) ∨
    (∃ (q : Addr) (vm₁ : Vm) (B : Pt), s.WarmedH vm₁ ∧ Stand p l e R s m args below meth c B.U B.locs B.cells B.slots ∧ PostX ⟨T.setVm vm₁, locs, cells, slots⟩ argsL.toArray q B ∧
      Steps p.tables e below (T.setTop g) ((B.U.setTop { g with stack := rest }).pushFrame (.throwing q))) := by
  obtain ⟨mk, methM, cM, hnamed, hmethM, -, -, -, -, -, -, hsigM⟩ := Cond.codeWith_spec hcode
  have hstatic : methM.isStatic = true := Cond.static_spec hnamed hmethM hstat
  obtain ⟨kP, hkP, -⟩ := className_of_methodNamed hnamed
  have hinitP : kP.init = .initialized := Cond.initialized_spec (findClass_of_methodNamed hnamed) hkP hinit
  obtain ⟨vm₁, X₁, hstep₁⟩ := X.invokestatic hexec hown hlink hnamed hmethM hstatic hkP hinitP hy (g := g) hg (argsL := argsL) (rest := rest) (hlen _ hsigM) hstack hdg
  rcases hK m meth c ⟨T.setVm vm₁, locs, cells, slots⟩ { g with stack := rest } (.invokestatic index) mk argsL.toArray X₁ hg hsize hdg hW (X₁.named hnamed) (hpre vm₁ X₁.warmed) with ⟨v, B, X', hpost, hsteps⟩ | ⟨q, B, X', hpost, hsteps⟩
  · exact Or.inl ⟨v, vm₁, B, X₁.warmed, X', hpost, fun target h => hstep₁ _ fun acts => by rw [doInvoke_state]; exact hsteps.trans h⟩
  · exact Or.inr ⟨q, vm₁, B, X₁.warmed, X', hpost, hstep₁ _ fun acts => by rw [doInvoke_state]; exact hsteps⟩
theorem vx_callVW (X : Stand p l e R s m args below meth c T locs cells slots) (hexec : p.tables.exec = Jvm.exec) {own C : String} {index : Nat} {y : MethodName} {bytes : ByteArray} {maxL : Nat} {ret : Option FieldType} {hh : List (Nat × Nat × Nat × Nat)}
    (hown : s.vm.findClass own = some m.cls) (hlink : (Cond.methodLink own index y).before args s = true) (hinst : (Cond.instanceMethod y).before args s = true) (hsel : (Cond.selects C y y).before args s = true)
    (hcode : (Cond.codeWith y bytes maxL ret hh).before args s = true) (hy : y.cls ≠ "java/lang/invoke/MethodHandle" ∧ y.cls ≠ "java/lang/invoke/VarHandle")
    {W9 : Nat} {Pre : Pt → Array Value → Prop} {Post : Pt → Array Value → Option Value → Pt → Prop} (hK : Back l R p e below s args y 3 W9 Pre Post)
    {b : Addr} {cellB : Cell} (hcell : T.heap[b]? = some cellB) (hobj : cellB.vm.isStatics = false) (hcls : s.vm.findClass C = some cellB.cls)
    {g : JFrame} (hg : g.method = m) (hsize : g.locals.size = c.maxLocals) {argsL rest : List Value} (hlen : ∀ sig, parseMethodDescriptor y.desc = some sig → argsL.length = sig.parameters.length)
    (hstack : g.stack = argsL.reverse ++ .ref b :: rest) (hW : 2 * g.monitorRoom + (rest.map fun v => v.category).sum ≤ W9) (hdg : decode c.code g.pc = .ok (.invokevirtual index, 3))
    (hpre : ∀ vm₁, s.WarmedH vm₁ → Pre ⟨T.setVm vm₁, locs, cells, slots⟩ (Value.ref b :: argsL).toArray) :
    ∃ (v : Option Value) (vm₁ : Vm) (B : Pt), s.WarmedH vm₁ ∧ Stand p l e R s m args below meth c B.U B.locs B.cells B.slots ∧ Post ⟨T.setVm vm₁, locs, cells, slots⟩ (Value.ref b :: argsL).toArray v B ∧
      ∀ target, Steps p.tables e below (B.U.setTop { g with pc := g.pc + 3, stack := v.toList ++ rest }) target → Steps p.tables e below (T.setTop g) target := by
  obtain ⟨mk, methM, hnamed, hmethM, hstM, habM⟩ := Cond.instanceMethod_spec hinst
  obtain ⟨m8, methM', cM, hn8, hmethM', -, -, -, -, -, -, hsigM⟩ := Cond.codeWith_spec hcode
  cases Option.some.inj (hn8.symm.trans hnamed)
  cases hmethM.symm.trans hmethM'
  obtain ⟨c2, r2, m2, q1, q2, q3, q4, kP, hkP, hkPi⟩ := Cond.selects_spec hsel
  cases hcls.symm.trans q1
  cases (State.methodFound?_of_named hnamed hy).symm.trans q2
  cases hnamed.symm.trans q3
  have hselP : selectMethod e.platform s.vm cellB.cls mk = .method mk := by rw [Launch.admits_selectMethod X.admits]; exact q4
  obtain ⟨vm₁, X₁, hstep₁⟩ := X.invokevirtual hexec hown hlink hnamed hmethM hstM hkP hkPi hy (a := b) (cell := cellB) hcell
    (fun z h => by rw [h] at hobj; cases hobj) hselP hmethM habM hkP hkPi (g := g) hg (argsL := argsL) (rest := rest) (hlen _ hsigM) hstack hdg
  obtain ⟨v, B, X', hpost, hsteps⟩ := hK m meth c ⟨T.setVm vm₁, locs, cells, slots⟩ { g with stack := rest } (.invokevirtual index) mk (Value.ref b :: argsL).toArray X₁ hg hsize hdg hW (X₁.named hnamed) (hpre vm₁ X₁.warmed)
  exact ⟨v, vm₁, B, X₁.warmed, X', hpost, fun target h => hstep₁ _ fun acts => by rw [doInvoke_state]; exact hsteps.trans h⟩
abbrev vx_CVW (R : Room) (s : State) (args : Array Value) (own C : String) (index : Nat) (y : MethodName) (bytes : ByteArray) (maxL : Nat) (ret : Option FieldType) (hh : List (Nat × Nat × Nat × Nat)) (ws : List Cond) (rm : Room) (mc ms n : Nat) : Prop :=
  (rm.cells = mc ∧ rm.slots = ms ∧ rm.frames + 1 ≤ R.frames ∧ 8 + (maxL + 11) + rm.locals ≤ R.locals ∧ (∀ w ∈ ws, ∀ (a' : Array Value) (U : State), s.WarmedH U.vm → w.before a' U = true) ∧ Cond.codeWith y bytes maxL ret hh ∈ ws) ∧
  (Cond.codeWith y bytes maxL ret hh).before args s = true ∧ (Cond.initialized y.cls).before args s = true ∧ (y.cls ≠ "java/lang/invoke/MethodHandle" ∧ y.cls ≠ "java/lang/invoke/VarHandle") ∧
  (∀ sig, parseMethodDescriptor y.desc = some sig → n = sig.parameters.length) ∧ (Cond.methodLink own index y).before args s = true ∧ (Cond.instanceMethod y).before args s = true ∧ (Cond.selects C y y).before args s = true
theorem vx_cwVW {own C : String} {index maxL mc ms : Nat} {y : MethodName} {bytes : ByteArray} {ret : Option FieldType} {hh : List (Nat × Nat × Nat × Nat)} {Ts ws ws' : List Cond} {rm : Room} (n : Nat) (ht : ∀ w ∈ Ts, w.before args s = true) (hT : GoodIn Ts (wsV own index C y ws)) (hw : ws = Cond.codeWith y bytes maxL ret hh :: ws') (hrc : rm.cells = mc) (hrs : rm.slots = ms)
    (hd : y.cls = C ∧ y.cls ≠ "java/lang/invoke/MethodHandle" ∧ y.cls ≠ "java/lang/invoke/VarHandle" ∧ (parseMethodDescriptor y.desc).map (fun d => d.parameters.length) = some n) (hR : rm.frames + 1 ≤ R.frames ∧ 8 + (maxL + 11) + rm.locals ≤ R.locals) :
    vx_CVW R s args own C index y bytes maxL ret hh ws rm mc ms n := by
  obtain ⟨hC, hd⟩ := hd
  subst hC
  have ok : ∀ w ∈ wsV own index y.cls y ws, w.before args s = true := fun w h => ht w (hT w h).1
  have hG : GoodIn Ts ws := fun w h => hT w (by unfold wsV; exact List.mem_append_right _ h)
  have hc : Cond.codeWith y bytes maxL ret hh ∈ ws := by rw [hw]; exact List.mem_cons_self
  refine ⟨⟨hrc, hrs, hR.1, hR.2, pay_in ht hG, hc⟩, ht _ (hG _ hc).1, ok _ (by simp [wsV]), ⟨hd.1, hd.2.1⟩, fun sig h => ?_, ok _ (by simp [wsV]), ok _ (by simp [wsV]), ok _ (by simp [wsV])⟩
  have h2 := hd.2.2
  rw [h] at h2
  exact (Option.some.inj h2).symm
theorem vx_runVW {y : MethodName} {bytes cc : ByteArray} {maxL nL mc ms n index : Nat} {ret : Option FieldType} {hh : List (Nat × Nat × Nat × Nat)} {ws : List Cond} {rm : Room} {Pc : Array Value → State → Prop} {Qc : Array Value → State → Outcome → State → Prop} {free : Addr → Prop} {Ts : List Cond} {own C : String} {b : Addr} {As rest : List Value} {g : JFrame}
    (S : CallFix p m c cc nL s args Ts own) (hM : Met l y ws rm Pc Qc mc ms free) (cw : vx_CVW R s args own C index y bytes maxL ret hh ws rm mc ms n) (hp : PreV s H C b Pc As)
    (hg : g.method = m) (hn : As.length = n) (hsize : g.locals.size = nL) (hstack : g.stack = As.reverse ++ .ref b :: rest) (hW : 2 * g.monitorRoom + (rest.map fun v => v.category).sum ≤ 8) (hdg : decode cc g.pc = .ok (.invokevirtual index, 3)) (hf : cells + mc ≤ R.cells ∧ slots + ms ≤ R.slots) :
    va_Run p l e R s m args below meth c H locs cells slots mc ms g rest (Qc (Value.ref b :: As).toArray) free := by
  obtain ⟨⟨hrc, hrs, hfr, hlo, hws, hcw⟩, hcode, hini, hy, hlen, hl, hin, hse⟩ := cw
  have hK : Back l R p e below s args y 3 8 (PreOf R mc ms Pc) (PostOf Qc mc ms free) := va_backW (hh := hh) (bytes := bytes) (maxL := maxL) (ret := ret) hM hp.1 hrc hrs hfr hlo hws hcw (fun a' U hW => word_at hW (Or.inl (by first | rfl | simp [Cond.onTables, Cond.keeps, Cond.steady])) hini)
  obtain ⟨hx, hb, hml, ho, -⟩ := S
  obtain ⟨-, ⟨cellB, hcB, hoB, hclB⟩, hPc⟩ := hp
  intro T hT X
  obtain ⟨v, vm₁, ⟨U', l2, c2, s2⟩, hW₁, X', ⟨g', mk, t, L, e1, e2, hq, h1, hL, h2, h3⟩, st⟩ := vx_callVW X hx (C := C) (hh := hh) (bytes := bytes) (maxL := maxL) (ret := ret) ho hl hin hse hcode hy hK (by rw [hT]; exact hcB) hoB hclB hg (hsize.trans hml.symm) (argsL := As) (rest := rest) (fun sig h => hn.trans (hlen sig h)) hstack hW (by rw [hb]; exact hdg)
    (fun vm₁ hW₁ => ⟨hf.1, hf.2, hPc (T.setVm vm₁) hT hW₁⟩)
  dsimp only [Pt.U, Pt.locs, Pt.cells, Pt.slots] at X' e1 e2 h1 h2 h3 st
  subst h1; subst h2; subst h3
  exact ⟨v, (T.setVm vm₁).calling g' mk (Value.ref b :: As).toArray, t, U', L, hT, X', hL, e1, e2, hq, st⟩
section
variable {y : MethodName} {bytes cc : ByteArray} {maxL nL mc ms n index : Nat} {ret : Option FieldType} {ws : List Cond} {rm : Room} {Pc : Array Value → State → Prop} {Qc : Array Value → State → Outcome → State → Prop} {XC : String → State → State → Prop} {free : Addr → Prop} {Ts : List Cond} {own C : String} {b : Addr} {As rest : List Value} {g : JFrame}
theorem vx_runVX {hh : List (Nat × Nat × Nat × Nat)} (S : CallFix p m c cc nL s args Ts own) (hM : vx_Met l y ws rm Pc Qc XC mc ms free) (cw : vx_CVW R s args own C index y bytes maxL ret hh ws rm mc ms n) (hp : PreV s H C b Pc As)
    (hg : g.method = m) (hn : As.length = n) (hsize : g.locals.size = nL) (hstack : g.stack = As.reverse ++ .ref b :: rest) (hW : 2 * g.monitorRoom + (rest.map fun v => v.category).sum ≤ 8) (hdg : decode cc g.pc = .ok (.invokevirtual index, 3)) (hf : cells + mc ≤ R.cells ∧ slots + ms ≤ R.slots) :
    vx_Run p l e R s m args below meth c H locs cells slots mc ms g rest (Qc (Value.ref b :: As).toArray) XC free := by
  obtain ⟨⟨hrc, hrs, hfr, hlo, hws, hcw⟩, hcode, hini, hy, hlen, hl, hin, hse⟩ := cw
  have hK : vx_Back l R p e below s args y 3 8 (PreOf R mc ms Pc) (PostOf Qc mc ms free) (vx_Post XC mc ms free) := vx_backW (hh := hh) (bytes := bytes) (maxL := maxL) (ret := ret) hM hp.1 hrc hrs hfr hlo hws hcw (fun a' U hW => word_at hW (Or.inl (by first | rfl | simp [Cond.onTables, Cond.keeps, Cond.steady])) hini)
  obtain ⟨hx, hb, hml, ho, -⟩ := S
  obtain ⟨-, ⟨cellB, hcB, hoB, hclB⟩, hPc⟩ := hp
  intro T hT X
  rcases vx_callVX X hx (C := C) (hh := hh) (bytes := bytes) (maxL := maxL) (ret := ret) ho hl hin hse hcode hy hK (by rw [hT]; exact hcB) hoB hclB hg (hsize.trans hml.symm) (argsL := As) (rest := rest) (fun sig h => hn.trans (hlen sig h)) hstack hW (by rw [hb]; exact hdg)
    (fun vm₁ hW₁ => ⟨hf.1, hf.2, hPc (T.setVm vm₁) hT hW₁⟩) with ⟨v, vm₁, ⟨U', l2, c2, s2⟩, hW₁, X', ⟨g', mk, t, L, e1, e2, hq, h1, hL, h2, h3⟩, st⟩ | ⟨q, vm₁, ⟨U', l2, c2, s2⟩, hW₁, X', ⟨g', mk, t, L, E, ce, e1, e2, hq, hce, hcv, hcl, h1, hL, h2, h3⟩, st⟩
  · dsimp only [Pt.U, Pt.locs, Pt.cells, Pt.slots] at X' e1 e2 h1 h2 h3 st
    subst h1; subst h2; subst h3
    exact Or.inl ⟨v, (T.setVm vm₁).calling g' mk (Value.ref b :: As).toArray, t, U', L, hT, X', hL, e1, e2, hq, st⟩
  · dsimp only [Pt.U, Pt.locs, Pt.cells, Pt.slots] at X' e1 e2 h1 h2 h3 st hcl
    subst h1; subst h2; subst h3
    exact Or.inr ⟨q, (T.setVm vm₁).calling g' mk (Value.ref b :: As).toArray, t, U', L, E, ce, hT, X', hL, e1, e2, hq, hce, hcv, vx_cls hW₁ hcl, st⟩
theorem vx_runSX {hh : List (Nat × Nat × Nat × Nat)} (S : CallFix p m c cc nL s args Ts own) (hM : vx_Met l y ws rm Pc Qc XC mc ms free) (cw : vx_CSW R s args own index y bytes maxL ret hh ws rm mc ms n) (hp : PreS s H Pc As)
    (hg : g.method = m) (hn : As.length = n) (hsize : g.locals.size = nL) (hstack : g.stack = As.reverse ++ rest) (hW : 2 * g.monitorRoom + (rest.map fun v => v.category).sum ≤ 8) (hdg : decode cc g.pc = .ok (.invokestatic index, 3)) (hf : cells + mc ≤ R.cells ∧ slots + ms ≤ R.slots) :
    vx_Run p l e R s m args below meth c H locs cells slots mc ms g rest (Qc As.toArray) XC free := by
  obtain ⟨⟨hrc, hrs, hfr, hlo, hws, hcw⟩, hcode, hini, hy, hlen, hl, hstt⟩ := cw
  have hK : vx_Back l R p e below s args y 3 8 (PreOf R mc ms Pc) (PostOf Qc mc ms free) (vx_Post XC mc ms free) := vx_backW (hh := hh) (bytes := bytes) (maxL := maxL) (ret := ret) hM hp.1 hrc hrs hfr hlo hws hcw (fun a' U hW => word_at hW (Or.inl (by first | rfl | simp [Cond.onTables, Cond.keeps, Cond.steady])) hini)
  obtain ⟨hx, hb, hml, ho, -⟩ := S
  intro T hT X
  rcases vx_callSX X hx (hh := hh) (bytes := bytes) (maxL := maxL) (ret := ret) ho hl hstt hini hcode hy hK hg (hsize.trans hml.symm) (argsL := As) (rest := rest) (fun sig h => hn.trans (hlen sig h)) hstack hW (by rw [hb]; exact hdg)
    (fun vm₁ hW₁ => ⟨hf.1, hf.2, hp.2 (T.setVm vm₁) hT hW₁⟩) with ⟨v, vm₁, ⟨U', l2, c2, s2⟩, hW₁, X', ⟨g', mk, t, L, e1, e2, hq, h1, hL, h2, h3⟩, st⟩ | ⟨q, vm₁, ⟨U', l2, c2, s2⟩, hW₁, X', ⟨g', mk, t, L, E, ce, e1, e2, hq, hce, hcv, hcl, h1, hL, h2, h3⟩, st⟩
  · dsimp only [Pt.U, Pt.locs, Pt.cells, Pt.slots] at X' e1 e2 h1 h2 h3 st
    subst h1; subst h2; subst h3
    exact Or.inl ⟨v, (T.setVm vm₁).calling g' mk As.toArray, t, U', L, hT, X', hL, e1, e2, hq, st⟩
  · dsimp only [Pt.U, Pt.locs, Pt.cells, Pt.slots] at X' e1 e2 h1 h2 h3 st hcl
    subst h1; subst h2; subst h3
    exact Or.inr ⟨q, (T.setVm vm₁).calling g' mk As.toArray, t, U', L, E, ce, hT, X', hL, e1, e2, hq, hce, hcv, vx_cls hW₁ hcl, st⟩
end
end VXH
theorem vx_ofWH {l : Launch} {y : MethodName} {ws ws' : List Cond} {rm : Room} {Pc : Array Value → State → Prop} {Qc : Array Value → State → Outcome → State → Prop} {XC : String → State → State → Prop} {mc ms : Nat} {free : Addr → Prop} {cc : ByteArray} {maxL : Nat} {ret : Option FieldType} {hh : List (Nat × Nat × Nat × Nat)}
    (hy : plainName y.cls = true) (hw : ws = Cond.codeWith y cc maxL ret hh :: ws')
    (body : ∀ p e s m args below meth c s₁, BodyLoose p l y (headSpec ws rm) cc maxL ret e s m args below meth c s₁ → c.maxLocals = maxL → Pc args s →
      W p l e (headSpec ws rm).room s m args below meth c s.heap [] 0 0 (vx_MQ below Qc XC args s mc ms free) (entryFrame m args maxL)) : vx_Met l y ws rm Pc Qc XC mc ms free := by
  refine MetFree.of_bodyS (code := cc) (maxLocals := maxL) (ret := ret) hy ?_ ?_
  · intro args s m h hn
    obtain ⟨m9, meth, c, hn9, h1, h2, h3, h4, -, h5, h6, -⟩ := Cond.codeWith_spec (atoms_spec (ws := ws) h _ (by rw [hw]; exact List.mem_cons_self))
    cases hn.symm.trans hn9
    exact ⟨meth, c, h1, h2, h3, h4, h5, h6⟩
  · intro p e s m args below meth c s₁ B hml hP _
    have hh0 : s₁.heap = s.heap := by rw [B.state]; rfl
    obtain ⟨t, a1, o, b1, b2, b3⟩ := body p e s m args below meth c s₁ B hml hP s₁ hh0 (Stand.of_body B)
    exact ⟨t, o, a1, b1, b2, b3⟩
/-! ===== END ===== -/
end
section
/-! ===== BEGIN printed: names, fields, word lists, decode rows ===== -/
def RX0 : String := "IssueDesk$Pattern"
def TX0 : u_T := fun k => match k with
  | 0 => ("IssueDesk$Pattern", "gap", "I", false)
  | 1 => ("IssueDesk$Pattern", "size", "I", false)
  | 2 => ("IssueDesk$Pattern", "beginAnew", "Z", false)
  | _ => ("IssueDesk$Pattern", "skipped", "I", false)
def tyX0 : Nat → FieldType := fun k => match k with
  | 0 => .int
  | 1 => .int
  | 2 => .boolean
  | _ => .int
abbrev wsX00 : List Cond := u_ws RX0 TX0 4
theorem nmX0 : ∀ a, a < 4 → ∀ b, b < 4 → a ≠ b → (TX0 a).2.1 ≠ (TX0 b).2.1 := by decide +kernel
theorem tyX0_ok : ∀ k, k < 4 → parseFieldDescriptor (TX0 k).2.2.1 = some (tyX0 k) := by decide +kernel
abbrev cX0_init : ByteArray := prog_2_method_1_code
def yX0_init : MethodName := ⟨RX0, "<init>", "()V"⟩
abbrev cX0_change : ByteArray := prog_2_method_2_code
def yX0_change : MethodName := ⟨RX0, "change", "(IIZI)V"⟩
abbrev cX0_dayBehind : ByteArray := prog_2_method_3_code
def yX0_dayBehind : MethodName := ⟨RX0, "dayBehind", "(II)I"⟩
abbrev cX0_volumeOf : ByteArray := prog_2_method_4_code
def yX0_volumeOf : MethodName := ⟨RX0, "volumeOf", "(I)I"⟩
abbrev cX0_numberOf : ByteArray := prog_2_method_5_code
def yX0_numberOf : MethodName := ⟨RX0, "numberOf", "(I)I"⟩
abbrev cX0_isInSkippedMonth : ByteArray := prog_2_method_6_code
def yX0_isInSkippedMonth : MethodName := ⟨RX0, "isInSkippedMonth", "(I)Z"⟩
def RX1 : String := "IssueDesk"
def TX1 : u_T := fun k => match k with
  | 0 => ("IssueDesk", "pattern", "LIssueDesk$Pattern;", true)
  | 1 => ("IssueDesk", "grace", "I", false)
  | 2 => ("IssueDesk", "pause", "I", false)
  | 3 => ("IssueDesk", "today", "I", false)
  | 4 => ("IssueDesk", "foretoldCount", "I", false)
  | 5 => ("IssueDesk", "waitingShift", "I", false)
  | 6 => ("IssueDesk", "issueDays", "[I", true)
  | 7 => ("IssueDesk", "states", "[I", true)
  | 8 => ("IssueDesk", "claimCounts", "[I", true)
  | 9 => ("IssueDesk", "claimDays", "[I", true)
  | 10 => ("IssueDesk", "streakLength", "I", false)
  | 11 => ("IssueDesk", "streakDifference", "I", false)
  | 12 => ("IssueDesk", "streakIssue", "I", false)
  | 13 => ("IssueDesk", "isThere", "[Z", true)
  | _ => ("IssueDesk", "thereCount", "I", false)
def tyX1 : Nat → FieldType := fun k => match k with
  | 0 => .object "IssueDesk$Pattern"
  | 1 => .int
  | 2 => .int
  | 3 => .int
  | 4 => .int
  | 5 => .int
  | 6 => .array .int
  | 7 => .array .int
  | 8 => .array .int
  | 9 => .array .int
  | 10 => .int
  | 11 => .int
  | 12 => .int
  | 13 => .array .boolean
  | _ => .int
abbrev wsX10 : List Cond := u_ws RX1 TX1 15
theorem nmX1 : ∀ a, a < 15 → ∀ b, b < 15 → a ≠ b → (TX1 a).2.1 ≠ (TX1 b).2.1 := by decide +kernel
theorem tyX1_ok : ∀ k, k < 15 → parseFieldDescriptor (TX1 k).2.2.1 = some (tyX1 k) := by decide +kernel
abbrev cX1_init : ByteArray := prog_1_method_1_code
def yX1_init : MethodName := ⟨RX1, "<init>", "()V"⟩
abbrev cX1_setPattern : ByteArray := prog_1_method_2_code
def yX1_setPattern : MethodName := ⟨RX1, "setPattern", "(IIZI)V"⟩
abbrev cX1_setClaims : ByteArray := prog_1_method_3_code
def yX1_setClaims : MethodName := ⟨RX1, "setClaims", "(II)V"⟩
abbrev cX1_advance : ByteArray := prog_1_method_4_code
def yX1_advance : MethodName := ⟨RX1, "advance", "(I)I"⟩
abbrev cX1_checkIn : ByteArray := prog_1_method_5_code
def yX1_checkIn : MethodName := ⟨RX1, "checkIn", "(II)I"⟩
abbrev cX1_skip : ByteArray := prog_1_method_6_code
def yX1_skip : MethodName := ⟨RX1, "skip", "(I)V"⟩
abbrev cX1_round : ByteArray := prog_1_method_7_code
def yX1_round : MethodName := ⟨RX1, "round", "()I"⟩
abbrev cX1_day : ByteArray := prog_1_method_8_code
def yX1_day : MethodName := ⟨RX1, "day", "()I"⟩
abbrev cX1_foretold : ByteArray := prog_1_method_9_code
def yX1_foretold : MethodName := ⟨RX1, "foretold", "()I"⟩
abbrev cX1_shift : ByteArray := prog_1_method_10_code
def yX1_shift : MethodName := ⟨RX1, "shift", "()I"⟩
abbrev cX1_dayOf : ByteArray := prog_1_method_11_code
def yX1_dayOf : MethodName := ⟨RX1, "dayOf", "(I)I"⟩
abbrev cX1_stateOf : ByteArray := prog_1_method_12_code
def yX1_stateOf : MethodName := ⟨RX1, "stateOf", "(I)I"⟩
abbrev cX1_claimsOf : ByteArray := prog_1_method_13_code
def yX1_claimsOf : MethodName := ⟨RX1, "claimsOf", "(I)I"⟩
abbrev cX1_labelOf : ByteArray := prog_1_method_14_code
def yX1_labelOf : MethodName := ⟨RX1, "labelOf", "(I)I"⟩
abbrev cX1_find : ByteArray := prog_1_method_15_code
def yX1_find : MethodName := ⟨RX1, "find", "(II)I"⟩
abbrev cX1_late : ByteArray := prog_1_method_16_code
def yX1_late : MethodName := ⟨RX1, "late", "()I"⟩
abbrev cX1_ranges : ByteArray := prog_1_method_17_code
def yX1_ranges : MethodName := ⟨RX1, "ranges", "()I"⟩
abbrev cX1_rangeAt : ByteArray := prog_1_method_18_code
def yX1_rangeAt : MethodName := ⟨RX1, "rangeAt", "(I)I"⟩
abbrev cX1_isHeld : ByteArray := prog_1_method_19_code
def yX1_isHeld : MethodName := ⟨RX1, "isHeld", "(I)Z"⟩
abbrev cX1_give : ByteArray := prog_1_method_20_code
def yX1_give : MethodName := ⟨RX1, "give", "(II)I"⟩
abbrev cX1_only : ByteArray := prog_1_method_21_code
def yX1_only : MethodName := ⟨RX1, "only", "(ZI)I"⟩
abbrev cX1_isWithin : ByteArray := prog_1_method_22_code
def yX1_isWithin : MethodName := ⟨RX1, "isWithin", "(III)Z"⟩
abbrev cX1_isIssue : ByteArray := prog_1_method_23_code
def yX1_isIssue : MethodName := ⟨RX1, "isIssue", "(I)Z"⟩
abbrev cX1_isForetold : ByteArray := prog_1_method_24_code
def yX1_isForetold : MethodName := ⟨RX1, "isForetold", "(I)Z"⟩
abbrev cX1_nextDay : ByteArray := prog_1_method_25_code
def yX1_nextDay : MethodName := ⟨RX1, "nextDay", "()I"⟩
abbrev cX1_foretellNext : ByteArray := prog_1_method_26_code
def yX1_foretellNext : MethodName := ⟨RX1, "foretellNext", "()V"⟩
abbrev cX1_foretellUpTo : ByteArray := prog_1_method_27_code
def yX1_foretellUpTo : MethodName := ⟨RX1, "foretellUpTo", "(I)V"⟩
abbrev cX1_foretellDueIssues : ByteArray := prog_1_method_28_code
def yX1_foretellDueIssues : MethodName := ⟨RX1, "foretellDueIssues", "()V"⟩
abbrev cX1_canAllCome : ByteArray := prog_1_method_29_code
def yX1_canAllCome : MethodName := ⟨RX1, "canAllCome", "(II)Z"⟩
abbrev cX1_takeIn : ByteArray := prog_1_method_30_code
def yX1_takeIn : MethodName := ⟨RX1, "takeIn", "(II)V"⟩
abbrev cX1_noteDifference : ByteArray := prog_1_method_31_code
def yX1_noteDifference : MethodName := ⟨RX1, "noteDifference", "(I)V"⟩
abbrev cX1_followsStreak : ByteArray := prog_1_method_32_code
def yX1_followsStreak : MethodName := ⟨RX1, "followsStreak", "(I)Z"⟩
abbrev cX1_canShift : ByteArray := prog_1_method_33_code
def yX1_canShift : MethodName := ⟨RX1, "canShift", "(I)Z"⟩
abbrev cX1_isLate : ByteArray := prog_1_method_34_code
def yX1_isLate : MethodName := ⟨RX1, "isLate", "(I)Z"⟩
abbrev cX1_isTimeToClaim : ByteArray := prog_1_method_35_code
def yX1_isTimeToClaim : MethodName := ⟨RX1, "isTimeToClaim", "(I)Z"⟩
abbrev cX1_isInHouse : ByteArray := prog_1_method_36_code
def yX1_isInHouse : MethodName := ⟨RX1, "isInHouse", "(I)Z"⟩
abbrev cX1_isRangeStart : ByteArray := prog_1_method_37_code
def yX1_isRangeStart : MethodName := ⟨RX1, "isRangeStart", "(I)Z"⟩
abbrev cX1_startOfRange : ByteArray := prog_1_method_38_code
def yX1_startOfRange : MethodName := ⟨RX1, "startOfRange", "(I)I"⟩
abbrev cX1_endOfRange : ByteArray := prog_1_method_39_code
def yX1_endOfRange : MethodName := ⟨RX1, "endOfRange", "(I)I"⟩
def RX2 : String := "IssueDeskModel"
def TX2 : u_T := fun k => match k with
  | 0 => ("IssueDeskModel", "day", "I", false)
  | 1 => ("IssueDeskModel", "gap", "I", false)
  | 2 => ("IssueDeskModel", "size", "I", false)
  | 3 => ("IssueDeskModel", "isAnew", "Z", false)
  | 4 => ("IssueDeskModel", "skipped", "I", false)
  | 5 => ("IssueDeskModel", "grace", "I", false)
  | 6 => ("IssueDeskModel", "pause", "I", false)
  | 7 => ("IssueDeskModel", "foretold", "I", false)
  | 8 => ("IssueDeskModel", "dayOf", "[I", true)
  | 9 => ("IssueDeskModel", "state", "[I", true)
  | 10 => ("IssueDeskModel", "claims", "[I", true)
  | 11 => ("IssueDeskModel", "claimedOn", "[I", true)
  | 12 => ("IssueDeskModel", "isThere", "[Z", true)
  | 13 => ("IssueDeskModel", "shift", "I", false)
  | 14 => ("IssueDeskModel", "before", "I", false)
  | 15 => ("IssueDeskModel", "difference", "I", false)
  | 16 => ("IssueDeskModel", "row", "I", false)
  | _ => ("IssueDeskModel", "thrown", "I", false)
def tyX2 : Nat → FieldType := fun k => match k with
  | 0 => .int
  | 1 => .int
  | 2 => .int
  | 3 => .boolean
  | 4 => .int
  | 5 => .int
  | 6 => .int
  | 7 => .int
  | 8 => .array .int
  | 9 => .array .int
  | 10 => .array .int
  | 11 => .array .int
  | 12 => .array .boolean
  | 13 => .int
  | 14 => .int
  | 15 => .int
  | 16 => .int
  | _ => .int
abbrev wsX20 : List Cond := u_ws RX2 TX2 18
theorem nmX2 : ∀ a, a < 18 → ∀ b, b < 18 → a ≠ b → (TX2 a).2.1 ≠ (TX2 b).2.1 := by decide +kernel
theorem tyX2_ok : ∀ k, k < 18 → parseFieldDescriptor (TX2 k).2.2.1 = some (tyX2 k) := by decide +kernel
abbrev cX2_init : ByteArray := prog_4_method_1_code
def yX2_init : MethodName := ⟨RX2, "<init>", "()V"⟩
abbrev cX2_thrown : ByteArray := prog_4_method_2_code
def yX2_thrown : MethodName := ⟨RX2, "thrown", "()I"⟩
abbrev cX2_can : ByteArray := prog_4_method_3_code
def yX2_can : MethodName := ⟨RX2, "can", "(I)Z"⟩
abbrev cX2_isIn : ByteArray := prog_4_method_4_code
def yX2_isIn : MethodName := ⟨RX2, "isIn", "(III)Z"⟩
abbrev cX2_isIssue : ByteArray := prog_4_method_5_code
def yX2_isIssue : MethodName := ⟨RX2, "isIssue", "(I)Z"⟩
abbrev cX2_isForetold : ByteArray := prog_4_method_6_code
def yX2_isForetold : MethodName := ⟨RX2, "isForetold", "(I)Z"⟩
abbrev cX2_isBarred : ByteArray := prog_4_method_7_code
def yX2_isBarred : MethodName := ⟨RX2, "isBarred", "(I)Z"⟩
abbrev cX2_nextDay : ByteArray := prog_4_method_8_code
def yX2_nextDay : MethodName := ⟨RX2, "nextDay", "()I"⟩
abbrev cX2_foretells : ByteArray := prog_4_method_9_code
def yX2_foretells : MethodName := ⟨RX2, "foretells", "()V"⟩
abbrev cX2_looks : ByteArray := prog_4_method_10_code
def yX2_looks : MethodName := ⟨RX2, "looks", "()V"⟩
abbrev cX2_setPattern : ByteArray := prog_4_method_11_code
def yX2_setPattern : MethodName := ⟨RX2, "setPattern", "(IIZI)V"⟩
abbrev cX2_setClaims : ByteArray := prog_4_method_12_code
def yX2_setClaims : MethodName := ⟨RX2, "setClaims", "(II)V"⟩
abbrev cX2_advance : ByteArray := prog_4_method_13_code
def yX2_advance : MethodName := ⟨RX2, "advance", "(I)I"⟩
abbrev cX2_isOpen : ByteArray := prog_4_method_14_code
def yX2_isOpen : MethodName := ⟨RX2, "isOpen", "(II)Z"⟩
abbrev cX2_follows : ByteArray := prog_4_method_15_code
def yX2_follows : MethodName := ⟨RX2, "follows", "(I)Z"⟩
abbrev cX2_counts : ByteArray := prog_4_method_16_code
def yX2_counts : MethodName := ⟨RX2, "counts", "(I)V"⟩
abbrev cX2_checkIn : ByteArray := prog_4_method_17_code
def yX2_checkIn : MethodName := ⟨RX2, "checkIn", "(II)I"⟩
abbrev cX2_skip : ByteArray := prog_4_method_18_code
def yX2_skip : MethodName := ⟨RX2, "skip", "(I)V"⟩
abbrev cX2_isLate : ByteArray := prog_4_method_19_code
def yX2_isLate : MethodName := ⟨RX2, "isLate", "(I)Z"⟩
abbrev cX2_round : ByteArray := prog_4_method_20_code
def yX2_round : MethodName := ⟨RX2, "round", "()I"⟩
abbrev cX2_day : ByteArray := prog_4_method_21_code
def yX2_day : MethodName := ⟨RX2, "day", "()I"⟩
abbrev cX2_foretold : ByteArray := prog_4_method_22_code
def yX2_foretold : MethodName := ⟨RX2, "foretold", "()I"⟩
abbrev cX2_shift : ByteArray := prog_4_method_23_code
def yX2_shift : MethodName := ⟨RX2, "shift", "()I"⟩
abbrev cX2_isAsked : ByteArray := prog_4_method_24_code
def yX2_isAsked : MethodName := ⟨RX2, "isAsked", "(I)Z"⟩
abbrev cX2_dayOf : ByteArray := prog_4_method_25_code
def yX2_dayOf : MethodName := ⟨RX2, "dayOf", "(I)I"⟩
abbrev cX2_stateOf : ByteArray := prog_4_method_26_code
def yX2_stateOf : MethodName := ⟨RX2, "stateOf", "(I)I"⟩
abbrev cX2_claimsOf : ByteArray := prog_4_method_27_code
def yX2_claimsOf : MethodName := ⟨RX2, "claimsOf", "(I)I"⟩
abbrev cX2_volume : ByteArray := prog_4_method_28_code
def yX2_volume : MethodName := ⟨RX2, "volume", "(I)I"⟩
abbrev cX2_number : ByteArray := prog_4_method_29_code
def yX2_number : MethodName := ⟨RX2, "number", "(I)I"⟩
abbrev cX2_labelOf : ByteArray := prog_4_method_30_code
def yX2_labelOf : MethodName := ⟨RX2, "labelOf", "(I)I"⟩
abbrev cX2_find : ByteArray := prog_4_method_31_code
def yX2_find : MethodName := ⟨RX2, "find", "(II)I"⟩
abbrev cX2_late : ByteArray := prog_4_method_32_code
def yX2_late : MethodName := ⟨RX2, "late", "()I"⟩
abbrev cX2_isHere : ByteArray := prog_4_method_33_code
def yX2_isHere : MethodName := ⟨RX2, "isHere", "(I)Z"⟩
abbrev cX2_allRanges : ByteArray := prog_4_method_34_code
def yX2_allRanges : MethodName := ⟨RX2, "allRanges", "()I"⟩
abbrev cX2_ranges : ByteArray := prog_4_method_35_code
def yX2_ranges : MethodName := ⟨RX2, "ranges", "()I"⟩
abbrev cX2_rangeAt : ByteArray := prog_4_method_36_code
def yX2_rangeAt : MethodName := ⟨RX2, "rangeAt", "(I)I"⟩
abbrev cX2_isHeld : ByteArray := prog_4_method_37_code
def yX2_isHeld : MethodName := ⟨RX2, "isHeld", "(I)Z"⟩
abbrev cX2_give : ByteArray := prog_4_method_38_code
def yX2_give : MethodName := ⟨RX2, "give", "(II)I"⟩
abbrev cX2_only : ByteArray := prog_4_method_39_code
def yX2_only : MethodName := ⟨RX2, "only", "(ZI)I"⟩
def RJ9 : String := "java/lang/Math"
def TJ9 : u_T := fun k => match k with
  | _ => ("", "", "", false)
def tyJ9 : Nat → FieldType := fun k => match k with
  | _ => .int
abbrev wsJ90 : List Cond := u_ws RJ9 TJ9 0
theorem nmJ9 : ∀ a, a < 0 → ∀ b, b < 0 → a ≠ b → (TJ9 a).2.1 ≠ (TJ9 b).2.1 := by decide +kernel
theorem tyJ9_ok : ∀ k, k < 0 → parseFieldDescriptor (TJ9 k).2.2.1 = some (tyJ9 k) := by decide +kernel
abbrev cJ9_max_7cf53 : ByteArray := prog_9_method_65_code
def yJ9_max_7cf53 : MethodName := ⟨RJ9, "max", "(II)I"⟩
def RJ0 : String := "java/lang/String"
def TJ0 : u_T := fun k => match k with
  | _ => ("", "", "", false)
def tyJ0 : Nat → FieldType := fun k => match k with
  | _ => .int
abbrev wsJ00 : List Cond := u_ws RJ0 TJ0 0
theorem nmJ0 : ∀ a, a < 0 → ∀ b, b < 0 → a ≠ b → (TJ0 a).2.1 ≠ (TJ0 b).2.1 := by decide +kernel
theorem tyJ0_ok : ∀ k, k < 0 → parseFieldDescriptor (TJ0 k).2.2.1 = some (tyJ0 k) := by decide +kernel
def RL : String := "IssueDeskLaw"
abbrev cL_setPattern : ByteArray := method_3_code
def yL_setPattern : MethodName := ⟨RL, "setPattern", "(LIssueDesk;IIZI)I"⟩
abbrev cL_setClaims : ByteArray := method_4_code
def yL_setClaims : MethodName := ⟨RL, "setClaims", "(LIssueDesk;II)I"⟩
abbrev cL_advance : ByteArray := method_5_code
def yL_advance : MethodName := ⟨RL, "advance", "(LIssueDesk;I[J)I"⟩
abbrev cL_checkIn : ByteArray := method_6_code
def yL_checkIn : MethodName := ⟨RL, "checkIn", "(LIssueDesk;II[J)I"⟩
abbrev cL_skip : ByteArray := method_7_code
def yL_skip : MethodName := ⟨RL, "skip", "(LIssueDesk;I)I"⟩
abbrev cL_dayOf : ByteArray := method_8_code
def yL_dayOf : MethodName := ⟨RL, "dayOf", "(LIssueDesk;I[J)I"⟩
abbrev cL_stateOf : ByteArray := method_9_code
def yL_stateOf : MethodName := ⟨RL, "stateOf", "(LIssueDesk;I[J)I"⟩
abbrev cL_claimsOf : ByteArray := method_10_code
def yL_claimsOf : MethodName := ⟨RL, "claimsOf", "(LIssueDesk;I[J)I"⟩
abbrev cL_labelOf : ByteArray := method_11_code
def yL_labelOf : MethodName := ⟨RL, "labelOf", "(LIssueDesk;I[J)I"⟩
abbrev cL_rangeAt : ByteArray := method_12_code
def yL_rangeAt : MethodName := ⟨RL, "rangeAt", "(LIssueDesk;I[J)I"⟩
abbrev cL_give : ByteArray := method_13_code
def yL_give : MethodName := ⟨RL, "give", "(LIssueDesk;II[J)I"⟩
abbrev cL_only : ByteArray := method_14_code
def yL_only : MethodName := ⟨RL, "only", "(LIssueDesk;ZI[J)I"⟩
abbrev cL_law : ByteArray := code
def yL_law : MethodName := ⟨RL, "law", "([I)Z"⟩
def wsX0_init : List Cond := .code yX0_init cX0_init 1 none :: ([.methodLink RX0 3 objectInit, .instanceMethod objectInit, .code objectInit ⟨#[0xb1]⟩ 1 none, .fieldLink RX0 9 "IssueDesk$Pattern" "gap" "I", .fieldLink RX0 15 "IssueDesk$Pattern" "size" "I", .fieldLink RX0 18 "IssueDesk$Pattern" "beginAnew" "Z", .fieldLink RX0 22 "IssueDesk$Pattern" "skipped" "I"] ++ wsX00)
def wsX0_change : List Cond := .code yX0_change cX0_change 5 none :: ([.fieldLink RX0 9 "IssueDesk$Pattern" "gap" "I", .fieldLink RX0 15 "IssueDesk$Pattern" "size" "I", .fieldLink RX0 18 "IssueDesk$Pattern" "beginAnew" "Z", .fieldLink RX0 22 "IssueDesk$Pattern" "skipped" "I"] ++ wsX00)
def wsX0_isInSkippedMonth : List Cond := .code yX0_isInSkippedMonth cX0_isInSkippedMonth 3 (some .boolean) :: ([.fieldLink RX0 22 "IssueDesk$Pattern" "skipped" "I"] ++ wsX00)
def wsX0_dayBehind : List Cond := .code yX0_dayBehind cX0_dayBehind 5 (some .int) :: ([.fieldLink RX0 9 "IssueDesk$Pattern" "gap" "I", .methodLink RX0 25 Lib.Math.max.name, .static Lib.Math.max.name, .initialized "java/lang/Math", .code Lib.Math.max.name Lib.Math.max.code 2 (some .int), .methodLink RX0 31 yX0_isInSkippedMonth, .instanceMethod yX0_isInSkippedMonth, .selects RX0 yX0_isInSkippedMonth yX0_isInSkippedMonth, .initialized RX0, .code yX0_isInSkippedMonth cX0_isInSkippedMonth 3 (some .boolean), .fieldLink RX0 22 "IssueDesk$Pattern" "skipped" "I"] ++ wsX00)
def wsX0_volumeOf : List Cond := .code yX0_volumeOf cX0_volumeOf 2 (some .int) :: ([.fieldLink RX0 15 "IssueDesk$Pattern" "size" "I"] ++ wsX00)
def wsX0_numberOf : List Cond := .code yX0_numberOf cX0_numberOf 2 (some .int) :: ([.fieldLink RX0 18 "IssueDesk$Pattern" "beginAnew" "Z", .fieldLink RX0 15 "IssueDesk$Pattern" "size" "I"] ++ wsX00)
def wsX1_init_r1 : List Cond := [Cond.methodLink RX1 1 objectInit, Cond.instanceMethod objectInit, Cond.code objectInit ⟨#[0xb1]⟩ 1 none, Cond.classLink RX1 7 RX0, Cond.instantiable RX0 4, Cond.initialized RX0, Cond.fieldLink RX1 10 "IssueDesk" "pattern" "LIssueDesk$Pattern;", Cond.fieldLink RX1 16 "IssueDesk" "grace" "I", Cond.fieldLink RX1 20 "IssueDesk" "pause" "I", Cond.arrayClass .int, Cond.fieldLink RX1 23 "IssueDesk" "issueDays" "[I", Cond.fieldLink RX1 27 "IssueDesk" "states" "[I", Cond.fieldLink RX1 30 "IssueDesk" "claimCounts" "[I", Cond.fieldLink RX1 33 "IssueDesk" "claimDays" "[I", Cond.arrayClass .boolean, Cond.fieldLink RX1 36 "IssueDesk" "isThere" "[Z", Cond.fieldLink RX1 40 "IssueDesk" "foretoldCount" "I", Cond.fieldLink RX1 43 "IssueDesk" "streakIssue" "I", Cond.methodLink RX1 9 yX0_init, Cond.instanceMethod yX0_init, Cond.code yX0_init cX0_init 1 none, Cond.methodLink RX0 3 objectInit, Cond.fieldLink RX0 9 "IssueDesk$Pattern" "gap" "I", Cond.fieldLink RX0 15 "IssueDesk$Pattern" "size" "I"]
def wsX1_init_r2 : List Cond := [Cond.fieldLink RX0 18 "IssueDesk$Pattern" "beginAnew" "Z", Cond.fieldLink RX0 22 "IssueDesk$Pattern" "skipped" "I"]
def wsX1_init : List Cond := .code yX1_init cX1_init 1 none :: ((wsX1_init_r1 ++ wsX1_init_r2) ++ wsX00 ++ wsX10)
def wsX1_isWithin : List Cond := .code yX1_isWithin cX1_isWithin 3 (some .boolean) :: ([])
def wsX1_isIssue : List Cond := .code yX1_isIssue cX1_isIssue 1 (some .boolean) :: ([])
def wsX1_nextDay : List Cond := .code yX1_nextDay cX1_nextDay 2 (some .int) :: ([.fieldLink RX1 40 "IssueDesk" "foretoldCount" "I", .fieldLink RX1 10 "IssueDesk" "pattern" "LIssueDesk$Pattern;", .fieldLink RX1 23 "IssueDesk" "issueDays" "[I", .fieldLink RX1 123 "IssueDesk" "waitingShift" "I", .methodLink RX1 82 yX1_isIssue, .static yX1_isIssue, .initialized RX1, .code yX1_isIssue cX1_isIssue 1 (some .boolean), .methodLink RX1 156 yX0_dayBehind, .instanceMethod yX0_dayBehind, .selects RX0 yX0_dayBehind yX0_dayBehind, .initialized RX0, .code yX0_dayBehind cX0_dayBehind 5 (some .int), .fieldLink RX0 9 "IssueDesk$Pattern" "gap" "I", .methodLink RX0 25 Lib.Math.max.name, .static Lib.Math.max.name, .initialized "java/lang/Math", .code Lib.Math.max.name Lib.Math.max.code 2 (some .int), .methodLink RX0 31 yX0_isInSkippedMonth, .instanceMethod yX0_isInSkippedMonth, .selects RX0 yX0_isInSkippedMonth yX0_isInSkippedMonth, .code yX0_isInSkippedMonth cX0_isInSkippedMonth 3 (some .boolean), .fieldLink RX0 22 "IssueDesk$Pattern" "skipped" "I"] ++ wsX10 ++ wsX00)
def wsX1_foretellNext_r1 : List Cond := [Cond.fieldLink RX1 40 "IssueDesk" "foretoldCount" "I", Cond.fieldLink RX1 23 "IssueDesk" "issueDays" "[I", Cond.fieldLink RX1 123 "IssueDesk" "waitingShift" "I", Cond.methodLink RX1 82 yX1_isIssue, Cond.static yX1_isIssue, Cond.initialized RX1, Cond.code yX1_isIssue cX1_isIssue 1 (some .boolean), Cond.methodLink RX1 160 yX1_nextDay, Cond.instanceMethod yX1_nextDay, Cond.selects RX1 yX1_nextDay yX1_nextDay, Cond.code yX1_nextDay cX1_nextDay 2 (some .int), Cond.fieldLink RX1 10 "IssueDesk" "pattern" "LIssueDesk$Pattern;", Cond.methodLink RX1 156 yX0_dayBehind, Cond.instanceMethod yX0_dayBehind, Cond.selects RX0 yX0_dayBehind yX0_dayBehind, Cond.initialized RX0, Cond.code yX0_dayBehind cX0_dayBehind 5 (some .int), Cond.fieldLink RX0 9 "IssueDesk$Pattern" "gap" "I", Cond.methodLink RX0 25 Lib.Math.max.name, Cond.static Lib.Math.max.name, Cond.initialized "java/lang/Math", Cond.code Lib.Math.max.name Lib.Math.max.code 2 (some .int), Cond.methodLink RX0 31 yX0_isInSkippedMonth, Cond.instanceMethod yX0_isInSkippedMonth]
def wsX1_foretellNext_r2 : List Cond := [Cond.selects RX0 yX0_isInSkippedMonth yX0_isInSkippedMonth, Cond.code yX0_isInSkippedMonth cX0_isInSkippedMonth 3 (some .boolean), Cond.fieldLink RX0 22 "IssueDesk$Pattern" "skipped" "I"]
def wsX1_foretellNext : List Cond := .code yX1_foretellNext cX1_foretellNext 1 none :: ((wsX1_foretellNext_r1 ++ wsX1_foretellNext_r2) ++ wsX10 ++ wsX00)
def wsX1_foretellDueIssues_r1 : List Cond := [Cond.fieldLink RX1 40 "IssueDesk" "foretoldCount" "I", Cond.fieldLink RX1 74 "IssueDesk" "today" "I", Cond.methodLink RX1 160 yX1_nextDay, Cond.instanceMethod yX1_nextDay, Cond.selects RX1 yX1_nextDay yX1_nextDay, Cond.initialized RX1, Cond.code yX1_nextDay cX1_nextDay 2 (some .int), Cond.fieldLink RX1 10 "IssueDesk" "pattern" "LIssueDesk$Pattern;", Cond.fieldLink RX1 23 "IssueDesk" "issueDays" "[I", Cond.fieldLink RX1 123 "IssueDesk" "waitingShift" "I", Cond.methodLink RX1 82 yX1_isIssue, Cond.static yX1_isIssue, Cond.code yX1_isIssue cX1_isIssue 1 (some .boolean), Cond.methodLink RX1 156 yX0_dayBehind, Cond.instanceMethod yX0_dayBehind, Cond.selects RX0 yX0_dayBehind yX0_dayBehind, Cond.initialized RX0, Cond.code yX0_dayBehind cX0_dayBehind 5 (some .int), Cond.fieldLink RX0 9 "IssueDesk$Pattern" "gap" "I", Cond.methodLink RX0 25 Lib.Math.max.name, Cond.static Lib.Math.max.name, Cond.initialized "java/lang/Math", Cond.code Lib.Math.max.name Lib.Math.max.code 2 (some .int), Cond.methodLink RX0 31 yX0_isInSkippedMonth]
def wsX1_foretellDueIssues_r2 : List Cond := [Cond.instanceMethod yX0_isInSkippedMonth, Cond.selects RX0 yX0_isInSkippedMonth yX0_isInSkippedMonth, Cond.code yX0_isInSkippedMonth cX0_isInSkippedMonth 3 (some .boolean), Cond.fieldLink RX0 22 "IssueDesk$Pattern" "skipped" "I", Cond.methodLink RX1 164 yX1_foretellNext, Cond.instanceMethod yX1_foretellNext, Cond.selects RX1 yX1_foretellNext yX1_foretellNext, Cond.code yX1_foretellNext cX1_foretellNext 1 none]
def wsX1_foretellDueIssues : List Cond := .code yX1_foretellDueIssues cX1_foretellDueIssues 2 none :: ((wsX1_foretellDueIssues_r1 ++ wsX1_foretellDueIssues_r2) ++ wsX10 ++ wsX00)
def wsX1_setPattern_r1 : List Cond := [Cond.classLink RX1 50 "java/lang/IllegalArgumentException", Cond.initialized "java/lang/IllegalArgumentException", Cond.fieldLink RX1 10 "IssueDesk" "pattern" "LIssueDesk$Pattern;", Cond.methodLink RX1 46 yX1_isWithin, Cond.static yX1_isWithin, Cond.initialized RX1, Cond.code yX1_isWithin cX1_isWithin 3 (some .boolean), Cond.methodLink RX1 61 yX0_change, Cond.instanceMethod yX0_change, Cond.selects RX0 yX0_change yX0_change, Cond.initialized RX0, Cond.code yX0_change cX0_change 5 none, Cond.fieldLink RX0 9 "IssueDesk$Pattern" "gap" "I", Cond.fieldLink RX0 15 "IssueDesk$Pattern" "size" "I", Cond.fieldLink RX0 18 "IssueDesk$Pattern" "beginAnew" "Z", Cond.fieldLink RX0 22 "IssueDesk$Pattern" "skipped" "I", Cond.methodLink RX1 65 yX1_foretellDueIssues, Cond.instanceMethod yX1_foretellDueIssues, Cond.selects RX1 yX1_foretellDueIssues yX1_foretellDueIssues, Cond.code yX1_foretellDueIssues cX1_foretellDueIssues 2 none, Cond.fieldLink RX1 40 "IssueDesk" "foretoldCount" "I", Cond.fieldLink RX1 74 "IssueDesk" "today" "I", Cond.methodLink RX1 160 yX1_nextDay, Cond.instanceMethod yX1_nextDay]
def wsX1_setPattern_r2 : List Cond := [Cond.selects RX1 yX1_nextDay yX1_nextDay, Cond.code yX1_nextDay cX1_nextDay 2 (some .int), Cond.fieldLink RX1 23 "IssueDesk" "issueDays" "[I", Cond.fieldLink RX1 123 "IssueDesk" "waitingShift" "I", Cond.methodLink RX1 82 yX1_isIssue, Cond.static yX1_isIssue, Cond.code yX1_isIssue cX1_isIssue 1 (some .boolean), Cond.methodLink RX1 156 yX0_dayBehind, Cond.instanceMethod yX0_dayBehind, Cond.selects RX0 yX0_dayBehind yX0_dayBehind, Cond.code yX0_dayBehind cX0_dayBehind 5 (some .int), Cond.methodLink RX0 25 Lib.Math.max.name, Cond.static Lib.Math.max.name, Cond.initialized "java/lang/Math", Cond.code Lib.Math.max.name Lib.Math.max.code 2 (some .int), Cond.methodLink RX0 31 yX0_isInSkippedMonth, Cond.instanceMethod yX0_isInSkippedMonth, Cond.selects RX0 yX0_isInSkippedMonth yX0_isInSkippedMonth, Cond.code yX0_isInSkippedMonth cX0_isInSkippedMonth 3 (some .boolean), Cond.methodLink RX1 164 yX1_foretellNext, Cond.instanceMethod yX1_foretellNext, Cond.selects RX1 yX1_foretellNext yX1_foretellNext, Cond.code yX1_foretellNext cX1_foretellNext 1 none]
def wsX1_setPattern : List Cond := .code yX1_setPattern cX1_setPattern 5 none :: ((wsX1_setPattern_r1 ++ wsX1_setPattern_r2) ++ wsX10 ++ wsX00 ++ (vx_atS RX1 54 "java/lang/IllegalArgumentException" ["java/lang/RuntimeException", "java/lang/Exception"]).filter goodWord)
def wsX1_setClaims : List Cond := .code yX1_setClaims cX1_setClaims 3 none :: ([.classLink RX1 50 "java/lang/IllegalArgumentException", .initialized "java/lang/IllegalArgumentException", .fieldLink RX1 16 "IssueDesk" "grace" "I", .fieldLink RX1 20 "IssueDesk" "pause" "I", .methodLink RX1 46 yX1_isWithin, .static yX1_isWithin, .initialized RX1, .code yX1_isWithin cX1_isWithin 3 (some .boolean)] ++ wsX10 ++ (vx_atS RX1 54 "java/lang/IllegalArgumentException" ["java/lang/RuntimeException", "java/lang/Exception"]).filter goodWord)
def wsX1_advance_r1 : List Cond := [Cond.classLink RX1 50 "java/lang/IllegalArgumentException", Cond.initialized "java/lang/IllegalArgumentException", Cond.classLink RX1 77 "java/lang/IllegalStateException", Cond.initialized "java/lang/IllegalStateException", Cond.fieldLink RX1 74 "IssueDesk" "today" "I", Cond.methodLink RX1 46 yX1_isWithin, Cond.static yX1_isWithin, Cond.initialized RX1, Cond.code yX1_isWithin cX1_isWithin 3 (some .boolean), Cond.methodLink RX1 65 yX1_foretellDueIssues, Cond.instanceMethod yX1_foretellDueIssues, Cond.selects RX1 yX1_foretellDueIssues yX1_foretellDueIssues, Cond.code yX1_foretellDueIssues cX1_foretellDueIssues 2 none, Cond.fieldLink RX1 40 "IssueDesk" "foretoldCount" "I", Cond.methodLink RX1 160 yX1_nextDay, Cond.instanceMethod yX1_nextDay, Cond.selects RX1 yX1_nextDay yX1_nextDay, Cond.code yX1_nextDay cX1_nextDay 2 (some .int), Cond.fieldLink RX1 10 "IssueDesk" "pattern" "LIssueDesk$Pattern;", Cond.fieldLink RX1 23 "IssueDesk" "issueDays" "[I", Cond.fieldLink RX1 123 "IssueDesk" "waitingShift" "I", Cond.methodLink RX1 82 yX1_isIssue, Cond.static yX1_isIssue, Cond.code yX1_isIssue cX1_isIssue 1 (some .boolean)]
def wsX1_advance_r2 : List Cond := [Cond.methodLink RX1 156 yX0_dayBehind, Cond.instanceMethod yX0_dayBehind, Cond.selects RX0 yX0_dayBehind yX0_dayBehind, Cond.initialized RX0, Cond.code yX0_dayBehind cX0_dayBehind 5 (some .int), Cond.fieldLink RX0 9 "IssueDesk$Pattern" "gap" "I", Cond.methodLink RX0 25 Lib.Math.max.name, Cond.static Lib.Math.max.name, Cond.initialized "java/lang/Math", Cond.code Lib.Math.max.name Lib.Math.max.code 2 (some .int), Cond.methodLink RX0 31 yX0_isInSkippedMonth, Cond.instanceMethod yX0_isInSkippedMonth, Cond.selects RX0 yX0_isInSkippedMonth yX0_isInSkippedMonth, Cond.code yX0_isInSkippedMonth cX0_isInSkippedMonth 3 (some .boolean), Cond.fieldLink RX0 22 "IssueDesk$Pattern" "skipped" "I", Cond.methodLink RX1 164 yX1_foretellNext, Cond.instanceMethod yX1_foretellNext, Cond.selects RX1 yX1_foretellNext yX1_foretellNext, Cond.code yX1_foretellNext cX1_foretellNext 1 none]
def wsX1_advance : List Cond := .code yX1_advance cX1_advance 2 (some .int) :: ((wsX1_advance_r1 ++ wsX1_advance_r2) ++ wsX10 ++ wsX00 ++ (vx_atS RX1 54 "java/lang/IllegalArgumentException" ["java/lang/RuntimeException", "java/lang/Exception"]).filter goodWord ++ (vx_atS RX1 81 "java/lang/IllegalStateException" ["java/lang/RuntimeException", "java/lang/Exception"]).filter goodWord)
def wsX1_isForetold : List Cond := .code yX1_isForetold cX1_isForetold 2 (some .boolean) :: ([.fieldLink RX1 40 "IssueDesk" "foretoldCount" "I", .methodLink RX1 82 yX1_isIssue, .static yX1_isIssue, .initialized RX1, .code yX1_isIssue cX1_isIssue 1 (some .boolean)] ++ wsX10)
def wsX1_canAllCome : List Cond := .code yX1_canAllCome cX1_canAllCome 4 (some .boolean) :: ([.fieldLink RX1 27 "IssueDesk" "states" "[I", .methodLink RX1 110 yX1_isForetold, .instanceMethod yX1_isForetold, .selects RX1 yX1_isForetold yX1_isForetold, .initialized RX1, .code yX1_isForetold cX1_isForetold 2 (some .boolean), .fieldLink RX1 40 "IssueDesk" "foretoldCount" "I", .methodLink RX1 82 yX1_isIssue, .static yX1_isIssue, .code yX1_isIssue cX1_isIssue 1 (some .boolean)] ++ wsX10)
def wsX1_foretellUpTo_r1 : List Cond := [Cond.fieldLink RX1 40 "IssueDesk" "foretoldCount" "I", Cond.methodLink RX1 164 yX1_foretellNext, Cond.instanceMethod yX1_foretellNext, Cond.selects RX1 yX1_foretellNext yX1_foretellNext, Cond.initialized RX1, Cond.code yX1_foretellNext cX1_foretellNext 1 none, Cond.fieldLink RX1 23 "IssueDesk" "issueDays" "[I", Cond.fieldLink RX1 123 "IssueDesk" "waitingShift" "I", Cond.methodLink RX1 82 yX1_isIssue, Cond.static yX1_isIssue, Cond.code yX1_isIssue cX1_isIssue 1 (some .boolean), Cond.methodLink RX1 160 yX1_nextDay, Cond.instanceMethod yX1_nextDay, Cond.selects RX1 yX1_nextDay yX1_nextDay, Cond.code yX1_nextDay cX1_nextDay 2 (some .int), Cond.fieldLink RX1 10 "IssueDesk" "pattern" "LIssueDesk$Pattern;", Cond.methodLink RX1 156 yX0_dayBehind, Cond.instanceMethod yX0_dayBehind, Cond.selects RX0 yX0_dayBehind yX0_dayBehind, Cond.initialized RX0, Cond.code yX0_dayBehind cX0_dayBehind 5 (some .int), Cond.fieldLink RX0 9 "IssueDesk$Pattern" "gap" "I", Cond.methodLink RX0 25 Lib.Math.max.name, Cond.static Lib.Math.max.name]
def wsX1_foretellUpTo_r2 : List Cond := [Cond.initialized "java/lang/Math", Cond.code Lib.Math.max.name Lib.Math.max.code 2 (some .int), Cond.methodLink RX0 31 yX0_isInSkippedMonth, Cond.instanceMethod yX0_isInSkippedMonth, Cond.selects RX0 yX0_isInSkippedMonth yX0_isInSkippedMonth, Cond.code yX0_isInSkippedMonth cX0_isInSkippedMonth 3 (some .boolean), Cond.fieldLink RX0 22 "IssueDesk$Pattern" "skipped" "I"]
def wsX1_foretellUpTo : List Cond := .code yX1_foretellUpTo cX1_foretellUpTo 3 none :: ((wsX1_foretellUpTo_r1 ++ wsX1_foretellUpTo_r2) ++ wsX10 ++ wsX00)
def wsX1_takeIn : List Cond := .code yX1_takeIn cX1_takeIn 4 none :: ([.fieldLink RX1 27 "IssueDesk" "states" "[I", .methodLink RX1 110 yX1_isForetold, .instanceMethod yX1_isForetold, .selects RX1 yX1_isForetold yX1_isForetold, .initialized RX1, .code yX1_isForetold cX1_isForetold 2 (some .boolean), .fieldLink RX1 40 "IssueDesk" "foretoldCount" "I", .methodLink RX1 82 yX1_isIssue, .static yX1_isIssue, .code yX1_isIssue cX1_isIssue 1 (some .boolean)] ++ wsX10)
def wsX1_followsStreak : List Cond := .code yX1_followsStreak cX1_followsStreak 3 (some .boolean) :: ([.fieldLink RX1 43 "IssueDesk" "streakIssue" "I", .fieldLink RX1 27 "IssueDesk" "states" "[I", .methodLink RX1 110 yX1_isForetold, .instanceMethod yX1_isForetold, .selects RX1 yX1_isForetold yX1_isForetold, .initialized RX1, .code yX1_isForetold cX1_isForetold 2 (some .boolean), .fieldLink RX1 40 "IssueDesk" "foretoldCount" "I", .methodLink RX1 82 yX1_isIssue, .static yX1_isIssue, .code yX1_isIssue cX1_isIssue 1 (some .boolean)] ++ wsX10)
def wsX1_canShift : List Cond := .code yX1_canShift cX1_canShift 1 (some .boolean) :: ([.methodLink RX1 46 yX1_isWithin, .static yX1_isWithin, .initialized RX1, .code yX1_isWithin cX1_isWithin 3 (some .boolean)])
def wsX1_noteDifference_r1 : List Cond := [Cond.fieldLink RX1 74 "IssueDesk" "today" "I", Cond.fieldLink RX1 23 "IssueDesk" "issueDays" "[I", Cond.fieldLink RX1 167 "IssueDesk" "streakDifference" "I", Cond.fieldLink RX1 173 "IssueDesk" "streakLength" "I", Cond.fieldLink RX1 43 "IssueDesk" "streakIssue" "I", Cond.fieldLink RX1 123 "IssueDesk" "waitingShift" "I", Cond.methodLink RX1 110 yX1_isForetold, Cond.instanceMethod yX1_isForetold, Cond.selects RX1 yX1_isForetold yX1_isForetold, Cond.initialized RX1, Cond.code yX1_isForetold cX1_isForetold 2 (some .boolean), Cond.fieldLink RX1 40 "IssueDesk" "foretoldCount" "I", Cond.methodLink RX1 82 yX1_isIssue, Cond.static yX1_isIssue, Cond.code yX1_isIssue cX1_isIssue 1 (some .boolean), Cond.methodLink RX1 170 yX1_followsStreak, Cond.instanceMethod yX1_followsStreak, Cond.selects RX1 yX1_followsStreak yX1_followsStreak, Cond.code yX1_followsStreak cX1_followsStreak 3 (some .boolean), Cond.fieldLink RX1 27 "IssueDesk" "states" "[I", Cond.methodLink RX1 176 yX1_canShift, Cond.static yX1_canShift, Cond.code yX1_canShift cX1_canShift 1 (some .boolean), Cond.methodLink RX1 46 yX1_isWithin]
def wsX1_noteDifference_r2 : List Cond := [Cond.static yX1_isWithin, Cond.code yX1_isWithin cX1_isWithin 3 (some .boolean)]
def wsX1_noteDifference : List Cond := .code yX1_noteDifference cX1_noteDifference 4 none :: ((wsX1_noteDifference_r1 ++ wsX1_noteDifference_r2) ++ wsX10)
def wsX1_checkIn_r1 : List Cond := [Cond.classLink RX1 86 "java/lang/IndexOutOfBoundsException", Cond.initialized "java/lang/IndexOutOfBoundsException", Cond.classLink RX1 50 "java/lang/IllegalArgumentException", Cond.initialized "java/lang/IllegalArgumentException", Cond.classLink RX1 77 "java/lang/IllegalStateException", Cond.initialized "java/lang/IllegalStateException", Cond.fieldLink RX1 40 "IssueDesk" "foretoldCount" "I", Cond.methodLink RX1 82 yX1_isIssue, Cond.static yX1_isIssue, Cond.initialized RX1, Cond.code yX1_isIssue cX1_isIssue 1 (some .boolean), Cond.methodLink RX1 46 yX1_isWithin, Cond.static yX1_isWithin, Cond.code yX1_isWithin cX1_isWithin 3 (some .boolean), Cond.methodLink RX1 93 yX1_canAllCome, Cond.instanceMethod yX1_canAllCome, Cond.selects RX1 yX1_canAllCome yX1_canAllCome, Cond.code yX1_canAllCome cX1_canAllCome 4 (some .boolean), Cond.fieldLink RX1 27 "IssueDesk" "states" "[I", Cond.methodLink RX1 110 yX1_isForetold, Cond.instanceMethod yX1_isForetold, Cond.selects RX1 yX1_isForetold yX1_isForetold, Cond.code yX1_isForetold cX1_isForetold 2 (some .boolean), Cond.methodLink RX1 99 yX1_foretellUpTo]
def wsX1_checkIn_r2 : List Cond := [Cond.instanceMethod yX1_foretellUpTo, Cond.selects RX1 yX1_foretellUpTo yX1_foretellUpTo, Cond.code yX1_foretellUpTo cX1_foretellUpTo 3 none, Cond.methodLink RX1 164 yX1_foretellNext, Cond.instanceMethod yX1_foretellNext, Cond.selects RX1 yX1_foretellNext yX1_foretellNext, Cond.code yX1_foretellNext cX1_foretellNext 1 none, Cond.fieldLink RX1 23 "IssueDesk" "issueDays" "[I", Cond.fieldLink RX1 123 "IssueDesk" "waitingShift" "I", Cond.methodLink RX1 160 yX1_nextDay, Cond.instanceMethod yX1_nextDay, Cond.selects RX1 yX1_nextDay yX1_nextDay, Cond.code yX1_nextDay cX1_nextDay 2 (some .int), Cond.fieldLink RX1 10 "IssueDesk" "pattern" "LIssueDesk$Pattern;", Cond.methodLink RX1 156 yX0_dayBehind, Cond.instanceMethod yX0_dayBehind, Cond.selects RX0 yX0_dayBehind yX0_dayBehind, Cond.initialized RX0, Cond.code yX0_dayBehind cX0_dayBehind 5 (some .int), Cond.fieldLink RX0 9 "IssueDesk$Pattern" "gap" "I", Cond.methodLink RX0 25 Lib.Math.max.name, Cond.static Lib.Math.max.name, Cond.initialized "java/lang/Math", Cond.code Lib.Math.max.name Lib.Math.max.code 2 (some .int)]
def wsX1_checkIn_r3 : List Cond := [Cond.methodLink RX0 31 yX0_isInSkippedMonth, Cond.instanceMethod yX0_isInSkippedMonth, Cond.selects RX0 yX0_isInSkippedMonth yX0_isInSkippedMonth, Cond.code yX0_isInSkippedMonth cX0_isInSkippedMonth 3 (some .boolean), Cond.fieldLink RX0 22 "IssueDesk$Pattern" "skipped" "I", Cond.methodLink RX1 103 yX1_takeIn, Cond.instanceMethod yX1_takeIn, Cond.selects RX1 yX1_takeIn yX1_takeIn, Cond.code yX1_takeIn cX1_takeIn 4 none, Cond.methodLink RX1 107 yX1_noteDifference, Cond.instanceMethod yX1_noteDifference, Cond.selects RX1 yX1_noteDifference yX1_noteDifference, Cond.code yX1_noteDifference cX1_noteDifference 4 none, Cond.fieldLink RX1 74 "IssueDesk" "today" "I", Cond.fieldLink RX1 167 "IssueDesk" "streakDifference" "I", Cond.fieldLink RX1 173 "IssueDesk" "streakLength" "I", Cond.fieldLink RX1 43 "IssueDesk" "streakIssue" "I", Cond.methodLink RX1 170 yX1_followsStreak, Cond.instanceMethod yX1_followsStreak, Cond.selects RX1 yX1_followsStreak yX1_followsStreak, Cond.code yX1_followsStreak cX1_followsStreak 3 (some .boolean), Cond.methodLink RX1 176 yX1_canShift, Cond.static yX1_canShift, Cond.code yX1_canShift cX1_canShift 1 (some .boolean)]
def wsX1_checkIn_r4 : List Cond := [Cond.methodLink RX1 65 yX1_foretellDueIssues, Cond.instanceMethod yX1_foretellDueIssues, Cond.selects RX1 yX1_foretellDueIssues yX1_foretellDueIssues, Cond.code yX1_foretellDueIssues cX1_foretellDueIssues 2 none]
def wsX1_checkIn : List Cond := .code yX1_checkIn cX1_checkIn 4 (some .int) :: ((wsX1_checkIn_r1 ++ (wsX1_checkIn_r2 ++ (wsX1_checkIn_r3 ++ wsX1_checkIn_r4))) ++ wsX10 ++ wsX00 ++ (vx_atS RX1 90 "java/lang/IndexOutOfBoundsException" ["java/lang/RuntimeException", "java/lang/Exception"]).filter goodWord ++ (vx_atS RX1 54 "java/lang/IllegalArgumentException" ["java/lang/RuntimeException", "java/lang/Exception"]).filter goodWord ++ (vx_atS RX1 81 "java/lang/IllegalStateException" ["java/lang/RuntimeException", "java/lang/Exception"]).filter goodWord)
def wsX1_skip : List Cond := .code yX1_skip cX1_skip 2 none :: ([.classLink RX1 86 "java/lang/IndexOutOfBoundsException", .initialized "java/lang/IndexOutOfBoundsException", .classLink RX1 77 "java/lang/IllegalStateException", .initialized "java/lang/IllegalStateException", .fieldLink RX1 27 "IssueDesk" "states" "[I", .methodLink RX1 110 yX1_isForetold, .instanceMethod yX1_isForetold, .selects RX1 yX1_isForetold yX1_isForetold, .initialized RX1, .code yX1_isForetold cX1_isForetold 2 (some .boolean), .fieldLink RX1 40 "IssueDesk" "foretoldCount" "I", .methodLink RX1 82 yX1_isIssue, .static yX1_isIssue, .code yX1_isIssue cX1_isIssue 1 (some .boolean)] ++ wsX10 ++ (vx_atS RX1 90 "java/lang/IndexOutOfBoundsException" ["java/lang/RuntimeException", "java/lang/Exception"]).filter goodWord ++ (vx_atS RX1 81 "java/lang/IllegalStateException" ["java/lang/RuntimeException", "java/lang/Exception"]).filter goodWord)
def wsX1_isLate : List Cond := .code yX1_isLate cX1_isLate 2 (some .boolean) :: ([.fieldLink RX1 27 "IssueDesk" "states" "[I", .fieldLink RX1 74 "IssueDesk" "today" "I", .fieldLink RX1 23 "IssueDesk" "issueDays" "[I", .fieldLink RX1 16 "IssueDesk" "grace" "I", .methodLink RX1 110 yX1_isForetold, .instanceMethod yX1_isForetold, .selects RX1 yX1_isForetold yX1_isForetold, .initialized RX1, .code yX1_isForetold cX1_isForetold 2 (some .boolean), .fieldLink RX1 40 "IssueDesk" "foretoldCount" "I", .methodLink RX1 82 yX1_isIssue, .static yX1_isIssue, .code yX1_isIssue cX1_isIssue 1 (some .boolean)] ++ wsX10)
def wsX1_isTimeToClaim : List Cond := .code yX1_isTimeToClaim cX1_isTimeToClaim 2 (some .boolean) :: ([.fieldLink RX1 30 "IssueDesk" "claimCounts" "[I", .fieldLink RX1 74 "IssueDesk" "today" "I", .fieldLink RX1 33 "IssueDesk" "claimDays" "[I", .fieldLink RX1 20 "IssueDesk" "pause" "I", .methodLink RX1 82 yX1_isIssue, .static yX1_isIssue, .initialized RX1, .code yX1_isIssue cX1_isIssue 1 (some .boolean)] ++ wsX10)
def wsX1_round : List Cond := .code yX1_round cX1_round 3 (some .int) :: ([.fieldLink RX1 30 "IssueDesk" "claimCounts" "[I", .fieldLink RX1 33 "IssueDesk" "claimDays" "[I", .fieldLink RX1 74 "IssueDesk" "today" "I", .fieldLink RX1 27 "IssueDesk" "states" "[I", .methodLink RX1 117 yX1_isLate, .instanceMethod yX1_isLate, .selects RX1 yX1_isLate yX1_isLate, .initialized RX1, .code yX1_isLate cX1_isLate 2 (some .boolean), .fieldLink RX1 23 "IssueDesk" "issueDays" "[I", .fieldLink RX1 16 "IssueDesk" "grace" "I", .methodLink RX1 110 yX1_isForetold, .instanceMethod yX1_isForetold, .selects RX1 yX1_isForetold yX1_isForetold, .code yX1_isForetold cX1_isForetold 2 (some .boolean), .fieldLink RX1 40 "IssueDesk" "foretoldCount" "I", .methodLink RX1 82 yX1_isIssue, .static yX1_isIssue, .code yX1_isIssue cX1_isIssue 1 (some .boolean), .methodLink RX1 120 yX1_isTimeToClaim, .instanceMethod yX1_isTimeToClaim, .selects RX1 yX1_isTimeToClaim yX1_isTimeToClaim, .code yX1_isTimeToClaim cX1_isTimeToClaim 2 (some .boolean), .fieldLink RX1 20 "IssueDesk" "pause" "I"] ++ wsX10)
def wsX1_day : List Cond := .code yX1_day cX1_day 1 (some .int) :: ([.fieldLink RX1 74 "IssueDesk" "today" "I"] ++ wsX10)
def wsX1_foretold : List Cond := .code yX1_foretold cX1_foretold 1 (some .int) :: ([.fieldLink RX1 40 "IssueDesk" "foretoldCount" "I"] ++ wsX10)
def wsX1_shift : List Cond := .code yX1_shift cX1_shift 1 (some .int) :: ([.fieldLink RX1 123 "IssueDesk" "waitingShift" "I"] ++ wsX10)
def wsX1_dayOf : List Cond := .code yX1_dayOf cX1_dayOf 2 (some .int) :: ([.classLink RX1 86 "java/lang/IndexOutOfBoundsException", .initialized "java/lang/IndexOutOfBoundsException", .fieldLink RX1 23 "IssueDesk" "issueDays" "[I", .methodLink RX1 110 yX1_isForetold, .instanceMethod yX1_isForetold, .selects RX1 yX1_isForetold yX1_isForetold, .initialized RX1, .code yX1_isForetold cX1_isForetold 2 (some .boolean), .fieldLink RX1 40 "IssueDesk" "foretoldCount" "I", .methodLink RX1 82 yX1_isIssue, .static yX1_isIssue, .code yX1_isIssue cX1_isIssue 1 (some .boolean)] ++ wsX10 ++ (vx_atS RX1 90 "java/lang/IndexOutOfBoundsException" ["java/lang/RuntimeException", "java/lang/Exception"]).filter goodWord)
def wsX1_stateOf : List Cond := .code yX1_stateOf cX1_stateOf 2 (some .int) :: ([.classLink RX1 86 "java/lang/IndexOutOfBoundsException", .initialized "java/lang/IndexOutOfBoundsException", .fieldLink RX1 27 "IssueDesk" "states" "[I", .methodLink RX1 110 yX1_isForetold, .instanceMethod yX1_isForetold, .selects RX1 yX1_isForetold yX1_isForetold, .initialized RX1, .code yX1_isForetold cX1_isForetold 2 (some .boolean), .fieldLink RX1 40 "IssueDesk" "foretoldCount" "I", .methodLink RX1 82 yX1_isIssue, .static yX1_isIssue, .code yX1_isIssue cX1_isIssue 1 (some .boolean)] ++ wsX10 ++ (vx_atS RX1 90 "java/lang/IndexOutOfBoundsException" ["java/lang/RuntimeException", "java/lang/Exception"]).filter goodWord)
def wsX1_claimsOf : List Cond := .code yX1_claimsOf cX1_claimsOf 2 (some .int) :: ([.classLink RX1 86 "java/lang/IndexOutOfBoundsException", .initialized "java/lang/IndexOutOfBoundsException", .fieldLink RX1 30 "IssueDesk" "claimCounts" "[I", .methodLink RX1 110 yX1_isForetold, .instanceMethod yX1_isForetold, .selects RX1 yX1_isForetold yX1_isForetold, .initialized RX1, .code yX1_isForetold cX1_isForetold 2 (some .boolean), .fieldLink RX1 40 "IssueDesk" "foretoldCount" "I", .methodLink RX1 82 yX1_isIssue, .static yX1_isIssue, .code yX1_isIssue cX1_isIssue 1 (some .boolean)] ++ wsX10 ++ (vx_atS RX1 90 "java/lang/IndexOutOfBoundsException" ["java/lang/RuntimeException", "java/lang/Exception"]).filter goodWord)
def wsX1_labelOf : List Cond := .code yX1_labelOf cX1_labelOf 2 (some .int) :: ([.classLink RX1 86 "java/lang/IndexOutOfBoundsException", .initialized "java/lang/IndexOutOfBoundsException", .fieldLink RX1 10 "IssueDesk" "pattern" "LIssueDesk$Pattern;", .methodLink RX1 82 yX1_isIssue, .static yX1_isIssue, .initialized RX1, .code yX1_isIssue cX1_isIssue 1 (some .boolean), .methodLink RX1 126 yX0_volumeOf, .instanceMethod yX0_volumeOf, .selects RX0 yX0_volumeOf yX0_volumeOf, .initialized RX0, .code yX0_volumeOf cX0_volumeOf 2 (some .int), .fieldLink RX0 15 "IssueDesk$Pattern" "size" "I", .methodLink RX1 130 yX0_numberOf, .instanceMethod yX0_numberOf, .selects RX0 yX0_numberOf yX0_numberOf, .code yX0_numberOf cX0_numberOf 2 (some .int), .fieldLink RX0 18 "IssueDesk$Pattern" "beginAnew" "Z"] ++ wsX10 ++ wsX00 ++ (vx_atS RX1 90 "java/lang/IndexOutOfBoundsException" ["java/lang/RuntimeException", "java/lang/Exception"]).filter goodWord)
def wsX1_find : List Cond := .code yX1_find cX1_find 4 (some .int) :: ([.fieldLink RX1 10 "IssueDesk" "pattern" "LIssueDesk$Pattern;", .methodLink RX1 126 yX0_volumeOf, .instanceMethod yX0_volumeOf, .selects RX0 yX0_volumeOf yX0_volumeOf, .initialized RX0, .code yX0_volumeOf cX0_volumeOf 2 (some .int), .fieldLink RX0 15 "IssueDesk$Pattern" "size" "I", .methodLink RX1 130 yX0_numberOf, .instanceMethod yX0_numberOf, .selects RX0 yX0_numberOf yX0_numberOf, .code yX0_numberOf cX0_numberOf 2 (some .int), .fieldLink RX0 18 "IssueDesk$Pattern" "beginAnew" "Z"] ++ wsX10 ++ wsX00)
def wsX1_late : List Cond := .code yX1_late cX1_late 3 (some .int) :: ([.methodLink RX1 117 yX1_isLate, .instanceMethod yX1_isLate, .selects RX1 yX1_isLate yX1_isLate, .initialized RX1, .code yX1_isLate cX1_isLate 2 (some .boolean), .fieldLink RX1 27 "IssueDesk" "states" "[I", .fieldLink RX1 74 "IssueDesk" "today" "I", .fieldLink RX1 23 "IssueDesk" "issueDays" "[I", .fieldLink RX1 16 "IssueDesk" "grace" "I", .methodLink RX1 110 yX1_isForetold, .instanceMethod yX1_isForetold, .selects RX1 yX1_isForetold yX1_isForetold, .code yX1_isForetold cX1_isForetold 2 (some .boolean), .fieldLink RX1 40 "IssueDesk" "foretoldCount" "I", .methodLink RX1 82 yX1_isIssue, .static yX1_isIssue, .code yX1_isIssue cX1_isIssue 1 (some .boolean)] ++ wsX10)
def wsX1_isInHouse : List Cond := .code yX1_isInHouse cX1_isInHouse 2 (some .boolean) :: ([.fieldLink RX1 27 "IssueDesk" "states" "[I", .methodLink RX1 110 yX1_isForetold, .instanceMethod yX1_isForetold, .selects RX1 yX1_isForetold yX1_isForetold, .initialized RX1, .code yX1_isForetold cX1_isForetold 2 (some .boolean), .fieldLink RX1 40 "IssueDesk" "foretoldCount" "I", .methodLink RX1 82 yX1_isIssue, .static yX1_isIssue, .code yX1_isIssue cX1_isIssue 1 (some .boolean)] ++ wsX10)
def wsX1_isRangeStart : List Cond := .code yX1_isRangeStart cX1_isRangeStart 2 (some .boolean) :: ([.methodLink RX1 153 yX1_isInHouse, .instanceMethod yX1_isInHouse, .selects RX1 yX1_isInHouse yX1_isInHouse, .initialized RX1, .code yX1_isInHouse cX1_isInHouse 2 (some .boolean), .fieldLink RX1 27 "IssueDesk" "states" "[I", .methodLink RX1 110 yX1_isForetold, .instanceMethod yX1_isForetold, .selects RX1 yX1_isForetold yX1_isForetold, .code yX1_isForetold cX1_isForetold 2 (some .boolean), .fieldLink RX1 40 "IssueDesk" "foretoldCount" "I", .methodLink RX1 82 yX1_isIssue, .static yX1_isIssue, .code yX1_isIssue cX1_isIssue 1 (some .boolean)] ++ wsX10)
def wsX1_ranges : List Cond := .code yX1_ranges cX1_ranges 3 (some .int) :: ([.methodLink RX1 133 yX1_isRangeStart, .instanceMethod yX1_isRangeStart, .selects RX1 yX1_isRangeStart yX1_isRangeStart, .initialized RX1, .code yX1_isRangeStart cX1_isRangeStart 2 (some .boolean), .methodLink RX1 153 yX1_isInHouse, .instanceMethod yX1_isInHouse, .selects RX1 yX1_isInHouse yX1_isInHouse, .code yX1_isInHouse cX1_isInHouse 2 (some .boolean), .fieldLink RX1 27 "IssueDesk" "states" "[I", .methodLink RX1 110 yX1_isForetold, .instanceMethod yX1_isForetold, .selects RX1 yX1_isForetold yX1_isForetold, .code yX1_isForetold cX1_isForetold 2 (some .boolean), .fieldLink RX1 40 "IssueDesk" "foretoldCount" "I", .methodLink RX1 82 yX1_isIssue, .static yX1_isIssue, .code yX1_isIssue cX1_isIssue 1 (some .boolean)] ++ wsX10)
def wsX1_startOfRange : List Cond := .code yX1_startOfRange cX1_startOfRange 4 (some .int) :: ([.methodLink RX1 133 yX1_isRangeStart, .instanceMethod yX1_isRangeStart, .selects RX1 yX1_isRangeStart yX1_isRangeStart, .initialized RX1, .code yX1_isRangeStart cX1_isRangeStart 2 (some .boolean), .methodLink RX1 153 yX1_isInHouse, .instanceMethod yX1_isInHouse, .selects RX1 yX1_isInHouse yX1_isInHouse, .code yX1_isInHouse cX1_isInHouse 2 (some .boolean), .fieldLink RX1 27 "IssueDesk" "states" "[I", .methodLink RX1 110 yX1_isForetold, .instanceMethod yX1_isForetold, .selects RX1 yX1_isForetold yX1_isForetold, .code yX1_isForetold cX1_isForetold 2 (some .boolean), .fieldLink RX1 40 "IssueDesk" "foretoldCount" "I", .methodLink RX1 82 yX1_isIssue, .static yX1_isIssue, .code yX1_isIssue cX1_isIssue 1 (some .boolean)] ++ wsX10)
def wsX1_endOfRange : List Cond := .code yX1_endOfRange cX1_endOfRange 3 (some .int) :: ([.methodLink RX1 153 yX1_isInHouse, .instanceMethod yX1_isInHouse, .selects RX1 yX1_isInHouse yX1_isInHouse, .initialized RX1, .code yX1_isInHouse cX1_isInHouse 2 (some .boolean), .fieldLink RX1 27 "IssueDesk" "states" "[I", .methodLink RX1 110 yX1_isForetold, .instanceMethod yX1_isForetold, .selects RX1 yX1_isForetold yX1_isForetold, .code yX1_isForetold cX1_isForetold 2 (some .boolean), .fieldLink RX1 40 "IssueDesk" "foretoldCount" "I", .methodLink RX1 82 yX1_isIssue, .static yX1_isIssue, .code yX1_isIssue cX1_isIssue 1 (some .boolean)] ++ wsX10)
def wsX1_rangeAt_r1 : List Cond := [Cond.classLink RX1 86 "java/lang/IndexOutOfBoundsException", Cond.initialized "java/lang/IndexOutOfBoundsException", Cond.methodLink RX1 136 yX1_startOfRange, Cond.instanceMethod yX1_startOfRange, Cond.selects RX1 yX1_startOfRange yX1_startOfRange, Cond.initialized RX1, Cond.code yX1_startOfRange cX1_startOfRange 4 (some .int), Cond.methodLink RX1 133 yX1_isRangeStart, Cond.instanceMethod yX1_isRangeStart, Cond.selects RX1 yX1_isRangeStart yX1_isRangeStart, Cond.code yX1_isRangeStart cX1_isRangeStart 2 (some .boolean), Cond.methodLink RX1 153 yX1_isInHouse, Cond.instanceMethod yX1_isInHouse, Cond.selects RX1 yX1_isInHouse yX1_isInHouse, Cond.code yX1_isInHouse cX1_isInHouse 2 (some .boolean), Cond.fieldLink RX1 27 "IssueDesk" "states" "[I", Cond.methodLink RX1 110 yX1_isForetold, Cond.instanceMethod yX1_isForetold, Cond.selects RX1 yX1_isForetold yX1_isForetold, Cond.code yX1_isForetold cX1_isForetold 2 (some .boolean), Cond.fieldLink RX1 40 "IssueDesk" "foretoldCount" "I", Cond.methodLink RX1 82 yX1_isIssue, Cond.static yX1_isIssue, Cond.code yX1_isIssue cX1_isIssue 1 (some .boolean)]
def wsX1_rangeAt_r2 : List Cond := [Cond.methodLink RX1 141 yX1_endOfRange, Cond.instanceMethod yX1_endOfRange, Cond.selects RX1 yX1_endOfRange yX1_endOfRange, Cond.code yX1_endOfRange cX1_endOfRange 3 (some .int)]
def wsX1_rangeAt : List Cond := .code yX1_rangeAt cX1_rangeAt 3 (some .int) :: ((wsX1_rangeAt_r1 ++ wsX1_rangeAt_r2) ++ wsX10 ++ (vx_atS RX1 90 "java/lang/IndexOutOfBoundsException" ["java/lang/RuntimeException", "java/lang/Exception"]).filter goodWord)
def wsX1_isHeld_r1 : List Cond := [Cond.methodLink RX1 133 yX1_isRangeStart, Cond.instanceMethod yX1_isRangeStart, Cond.selects RX1 yX1_isRangeStart yX1_isRangeStart, Cond.initialized RX1, Cond.code yX1_isRangeStart cX1_isRangeStart 2 (some .boolean), Cond.methodLink RX1 153 yX1_isInHouse, Cond.instanceMethod yX1_isInHouse, Cond.selects RX1 yX1_isInHouse yX1_isInHouse, Cond.code yX1_isInHouse cX1_isInHouse 2 (some .boolean), Cond.fieldLink RX1 27 "IssueDesk" "states" "[I", Cond.methodLink RX1 110 yX1_isForetold, Cond.instanceMethod yX1_isForetold, Cond.selects RX1 yX1_isForetold yX1_isForetold, Cond.code yX1_isForetold cX1_isForetold 2 (some .boolean), Cond.fieldLink RX1 40 "IssueDesk" "foretoldCount" "I", Cond.methodLink RX1 82 yX1_isIssue, Cond.static yX1_isIssue, Cond.code yX1_isIssue cX1_isIssue 1 (some .boolean), Cond.methodLink RX1 141 yX1_endOfRange, Cond.instanceMethod yX1_endOfRange, Cond.selects RX1 yX1_endOfRange yX1_endOfRange, Cond.code yX1_endOfRange cX1_endOfRange 3 (some .int), Cond.methodLink RX1 46 yX1_isWithin, Cond.static yX1_isWithin]
def wsX1_isHeld_r2 : List Cond := [Cond.code yX1_isWithin cX1_isWithin 3 (some .boolean)]
def wsX1_isHeld : List Cond := .code yX1_isHeld cX1_isHeld 3 (some .boolean) :: ((wsX1_isHeld_r1 ++ wsX1_isHeld_r2) ++ wsX10)
def wsX1_give : List Cond := .code yX1_give cX1_give 4 (some .int) :: ([.classLink RX1 50 "java/lang/IllegalArgumentException", .initialized "java/lang/IllegalArgumentException", .fieldLink RX1 36 "IssueDesk" "isThere" "[Z", .fieldLink RX1 148 "IssueDesk" "thereCount" "I", .methodLink RX1 82 yX1_isIssue, .static yX1_isIssue, .initialized RX1, .code yX1_isIssue cX1_isIssue 1 (some .boolean), .methodLink RX1 46 yX1_isWithin, .static yX1_isWithin, .code yX1_isWithin cX1_isWithin 3 (some .boolean)] ++ wsX10 ++ (vx_atS RX1 54 "java/lang/IllegalArgumentException" ["java/lang/RuntimeException", "java/lang/Exception"]).filter goodWord)
def wsX1_only : List Cond := .code yX1_only cX1_only 6 (some .int) :: ([.classLink RX1 50 "java/lang/IllegalArgumentException", .initialized "java/lang/IllegalArgumentException", .fieldLink RX1 36 "IssueDesk" "isThere" "[Z", .methodLink RX1 153 yX1_isInHouse, .instanceMethod yX1_isInHouse, .selects RX1 yX1_isInHouse yX1_isInHouse, .initialized RX1, .code yX1_isInHouse cX1_isInHouse 2 (some .boolean), .fieldLink RX1 27 "IssueDesk" "states" "[I", .methodLink RX1 110 yX1_isForetold, .instanceMethod yX1_isForetold, .selects RX1 yX1_isForetold yX1_isForetold, .code yX1_isForetold cX1_isForetold 2 (some .boolean), .fieldLink RX1 40 "IssueDesk" "foretoldCount" "I", .methodLink RX1 82 yX1_isIssue, .static yX1_isIssue, .code yX1_isIssue cX1_isIssue 1 (some .boolean)] ++ wsX10 ++ (vx_atS RX1 54 "java/lang/IllegalArgumentException" ["java/lang/RuntimeException", "java/lang/Exception"]).filter goodWord)
def wsX2_init : List Cond := .code yX2_init cX2_init 1 none :: ([.methodLink RX2 1 objectInit, .instanceMethod objectInit, .code objectInit ⟨#[0xb1]⟩ 1 none, .fieldLink RX2 7 "IssueDeskModel" "gap" "I", .fieldLink RX2 13 "IssueDeskModel" "size" "I", .fieldLink RX2 16 "IssueDeskModel" "isAnew" "Z", .fieldLink RX2 20 "IssueDeskModel" "grace" "I", .fieldLink RX2 23 "IssueDeskModel" "pause" "I", .arrayClass .int, .fieldLink RX2 26 "IssueDeskModel" "dayOf" "[I", .fieldLink RX2 30 "IssueDeskModel" "state" "[I", .fieldLink RX2 33 "IssueDeskModel" "claims" "[I", .fieldLink RX2 36 "IssueDeskModel" "claimedOn" "[I", .arrayClass .boolean, .fieldLink RX2 39 "IssueDeskModel" "isThere" "[Z", .fieldLink RX2 43 "IssueDeskModel" "before" "I", .fieldLink RX2 46 "IssueDeskModel" "foretold" "I"] ++ wsX20)
def wsX2_thrown : List Cond := .code yX2_thrown cX2_thrown 1 (some .int) :: ([.fieldLink RX2 49 "IssueDeskModel" "thrown" "I"] ++ wsX20)
def wsX2_can : List Cond := .code yX2_can cX2_can 2 (some .boolean) :: ([.fieldLink RX2 49 "IssueDeskModel" "thrown" "I"] ++ wsX20)
def wsX2_isIn : List Cond := .code yX2_isIn cX2_isIn 3 (some .boolean) :: ([])
def wsX2_isIssue : List Cond := .code yX2_isIssue cX2_isIssue 1 (some .boolean) :: ([.methodLink RX2 52 yX2_isIn, .static yX2_isIn, .initialized RX2, .code yX2_isIn cX2_isIn 3 (some .boolean)])
def wsX2_isForetold : List Cond := .code yX2_isForetold cX2_isForetold 2 (some .boolean) :: ([.fieldLink RX2 46 "IssueDeskModel" "foretold" "I", .methodLink RX2 52 yX2_isIn, .static yX2_isIn, .initialized RX2, .code yX2_isIn cX2_isIn 3 (some .boolean)] ++ wsX20)
def wsX2_isBarred : List Cond := .code yX2_isBarred cX2_isBarred 2 (some .boolean) :: ([.fieldLink RX2 56 "IssueDeskModel" "skipped" "I"] ++ wsX20)
def wsX2_nextDay : List Cond := .code yX2_nextDay cX2_nextDay 3 (some .int) :: ([.fieldLink RX2 26 "IssueDeskModel" "dayOf" "[I", .fieldLink RX2 46 "IssueDeskModel" "foretold" "I", .fieldLink RX2 7 "IssueDeskModel" "gap" "I", .fieldLink RX2 59 "IssueDeskModel" "shift" "I", .methodLink RX2 62 yX2_isBarred, .instanceMethod yX2_isBarred, .selects RX2 yX2_isBarred yX2_isBarred, .initialized RX2, .code yX2_isBarred cX2_isBarred 2 (some .boolean), .fieldLink RX2 56 "IssueDeskModel" "skipped" "I"] ++ wsX20)
def wsX2_foretells : List Cond := .code yX2_foretells cX2_foretells 1 none :: ([.fieldLink RX2 26 "IssueDeskModel" "dayOf" "[I", .fieldLink RX2 46 "IssueDeskModel" "foretold" "I", .fieldLink RX2 59 "IssueDeskModel" "shift" "I", .methodLink RX2 66 yX2_nextDay, .instanceMethod yX2_nextDay, .selects RX2 yX2_nextDay yX2_nextDay, .initialized RX2, .code yX2_nextDay cX2_nextDay 3 (some .int), .fieldLink RX2 7 "IssueDeskModel" "gap" "I", .methodLink RX2 62 yX2_isBarred, .instanceMethod yX2_isBarred, .selects RX2 yX2_isBarred yX2_isBarred, .code yX2_isBarred cX2_isBarred 2 (some .boolean), .fieldLink RX2 56 "IssueDeskModel" "skipped" "I"] ++ wsX20)
def wsX2_looks : List Cond := .code yX2_looks cX2_looks 1 none :: ([.fieldLink RX2 46 "IssueDeskModel" "foretold" "I", .fieldLink RX2 70 "IssueDeskModel" "day" "I", .methodLink RX2 66 yX2_nextDay, .instanceMethod yX2_nextDay, .selects RX2 yX2_nextDay yX2_nextDay, .initialized RX2, .code yX2_nextDay cX2_nextDay 3 (some .int), .fieldLink RX2 26 "IssueDeskModel" "dayOf" "[I", .fieldLink RX2 7 "IssueDeskModel" "gap" "I", .fieldLink RX2 59 "IssueDeskModel" "shift" "I", .methodLink RX2 62 yX2_isBarred, .instanceMethod yX2_isBarred, .selects RX2 yX2_isBarred yX2_isBarred, .code yX2_isBarred cX2_isBarred 2 (some .boolean), .fieldLink RX2 56 "IssueDeskModel" "skipped" "I", .methodLink RX2 73 yX2_foretells, .instanceMethod yX2_foretells, .selects RX2 yX2_foretells yX2_foretells, .code yX2_foretells cX2_foretells 1 none] ++ wsX20)
def wsX2_setPattern_r1 : List Cond := [Cond.fieldLink RX2 7 "IssueDeskModel" "gap" "I", Cond.fieldLink RX2 13 "IssueDeskModel" "size" "I", Cond.fieldLink RX2 16 "IssueDeskModel" "isAnew" "Z", Cond.fieldLink RX2 56 "IssueDeskModel" "skipped" "I", Cond.methodLink RX2 52 yX2_isIn, Cond.static yX2_isIn, Cond.initialized RX2, Cond.code yX2_isIn cX2_isIn 3 (some .boolean), Cond.methodLink RX2 76 yX2_can, Cond.instanceMethod yX2_can, Cond.selects RX2 yX2_can yX2_can, Cond.code yX2_can cX2_can 2 (some .boolean), Cond.fieldLink RX2 49 "IssueDeskModel" "thrown" "I", Cond.methodLink RX2 79 yX2_looks, Cond.instanceMethod yX2_looks, Cond.selects RX2 yX2_looks yX2_looks, Cond.code yX2_looks cX2_looks 1 none, Cond.fieldLink RX2 46 "IssueDeskModel" "foretold" "I", Cond.fieldLink RX2 70 "IssueDeskModel" "day" "I", Cond.methodLink RX2 66 yX2_nextDay, Cond.instanceMethod yX2_nextDay, Cond.selects RX2 yX2_nextDay yX2_nextDay, Cond.code yX2_nextDay cX2_nextDay 3 (some .int), Cond.fieldLink RX2 26 "IssueDeskModel" "dayOf" "[I"]
def wsX2_setPattern_r2 : List Cond := [Cond.fieldLink RX2 59 "IssueDeskModel" "shift" "I", Cond.methodLink RX2 62 yX2_isBarred, Cond.instanceMethod yX2_isBarred, Cond.selects RX2 yX2_isBarred yX2_isBarred, Cond.code yX2_isBarred cX2_isBarred 2 (some .boolean), Cond.methodLink RX2 73 yX2_foretells, Cond.instanceMethod yX2_foretells, Cond.selects RX2 yX2_foretells yX2_foretells, Cond.code yX2_foretells cX2_foretells 1 none]
def wsX2_setPattern : List Cond := .code yX2_setPattern cX2_setPattern 5 none :: ((wsX2_setPattern_r1 ++ wsX2_setPattern_r2) ++ wsX20)
def wsX2_setClaims : List Cond := .code yX2_setClaims cX2_setClaims 3 none :: ([.fieldLink RX2 20 "IssueDeskModel" "grace" "I", .fieldLink RX2 23 "IssueDeskModel" "pause" "I", .methodLink RX2 52 yX2_isIn, .static yX2_isIn, .initialized RX2, .code yX2_isIn cX2_isIn 3 (some .boolean), .methodLink RX2 76 yX2_can, .instanceMethod yX2_can, .selects RX2 yX2_can yX2_can, .code yX2_can cX2_can 2 (some .boolean), .fieldLink RX2 49 "IssueDeskModel" "thrown" "I"] ++ wsX20)
def wsX2_advance_r1 : List Cond := [Cond.fieldLink RX2 70 "IssueDeskModel" "day" "I", Cond.methodLink RX2 52 yX2_isIn, Cond.static yX2_isIn, Cond.initialized RX2, Cond.code yX2_isIn cX2_isIn 3 (some .boolean), Cond.methodLink RX2 76 yX2_can, Cond.instanceMethod yX2_can, Cond.selects RX2 yX2_can yX2_can, Cond.code yX2_can cX2_can 2 (some .boolean), Cond.fieldLink RX2 49 "IssueDeskModel" "thrown" "I", Cond.methodLink RX2 79 yX2_looks, Cond.instanceMethod yX2_looks, Cond.selects RX2 yX2_looks yX2_looks, Cond.code yX2_looks cX2_looks 1 none, Cond.fieldLink RX2 46 "IssueDeskModel" "foretold" "I", Cond.methodLink RX2 66 yX2_nextDay, Cond.instanceMethod yX2_nextDay, Cond.selects RX2 yX2_nextDay yX2_nextDay, Cond.code yX2_nextDay cX2_nextDay 3 (some .int), Cond.fieldLink RX2 26 "IssueDeskModel" "dayOf" "[I", Cond.fieldLink RX2 7 "IssueDeskModel" "gap" "I", Cond.fieldLink RX2 59 "IssueDeskModel" "shift" "I", Cond.methodLink RX2 62 yX2_isBarred, Cond.instanceMethod yX2_isBarred]
def wsX2_advance_r2 : List Cond := [Cond.selects RX2 yX2_isBarred yX2_isBarred, Cond.code yX2_isBarred cX2_isBarred 2 (some .boolean), Cond.fieldLink RX2 56 "IssueDeskModel" "skipped" "I", Cond.methodLink RX2 73 yX2_foretells, Cond.instanceMethod yX2_foretells, Cond.selects RX2 yX2_foretells yX2_foretells, Cond.code yX2_foretells cX2_foretells 1 none]
def wsX2_advance : List Cond := .code yX2_advance cX2_advance 2 (some .int) :: ((wsX2_advance_r1 ++ wsX2_advance_r2) ++ wsX20)
def wsX2_isOpen : List Cond := .code yX2_isOpen cX2_isOpen 5 (some .boolean) :: ([.fieldLink RX2 46 "IssueDeskModel" "foretold" "I", .fieldLink RX2 30 "IssueDeskModel" "state" "[I"] ++ wsX20)
def wsX2_follows : List Cond := .code yX2_follows cX2_follows 4 (some .boolean) :: ([.fieldLink RX2 43 "IssueDeskModel" "before" "I", .fieldLink RX2 30 "IssueDeskModel" "state" "[I"] ++ wsX20)
def wsX2_counts : List Cond := .code yX2_counts cX2_counts 3 none :: ([.fieldLink RX2 70 "IssueDeskModel" "day" "I", .fieldLink RX2 26 "IssueDeskModel" "dayOf" "[I", .fieldLink RX2 82 "IssueDeskModel" "row" "I", .fieldLink RX2 88 "IssueDeskModel" "difference" "I", .fieldLink RX2 43 "IssueDeskModel" "before" "I", .fieldLink RX2 59 "IssueDeskModel" "shift" "I", .methodLink RX2 85 yX2_follows, .instanceMethod yX2_follows, .selects RX2 yX2_follows yX2_follows, .initialized RX2, .code yX2_follows cX2_follows 4 (some .boolean), .fieldLink RX2 30 "IssueDeskModel" "state" "[I", .methodLink RX2 52 yX2_isIn, .static yX2_isIn, .code yX2_isIn cX2_isIn 3 (some .boolean)] ++ wsX20)
def wsX2_checkIn_r1 : List Cond := [Cond.fieldLink RX2 46 "IssueDeskModel" "foretold" "I", Cond.fieldLink RX2 30 "IssueDeskModel" "state" "[I", Cond.methodLink RX2 52 yX2_isIn, Cond.static yX2_isIn, Cond.initialized RX2, Cond.code yX2_isIn cX2_isIn 3 (some .boolean), Cond.methodLink RX2 91 yX2_isIssue, Cond.static yX2_isIssue, Cond.code yX2_isIssue cX2_isIssue 1 (some .boolean), Cond.methodLink RX2 94 yX2_isOpen, Cond.instanceMethod yX2_isOpen, Cond.selects RX2 yX2_isOpen yX2_isOpen, Cond.code yX2_isOpen cX2_isOpen 5 (some .boolean), Cond.methodLink RX2 76 yX2_can, Cond.instanceMethod yX2_can, Cond.selects RX2 yX2_can yX2_can, Cond.code yX2_can cX2_can 2 (some .boolean), Cond.fieldLink RX2 49 "IssueDeskModel" "thrown" "I", Cond.methodLink RX2 73 yX2_foretells, Cond.instanceMethod yX2_foretells, Cond.selects RX2 yX2_foretells yX2_foretells, Cond.code yX2_foretells cX2_foretells 1 none, Cond.fieldLink RX2 26 "IssueDeskModel" "dayOf" "[I", Cond.fieldLink RX2 59 "IssueDeskModel" "shift" "I"]
def wsX2_checkIn_r2 : List Cond := [Cond.methodLink RX2 66 yX2_nextDay, Cond.instanceMethod yX2_nextDay, Cond.selects RX2 yX2_nextDay yX2_nextDay, Cond.code yX2_nextDay cX2_nextDay 3 (some .int), Cond.fieldLink RX2 7 "IssueDeskModel" "gap" "I", Cond.methodLink RX2 62 yX2_isBarred, Cond.instanceMethod yX2_isBarred, Cond.selects RX2 yX2_isBarred yX2_isBarred, Cond.code yX2_isBarred cX2_isBarred 2 (some .boolean), Cond.fieldLink RX2 56 "IssueDeskModel" "skipped" "I", Cond.methodLink RX2 98 yX2_counts, Cond.instanceMethod yX2_counts, Cond.selects RX2 yX2_counts yX2_counts, Cond.code yX2_counts cX2_counts 3 none, Cond.fieldLink RX2 70 "IssueDeskModel" "day" "I", Cond.fieldLink RX2 82 "IssueDeskModel" "row" "I", Cond.fieldLink RX2 88 "IssueDeskModel" "difference" "I", Cond.fieldLink RX2 43 "IssueDeskModel" "before" "I", Cond.methodLink RX2 85 yX2_follows, Cond.instanceMethod yX2_follows, Cond.selects RX2 yX2_follows yX2_follows, Cond.code yX2_follows cX2_follows 4 (some .boolean), Cond.methodLink RX2 79 yX2_looks, Cond.instanceMethod yX2_looks]
def wsX2_checkIn_r3 : List Cond := [Cond.selects RX2 yX2_looks yX2_looks, Cond.code yX2_looks cX2_looks 1 none]
def wsX2_checkIn : List Cond := .code yX2_checkIn cX2_checkIn 5 (some .int) :: ((wsX2_checkIn_r1 ++ (wsX2_checkIn_r2 ++ wsX2_checkIn_r3)) ++ wsX20)
def wsX2_skip : List Cond := .code yX2_skip cX2_skip 2 none :: ([.fieldLink RX2 30 "IssueDeskModel" "state" "[I", .methodLink RX2 102 yX2_isForetold, .instanceMethod yX2_isForetold, .selects RX2 yX2_isForetold yX2_isForetold, .initialized RX2, .code yX2_isForetold cX2_isForetold 2 (some .boolean), .fieldLink RX2 46 "IssueDeskModel" "foretold" "I", .methodLink RX2 52 yX2_isIn, .static yX2_isIn, .code yX2_isIn cX2_isIn 3 (some .boolean), .methodLink RX2 76 yX2_can, .instanceMethod yX2_can, .selects RX2 yX2_can yX2_can, .code yX2_can cX2_can 2 (some .boolean), .fieldLink RX2 49 "IssueDeskModel" "thrown" "I"] ++ wsX20)
def wsX2_isLate : List Cond := .code yX2_isLate cX2_isLate 2 (some .boolean) :: ([.fieldLink RX2 30 "IssueDeskModel" "state" "[I", .fieldLink RX2 70 "IssueDeskModel" "day" "I", .fieldLink RX2 26 "IssueDeskModel" "dayOf" "[I", .fieldLink RX2 20 "IssueDeskModel" "grace" "I"] ++ wsX20)
def wsX2_round : List Cond := .code yX2_round cX2_round 3 (some .int) :: ([.fieldLink RX2 49 "IssueDeskModel" "thrown" "I", .fieldLink RX2 46 "IssueDeskModel" "foretold" "I", .fieldLink RX2 33 "IssueDeskModel" "claims" "[I", .fieldLink RX2 70 "IssueDeskModel" "day" "I", .fieldLink RX2 36 "IssueDeskModel" "claimedOn" "[I", .fieldLink RX2 23 "IssueDeskModel" "pause" "I", .fieldLink RX2 30 "IssueDeskModel" "state" "[I", .methodLink RX2 105 yX2_isLate, .instanceMethod yX2_isLate, .selects RX2 yX2_isLate yX2_isLate, .initialized RX2, .code yX2_isLate cX2_isLate 2 (some .boolean), .fieldLink RX2 26 "IssueDeskModel" "dayOf" "[I", .fieldLink RX2 20 "IssueDeskModel" "grace" "I"] ++ wsX20)
def wsX2_day : List Cond := .code yX2_day cX2_day 1 (some .int) :: ([.fieldLink RX2 49 "IssueDeskModel" "thrown" "I", .fieldLink RX2 70 "IssueDeskModel" "day" "I"] ++ wsX20)
def wsX2_foretold : List Cond := .code yX2_foretold cX2_foretold 1 (some .int) :: ([.fieldLink RX2 49 "IssueDeskModel" "thrown" "I", .fieldLink RX2 46 "IssueDeskModel" "foretold" "I"] ++ wsX20)
def wsX2_shift : List Cond := .code yX2_shift cX2_shift 1 (some .int) :: ([.fieldLink RX2 49 "IssueDeskModel" "thrown" "I", .fieldLink RX2 59 "IssueDeskModel" "shift" "I"] ++ wsX20)
def wsX2_isAsked : List Cond := .code yX2_isAsked cX2_isAsked 2 (some .boolean) :: ([.methodLink RX2 102 yX2_isForetold, .instanceMethod yX2_isForetold, .selects RX2 yX2_isForetold yX2_isForetold, .initialized RX2, .code yX2_isForetold cX2_isForetold 2 (some .boolean), .fieldLink RX2 46 "IssueDeskModel" "foretold" "I", .methodLink RX2 52 yX2_isIn, .static yX2_isIn, .code yX2_isIn cX2_isIn 3 (some .boolean), .methodLink RX2 76 yX2_can, .instanceMethod yX2_can, .selects RX2 yX2_can yX2_can, .code yX2_can cX2_can 2 (some .boolean), .fieldLink RX2 49 "IssueDeskModel" "thrown" "I"] ++ wsX20)
def wsX2_dayOf : List Cond := .code yX2_dayOf cX2_dayOf 2 (some .int) :: ([.fieldLink RX2 26 "IssueDeskModel" "dayOf" "[I", .methodLink RX2 108 yX2_isAsked, .instanceMethod yX2_isAsked, .selects RX2 yX2_isAsked yX2_isAsked, .initialized RX2, .code yX2_isAsked cX2_isAsked 2 (some .boolean), .methodLink RX2 102 yX2_isForetold, .instanceMethod yX2_isForetold, .selects RX2 yX2_isForetold yX2_isForetold, .code yX2_isForetold cX2_isForetold 2 (some .boolean), .fieldLink RX2 46 "IssueDeskModel" "foretold" "I", .methodLink RX2 52 yX2_isIn, .static yX2_isIn, .code yX2_isIn cX2_isIn 3 (some .boolean), .methodLink RX2 76 yX2_can, .instanceMethod yX2_can, .selects RX2 yX2_can yX2_can, .code yX2_can cX2_can 2 (some .boolean), .fieldLink RX2 49 "IssueDeskModel" "thrown" "I"] ++ wsX20)
def wsX2_stateOf : List Cond := .code yX2_stateOf cX2_stateOf 2 (some .int) :: ([.fieldLink RX2 30 "IssueDeskModel" "state" "[I", .methodLink RX2 108 yX2_isAsked, .instanceMethod yX2_isAsked, .selects RX2 yX2_isAsked yX2_isAsked, .initialized RX2, .code yX2_isAsked cX2_isAsked 2 (some .boolean), .methodLink RX2 102 yX2_isForetold, .instanceMethod yX2_isForetold, .selects RX2 yX2_isForetold yX2_isForetold, .code yX2_isForetold cX2_isForetold 2 (some .boolean), .fieldLink RX2 46 "IssueDeskModel" "foretold" "I", .methodLink RX2 52 yX2_isIn, .static yX2_isIn, .code yX2_isIn cX2_isIn 3 (some .boolean), .methodLink RX2 76 yX2_can, .instanceMethod yX2_can, .selects RX2 yX2_can yX2_can, .code yX2_can cX2_can 2 (some .boolean), .fieldLink RX2 49 "IssueDeskModel" "thrown" "I"] ++ wsX20)
def wsX2_claimsOf : List Cond := .code yX2_claimsOf cX2_claimsOf 2 (some .int) :: ([.fieldLink RX2 33 "IssueDeskModel" "claims" "[I", .methodLink RX2 108 yX2_isAsked, .instanceMethod yX2_isAsked, .selects RX2 yX2_isAsked yX2_isAsked, .initialized RX2, .code yX2_isAsked cX2_isAsked 2 (some .boolean), .methodLink RX2 102 yX2_isForetold, .instanceMethod yX2_isForetold, .selects RX2 yX2_isForetold yX2_isForetold, .code yX2_isForetold cX2_isForetold 2 (some .boolean), .fieldLink RX2 46 "IssueDeskModel" "foretold" "I", .methodLink RX2 52 yX2_isIn, .static yX2_isIn, .code yX2_isIn cX2_isIn 3 (some .boolean), .methodLink RX2 76 yX2_can, .instanceMethod yX2_can, .selects RX2 yX2_can yX2_can, .code yX2_can cX2_can 2 (some .boolean), .fieldLink RX2 49 "IssueDeskModel" "thrown" "I"] ++ wsX20)
def wsX2_volume : List Cond := .code yX2_volume cX2_volume 2 (some .int) :: ([.fieldLink RX2 13 "IssueDeskModel" "size" "I"] ++ wsX20)
def wsX2_number : List Cond := .code yX2_number cX2_number 2 (some .int) :: ([.fieldLink RX2 16 "IssueDeskModel" "isAnew" "Z", .fieldLink RX2 13 "IssueDeskModel" "size" "I"] ++ wsX20)
def wsX2_labelOf : List Cond := .code yX2_labelOf cX2_labelOf 2 (some .int) :: ([.methodLink RX2 91 yX2_isIssue, .static yX2_isIssue, .initialized RX2, .code yX2_isIssue cX2_isIssue 1 (some .boolean), .methodLink RX2 52 yX2_isIn, .static yX2_isIn, .code yX2_isIn cX2_isIn 3 (some .boolean), .methodLink RX2 76 yX2_can, .instanceMethod yX2_can, .selects RX2 yX2_can yX2_can, .code yX2_can cX2_can 2 (some .boolean), .fieldLink RX2 49 "IssueDeskModel" "thrown" "I", .methodLink RX2 111 yX2_volume, .instanceMethod yX2_volume, .selects RX2 yX2_volume yX2_volume, .code yX2_volume cX2_volume 2 (some .int), .fieldLink RX2 13 "IssueDeskModel" "size" "I", .methodLink RX2 115 yX2_number, .instanceMethod yX2_number, .selects RX2 yX2_number yX2_number, .code yX2_number cX2_number 2 (some .int), .fieldLink RX2 16 "IssueDeskModel" "isAnew" "Z"] ++ wsX20)
def wsX2_find : List Cond := .code yX2_find cX2_find 5 (some .int) :: ([.fieldLink RX2 49 "IssueDeskModel" "thrown" "I", .methodLink RX2 111 yX2_volume, .instanceMethod yX2_volume, .selects RX2 yX2_volume yX2_volume, .initialized RX2, .code yX2_volume cX2_volume 2 (some .int), .fieldLink RX2 13 "IssueDeskModel" "size" "I", .methodLink RX2 115 yX2_number, .instanceMethod yX2_number, .selects RX2 yX2_number yX2_number, .code yX2_number cX2_number 2 (some .int), .fieldLink RX2 16 "IssueDeskModel" "isAnew" "Z"] ++ wsX20)
def wsX2_late : List Cond := .code yX2_late cX2_late 3 (some .int) :: ([.fieldLink RX2 49 "IssueDeskModel" "thrown" "I", .fieldLink RX2 46 "IssueDeskModel" "foretold" "I", .methodLink RX2 105 yX2_isLate, .instanceMethod yX2_isLate, .selects RX2 yX2_isLate yX2_isLate, .initialized RX2, .code yX2_isLate cX2_isLate 2 (some .boolean), .fieldLink RX2 30 "IssueDeskModel" "state" "[I", .fieldLink RX2 70 "IssueDeskModel" "day" "I", .fieldLink RX2 26 "IssueDeskModel" "dayOf" "[I", .fieldLink RX2 20 "IssueDeskModel" "grace" "I"] ++ wsX20)
def wsX2_isHere : List Cond := .code yX2_isHere cX2_isHere 2 (some .boolean) :: ([.fieldLink RX2 30 "IssueDeskModel" "state" "[I", .methodLink RX2 102 yX2_isForetold, .instanceMethod yX2_isForetold, .selects RX2 yX2_isForetold yX2_isForetold, .initialized RX2, .code yX2_isForetold cX2_isForetold 2 (some .boolean), .fieldLink RX2 46 "IssueDeskModel" "foretold" "I", .methodLink RX2 52 yX2_isIn, .static yX2_isIn, .code yX2_isIn cX2_isIn 3 (some .boolean)] ++ wsX20)
def wsX2_allRanges : List Cond := .code yX2_allRanges cX2_allRanges 3 (some .int) :: ([.fieldLink RX2 46 "IssueDeskModel" "foretold" "I", .methodLink RX2 118 yX2_isHere, .instanceMethod yX2_isHere, .selects RX2 yX2_isHere yX2_isHere, .initialized RX2, .code yX2_isHere cX2_isHere 2 (some .boolean), .fieldLink RX2 30 "IssueDeskModel" "state" "[I", .methodLink RX2 102 yX2_isForetold, .instanceMethod yX2_isForetold, .selects RX2 yX2_isForetold yX2_isForetold, .code yX2_isForetold cX2_isForetold 2 (some .boolean), .methodLink RX2 52 yX2_isIn, .static yX2_isIn, .code yX2_isIn cX2_isIn 3 (some .boolean)] ++ wsX20)
def wsX2_ranges : List Cond := .code yX2_ranges cX2_ranges 1 (some .int) :: ([.fieldLink RX2 49 "IssueDeskModel" "thrown" "I", .methodLink RX2 121 yX2_allRanges, .instanceMethod yX2_allRanges, .selects RX2 yX2_allRanges yX2_allRanges, .initialized RX2, .code yX2_allRanges cX2_allRanges 3 (some .int), .fieldLink RX2 46 "IssueDeskModel" "foretold" "I", .methodLink RX2 118 yX2_isHere, .instanceMethod yX2_isHere, .selects RX2 yX2_isHere yX2_isHere, .code yX2_isHere cX2_isHere 2 (some .boolean), .fieldLink RX2 30 "IssueDeskModel" "state" "[I", .methodLink RX2 102 yX2_isForetold, .instanceMethod yX2_isForetold, .selects RX2 yX2_isForetold yX2_isForetold, .code yX2_isForetold cX2_isForetold 2 (some .boolean), .methodLink RX2 52 yX2_isIn, .static yX2_isIn, .code yX2_isIn cX2_isIn 3 (some .boolean)] ++ wsX20)
def wsX2_rangeAt : List Cond := .code yX2_rangeAt cX2_rangeAt 5 (some .int) :: ([.methodLink RX2 121 yX2_allRanges, .instanceMethod yX2_allRanges, .selects RX2 yX2_allRanges yX2_allRanges, .initialized RX2, .code yX2_allRanges cX2_allRanges 3 (some .int), .fieldLink RX2 46 "IssueDeskModel" "foretold" "I", .methodLink RX2 118 yX2_isHere, .instanceMethod yX2_isHere, .selects RX2 yX2_isHere yX2_isHere, .code yX2_isHere cX2_isHere 2 (some .boolean), .fieldLink RX2 30 "IssueDeskModel" "state" "[I", .methodLink RX2 102 yX2_isForetold, .instanceMethod yX2_isForetold, .selects RX2 yX2_isForetold yX2_isForetold, .code yX2_isForetold cX2_isForetold 2 (some .boolean), .methodLink RX2 52 yX2_isIn, .static yX2_isIn, .code yX2_isIn cX2_isIn 3 (some .boolean), .methodLink RX2 76 yX2_can, .instanceMethod yX2_can, .selects RX2 yX2_can yX2_can, .code yX2_can cX2_can 2 (some .boolean), .fieldLink RX2 49 "IssueDeskModel" "thrown" "I"] ++ wsX20)
def wsX2_isHeld : List Cond := .code yX2_isHeld cX2_isHeld 2 (some .boolean) :: ([.fieldLink RX2 49 "IssueDeskModel" "thrown" "I", .methodLink RX2 118 yX2_isHere, .instanceMethod yX2_isHere, .selects RX2 yX2_isHere yX2_isHere, .initialized RX2, .code yX2_isHere cX2_isHere 2 (some .boolean), .fieldLink RX2 30 "IssueDeskModel" "state" "[I", .methodLink RX2 102 yX2_isForetold, .instanceMethod yX2_isForetold, .selects RX2 yX2_isForetold yX2_isForetold, .code yX2_isForetold cX2_isForetold 2 (some .boolean), .fieldLink RX2 46 "IssueDeskModel" "foretold" "I", .methodLink RX2 52 yX2_isIn, .static yX2_isIn, .code yX2_isIn cX2_isIn 3 (some .boolean)] ++ wsX20)
def wsX2_give : List Cond := .code yX2_give cX2_give 5 (some .int) :: ([.fieldLink RX2 39 "IssueDeskModel" "isThere" "[Z", .methodLink RX2 91 yX2_isIssue, .static yX2_isIssue, .initialized RX2, .code yX2_isIssue cX2_isIssue 1 (some .boolean), .methodLink RX2 52 yX2_isIn, .static yX2_isIn, .code yX2_isIn cX2_isIn 3 (some .boolean), .methodLink RX2 76 yX2_can, .instanceMethod yX2_can, .selects RX2 yX2_can yX2_can, .code yX2_can cX2_can 2 (some .boolean), .fieldLink RX2 49 "IssueDeskModel" "thrown" "I"] ++ wsX20)
def wsX2_only : List Cond := .code yX2_only cX2_only 6 (some .int) :: ([.fieldLink RX2 39 "IssueDeskModel" "isThere" "[Z", .methodLink RX2 76 yX2_can, .instanceMethod yX2_can, .selects RX2 yX2_can yX2_can, .initialized RX2, .code yX2_can cX2_can 2 (some .boolean), .fieldLink RX2 49 "IssueDeskModel" "thrown" "I", .methodLink RX2 118 yX2_isHere, .instanceMethod yX2_isHere, .selects RX2 yX2_isHere yX2_isHere, .code yX2_isHere cX2_isHere 2 (some .boolean), .fieldLink RX2 30 "IssueDeskModel" "state" "[I", .methodLink RX2 102 yX2_isForetold, .instanceMethod yX2_isForetold, .selects RX2 yX2_isForetold yX2_isForetold, .code yX2_isForetold cX2_isForetold 2 (some .boolean), .fieldLink RX2 46 "IssueDeskModel" "foretold" "I", .methodLink RX2 52 yX2_isIn, .static yX2_isIn, .code yX2_isIn cX2_isIn 3 (some .boolean)] ++ wsX20)
def wsJ9_max_7cf53 : List Cond := .code yJ9_max_7cf53 cJ9_max_7cf53 2 (some .int) :: ([])
def wsL_setPattern_r1 : List Cond := [Cond.classLink RL 13 "java/lang/IllegalArgumentException", Cond.methodLink RL 7 yX1_setPattern, Cond.instanceMethod yX1_setPattern, Cond.selects RX1 yX1_setPattern yX1_setPattern, Cond.initialized RX1, Cond.code yX1_setPattern cX1_setPattern 5 none, Cond.classLink RX1 50 "java/lang/IllegalArgumentException", Cond.initialized "java/lang/IllegalArgumentException", Cond.fieldLink RX1 10 "IssueDesk" "pattern" "LIssueDesk$Pattern;", Cond.methodLink RX1 46 yX1_isWithin, Cond.static yX1_isWithin, Cond.code yX1_isWithin cX1_isWithin 3 (some .boolean), Cond.methodLink RX1 61 yX0_change, Cond.instanceMethod yX0_change, Cond.selects RX0 yX0_change yX0_change, Cond.initialized RX0, Cond.code yX0_change cX0_change 5 none, Cond.fieldLink RX0 9 "IssueDesk$Pattern" "gap" "I", Cond.fieldLink RX0 15 "IssueDesk$Pattern" "size" "I", Cond.fieldLink RX0 18 "IssueDesk$Pattern" "beginAnew" "Z", Cond.fieldLink RX0 22 "IssueDesk$Pattern" "skipped" "I", Cond.methodLink RX1 65 yX1_foretellDueIssues, Cond.instanceMethod yX1_foretellDueIssues, Cond.selects RX1 yX1_foretellDueIssues yX1_foretellDueIssues]
def wsL_setPattern_r2 : List Cond := [Cond.code yX1_foretellDueIssues cX1_foretellDueIssues 2 none, Cond.fieldLink RX1 40 "IssueDesk" "foretoldCount" "I", Cond.fieldLink RX1 74 "IssueDesk" "today" "I", Cond.methodLink RX1 160 yX1_nextDay, Cond.instanceMethod yX1_nextDay, Cond.selects RX1 yX1_nextDay yX1_nextDay, Cond.code yX1_nextDay cX1_nextDay 2 (some .int), Cond.fieldLink RX1 23 "IssueDesk" "issueDays" "[I", Cond.fieldLink RX1 123 "IssueDesk" "waitingShift" "I", Cond.methodLink RX1 82 yX1_isIssue, Cond.static yX1_isIssue, Cond.code yX1_isIssue cX1_isIssue 1 (some .boolean), Cond.methodLink RX1 156 yX0_dayBehind, Cond.instanceMethod yX0_dayBehind, Cond.selects RX0 yX0_dayBehind yX0_dayBehind, Cond.code yX0_dayBehind cX0_dayBehind 5 (some .int), Cond.methodLink RX0 25 Lib.Math.max.name, Cond.static Lib.Math.max.name, Cond.initialized "java/lang/Math", Cond.code Lib.Math.max.name Lib.Math.max.code 2 (some .int), Cond.methodLink RX0 31 yX0_isInSkippedMonth, Cond.instanceMethod yX0_isInSkippedMonth, Cond.selects RX0 yX0_isInSkippedMonth yX0_isInSkippedMonth, Cond.code yX0_isInSkippedMonth cX0_isInSkippedMonth 3 (some .boolean)]
def wsL_setPattern_r3 : List Cond := [Cond.methodLink RX1 164 yX1_foretellNext, Cond.instanceMethod yX1_foretellNext, Cond.selects RX1 yX1_foretellNext yX1_foretellNext, Cond.code yX1_foretellNext cX1_foretellNext 1 none]
def wsL_setPattern : List Cond := .codeWith yL_setPattern cL_setPattern 6 (some .int) [(0, 9, 12, 13)] :: ((wsL_setPattern_r1 ++ (wsL_setPattern_r2 ++ wsL_setPattern_r3)) ++ wsX10 ++ wsX00 ++ (vx_atS RX1 54 "java/lang/IllegalArgumentException" ["java/lang/RuntimeException", "java/lang/Exception"]).filter goodWord)
def wsL_setClaims : List Cond := .codeWith yL_setClaims cL_setClaims 4 (some .int) [(0, 6, 9, 13)] :: ([.classLink RL 13 "java/lang/IllegalArgumentException", .methodLink RL 15 yX1_setClaims, .instanceMethod yX1_setClaims, .selects RX1 yX1_setClaims yX1_setClaims, .initialized RX1, .code yX1_setClaims cX1_setClaims 3 none, .classLink RX1 50 "java/lang/IllegalArgumentException", .initialized "java/lang/IllegalArgumentException", .fieldLink RX1 16 "IssueDesk" "grace" "I", .fieldLink RX1 20 "IssueDesk" "pause" "I", .methodLink RX1 46 yX1_isWithin, .static yX1_isWithin, .code yX1_isWithin cX1_isWithin 3 (some .boolean)] ++ wsX10 ++ (vx_atS RX1 54 "java/lang/IllegalArgumentException" ["java/lang/RuntimeException", "java/lang/Exception"]).filter goodWord)
def wsL_advance_r1 : List Cond := [Cond.classLink RL 13 "java/lang/IllegalArgumentException", Cond.classLink RL 23 "java/lang/IllegalStateException", Cond.methodLink RL 19 yX1_advance, Cond.instanceMethod yX1_advance, Cond.selects RX1 yX1_advance yX1_advance, Cond.initialized RX1, Cond.code yX1_advance cX1_advance 2 (some .int), Cond.classLink RX1 50 "java/lang/IllegalArgumentException", Cond.initialized "java/lang/IllegalArgumentException", Cond.classLink RX1 77 "java/lang/IllegalStateException", Cond.initialized "java/lang/IllegalStateException", Cond.fieldLink RX1 74 "IssueDesk" "today" "I", Cond.methodLink RX1 46 yX1_isWithin, Cond.static yX1_isWithin, Cond.code yX1_isWithin cX1_isWithin 3 (some .boolean), Cond.methodLink RX1 65 yX1_foretellDueIssues, Cond.instanceMethod yX1_foretellDueIssues, Cond.selects RX1 yX1_foretellDueIssues yX1_foretellDueIssues, Cond.code yX1_foretellDueIssues cX1_foretellDueIssues 2 none, Cond.fieldLink RX1 40 "IssueDesk" "foretoldCount" "I", Cond.methodLink RX1 160 yX1_nextDay, Cond.instanceMethod yX1_nextDay, Cond.selects RX1 yX1_nextDay yX1_nextDay, Cond.code yX1_nextDay cX1_nextDay 2 (some .int)]
def wsL_advance_r2 : List Cond := [Cond.fieldLink RX1 10 "IssueDesk" "pattern" "LIssueDesk$Pattern;", Cond.fieldLink RX1 23 "IssueDesk" "issueDays" "[I", Cond.fieldLink RX1 123 "IssueDesk" "waitingShift" "I", Cond.methodLink RX1 82 yX1_isIssue, Cond.static yX1_isIssue, Cond.code yX1_isIssue cX1_isIssue 1 (some .boolean), Cond.methodLink RX1 156 yX0_dayBehind, Cond.instanceMethod yX0_dayBehind, Cond.selects RX0 yX0_dayBehind yX0_dayBehind, Cond.initialized RX0, Cond.code yX0_dayBehind cX0_dayBehind 5 (some .int), Cond.fieldLink RX0 9 "IssueDesk$Pattern" "gap" "I", Cond.methodLink RX0 25 Lib.Math.max.name, Cond.static Lib.Math.max.name, Cond.initialized "java/lang/Math", Cond.code Lib.Math.max.name Lib.Math.max.code 2 (some .int), Cond.methodLink RX0 31 yX0_isInSkippedMonth, Cond.instanceMethod yX0_isInSkippedMonth, Cond.selects RX0 yX0_isInSkippedMonth yX0_isInSkippedMonth, Cond.code yX0_isInSkippedMonth cX0_isInSkippedMonth 3 (some .boolean), Cond.fieldLink RX0 22 "IssueDesk$Pattern" "skipped" "I", Cond.methodLink RX1 164 yX1_foretellNext, Cond.instanceMethod yX1_foretellNext, Cond.selects RX1 yX1_foretellNext yX1_foretellNext]
def wsL_advance_r3 : List Cond := [Cond.code yX1_foretellNext cX1_foretellNext 1 none]
def wsL_advance : List Cond := .codeWith yL_advance cL_advance 4 (some .int) [(0, 9, 12, 13), (0, 9, 15, 23)] :: ((wsL_advance_r1 ++ (wsL_advance_r2 ++ wsL_advance_r3)) ++ wsX10 ++ wsX00 ++ (vx_atS RX1 54 "java/lang/IllegalArgumentException" ["java/lang/RuntimeException", "java/lang/Exception"]).filter goodWord ++ (vx_atS RX1 81 "java/lang/IllegalStateException" ["java/lang/RuntimeException", "java/lang/Exception"]).filter goodWord)
def wsL_checkIn_r1 : List Cond := [Cond.classLink RL 29 "java/lang/IndexOutOfBoundsException", Cond.classLink RL 13 "java/lang/IllegalArgumentException", Cond.classLink RL 23 "java/lang/IllegalStateException", Cond.methodLink RL 25 yX1_checkIn, Cond.instanceMethod yX1_checkIn, Cond.selects RX1 yX1_checkIn yX1_checkIn, Cond.initialized RX1, Cond.code yX1_checkIn cX1_checkIn 4 (some .int), Cond.classLink RX1 86 "java/lang/IndexOutOfBoundsException", Cond.initialized "java/lang/IndexOutOfBoundsException", Cond.classLink RX1 50 "java/lang/IllegalArgumentException", Cond.initialized "java/lang/IllegalArgumentException", Cond.classLink RX1 77 "java/lang/IllegalStateException", Cond.initialized "java/lang/IllegalStateException", Cond.fieldLink RX1 40 "IssueDesk" "foretoldCount" "I", Cond.methodLink RX1 82 yX1_isIssue, Cond.static yX1_isIssue, Cond.code yX1_isIssue cX1_isIssue 1 (some .boolean), Cond.methodLink RX1 46 yX1_isWithin, Cond.static yX1_isWithin, Cond.code yX1_isWithin cX1_isWithin 3 (some .boolean), Cond.methodLink RX1 93 yX1_canAllCome, Cond.instanceMethod yX1_canAllCome, Cond.selects RX1 yX1_canAllCome yX1_canAllCome]
def wsL_checkIn_r2 : List Cond := [Cond.code yX1_canAllCome cX1_canAllCome 4 (some .boolean), Cond.fieldLink RX1 27 "IssueDesk" "states" "[I", Cond.methodLink RX1 110 yX1_isForetold, Cond.instanceMethod yX1_isForetold, Cond.selects RX1 yX1_isForetold yX1_isForetold, Cond.code yX1_isForetold cX1_isForetold 2 (some .boolean), Cond.methodLink RX1 99 yX1_foretellUpTo, Cond.instanceMethod yX1_foretellUpTo, Cond.selects RX1 yX1_foretellUpTo yX1_foretellUpTo, Cond.code yX1_foretellUpTo cX1_foretellUpTo 3 none, Cond.methodLink RX1 164 yX1_foretellNext, Cond.instanceMethod yX1_foretellNext, Cond.selects RX1 yX1_foretellNext yX1_foretellNext, Cond.code yX1_foretellNext cX1_foretellNext 1 none, Cond.fieldLink RX1 23 "IssueDesk" "issueDays" "[I", Cond.fieldLink RX1 123 "IssueDesk" "waitingShift" "I", Cond.methodLink RX1 160 yX1_nextDay, Cond.instanceMethod yX1_nextDay, Cond.selects RX1 yX1_nextDay yX1_nextDay, Cond.code yX1_nextDay cX1_nextDay 2 (some .int), Cond.fieldLink RX1 10 "IssueDesk" "pattern" "LIssueDesk$Pattern;", Cond.methodLink RX1 156 yX0_dayBehind, Cond.instanceMethod yX0_dayBehind, Cond.selects RX0 yX0_dayBehind yX0_dayBehind]
def wsL_checkIn_r3 : List Cond := [Cond.initialized RX0, Cond.code yX0_dayBehind cX0_dayBehind 5 (some .int), Cond.fieldLink RX0 9 "IssueDesk$Pattern" "gap" "I", Cond.methodLink RX0 25 Lib.Math.max.name, Cond.static Lib.Math.max.name, Cond.initialized "java/lang/Math", Cond.code Lib.Math.max.name Lib.Math.max.code 2 (some .int), Cond.methodLink RX0 31 yX0_isInSkippedMonth, Cond.instanceMethod yX0_isInSkippedMonth, Cond.selects RX0 yX0_isInSkippedMonth yX0_isInSkippedMonth, Cond.code yX0_isInSkippedMonth cX0_isInSkippedMonth 3 (some .boolean), Cond.fieldLink RX0 22 "IssueDesk$Pattern" "skipped" "I", Cond.methodLink RX1 103 yX1_takeIn, Cond.instanceMethod yX1_takeIn, Cond.selects RX1 yX1_takeIn yX1_takeIn, Cond.code yX1_takeIn cX1_takeIn 4 none, Cond.methodLink RX1 107 yX1_noteDifference, Cond.instanceMethod yX1_noteDifference, Cond.selects RX1 yX1_noteDifference yX1_noteDifference, Cond.code yX1_noteDifference cX1_noteDifference 4 none, Cond.fieldLink RX1 74 "IssueDesk" "today" "I", Cond.fieldLink RX1 167 "IssueDesk" "streakDifference" "I", Cond.fieldLink RX1 173 "IssueDesk" "streakLength" "I", Cond.fieldLink RX1 43 "IssueDesk" "streakIssue" "I"]
def wsL_checkIn_r4 : List Cond := [Cond.methodLink RX1 170 yX1_followsStreak, Cond.instanceMethod yX1_followsStreak, Cond.selects RX1 yX1_followsStreak yX1_followsStreak, Cond.code yX1_followsStreak cX1_followsStreak 3 (some .boolean), Cond.methodLink RX1 176 yX1_canShift, Cond.static yX1_canShift, Cond.code yX1_canShift cX1_canShift 1 (some .boolean), Cond.methodLink RX1 65 yX1_foretellDueIssues, Cond.instanceMethod yX1_foretellDueIssues, Cond.selects RX1 yX1_foretellDueIssues yX1_foretellDueIssues, Cond.code yX1_foretellDueIssues cX1_foretellDueIssues 2 none]
def wsL_checkIn : List Cond := .codeWith yL_checkIn cL_checkIn 5 (some .int) [(0, 10, 13, 29), (0, 10, 17, 13), (0, 10, 21, 23)] :: ((wsL_checkIn_r1 ++ (wsL_checkIn_r2 ++ (wsL_checkIn_r3 ++ wsL_checkIn_r4))) ++ wsX10 ++ wsX00 ++ (vx_atS RX1 90 "java/lang/IndexOutOfBoundsException" ["java/lang/RuntimeException", "java/lang/Exception"]).filter goodWord ++ (vx_atS RX1 54 "java/lang/IllegalArgumentException" ["java/lang/RuntimeException", "java/lang/Exception"]).filter goodWord ++ (vx_atS RX1 81 "java/lang/IllegalStateException" ["java/lang/RuntimeException", "java/lang/Exception"]).filter goodWord)
def wsL_skip : List Cond := .codeWith yL_skip cL_skip 3 (some .int) [(0, 5, 8, 29), (0, 5, 11, 23)] :: ([.classLink RL 29 "java/lang/IndexOutOfBoundsException", .classLink RL 23 "java/lang/IllegalStateException", .methodLink RL 31 yX1_skip, .instanceMethod yX1_skip, .selects RX1 yX1_skip yX1_skip, .initialized RX1, .code yX1_skip cX1_skip 2 none, .classLink RX1 86 "java/lang/IndexOutOfBoundsException", .initialized "java/lang/IndexOutOfBoundsException", .classLink RX1 77 "java/lang/IllegalStateException", .initialized "java/lang/IllegalStateException", .fieldLink RX1 27 "IssueDesk" "states" "[I", .methodLink RX1 110 yX1_isForetold, .instanceMethod yX1_isForetold, .selects RX1 yX1_isForetold yX1_isForetold, .code yX1_isForetold cX1_isForetold 2 (some .boolean), .fieldLink RX1 40 "IssueDesk" "foretoldCount" "I", .methodLink RX1 82 yX1_isIssue, .static yX1_isIssue, .code yX1_isIssue cX1_isIssue 1 (some .boolean)] ++ wsX10 ++ (vx_atS RX1 90 "java/lang/IndexOutOfBoundsException" ["java/lang/RuntimeException", "java/lang/Exception"]).filter goodWord ++ (vx_atS RX1 81 "java/lang/IllegalStateException" ["java/lang/RuntimeException", "java/lang/Exception"]).filter goodWord)
def wsL_dayOf : List Cond := .codeWith yL_dayOf cL_dayOf 4 (some .int) [(0, 9, 12, 29)] :: ([.classLink RL 29 "java/lang/IndexOutOfBoundsException", .methodLink RL 35 yX1_dayOf, .instanceMethod yX1_dayOf, .selects RX1 yX1_dayOf yX1_dayOf, .initialized RX1, .code yX1_dayOf cX1_dayOf 2 (some .int), .classLink RX1 86 "java/lang/IndexOutOfBoundsException", .initialized "java/lang/IndexOutOfBoundsException", .fieldLink RX1 23 "IssueDesk" "issueDays" "[I", .methodLink RX1 110 yX1_isForetold, .instanceMethod yX1_isForetold, .selects RX1 yX1_isForetold yX1_isForetold, .code yX1_isForetold cX1_isForetold 2 (some .boolean), .fieldLink RX1 40 "IssueDesk" "foretoldCount" "I", .methodLink RX1 82 yX1_isIssue, .static yX1_isIssue, .code yX1_isIssue cX1_isIssue 1 (some .boolean)] ++ wsX10 ++ (vx_atS RX1 90 "java/lang/IndexOutOfBoundsException" ["java/lang/RuntimeException", "java/lang/Exception"]).filter goodWord)
def wsL_stateOf : List Cond := .codeWith yL_stateOf cL_stateOf 4 (some .int) [(0, 9, 12, 29)] :: ([.classLink RL 29 "java/lang/IndexOutOfBoundsException", .methodLink RL 38 yX1_stateOf, .instanceMethod yX1_stateOf, .selects RX1 yX1_stateOf yX1_stateOf, .initialized RX1, .code yX1_stateOf cX1_stateOf 2 (some .int), .classLink RX1 86 "java/lang/IndexOutOfBoundsException", .initialized "java/lang/IndexOutOfBoundsException", .fieldLink RX1 27 "IssueDesk" "states" "[I", .methodLink RX1 110 yX1_isForetold, .instanceMethod yX1_isForetold, .selects RX1 yX1_isForetold yX1_isForetold, .code yX1_isForetold cX1_isForetold 2 (some .boolean), .fieldLink RX1 40 "IssueDesk" "foretoldCount" "I", .methodLink RX1 82 yX1_isIssue, .static yX1_isIssue, .code yX1_isIssue cX1_isIssue 1 (some .boolean)] ++ wsX10 ++ (vx_atS RX1 90 "java/lang/IndexOutOfBoundsException" ["java/lang/RuntimeException", "java/lang/Exception"]).filter goodWord)
def wsL_claimsOf : List Cond := .codeWith yL_claimsOf cL_claimsOf 4 (some .int) [(0, 9, 12, 29)] :: ([.classLink RL 29 "java/lang/IndexOutOfBoundsException", .methodLink RL 41 yX1_claimsOf, .instanceMethod yX1_claimsOf, .selects RX1 yX1_claimsOf yX1_claimsOf, .initialized RX1, .code yX1_claimsOf cX1_claimsOf 2 (some .int), .classLink RX1 86 "java/lang/IndexOutOfBoundsException", .initialized "java/lang/IndexOutOfBoundsException", .fieldLink RX1 30 "IssueDesk" "claimCounts" "[I", .methodLink RX1 110 yX1_isForetold, .instanceMethod yX1_isForetold, .selects RX1 yX1_isForetold yX1_isForetold, .code yX1_isForetold cX1_isForetold 2 (some .boolean), .fieldLink RX1 40 "IssueDesk" "foretoldCount" "I", .methodLink RX1 82 yX1_isIssue, .static yX1_isIssue, .code yX1_isIssue cX1_isIssue 1 (some .boolean)] ++ wsX10 ++ (vx_atS RX1 90 "java/lang/IndexOutOfBoundsException" ["java/lang/RuntimeException", "java/lang/Exception"]).filter goodWord)
def wsL_labelOf : List Cond := .codeWith yL_labelOf cL_labelOf 4 (some .int) [(0, 9, 12, 29)] :: ([.classLink RL 29 "java/lang/IndexOutOfBoundsException", .methodLink RL 44 yX1_labelOf, .instanceMethod yX1_labelOf, .selects RX1 yX1_labelOf yX1_labelOf, .initialized RX1, .code yX1_labelOf cX1_labelOf 2 (some .int), .classLink RX1 86 "java/lang/IndexOutOfBoundsException", .initialized "java/lang/IndexOutOfBoundsException", .fieldLink RX1 10 "IssueDesk" "pattern" "LIssueDesk$Pattern;", .methodLink RX1 82 yX1_isIssue, .static yX1_isIssue, .code yX1_isIssue cX1_isIssue 1 (some .boolean), .methodLink RX1 126 yX0_volumeOf, .instanceMethod yX0_volumeOf, .selects RX0 yX0_volumeOf yX0_volumeOf, .initialized RX0, .code yX0_volumeOf cX0_volumeOf 2 (some .int), .fieldLink RX0 15 "IssueDesk$Pattern" "size" "I", .methodLink RX1 130 yX0_numberOf, .instanceMethod yX0_numberOf, .selects RX0 yX0_numberOf yX0_numberOf, .code yX0_numberOf cX0_numberOf 2 (some .int), .fieldLink RX0 18 "IssueDesk$Pattern" "beginAnew" "Z"] ++ wsX10 ++ wsX00 ++ (vx_atS RX1 90 "java/lang/IndexOutOfBoundsException" ["java/lang/RuntimeException", "java/lang/Exception"]).filter goodWord)
def wsL_rangeAt_r1 : List Cond := [Cond.classLink RL 29 "java/lang/IndexOutOfBoundsException", Cond.methodLink RL 47 yX1_rangeAt, Cond.instanceMethod yX1_rangeAt, Cond.selects RX1 yX1_rangeAt yX1_rangeAt, Cond.initialized RX1, Cond.code yX1_rangeAt cX1_rangeAt 3 (some .int), Cond.classLink RX1 86 "java/lang/IndexOutOfBoundsException", Cond.initialized "java/lang/IndexOutOfBoundsException", Cond.methodLink RX1 136 yX1_startOfRange, Cond.instanceMethod yX1_startOfRange, Cond.selects RX1 yX1_startOfRange yX1_startOfRange, Cond.code yX1_startOfRange cX1_startOfRange 4 (some .int), Cond.methodLink RX1 133 yX1_isRangeStart, Cond.instanceMethod yX1_isRangeStart, Cond.selects RX1 yX1_isRangeStart yX1_isRangeStart, Cond.code yX1_isRangeStart cX1_isRangeStart 2 (some .boolean), Cond.methodLink RX1 153 yX1_isInHouse, Cond.instanceMethod yX1_isInHouse, Cond.selects RX1 yX1_isInHouse yX1_isInHouse, Cond.code yX1_isInHouse cX1_isInHouse 2 (some .boolean), Cond.fieldLink RX1 27 "IssueDesk" "states" "[I", Cond.methodLink RX1 110 yX1_isForetold, Cond.instanceMethod yX1_isForetold, Cond.selects RX1 yX1_isForetold yX1_isForetold]
def wsL_rangeAt_r2 : List Cond := [Cond.code yX1_isForetold cX1_isForetold 2 (some .boolean), Cond.fieldLink RX1 40 "IssueDesk" "foretoldCount" "I", Cond.methodLink RX1 82 yX1_isIssue, Cond.static yX1_isIssue, Cond.code yX1_isIssue cX1_isIssue 1 (some .boolean), Cond.methodLink RX1 141 yX1_endOfRange, Cond.instanceMethod yX1_endOfRange, Cond.selects RX1 yX1_endOfRange yX1_endOfRange, Cond.code yX1_endOfRange cX1_endOfRange 3 (some .int)]
def wsL_rangeAt : List Cond := .codeWith yL_rangeAt cL_rangeAt 4 (some .int) [(0, 9, 12, 29)] :: ((wsL_rangeAt_r1 ++ wsL_rangeAt_r2) ++ wsX10 ++ (vx_atS RX1 90 "java/lang/IndexOutOfBoundsException" ["java/lang/RuntimeException", "java/lang/Exception"]).filter goodWord)
def wsL_give : List Cond := .codeWith yL_give cL_give 5 (some .int) [(0, 10, 13, 13)] :: ([.classLink RL 13 "java/lang/IllegalArgumentException", .methodLink RL 50 yX1_give, .instanceMethod yX1_give, .selects RX1 yX1_give yX1_give, .initialized RX1, .code yX1_give cX1_give 4 (some .int), .classLink RX1 50 "java/lang/IllegalArgumentException", .initialized "java/lang/IllegalArgumentException", .fieldLink RX1 36 "IssueDesk" "isThere" "[Z", .fieldLink RX1 148 "IssueDesk" "thereCount" "I", .methodLink RX1 82 yX1_isIssue, .static yX1_isIssue, .code yX1_isIssue cX1_isIssue 1 (some .boolean), .methodLink RX1 46 yX1_isWithin, .static yX1_isWithin, .code yX1_isWithin cX1_isWithin 3 (some .boolean)] ++ wsX10 ++ (vx_atS RX1 54 "java/lang/IllegalArgumentException" ["java/lang/RuntimeException", "java/lang/Exception"]).filter goodWord)
def wsL_only : List Cond := .codeWith yL_only cL_only 5 (some .int) [(0, 10, 13, 13)] :: ([.classLink RL 13 "java/lang/IllegalArgumentException", .methodLink RL 53 yX1_only, .instanceMethod yX1_only, .selects RX1 yX1_only yX1_only, .initialized RX1, .code yX1_only cX1_only 6 (some .int), .classLink RX1 50 "java/lang/IllegalArgumentException", .initialized "java/lang/IllegalArgumentException", .fieldLink RX1 36 "IssueDesk" "isThere" "[Z", .methodLink RX1 153 yX1_isInHouse, .instanceMethod yX1_isInHouse, .selects RX1 yX1_isInHouse yX1_isInHouse, .code yX1_isInHouse cX1_isInHouse 2 (some .boolean), .fieldLink RX1 27 "IssueDesk" "states" "[I", .methodLink RX1 110 yX1_isForetold, .instanceMethod yX1_isForetold, .selects RX1 yX1_isForetold yX1_isForetold, .code yX1_isForetold cX1_isForetold 2 (some .boolean), .fieldLink RX1 40 "IssueDesk" "foretoldCount" "I", .methodLink RX1 82 yX1_isIssue, .static yX1_isIssue, .code yX1_isIssue cX1_isIssue 1 (some .boolean)] ++ wsX10 ++ (vx_atS RX1 54 "java/lang/IllegalArgumentException" ["java/lang/RuntimeException", "java/lang/Exception"]).filter goodWord)
def wsL_law0_r1 : List Cond := [Cond.classLink RL 8 RX1, Cond.instantiable RX1 15, Cond.initialized RX1, Cond.classLink RL 58 RX2, Cond.instantiable RX2 18, Cond.initialized RX2, Cond.arrayClass .long, Cond.methodLink RL 57 yX1_init, Cond.instanceMethod yX1_init, Cond.code yX1_init cX1_init 1 none, Cond.methodLink RX1 1 objectInit, Cond.instanceMethod objectInit, Cond.code objectInit ⟨#[0xb1]⟩ 1 none, Cond.classLink RX1 7 RX0, Cond.instantiable RX0 4, Cond.initialized RX0, Cond.fieldLink RX1 10 "IssueDesk" "pattern" "LIssueDesk$Pattern;", Cond.fieldLink RX1 16 "IssueDesk" "grace" "I", Cond.fieldLink RX1 20 "IssueDesk" "pause" "I", Cond.arrayClass .int, Cond.fieldLink RX1 23 "IssueDesk" "issueDays" "[I", Cond.fieldLink RX1 27 "IssueDesk" "states" "[I", Cond.fieldLink RX1 30 "IssueDesk" "claimCounts" "[I", Cond.fieldLink RX1 33 "IssueDesk" "claimDays" "[I"]
def wsL_law0_r2 : List Cond := [Cond.arrayClass .boolean, Cond.fieldLink RX1 36 "IssueDesk" "isThere" "[Z", Cond.fieldLink RX1 40 "IssueDesk" "foretoldCount" "I", Cond.fieldLink RX1 43 "IssueDesk" "streakIssue" "I", Cond.methodLink RX1 9 yX0_init, Cond.instanceMethod yX0_init, Cond.code yX0_init cX0_init 1 none, Cond.methodLink RX0 3 objectInit, Cond.fieldLink RX0 9 "IssueDesk$Pattern" "gap" "I", Cond.fieldLink RX0 15 "IssueDesk$Pattern" "size" "I", Cond.fieldLink RX0 18 "IssueDesk$Pattern" "beginAnew" "Z", Cond.fieldLink RX0 22 "IssueDesk$Pattern" "skipped" "I", Cond.methodLink RL 60 yX2_init, Cond.instanceMethod yX2_init, Cond.code yX2_init cX2_init 1 none, Cond.methodLink RX2 1 objectInit, Cond.fieldLink RX2 7 "IssueDeskModel" "gap" "I", Cond.fieldLink RX2 13 "IssueDeskModel" "size" "I", Cond.fieldLink RX2 16 "IssueDeskModel" "isAnew" "Z", Cond.fieldLink RX2 20 "IssueDeskModel" "grace" "I", Cond.fieldLink RX2 23 "IssueDeskModel" "pause" "I", Cond.fieldLink RX2 26 "IssueDeskModel" "dayOf" "[I", Cond.fieldLink RX2 30 "IssueDeskModel" "state" "[I", Cond.fieldLink RX2 33 "IssueDeskModel" "claims" "[I"]
def wsL_law0_r3 : List Cond := [Cond.fieldLink RX2 36 "IssueDeskModel" "claimedOn" "[I", Cond.fieldLink RX2 39 "IssueDeskModel" "isThere" "[Z", Cond.fieldLink RX2 43 "IssueDeskModel" "before" "I", Cond.fieldLink RX2 46 "IssueDeskModel" "foretold" "I", Cond.methodLink RL 61 yL_setPattern, Cond.static yL_setPattern, Cond.initialized RL, Cond.codeWith yL_setPattern cL_setPattern 6 (some .int) [(0, 9, 12, 13)], Cond.classLink RL 13 "java/lang/IllegalArgumentException", Cond.methodLink RL 7 yX1_setPattern, Cond.instanceMethod yX1_setPattern, Cond.selects RX1 yX1_setPattern yX1_setPattern, Cond.code yX1_setPattern cX1_setPattern 5 none, Cond.classLink RX1 50 "java/lang/IllegalArgumentException", Cond.initialized "java/lang/IllegalArgumentException", Cond.methodLink RX1 46 yX1_isWithin, Cond.static yX1_isWithin, Cond.code yX1_isWithin cX1_isWithin 3 (some .boolean), Cond.methodLink RX1 61 yX0_change, Cond.instanceMethod yX0_change, Cond.selects RX0 yX0_change yX0_change, Cond.code yX0_change cX0_change 5 none, Cond.methodLink RX1 65 yX1_foretellDueIssues, Cond.instanceMethod yX1_foretellDueIssues]
def wsL_law0_r4 : List Cond := [Cond.selects RX1 yX1_foretellDueIssues yX1_foretellDueIssues, Cond.code yX1_foretellDueIssues cX1_foretellDueIssues 2 none, Cond.fieldLink RX1 74 "IssueDesk" "today" "I", Cond.methodLink RX1 160 yX1_nextDay, Cond.instanceMethod yX1_nextDay, Cond.selects RX1 yX1_nextDay yX1_nextDay, Cond.code yX1_nextDay cX1_nextDay 2 (some .int), Cond.fieldLink RX1 123 "IssueDesk" "waitingShift" "I", Cond.methodLink RX1 82 yX1_isIssue, Cond.static yX1_isIssue, Cond.code yX1_isIssue cX1_isIssue 1 (some .boolean), Cond.methodLink RX1 156 yX0_dayBehind, Cond.instanceMethod yX0_dayBehind, Cond.selects RX0 yX0_dayBehind yX0_dayBehind, Cond.code yX0_dayBehind cX0_dayBehind 5 (some .int), Cond.methodLink RX0 25 Lib.Math.max.name, Cond.static Lib.Math.max.name, Cond.initialized "java/lang/Math", Cond.code Lib.Math.max.name Lib.Math.max.code 2 (some .int), Cond.methodLink RX0 31 yX0_isInSkippedMonth, Cond.instanceMethod yX0_isInSkippedMonth, Cond.selects RX0 yX0_isInSkippedMonth yX0_isInSkippedMonth, Cond.code yX0_isInSkippedMonth cX0_isInSkippedMonth 3 (some .boolean), Cond.methodLink RX1 164 yX1_foretellNext]
def wsL_law0_r5 : List Cond := [Cond.instanceMethod yX1_foretellNext, Cond.selects RX1 yX1_foretellNext yX1_foretellNext, Cond.code yX1_foretellNext cX1_foretellNext 1 none, Cond.methodLink RL 66 yX2_setPattern, Cond.instanceMethod yX2_setPattern, Cond.selects RX2 yX2_setPattern yX2_setPattern, Cond.code yX2_setPattern cX2_setPattern 5 none, Cond.fieldLink RX2 56 "IssueDeskModel" "skipped" "I", Cond.methodLink RX2 52 yX2_isIn, Cond.static yX2_isIn, Cond.code yX2_isIn cX2_isIn 3 (some .boolean), Cond.methodLink RX2 76 yX2_can, Cond.instanceMethod yX2_can, Cond.selects RX2 yX2_can yX2_can, Cond.code yX2_can cX2_can 2 (some .boolean), Cond.fieldLink RX2 49 "IssueDeskModel" "thrown" "I", Cond.methodLink RX2 79 yX2_looks, Cond.instanceMethod yX2_looks, Cond.selects RX2 yX2_looks yX2_looks, Cond.code yX2_looks cX2_looks 1 none, Cond.fieldLink RX2 70 "IssueDeskModel" "day" "I", Cond.methodLink RX2 66 yX2_nextDay, Cond.instanceMethod yX2_nextDay, Cond.selects RX2 yX2_nextDay yX2_nextDay]
def wsL_law0_r6 : List Cond := [Cond.code yX2_nextDay cX2_nextDay 3 (some .int), Cond.fieldLink RX2 59 "IssueDeskModel" "shift" "I", Cond.methodLink RX2 62 yX2_isBarred, Cond.instanceMethod yX2_isBarred, Cond.selects RX2 yX2_isBarred yX2_isBarred, Cond.code yX2_isBarred cX2_isBarred 2 (some .boolean), Cond.methodLink RX2 73 yX2_foretells, Cond.instanceMethod yX2_foretells, Cond.selects RX2 yX2_foretells yX2_foretells, Cond.code yX2_foretells cX2_foretells 1 none, Cond.methodLink RL 67 yX2_thrown, Cond.instanceMethod yX2_thrown, Cond.selects RX2 yX2_thrown yX2_thrown, Cond.code yX2_thrown cX2_thrown 1 (some .int), Cond.methodLink RL 71 yL_setClaims, Cond.static yL_setClaims, Cond.codeWith yL_setClaims cL_setClaims 4 (some .int) [(0, 6, 9, 13)], Cond.methodLink RL 15 yX1_setClaims, Cond.instanceMethod yX1_setClaims, Cond.selects RX1 yX1_setClaims yX1_setClaims, Cond.code yX1_setClaims cX1_setClaims 3 none, Cond.methodLink RL 74 yX2_setClaims, Cond.instanceMethod yX2_setClaims, Cond.selects RX2 yX2_setClaims yX2_setClaims]
def wsL_law0_r7 : List Cond := [Cond.code yX2_setClaims cX2_setClaims 3 none, Cond.methodLink RL 75 yL_advance, Cond.static yL_advance, Cond.codeWith yL_advance cL_advance 4 (some .int) [(0, 9, 12, 13), (0, 9, 15, 23)], Cond.classLink RL 23 "java/lang/IllegalStateException", Cond.methodLink RL 19 yX1_advance, Cond.instanceMethod yX1_advance, Cond.selects RX1 yX1_advance yX1_advance, Cond.code yX1_advance cX1_advance 2 (some .int), Cond.classLink RX1 77 "java/lang/IllegalStateException", Cond.initialized "java/lang/IllegalStateException", Cond.methodLink RL 78 yX2_advance, Cond.instanceMethod yX2_advance, Cond.selects RX2 yX2_advance yX2_advance, Cond.code yX2_advance cX2_advance 2 (some .int), Cond.methodLink RL 79 yL_checkIn, Cond.static yL_checkIn, Cond.codeWith yL_checkIn cL_checkIn 5 (some .int) [(0, 10, 13, 29), (0, 10, 17, 13), (0, 10, 21, 23)], Cond.classLink RL 29 "java/lang/IndexOutOfBoundsException", Cond.methodLink RL 25 yX1_checkIn, Cond.instanceMethod yX1_checkIn, Cond.selects RX1 yX1_checkIn yX1_checkIn, Cond.code yX1_checkIn cX1_checkIn 4 (some .int), Cond.classLink RX1 86 "java/lang/IndexOutOfBoundsException"]
def wsL_law0_r8 : List Cond := [Cond.initialized "java/lang/IndexOutOfBoundsException", Cond.methodLink RX1 93 yX1_canAllCome, Cond.instanceMethod yX1_canAllCome, Cond.selects RX1 yX1_canAllCome yX1_canAllCome, Cond.code yX1_canAllCome cX1_canAllCome 4 (some .boolean), Cond.methodLink RX1 110 yX1_isForetold, Cond.instanceMethod yX1_isForetold, Cond.selects RX1 yX1_isForetold yX1_isForetold, Cond.code yX1_isForetold cX1_isForetold 2 (some .boolean), Cond.methodLink RX1 99 yX1_foretellUpTo, Cond.instanceMethod yX1_foretellUpTo, Cond.selects RX1 yX1_foretellUpTo yX1_foretellUpTo, Cond.code yX1_foretellUpTo cX1_foretellUpTo 3 none, Cond.methodLink RX1 103 yX1_takeIn, Cond.instanceMethod yX1_takeIn, Cond.selects RX1 yX1_takeIn yX1_takeIn, Cond.code yX1_takeIn cX1_takeIn 4 none, Cond.methodLink RX1 107 yX1_noteDifference, Cond.instanceMethod yX1_noteDifference, Cond.selects RX1 yX1_noteDifference yX1_noteDifference, Cond.code yX1_noteDifference cX1_noteDifference 4 none, Cond.fieldLink RX1 167 "IssueDesk" "streakDifference" "I", Cond.fieldLink RX1 173 "IssueDesk" "streakLength" "I", Cond.methodLink RX1 170 yX1_followsStreak]
def wsL_law0_r9 : List Cond := [Cond.instanceMethod yX1_followsStreak, Cond.selects RX1 yX1_followsStreak yX1_followsStreak, Cond.code yX1_followsStreak cX1_followsStreak 3 (some .boolean), Cond.methodLink RX1 176 yX1_canShift, Cond.static yX1_canShift, Cond.code yX1_canShift cX1_canShift 1 (some .boolean), Cond.methodLink RL 82 yX2_checkIn, Cond.instanceMethod yX2_checkIn, Cond.selects RX2 yX2_checkIn yX2_checkIn, Cond.code yX2_checkIn cX2_checkIn 5 (some .int), Cond.methodLink RX2 91 yX2_isIssue, Cond.static yX2_isIssue, Cond.code yX2_isIssue cX2_isIssue 1 (some .boolean), Cond.methodLink RX2 94 yX2_isOpen, Cond.instanceMethod yX2_isOpen, Cond.selects RX2 yX2_isOpen yX2_isOpen, Cond.code yX2_isOpen cX2_isOpen 5 (some .boolean), Cond.methodLink RX2 98 yX2_counts, Cond.instanceMethod yX2_counts, Cond.selects RX2 yX2_counts yX2_counts, Cond.code yX2_counts cX2_counts 3 none, Cond.fieldLink RX2 82 "IssueDeskModel" "row" "I", Cond.fieldLink RX2 88 "IssueDeskModel" "difference" "I", Cond.methodLink RX2 85 yX2_follows]
def wsL_law0_r10 : List Cond := [Cond.instanceMethod yX2_follows, Cond.selects RX2 yX2_follows yX2_follows, Cond.code yX2_follows cX2_follows 4 (some .boolean), Cond.methodLink RL 83 yL_skip, Cond.static yL_skip, Cond.codeWith yL_skip cL_skip 3 (some .int) [(0, 5, 8, 29), (0, 5, 11, 23)], Cond.methodLink RL 31 yX1_skip, Cond.instanceMethod yX1_skip, Cond.selects RX1 yX1_skip yX1_skip, Cond.code yX1_skip cX1_skip 2 none, Cond.methodLink RL 86 yX2_skip, Cond.instanceMethod yX2_skip, Cond.selects RX2 yX2_skip yX2_skip, Cond.code yX2_skip cX2_skip 2 none, Cond.methodLink RX2 102 yX2_isForetold, Cond.instanceMethod yX2_isForetold, Cond.selects RX2 yX2_isForetold yX2_isForetold, Cond.code yX2_isForetold cX2_isForetold 2 (some .boolean), Cond.methodLink RL 87 yX1_round, Cond.instanceMethod yX1_round, Cond.selects RX1 yX1_round yX1_round, Cond.code yX1_round cX1_round 3 (some .int), Cond.methodLink RX1 117 yX1_isLate, Cond.instanceMethod yX1_isLate]
def wsL_law0_r11 : List Cond := [Cond.selects RX1 yX1_isLate yX1_isLate, Cond.code yX1_isLate cX1_isLate 2 (some .boolean), Cond.methodLink RX1 120 yX1_isTimeToClaim, Cond.instanceMethod yX1_isTimeToClaim, Cond.selects RX1 yX1_isTimeToClaim yX1_isTimeToClaim, Cond.code yX1_isTimeToClaim cX1_isTimeToClaim 2 (some .boolean), Cond.methodLink RL 90 yX2_round, Cond.instanceMethod yX2_round, Cond.selects RX2 yX2_round yX2_round, Cond.code yX2_round cX2_round 3 (some .int), Cond.methodLink RX2 105 yX2_isLate, Cond.instanceMethod yX2_isLate, Cond.selects RX2 yX2_isLate yX2_isLate, Cond.code yX2_isLate cX2_isLate 2 (some .boolean), Cond.methodLink RL 91 yX1_day, Cond.instanceMethod yX1_day, Cond.selects RX1 yX1_day yX1_day, Cond.code yX1_day cX1_day 1 (some .int), Cond.methodLink RL 94 yX2_day, Cond.instanceMethod yX2_day, Cond.selects RX2 yX2_day yX2_day, Cond.code yX2_day cX2_day 1 (some .int), Cond.methodLink RL 95 yX1_foretold, Cond.instanceMethod yX1_foretold]
def wsL_law0_r12 : List Cond := [Cond.selects RX1 yX1_foretold yX1_foretold, Cond.code yX1_foretold cX1_foretold 1 (some .int), Cond.methodLink RL 98 yX2_foretold, Cond.instanceMethod yX2_foretold, Cond.selects RX2 yX2_foretold yX2_foretold, Cond.code yX2_foretold cX2_foretold 1 (some .int), Cond.methodLink RL 99 yX1_shift, Cond.instanceMethod yX1_shift, Cond.selects RX1 yX1_shift yX1_shift, Cond.code yX1_shift cX1_shift 1 (some .int), Cond.methodLink RL 102 yX2_shift, Cond.instanceMethod yX2_shift, Cond.selects RX2 yX2_shift yX2_shift, Cond.code yX2_shift cX2_shift 1 (some .int), Cond.methodLink RL 103 yL_dayOf, Cond.static yL_dayOf, Cond.codeWith yL_dayOf cL_dayOf 4 (some .int) [(0, 9, 12, 29)], Cond.methodLink RL 35 yX1_dayOf, Cond.instanceMethod yX1_dayOf, Cond.selects RX1 yX1_dayOf yX1_dayOf, Cond.code yX1_dayOf cX1_dayOf 2 (some .int), Cond.methodLink RL 105 yX2_dayOf, Cond.instanceMethod yX2_dayOf, Cond.selects RX2 yX2_dayOf yX2_dayOf]
def wsL_law0_r13 : List Cond := [Cond.code yX2_dayOf cX2_dayOf 2 (some .int), Cond.methodLink RX2 108 yX2_isAsked, Cond.instanceMethod yX2_isAsked, Cond.selects RX2 yX2_isAsked yX2_isAsked, Cond.code yX2_isAsked cX2_isAsked 2 (some .boolean), Cond.methodLink RL 106 yL_stateOf, Cond.static yL_stateOf, Cond.codeWith yL_stateOf cL_stateOf 4 (some .int) [(0, 9, 12, 29)], Cond.methodLink RL 38 yX1_stateOf, Cond.instanceMethod yX1_stateOf, Cond.selects RX1 yX1_stateOf yX1_stateOf, Cond.code yX1_stateOf cX1_stateOf 2 (some .int), Cond.methodLink RL 108 yX2_stateOf, Cond.instanceMethod yX2_stateOf, Cond.selects RX2 yX2_stateOf yX2_stateOf, Cond.code yX2_stateOf cX2_stateOf 2 (some .int), Cond.methodLink RL 109 yL_claimsOf, Cond.static yL_claimsOf, Cond.codeWith yL_claimsOf cL_claimsOf 4 (some .int) [(0, 9, 12, 29)], Cond.methodLink RL 41 yX1_claimsOf, Cond.instanceMethod yX1_claimsOf, Cond.selects RX1 yX1_claimsOf yX1_claimsOf, Cond.code yX1_claimsOf cX1_claimsOf 2 (some .int), Cond.methodLink RL 111 yX2_claimsOf]
def wsL_law0_r14 : List Cond := [Cond.instanceMethod yX2_claimsOf, Cond.selects RX2 yX2_claimsOf yX2_claimsOf, Cond.code yX2_claimsOf cX2_claimsOf 2 (some .int), Cond.methodLink RL 112 yL_labelOf, Cond.static yL_labelOf, Cond.codeWith yL_labelOf cL_labelOf 4 (some .int) [(0, 9, 12, 29)], Cond.methodLink RL 44 yX1_labelOf, Cond.instanceMethod yX1_labelOf, Cond.selects RX1 yX1_labelOf yX1_labelOf, Cond.code yX1_labelOf cX1_labelOf 2 (some .int), Cond.methodLink RX1 126 yX0_volumeOf, Cond.instanceMethod yX0_volumeOf, Cond.selects RX0 yX0_volumeOf yX0_volumeOf, Cond.code yX0_volumeOf cX0_volumeOf 2 (some .int), Cond.methodLink RX1 130 yX0_numberOf, Cond.instanceMethod yX0_numberOf, Cond.selects RX0 yX0_numberOf yX0_numberOf, Cond.code yX0_numberOf cX0_numberOf 2 (some .int), Cond.methodLink RL 114 yX2_labelOf, Cond.instanceMethod yX2_labelOf, Cond.selects RX2 yX2_labelOf yX2_labelOf, Cond.code yX2_labelOf cX2_labelOf 2 (some .int), Cond.methodLink RX2 111 yX2_volume, Cond.instanceMethod yX2_volume]
def wsL_law0_r15 : List Cond := [Cond.selects RX2 yX2_volume yX2_volume, Cond.code yX2_volume cX2_volume 2 (some .int), Cond.methodLink RX2 115 yX2_number, Cond.instanceMethod yX2_number, Cond.selects RX2 yX2_number yX2_number, Cond.code yX2_number cX2_number 2 (some .int), Cond.methodLink RL 115 yX1_find, Cond.instanceMethod yX1_find, Cond.selects RX1 yX1_find yX1_find, Cond.code yX1_find cX1_find 4 (some .int), Cond.methodLink RL 118 yX2_find, Cond.instanceMethod yX2_find, Cond.selects RX2 yX2_find yX2_find, Cond.code yX2_find cX2_find 5 (some .int), Cond.methodLink RL 119 yX1_late, Cond.instanceMethod yX1_late, Cond.selects RX1 yX1_late yX1_late, Cond.code yX1_late cX1_late 3 (some .int), Cond.methodLink RL 122 yX2_late, Cond.instanceMethod yX2_late, Cond.selects RX2 yX2_late yX2_late, Cond.code yX2_late cX2_late 3 (some .int), Cond.methodLink RL 123 yX1_ranges, Cond.instanceMethod yX1_ranges]
def wsL_law0_r16 : List Cond := [Cond.selects RX1 yX1_ranges yX1_ranges, Cond.code yX1_ranges cX1_ranges 3 (some .int), Cond.methodLink RX1 133 yX1_isRangeStart, Cond.instanceMethod yX1_isRangeStart, Cond.selects RX1 yX1_isRangeStart yX1_isRangeStart, Cond.code yX1_isRangeStart cX1_isRangeStart 2 (some .boolean), Cond.methodLink RX1 153 yX1_isInHouse, Cond.instanceMethod yX1_isInHouse, Cond.selects RX1 yX1_isInHouse yX1_isInHouse, Cond.code yX1_isInHouse cX1_isInHouse 2 (some .boolean), Cond.methodLink RL 126 yX2_ranges, Cond.instanceMethod yX2_ranges, Cond.selects RX2 yX2_ranges yX2_ranges, Cond.code yX2_ranges cX2_ranges 1 (some .int), Cond.methodLink RX2 121 yX2_allRanges, Cond.instanceMethod yX2_allRanges, Cond.selects RX2 yX2_allRanges yX2_allRanges, Cond.code yX2_allRanges cX2_allRanges 3 (some .int), Cond.methodLink RX2 118 yX2_isHere, Cond.instanceMethod yX2_isHere, Cond.selects RX2 yX2_isHere yX2_isHere, Cond.code yX2_isHere cX2_isHere 2 (some .boolean), Cond.methodLink RL 127 yL_rangeAt, Cond.static yL_rangeAt]
def wsL_law0_r17 : List Cond := [Cond.codeWith yL_rangeAt cL_rangeAt 4 (some .int) [(0, 9, 12, 29)], Cond.methodLink RL 47 yX1_rangeAt, Cond.instanceMethod yX1_rangeAt, Cond.selects RX1 yX1_rangeAt yX1_rangeAt, Cond.code yX1_rangeAt cX1_rangeAt 3 (some .int), Cond.methodLink RX1 136 yX1_startOfRange, Cond.instanceMethod yX1_startOfRange, Cond.selects RX1 yX1_startOfRange yX1_startOfRange, Cond.code yX1_startOfRange cX1_startOfRange 4 (some .int), Cond.methodLink RX1 141 yX1_endOfRange, Cond.instanceMethod yX1_endOfRange, Cond.selects RX1 yX1_endOfRange yX1_endOfRange, Cond.code yX1_endOfRange cX1_endOfRange 3 (some .int), Cond.methodLink RL 129 yX2_rangeAt, Cond.instanceMethod yX2_rangeAt, Cond.selects RX2 yX2_rangeAt yX2_rangeAt, Cond.code yX2_rangeAt cX2_rangeAt 5 (some .int), Cond.methodLink RL 130 yX1_isHeld, Cond.instanceMethod yX1_isHeld, Cond.selects RX1 yX1_isHeld yX1_isHeld, Cond.code yX1_isHeld cX1_isHeld 3 (some .boolean), Cond.methodLink RL 134 yX2_isHeld, Cond.instanceMethod yX2_isHeld, Cond.selects RX2 yX2_isHeld yX2_isHeld]
def wsL_law0_r18 : List Cond := [Cond.code yX2_isHeld cX2_isHeld 2 (some .boolean), Cond.methodLink RL 135 yL_give, Cond.static yL_give, Cond.codeWith yL_give cL_give 5 (some .int) [(0, 10, 13, 13)], Cond.methodLink RL 50 yX1_give, Cond.instanceMethod yX1_give, Cond.selects RX1 yX1_give yX1_give, Cond.code yX1_give cX1_give 4 (some .int), Cond.fieldLink RX1 148 "IssueDesk" "thereCount" "I", Cond.methodLink RL 137 yX2_give, Cond.instanceMethod yX2_give, Cond.selects RX2 yX2_give yX2_give, Cond.code yX2_give cX2_give 5 (some .int), Cond.methodLink RL 138 yL_only, Cond.static yL_only, Cond.codeWith yL_only cL_only 5 (some .int) [(0, 10, 13, 13)], Cond.methodLink RL 53 yX1_only, Cond.instanceMethod yX1_only, Cond.selects RX1 yX1_only yX1_only, Cond.code yX1_only cX1_only 6 (some .int), Cond.methodLink RL 141 yX2_only, Cond.instanceMethod yX2_only, Cond.selects RX2 yX2_only yX2_only, Cond.code yX2_only cX2_only 6 (some .int)]
def wsL_law0 : List Cond := (wsL_law0_r1 ++ (wsL_law0_r2 ++ (wsL_law0_r3 ++ (wsL_law0_r4 ++ (wsL_law0_r5 ++ (wsL_law0_r6 ++ (wsL_law0_r7 ++ (wsL_law0_r8 ++ (wsL_law0_r9 ++ (wsL_law0_r10 ++ (wsL_law0_r11 ++ (wsL_law0_r12 ++ (wsL_law0_r13 ++ (wsL_law0_r14 ++ (wsL_law0_r15 ++ (wsL_law0_r16 ++ (wsL_law0_r17 ++ wsL_law0_r18))))))))))))))))) ++ wsX10 ++ wsX20 ++ wsX00 ++ ([] : List Cond)
def wsL_law : List Cond := wsL_law0 ++ (vx_atS RX1 54 "java/lang/IllegalArgumentException" ["java/lang/RuntimeException", "java/lang/Exception"]).filter goodWord ++ (vx_atS RX1 81 "java/lang/IllegalStateException" ["java/lang/RuntimeException", "java/lang/Exception"]).filter goodWord ++ (vx_atS RX1 90 "java/lang/IndexOutOfBoundsException" ["java/lang/RuntimeException", "java/lang/Exception"]).filter goodWord
abbrev vwCl : List vw_C := [(RX0, TX0, 4), (RX1, TX1, 15), (RX2, TX2, 18)]
end
section
theorem dX0_init_0 : decode cX0_init 0 = .ok (.aload_n 0, 1) := by decide +kernel
theorem dX0_init_1 : decode cX0_init 1 = .ok (.invokespecial 3, 3) := by decide +kernel
theorem dX0_init_4 : decode cX0_init 4 = .ok (.aload_n 0, 1) := by decide +kernel
theorem dX0_init_5 : decode cX0_init 5 = .ok (.bipush 30, 2) := by decide +kernel
theorem dX0_init_7 : decode cX0_init 7 = .ok (.putfield 9, 3) := by decide +kernel
theorem dX0_init_10 : decode cX0_init 10 = .ok (.aload_n 0, 1) := by decide +kernel
theorem dX0_init_11 : decode cX0_init 11 = .ok (.bipush 12, 2) := by decide +kernel
theorem dX0_init_13 : decode cX0_init 13 = .ok (.putfield 15, 3) := by decide +kernel
theorem dX0_init_16 : decode cX0_init 16 = .ok (.aload_n 0, 1) := by decide +kernel
theorem dX0_init_17 : decode cX0_init 17 = .ok (.iconst 1, 1) := by decide +kernel
theorem dX0_init_18 : decode cX0_init 18 = .ok (.putfield 18, 3) := by decide +kernel
theorem dX0_init_21 : decode cX0_init 21 = .ok (.aload_n 0, 1) := by decide +kernel
theorem dX0_init_22 : decode cX0_init 22 = .ok (.iconst 0, 1) := by decide +kernel
theorem dX0_init_23 : decode cX0_init 23 = .ok (.putfield 22, 3) := by decide +kernel
theorem dX0_init_26 : decode cX0_init 26 = .ok (.return_, 1) := by decide +kernel
theorem dX0_change_0 : decode cX0_change 0 = .ok (.aload_n 0, 1) := by decide +kernel
theorem dX0_change_1 : decode cX0_change 1 = .ok (.iload_n 1, 1) := by decide +kernel
theorem dX0_change_2 : decode cX0_change 2 = .ok (.putfield 9, 3) := by decide +kernel
theorem dX0_change_5 : decode cX0_change 5 = .ok (.aload_n 0, 1) := by decide +kernel
theorem dX0_change_6 : decode cX0_change 6 = .ok (.iload_n 2, 1) := by decide +kernel
theorem dX0_change_7 : decode cX0_change 7 = .ok (.putfield 15, 3) := by decide +kernel
theorem dX0_change_10 : decode cX0_change 10 = .ok (.aload_n 0, 1) := by decide +kernel
theorem dX0_change_11 : decode cX0_change 11 = .ok (.iload_n 3, 1) := by decide +kernel
theorem dX0_change_12 : decode cX0_change 12 = .ok (.putfield 18, 3) := by decide +kernel
theorem dX0_change_15 : decode cX0_change 15 = .ok (.aload_n 0, 1) := by decide +kernel
theorem dX0_change_16 : decode cX0_change 16 = .ok (.iload 4, 2) := by decide +kernel
theorem dX0_change_18 : decode cX0_change 18 = .ok (.putfield 22, 3) := by decide +kernel
theorem dX0_change_21 : decode cX0_change 21 = .ok (.return_, 1) := by decide +kernel
set_option maxRecDepth 20000 in
theorem ggX0_dayBehind_X0_isInSkippedMonth : GoodIn wsX0_dayBehind wsX0_isInSkippedMonth := goodIn_r _ [10, 11, 12, 13, 14, 15] (by decide +kernel) (by decide +kernel)
set_option maxRecDepth 20000 in
theorem gX0_dayBehind_X0_isInSkippedMonth : GoodIn wsX0_dayBehind (wsV RX0 31 RX0 yX0_isInSkippedMonth wsX0_isInSkippedMonth) := goodIn_app (goodIn_of _ (by decide +kernel)) ggX0_dayBehind_X0_isInSkippedMonth
theorem dX0_dayBehind_0 : decode cX0_dayBehind 0 = .ok (.iload_n 1, 1) := by decide +kernel
theorem dX0_dayBehind_1 : decode cX0_dayBehind 1 = .ok (.aload_n 0, 1) := by decide +kernel
theorem dX0_dayBehind_2 : decode cX0_dayBehind 2 = .ok (.getfield 9, 3) := by decide +kernel
theorem dX0_dayBehind_5 : decode cX0_dayBehind 5 = .ok (.iadd, 1) := by decide +kernel
theorem dX0_dayBehind_6 : decode cX0_dayBehind 6 = .ok (.iload_n 2, 1) := by decide +kernel
theorem dX0_dayBehind_7 : decode cX0_dayBehind 7 = .ok (.iadd, 1) := by decide +kernel
theorem dX0_dayBehind_8 : decode cX0_dayBehind 8 = .ok (.iload_n 1, 1) := by decide +kernel
theorem dX0_dayBehind_9 : decode cX0_dayBehind 9 = .ok (.iconst 1, 1) := by decide +kernel
theorem dX0_dayBehind_10 : decode cX0_dayBehind 10 = .ok (.iadd, 1) := by decide +kernel
theorem dX0_dayBehind_11 : decode cX0_dayBehind 11 = .ok (.invokestatic 25, 3) := by decide +kernel
theorem dX0_dayBehind_14 : decode cX0_dayBehind 14 = .ok (.istore_n 3, 1) := by decide +kernel
theorem dX0_dayBehind_15 : decode cX0_dayBehind 15 = .ok (.iconst 0, 1) := by decide +kernel
theorem dX0_dayBehind_16 : decode cX0_dayBehind 16 = .ok (.istore 4, 2) := by decide +kernel
theorem dX0_dayBehind_18 : decode cX0_dayBehind 18 = .ok (.iload 4, 2) := by decide +kernel
theorem dX0_dayBehind_20 : decode cX0_dayBehind 20 = .ok (.bipush 12, 2) := by decide +kernel
theorem dX0_dayBehind_22 : decode cX0_dayBehind 22 = .ok (.if_icmp .ge 27, 3) := by decide +kernel
theorem dX0_dayBehind_25 : decode cX0_dayBehind 25 = .ok (.aload_n 0, 1) := by decide +kernel
theorem dX0_dayBehind_26 : decode cX0_dayBehind 26 = .ok (.iload_n 3, 1) := by decide +kernel
theorem dX0_dayBehind_27 : decode cX0_dayBehind 27 = .ok (.invokevirtual 31, 3) := by decide +kernel
theorem dX0_dayBehind_30 : decode cX0_dayBehind 30 = .ok (.ifCond .eq 19, 3) := by decide +kernel
theorem dX0_dayBehind_33 : decode cX0_dayBehind 33 = .ok (.iload_n 3, 1) := by decide +kernel
theorem dX0_dayBehind_34 : decode cX0_dayBehind 34 = .ok (.bipush 30, 2) := by decide +kernel
theorem dX0_dayBehind_36 : decode cX0_dayBehind 36 = .ok (.idiv, 1) := by decide +kernel
theorem dX0_dayBehind_37 : decode cX0_dayBehind 37 = .ok (.iconst 1, 1) := by decide +kernel
theorem dX0_dayBehind_38 : decode cX0_dayBehind 38 = .ok (.iadd, 1) := by decide +kernel
theorem dX0_dayBehind_39 : decode cX0_dayBehind 39 = .ok (.bipush 30, 2) := by decide +kernel
theorem dX0_dayBehind_41 : decode cX0_dayBehind 41 = .ok (.imul, 1) := by decide +kernel
theorem dX0_dayBehind_42 : decode cX0_dayBehind 42 = .ok (.istore_n 3, 1) := by decide +kernel
theorem dX0_dayBehind_43 : decode cX0_dayBehind 43 = .ok (.iinc 4 1, 3) := by decide +kernel
theorem dX0_dayBehind_46 : decode cX0_dayBehind 46 = .ok (.goto (-28), 3) := by decide +kernel
theorem dX0_dayBehind_49 : decode cX0_dayBehind 49 = .ok (.iload_n 3, 1) := by decide +kernel
theorem dX0_dayBehind_50 : decode cX0_dayBehind 50 = .ok (.ireturn, 1) := by decide +kernel
theorem dX0_volumeOf_0 : decode cX0_volumeOf 0 = .ok (.aload_n 0, 1) := by decide +kernel
theorem dX0_volumeOf_1 : decode cX0_volumeOf 1 = .ok (.getfield 15, 3) := by decide +kernel
theorem dX0_volumeOf_4 : decode cX0_volumeOf 4 = .ok (.iconst 1, 1) := by decide +kernel
theorem dX0_volumeOf_5 : decode cX0_volumeOf 5 = .ok (.if_icmp .ge 7, 3) := by decide +kernel
theorem dX0_volumeOf_8 : decode cX0_volumeOf 8 = .ok (.iconst (-1), 1) := by decide +kernel
theorem dX0_volumeOf_9 : decode cX0_volumeOf 9 = .ok (.goto 11, 3) := by decide +kernel
theorem dX0_volumeOf_12 : decode cX0_volumeOf 12 = .ok (.iload_n 1, 1) := by decide +kernel
theorem dX0_volumeOf_13 : decode cX0_volumeOf 13 = .ok (.aload_n 0, 1) := by decide +kernel
theorem dX0_volumeOf_14 : decode cX0_volumeOf 14 = .ok (.getfield 15, 3) := by decide +kernel
theorem dX0_volumeOf_17 : decode cX0_volumeOf 17 = .ok (.idiv, 1) := by decide +kernel
theorem dX0_volumeOf_18 : decode cX0_volumeOf 18 = .ok (.iconst 1, 1) := by decide +kernel
theorem dX0_volumeOf_19 : decode cX0_volumeOf 19 = .ok (.iadd, 1) := by decide +kernel
theorem dX0_volumeOf_20 : decode cX0_volumeOf 20 = .ok (.ireturn, 1) := by decide +kernel
theorem dX0_numberOf_0 : decode cX0_numberOf 0 = .ok (.aload_n 0, 1) := by decide +kernel
theorem dX0_numberOf_1 : decode cX0_numberOf 1 = .ok (.getfield 18, 3) := by decide +kernel
theorem dX0_numberOf_4 : decode cX0_numberOf 4 = .ok (.ifCond .ne 7, 3) := by decide +kernel
theorem dX0_numberOf_7 : decode cX0_numberOf 7 = .ok (.iload_n 1, 1) := by decide +kernel
theorem dX0_numberOf_8 : decode cX0_numberOf 8 = .ok (.iconst 1, 1) := by decide +kernel
theorem dX0_numberOf_9 : decode cX0_numberOf 9 = .ok (.iadd, 1) := by decide +kernel
theorem dX0_numberOf_10 : decode cX0_numberOf 10 = .ok (.ireturn, 1) := by decide +kernel
theorem dX0_numberOf_11 : decode cX0_numberOf 11 = .ok (.aload_n 0, 1) := by decide +kernel
theorem dX0_numberOf_12 : decode cX0_numberOf 12 = .ok (.getfield 15, 3) := by decide +kernel
theorem dX0_numberOf_15 : decode cX0_numberOf 15 = .ok (.iconst 1, 1) := by decide +kernel
theorem dX0_numberOf_16 : decode cX0_numberOf 16 = .ok (.if_icmp .ge 7, 3) := by decide +kernel
theorem dX0_numberOf_19 : decode cX0_numberOf 19 = .ok (.iconst (-1), 1) := by decide +kernel
theorem dX0_numberOf_20 : decode cX0_numberOf 20 = .ok (.goto 11, 3) := by decide +kernel
theorem dX0_numberOf_23 : decode cX0_numberOf 23 = .ok (.iload_n 1, 1) := by decide +kernel
theorem dX0_numberOf_24 : decode cX0_numberOf 24 = .ok (.aload_n 0, 1) := by decide +kernel
theorem dX0_numberOf_25 : decode cX0_numberOf 25 = .ok (.getfield 15, 3) := by decide +kernel
theorem dX0_numberOf_28 : decode cX0_numberOf 28 = .ok (.irem, 1) := by decide +kernel
theorem dX0_numberOf_29 : decode cX0_numberOf 29 = .ok (.iconst 1, 1) := by decide +kernel
theorem dX0_numberOf_30 : decode cX0_numberOf 30 = .ok (.iadd, 1) := by decide +kernel
theorem dX0_numberOf_31 : decode cX0_numberOf 31 = .ok (.ireturn, 1) := by decide +kernel
theorem dX0_isInSkippedMonth_0 : decode cX0_isInSkippedMonth 0 = .ok (.iload_n 1, 1) := by decide +kernel
theorem dX0_isInSkippedMonth_1 : decode cX0_isInSkippedMonth 1 = .ok (.bipush 30, 2) := by decide +kernel
theorem dX0_isInSkippedMonth_3 : decode cX0_isInSkippedMonth 3 = .ok (.idiv, 1) := by decide +kernel
theorem dX0_isInSkippedMonth_4 : decode cX0_isInSkippedMonth 4 = .ok (.bipush 12, 2) := by decide +kernel
theorem dX0_isInSkippedMonth_6 : decode cX0_isInSkippedMonth 6 = .ok (.irem, 1) := by decide +kernel
theorem dX0_isInSkippedMonth_7 : decode cX0_isInSkippedMonth 7 = .ok (.istore_n 2, 1) := by decide +kernel
theorem dX0_isInSkippedMonth_8 : decode cX0_isInSkippedMonth 8 = .ok (.aload_n 0, 1) := by decide +kernel
theorem dX0_isInSkippedMonth_9 : decode cX0_isInSkippedMonth 9 = .ok (.getfield 22, 3) := by decide +kernel
theorem dX0_isInSkippedMonth_12 : decode cX0_isInSkippedMonth 12 = .ok (.iload_n 2, 1) := by decide +kernel
theorem dX0_isInSkippedMonth_13 : decode cX0_isInSkippedMonth 13 = .ok (.ishr, 1) := by decide +kernel
theorem dX0_isInSkippedMonth_14 : decode cX0_isInSkippedMonth 14 = .ok (.iconst 1, 1) := by decide +kernel
theorem dX0_isInSkippedMonth_15 : decode cX0_isInSkippedMonth 15 = .ok (.iand, 1) := by decide +kernel
theorem dX0_isInSkippedMonth_16 : decode cX0_isInSkippedMonth 16 = .ok (.ifCond .eq 7, 3) := by decide +kernel
theorem dX0_isInSkippedMonth_19 : decode cX0_isInSkippedMonth 19 = .ok (.iconst 1, 1) := by decide +kernel
theorem dX0_isInSkippedMonth_20 : decode cX0_isInSkippedMonth 20 = .ok (.goto 4, 3) := by decide +kernel
theorem dX0_isInSkippedMonth_23 : decode cX0_isInSkippedMonth 23 = .ok (.iconst 0, 1) := by decide +kernel
theorem dX0_isInSkippedMonth_24 : decode cX0_isInSkippedMonth 24 = .ok (.ireturn, 1) := by decide +kernel
set_option maxRecDepth 20000 in
theorem ggX1_init_X0_init : GoodIn wsX1_init wsX0_init := goodIn_r _ [21, 22, 2, 3, 23, 24, 25, 26, 27, 28, 29, 30] (by decide +kernel) (by decide +kernel)
set_option maxRecDepth 20000 in
theorem gX1_init_X0_init : GoodIn wsX1_init (wsX0_init) := ggX1_init_X0_init
theorem dX1_init_0 : decode cX1_init 0 = .ok (.aload_n 0, 1) := by decide +kernel
theorem dX1_init_1 : decode cX1_init 1 = .ok (.invokespecial 1, 3) := by decide +kernel
theorem dX1_init_4 : decode cX1_init 4 = .ok (.aload_n 0, 1) := by decide +kernel
theorem dX1_init_5 : decode cX1_init 5 = .ok (.new 7, 3) := by decide +kernel
theorem dX1_init_8 : decode cX1_init 8 = .ok (.dup, 1) := by decide +kernel
theorem dX1_init_9 : decode cX1_init 9 = .ok (.invokespecial 9, 3) := by decide +kernel
theorem dX1_init_12 : decode cX1_init 12 = .ok (.putfield 10, 3) := by decide +kernel
theorem dX1_init_15 : decode cX1_init 15 = .ok (.aload_n 0, 1) := by decide +kernel
theorem dX1_init_16 : decode cX1_init 16 = .ok (.bipush 7, 2) := by decide +kernel
theorem dX1_init_18 : decode cX1_init 18 = .ok (.putfield 16, 3) := by decide +kernel
theorem dX1_init_21 : decode cX1_init 21 = .ok (.aload_n 0, 1) := by decide +kernel
theorem dX1_init_22 : decode cX1_init 22 = .ok (.bipush 30, 2) := by decide +kernel
theorem dX1_init_24 : decode cX1_init 24 = .ok (.putfield 20, 3) := by decide +kernel
theorem dX1_init_27 : decode cX1_init 27 = .ok (.aload_n 0, 1) := by decide +kernel
theorem dX1_init_28 : decode cX1_init 28 = .ok (.sipush 200, 3) := by decide +kernel
theorem dX1_init_31 : decode cX1_init 31 = .ok (.newarray .int, 2) := by decide +kernel
theorem dX1_init_33 : decode cX1_init 33 = .ok (.putfield 23, 3) := by decide +kernel
theorem dX1_init_36 : decode cX1_init 36 = .ok (.aload_n 0, 1) := by decide +kernel
theorem dX1_init_37 : decode cX1_init 37 = .ok (.sipush 200, 3) := by decide +kernel
theorem dX1_init_40 : decode cX1_init 40 = .ok (.newarray .int, 2) := by decide +kernel
theorem dX1_init_42 : decode cX1_init 42 = .ok (.putfield 27, 3) := by decide +kernel
theorem dX1_init_45 : decode cX1_init 45 = .ok (.aload_n 0, 1) := by decide +kernel
theorem dX1_init_46 : decode cX1_init 46 = .ok (.sipush 200, 3) := by decide +kernel
theorem dX1_init_49 : decode cX1_init 49 = .ok (.newarray .int, 2) := by decide +kernel
theorem dX1_init_51 : decode cX1_init 51 = .ok (.putfield 30, 3) := by decide +kernel
theorem dX1_init_54 : decode cX1_init 54 = .ok (.aload_n 0, 1) := by decide +kernel
theorem dX1_init_55 : decode cX1_init 55 = .ok (.sipush 200, 3) := by decide +kernel
theorem dX1_init_58 : decode cX1_init 58 = .ok (.newarray .int, 2) := by decide +kernel
theorem dX1_init_60 : decode cX1_init 60 = .ok (.putfield 33, 3) := by decide +kernel
theorem dX1_init_63 : decode cX1_init 63 = .ok (.aload_n 0, 1) := by decide +kernel
theorem dX1_init_64 : decode cX1_init 64 = .ok (.sipush 200, 3) := by decide +kernel
theorem dX1_init_67 : decode cX1_init 67 = .ok (.newarray .boolean, 2) := by decide +kernel
theorem dX1_init_69 : decode cX1_init 69 = .ok (.putfield 36, 3) := by decide +kernel
theorem dX1_init_72 : decode cX1_init 72 = .ok (.aload_n 0, 1) := by decide +kernel
theorem dX1_init_73 : decode cX1_init 73 = .ok (.iconst 1, 1) := by decide +kernel
theorem dX1_init_74 : decode cX1_init 74 = .ok (.putfield 40, 3) := by decide +kernel
theorem dX1_init_77 : decode cX1_init 77 = .ok (.aload_n 0, 1) := by decide +kernel
theorem dX1_init_78 : decode cX1_init 78 = .ok (.iconst (-1), 1) := by decide +kernel
theorem dX1_init_79 : decode cX1_init 79 = .ok (.putfield 43, 3) := by decide +kernel
theorem dX1_init_82 : decode cX1_init 82 = .ok (.return_, 1) := by decide +kernel
set_option maxRecDepth 20000 in
theorem ggX1_setPattern_X1_isWithin : GoodIn wsX1_setPattern wsX1_isWithin := goodIn_r _ [7] (by decide +kernel) (by decide +kernel)
set_option maxRecDepth 20000 in
theorem gX1_setPattern_X1_isWithin : GoodIn wsX1_setPattern (va_wsS RX1 46 yX1_isWithin wsX1_isWithin) := goodIn_app (goodIn_of _ (by decide +kernel)) ggX1_setPattern_X1_isWithin
set_option maxRecDepth 20000 in
theorem ggX1_setPattern_X0_change : GoodIn wsX1_setPattern wsX0_change := goodIn_r _ [12, 13, 14, 15, 16, 63, 64, 65, 66] (by decide +kernel) (by decide +kernel)
set_option maxRecDepth 20000 in
theorem gX1_setPattern_X0_change : GoodIn wsX1_setPattern (wsV RX1 61 RX0 yX0_change wsX0_change) := goodIn_app (goodIn_of _ (by decide +kernel)) ggX1_setPattern_X0_change
set_option maxRecDepth 20000 in
theorem ggX1_setPattern_X1_foretellDueIssues : GoodIn wsX1_setPattern wsX1_foretellDueIssues := goodIn_r _ [20, 21, 22, 23, 24, 25, 6, 26, 3, 27, 28, 29, 30, 31, 32, 33, 34, 11, 35, 13, 36, 37, 38, 39, 40, 41, 42, 43, 16, 44, 45, 46, 47, 48, 49, 50, 51, 52, 53, 54, 55, 56, 57, 58, 59, 60, 61, 62, 63, 64, 65, 66] (by decide +kernel) (by decide +kernel)
set_option maxRecDepth 20000 in
theorem gX1_setPattern_X1_foretellDueIssues : GoodIn wsX1_setPattern (wsV RX1 65 RX1 yX1_foretellDueIssues wsX1_foretellDueIssues) := goodIn_app (goodIn_of _ (by decide +kernel)) ggX1_setPattern_X1_foretellDueIssues
theorem dX1_setPattern_0 : decode cX1_setPattern 0 = .ok (.iload_n 1, 1) := by decide +kernel
theorem dX1_setPattern_1 : decode cX1_setPattern 1 = .ok (.iconst 1, 1) := by decide +kernel
theorem dX1_setPattern_2 : decode cX1_setPattern 2 = .ok (.bipush 90, 2) := by decide +kernel
theorem dX1_setPattern_4 : decode cX1_setPattern 4 = .ok (.invokestatic 46, 3) := by decide +kernel
theorem dX1_setPattern_7 : decode cX1_setPattern 7 = .ok (.ifCond .ne 13, 3) := by decide +kernel
theorem dX1_setPattern_10 : decode cX1_setPattern 10 = .ok (.new 50, 3) := by decide +kernel
theorem dX1_setPattern_13 : decode cX1_setPattern 13 = .ok (.dup, 1) := by decide +kernel
theorem dX1_setPattern_14 : decode cX1_setPattern 14 = .ok (.ldc 52, 2) := by decide +kernel
theorem dX1_setPattern_16 : decode cX1_setPattern 16 = .ok (.invokespecial 54, 3) := by decide +kernel
theorem dX1_setPattern_19 : decode cX1_setPattern 19 = .ok (.athrow, 1) := by decide +kernel
theorem dX1_setPattern_20 : decode cX1_setPattern 20 = .ok (.iload_n 2, 1) := by decide +kernel
theorem dX1_setPattern_21 : decode cX1_setPattern 21 = .ok (.iconst 1, 1) := by decide +kernel
theorem dX1_setPattern_22 : decode cX1_setPattern 22 = .ok (.bipush 20, 2) := by decide +kernel
theorem dX1_setPattern_24 : decode cX1_setPattern 24 = .ok (.invokestatic 46, 3) := by decide +kernel
theorem dX1_setPattern_27 : decode cX1_setPattern 27 = .ok (.ifCond .ne 13, 3) := by decide +kernel
theorem dX1_setPattern_30 : decode cX1_setPattern 30 = .ok (.new 50, 3) := by decide +kernel
theorem dX1_setPattern_33 : decode cX1_setPattern 33 = .ok (.dup, 1) := by decide +kernel
theorem dX1_setPattern_34 : decode cX1_setPattern 34 = .ok (.ldc 57, 2) := by decide +kernel
theorem dX1_setPattern_36 : decode cX1_setPattern 36 = .ok (.invokespecial 54, 3) := by decide +kernel
theorem dX1_setPattern_39 : decode cX1_setPattern 39 = .ok (.athrow, 1) := by decide +kernel
theorem dX1_setPattern_40 : decode cX1_setPattern 40 = .ok (.iload 4, 2) := by decide +kernel
theorem dX1_setPattern_42 : decode cX1_setPattern 42 = .ok (.iconst 0, 1) := by decide +kernel
theorem dX1_setPattern_43 : decode cX1_setPattern 43 = .ok (.sipush 4094, 3) := by decide +kernel
theorem dX1_setPattern_46 : decode cX1_setPattern 46 = .ok (.invokestatic 46, 3) := by decide +kernel
theorem dX1_setPattern_49 : decode cX1_setPattern 49 = .ok (.ifCond .ne 13, 3) := by decide +kernel
theorem dX1_setPattern_52 : decode cX1_setPattern 52 = .ok (.new 50, 3) := by decide +kernel
theorem dX1_setPattern_55 : decode cX1_setPattern 55 = .ok (.dup, 1) := by decide +kernel
theorem dX1_setPattern_56 : decode cX1_setPattern 56 = .ok (.ldc 59, 2) := by decide +kernel
theorem dX1_setPattern_58 : decode cX1_setPattern 58 = .ok (.invokespecial 54, 3) := by decide +kernel
theorem dX1_setPattern_61 : decode cX1_setPattern 61 = .ok (.athrow, 1) := by decide +kernel
theorem dX1_setPattern_62 : decode cX1_setPattern 62 = .ok (.aload_n 0, 1) := by decide +kernel
theorem dX1_setPattern_63 : decode cX1_setPattern 63 = .ok (.getfield 10, 3) := by decide +kernel
theorem dX1_setPattern_66 : decode cX1_setPattern 66 = .ok (.iload_n 1, 1) := by decide +kernel
theorem dX1_setPattern_67 : decode cX1_setPattern 67 = .ok (.iload_n 2, 1) := by decide +kernel
theorem dX1_setPattern_68 : decode cX1_setPattern 68 = .ok (.iload_n 3, 1) := by decide +kernel
theorem dX1_setPattern_69 : decode cX1_setPattern 69 = .ok (.iload 4, 2) := by decide +kernel
theorem dX1_setPattern_71 : decode cX1_setPattern 71 = .ok (.invokevirtual 61, 3) := by decide +kernel
theorem dX1_setPattern_74 : decode cX1_setPattern 74 = .ok (.aload_n 0, 1) := by decide +kernel
theorem dX1_setPattern_75 : decode cX1_setPattern 75 = .ok (.invokevirtual 65, 3) := by decide +kernel
theorem dX1_setPattern_78 : decode cX1_setPattern 78 = .ok (.return_, 1) := by decide +kernel
set_option maxRecDepth 20000 in
theorem ggX1_setClaims_X1_isWithin : GoodIn wsX1_setClaims wsX1_isWithin := goodIn_r _ [8] (by decide +kernel) (by decide +kernel)
set_option maxRecDepth 20000 in
theorem gX1_setClaims_X1_isWithin : GoodIn wsX1_setClaims (va_wsS RX1 46 yX1_isWithin wsX1_isWithin) := goodIn_app (goodIn_of _ (by decide +kernel)) ggX1_setClaims_X1_isWithin
theorem dX1_setClaims_0 : decode cX1_setClaims 0 = .ok (.iload_n 1, 1) := by decide +kernel
theorem dX1_setClaims_1 : decode cX1_setClaims 1 = .ok (.iconst 0, 1) := by decide +kernel
theorem dX1_setClaims_2 : decode cX1_setClaims 2 = .ok (.bipush 100, 2) := by decide +kernel
theorem dX1_setClaims_4 : decode cX1_setClaims 4 = .ok (.invokestatic 46, 3) := by decide +kernel
theorem dX1_setClaims_7 : decode cX1_setClaims 7 = .ok (.ifCond .ne 13, 3) := by decide +kernel
theorem dX1_setClaims_10 : decode cX1_setClaims 10 = .ok (.new 50, 3) := by decide +kernel
theorem dX1_setClaims_13 : decode cX1_setClaims 13 = .ok (.dup, 1) := by decide +kernel
theorem dX1_setClaims_14 : decode cX1_setClaims 14 = .ok (.ldc 68, 2) := by decide +kernel
theorem dX1_setClaims_16 : decode cX1_setClaims 16 = .ok (.invokespecial 54, 3) := by decide +kernel
theorem dX1_setClaims_19 : decode cX1_setClaims 19 = .ok (.athrow, 1) := by decide +kernel
theorem dX1_setClaims_20 : decode cX1_setClaims 20 = .ok (.iload_n 2, 1) := by decide +kernel
theorem dX1_setClaims_21 : decode cX1_setClaims 21 = .ok (.iconst 1, 1) := by decide +kernel
theorem dX1_setClaims_22 : decode cX1_setClaims 22 = .ok (.bipush 100, 2) := by decide +kernel
theorem dX1_setClaims_24 : decode cX1_setClaims 24 = .ok (.invokestatic 46, 3) := by decide +kernel
theorem dX1_setClaims_27 : decode cX1_setClaims 27 = .ok (.ifCond .ne 13, 3) := by decide +kernel
theorem dX1_setClaims_30 : decode cX1_setClaims 30 = .ok (.new 50, 3) := by decide +kernel
theorem dX1_setClaims_33 : decode cX1_setClaims 33 = .ok (.dup, 1) := by decide +kernel
theorem dX1_setClaims_34 : decode cX1_setClaims 34 = .ok (.ldc 70, 2) := by decide +kernel
theorem dX1_setClaims_36 : decode cX1_setClaims 36 = .ok (.invokespecial 54, 3) := by decide +kernel
theorem dX1_setClaims_39 : decode cX1_setClaims 39 = .ok (.athrow, 1) := by decide +kernel
theorem dX1_setClaims_40 : decode cX1_setClaims 40 = .ok (.aload_n 0, 1) := by decide +kernel
theorem dX1_setClaims_41 : decode cX1_setClaims 41 = .ok (.iload_n 1, 1) := by decide +kernel
theorem dX1_setClaims_42 : decode cX1_setClaims 42 = .ok (.putfield 16, 3) := by decide +kernel
theorem dX1_setClaims_45 : decode cX1_setClaims 45 = .ok (.aload_n 0, 1) := by decide +kernel
theorem dX1_setClaims_46 : decode cX1_setClaims 46 = .ok (.iload_n 2, 1) := by decide +kernel
theorem dX1_setClaims_47 : decode cX1_setClaims 47 = .ok (.putfield 20, 3) := by decide +kernel
theorem dX1_setClaims_50 : decode cX1_setClaims 50 = .ok (.return_, 1) := by decide +kernel
set_option maxRecDepth 20000 in
theorem ggX1_advance_X1_isWithin : GoodIn wsX1_advance wsX1_isWithin := goodIn_r _ [9] (by decide +kernel) (by decide +kernel)
set_option maxRecDepth 20000 in
theorem gX1_advance_X1_isWithin : GoodIn wsX1_advance (va_wsS RX1 46 yX1_isWithin wsX1_isWithin) := goodIn_app (goodIn_of _ (by decide +kernel)) ggX1_advance_X1_isWithin
set_option maxRecDepth 20000 in
theorem ggX1_advance_X1_foretellDueIssues : GoodIn wsX1_advance wsX1_foretellDueIssues := goodIn_r _ [13, 14, 5, 15, 16, 17, 8, 18, 19, 20, 21, 22, 23, 24, 25, 26, 27, 28, 29, 30, 31, 32, 33, 34, 35, 36, 37, 38, 39, 40, 41, 42, 43, 44, 45, 46, 47, 48, 49, 50, 51, 52, 53, 54, 55, 56, 57, 58, 59, 60, 61, 62] (by decide +kernel) (by decide +kernel)
set_option maxRecDepth 20000 in
theorem gX1_advance_X1_foretellDueIssues : GoodIn wsX1_advance (wsV RX1 65 RX1 yX1_foretellDueIssues wsX1_foretellDueIssues) := goodIn_app (goodIn_of _ (by decide +kernel)) ggX1_advance_X1_foretellDueIssues
theorem dX1_advance_0 : decode cX1_advance 0 = .ok (.iload_n 1, 1) := by decide +kernel
theorem dX1_advance_1 : decode cX1_advance 1 = .ok (.iconst 1, 1) := by decide +kernel
theorem dX1_advance_2 : decode cX1_advance 2 = .ok (.sipush 400, 3) := by decide +kernel
theorem dX1_advance_5 : decode cX1_advance 5 = .ok (.invokestatic 46, 3) := by decide +kernel
theorem dX1_advance_8 : decode cX1_advance 8 = .ok (.ifCond .ne 13, 3) := by decide +kernel
theorem dX1_advance_11 : decode cX1_advance 11 = .ok (.new 50, 3) := by decide +kernel
theorem dX1_advance_14 : decode cX1_advance 14 = .ok (.dup, 1) := by decide +kernel
theorem dX1_advance_15 : decode cX1_advance 15 = .ok (.ldc 72, 2) := by decide +kernel
theorem dX1_advance_17 : decode cX1_advance 17 = .ok (.invokespecial 54, 3) := by decide +kernel
theorem dX1_advance_20 : decode cX1_advance 20 = .ok (.athrow, 1) := by decide +kernel
theorem dX1_advance_21 : decode cX1_advance 21 = .ok (.aload_n 0, 1) := by decide +kernel
theorem dX1_advance_22 : decode cX1_advance 22 = .ok (.getfield 74, 3) := by decide +kernel
theorem dX1_advance_25 : decode cX1_advance 25 = .ok (.iload_n 1, 1) := by decide +kernel
theorem dX1_advance_26 : decode cX1_advance 26 = .ok (.iadd, 1) := by decide +kernel
theorem dX1_advance_27 : decode cX1_advance 27 = .ok (.sipush 7200, 3) := by decide +kernel
theorem dX1_advance_30 : decode cX1_advance 30 = .ok (.if_icmp .le 13, 3) := by decide +kernel
theorem dX1_advance_33 : decode cX1_advance 33 = .ok (.new 77, 3) := by decide +kernel
theorem dX1_advance_36 : decode cX1_advance 36 = .ok (.dup, 1) := by decide +kernel
theorem dX1_advance_37 : decode cX1_advance 37 = .ok (.ldc 79, 2) := by decide +kernel
theorem dX1_advance_39 : decode cX1_advance 39 = .ok (.invokespecial 81, 3) := by decide +kernel
theorem dX1_advance_42 : decode cX1_advance 42 = .ok (.athrow, 1) := by decide +kernel
theorem dX1_advance_43 : decode cX1_advance 43 = .ok (.aload_n 0, 1) := by decide +kernel
theorem dX1_advance_44 : decode cX1_advance 44 = .ok (.dup, 1) := by decide +kernel
theorem dX1_advance_45 : decode cX1_advance 45 = .ok (.getfield 74, 3) := by decide +kernel
theorem dX1_advance_48 : decode cX1_advance 48 = .ok (.iload_n 1, 1) := by decide +kernel
theorem dX1_advance_49 : decode cX1_advance 49 = .ok (.iadd, 1) := by decide +kernel
theorem dX1_advance_50 : decode cX1_advance 50 = .ok (.putfield 74, 3) := by decide +kernel
theorem dX1_advance_53 : decode cX1_advance 53 = .ok (.aload_n 0, 1) := by decide +kernel
theorem dX1_advance_54 : decode cX1_advance 54 = .ok (.invokevirtual 65, 3) := by decide +kernel
theorem dX1_advance_57 : decode cX1_advance 57 = .ok (.aload_n 0, 1) := by decide +kernel
theorem dX1_advance_58 : decode cX1_advance 58 = .ok (.getfield 74, 3) := by decide +kernel
theorem dX1_advance_61 : decode cX1_advance 61 = .ok (.ireturn, 1) := by decide +kernel
set_option maxRecDepth 20000 in
theorem ggX1_checkIn_X1_isIssue : GoodIn wsX1_checkIn wsX1_isIssue := goodIn_r _ [11] (by decide +kernel) (by decide +kernel)
set_option maxRecDepth 20000 in
theorem gX1_checkIn_X1_isIssue : GoodIn wsX1_checkIn (va_wsS RX1 82 yX1_isIssue wsX1_isIssue) := goodIn_app (goodIn_of _ (by decide +kernel)) ggX1_checkIn_X1_isIssue
set_option maxRecDepth 20000 in
theorem ggX1_checkIn_X1_isWithin : GoodIn wsX1_checkIn wsX1_isWithin := goodIn_r _ [14] (by decide +kernel) (by decide +kernel)
set_option maxRecDepth 20000 in
theorem gX1_checkIn_X1_isWithin : GoodIn wsX1_checkIn (va_wsS RX1 46 yX1_isWithin wsX1_isWithin) := goodIn_app (goodIn_of _ (by decide +kernel)) ggX1_checkIn_X1_isWithin
set_option maxRecDepth 20000 in
theorem ggX1_checkIn_X1_canAllCome : GoodIn wsX1_checkIn wsX1_canAllCome := goodIn_r _ [18, 19, 20, 21, 22, 10, 23, 7, 8, 9, 11, 77, 78, 79, 80, 81, 82, 83, 84, 85, 86, 87, 88, 89, 90, 91] (by decide +kernel) (by decide +kernel)
set_option maxRecDepth 20000 in
theorem gX1_checkIn_X1_canAllCome : GoodIn wsX1_checkIn (wsV RX1 93 RX1 yX1_canAllCome wsX1_canAllCome) := goodIn_app (goodIn_of _ (by decide +kernel)) ggX1_checkIn_X1_canAllCome
set_option maxRecDepth 20000 in
theorem ggX1_checkIn_X1_foretellUpTo : GoodIn wsX1_checkIn wsX1_foretellUpTo := goodIn_r _ [27, 7, 28, 29, 30, 10, 31, 32, 33, 8, 9, 11, 34, 35, 36, 37, 38, 39, 40, 41, 42, 43, 44, 45, 46, 47, 48, 49, 50, 51, 52, 53, 77, 78, 79, 80, 81, 82, 83, 84, 85, 86, 87, 88, 89, 90, 91, 92, 93, 94, 95] (by decide +kernel) (by decide +kernel)
set_option maxRecDepth 20000 in
theorem gX1_checkIn_X1_foretellUpTo : GoodIn wsX1_checkIn (wsV RX1 99 RX1 yX1_foretellUpTo wsX1_foretellUpTo) := goodIn_app (goodIn_of _ (by decide +kernel)) ggX1_checkIn_X1_foretellUpTo
set_option maxRecDepth 20000 in
theorem ggX1_checkIn_X1_takeIn : GoodIn wsX1_checkIn wsX1_takeIn := goodIn_r _ [57, 19, 20, 21, 22, 10, 23, 7, 8, 9, 11, 77, 78, 79, 80, 81, 82, 83, 84, 85, 86, 87, 88, 89, 90, 91] (by decide +kernel) (by decide +kernel)
set_option maxRecDepth 20000 in
theorem gX1_checkIn_X1_takeIn : GoodIn wsX1_checkIn (wsV RX1 103 RX1 yX1_takeIn wsX1_takeIn) := goodIn_app (goodIn_of _ (by decide +kernel)) ggX1_checkIn_X1_takeIn
set_option maxRecDepth 20000 in
theorem ggX1_checkIn_X1_noteDifference : GoodIn wsX1_checkIn wsX1_noteDifference := goodIn_r _ [61, 62, 32, 63, 64, 65, 33, 20, 21, 22, 10, 23, 7, 8, 9, 11, 66, 67, 68, 69, 19, 70, 71, 72, 12, 13, 14, 77, 78, 79, 80, 81, 82, 83, 84, 85, 86, 87, 88, 89, 90, 91] (by decide +kernel) (by decide +kernel)
set_option maxRecDepth 20000 in
theorem gX1_checkIn_X1_noteDifference : GoodIn wsX1_checkIn (wsV RX1 107 RX1 yX1_noteDifference wsX1_noteDifference) := goodIn_app (goodIn_of _ (by decide +kernel)) ggX1_checkIn_X1_noteDifference
set_option maxRecDepth 20000 in
theorem ggX1_checkIn_X1_foretellDueIssues : GoodIn wsX1_checkIn wsX1_foretellDueIssues := goodIn_r _ [76, 7, 62, 34, 35, 36, 10, 37, 38, 32, 33, 8, 9, 11, 39, 40, 41, 42, 43, 44, 45, 46, 47, 48, 49, 50, 51, 52, 53, 28, 29, 30, 31, 77, 78, 79, 80, 81, 82, 83, 84, 85, 86, 87, 88, 89, 90, 91, 92, 93, 94, 95] (by decide +kernel) (by decide +kernel)
set_option maxRecDepth 20000 in
theorem gX1_checkIn_X1_foretellDueIssues : GoodIn wsX1_checkIn (wsV RX1 65 RX1 yX1_foretellDueIssues wsX1_foretellDueIssues) := goodIn_app (goodIn_of _ (by decide +kernel)) ggX1_checkIn_X1_foretellDueIssues
theorem dX1_checkIn_0 : decode cX1_checkIn 0 = .ok (.iload_n 1, 1) := by decide +kernel
theorem dX1_checkIn_1 : decode cX1_checkIn 1 = .ok (.invokestatic 82, 3) := by decide +kernel
theorem dX1_checkIn_4 : decode cX1_checkIn 4 = .ok (.ifCond .ne 13, 3) := by decide +kernel
theorem dX1_checkIn_7 : decode cX1_checkIn 7 = .ok (.new 86, 3) := by decide +kernel
theorem dX1_checkIn_10 : decode cX1_checkIn 10 = .ok (.dup, 1) := by decide +kernel
theorem dX1_checkIn_11 : decode cX1_checkIn 11 = .ok (.ldc 88, 2) := by decide +kernel
theorem dX1_checkIn_13 : decode cX1_checkIn 13 = .ok (.invokespecial 90, 3) := by decide +kernel
theorem dX1_checkIn_16 : decode cX1_checkIn 16 = .ok (.athrow, 1) := by decide +kernel
theorem dX1_checkIn_17 : decode cX1_checkIn 17 = .ok (.iload_n 2, 1) := by decide +kernel
theorem dX1_checkIn_18 : decode cX1_checkIn 18 = .ok (.iconst 0, 1) := by decide +kernel
theorem dX1_checkIn_19 : decode cX1_checkIn 19 = .ok (.iconst 5, 1) := by decide +kernel
theorem dX1_checkIn_20 : decode cX1_checkIn 20 = .ok (.invokestatic 46, 3) := by decide +kernel
theorem dX1_checkIn_23 : decode cX1_checkIn 23 = .ok (.ifCond .eq 12, 3) := by decide +kernel
theorem dX1_checkIn_26 : decode cX1_checkIn 26 = .ok (.iload_n 1, 1) := by decide +kernel
theorem dX1_checkIn_27 : decode cX1_checkIn 27 = .ok (.iload_n 2, 1) := by decide +kernel
theorem dX1_checkIn_28 : decode cX1_checkIn 28 = .ok (.iadd, 1) := by decide +kernel
theorem dX1_checkIn_29 : decode cX1_checkIn 29 = .ok (.invokestatic 82, 3) := by decide +kernel
theorem dX1_checkIn_32 : decode cX1_checkIn 32 = .ok (.ifCond .ne 13, 3) := by decide +kernel
theorem dX1_checkIn_35 : decode cX1_checkIn 35 = .ok (.new 50, 3) := by decide +kernel
theorem dX1_checkIn_38 : decode cX1_checkIn 38 = .ok (.dup, 1) := by decide +kernel
theorem dX1_checkIn_39 : decode cX1_checkIn 39 = .ok (.ldc 91, 2) := by decide +kernel
theorem dX1_checkIn_41 : decode cX1_checkIn 41 = .ok (.invokespecial 54, 3) := by decide +kernel
theorem dX1_checkIn_44 : decode cX1_checkIn 44 = .ok (.athrow, 1) := by decide +kernel
theorem dX1_checkIn_45 : decode cX1_checkIn 45 = .ok (.iload_n 1, 1) := by decide +kernel
theorem dX1_checkIn_46 : decode cX1_checkIn 46 = .ok (.iload_n 2, 1) := by decide +kernel
theorem dX1_checkIn_47 : decode cX1_checkIn 47 = .ok (.iadd, 1) := by decide +kernel
theorem dX1_checkIn_48 : decode cX1_checkIn 48 = .ok (.istore_n 3, 1) := by decide +kernel
theorem dX1_checkIn_49 : decode cX1_checkIn 49 = .ok (.aload_n 0, 1) := by decide +kernel
theorem dX1_checkIn_50 : decode cX1_checkIn 50 = .ok (.iload_n 1, 1) := by decide +kernel
theorem dX1_checkIn_51 : decode cX1_checkIn 51 = .ok (.iload_n 3, 1) := by decide +kernel
theorem dX1_checkIn_52 : decode cX1_checkIn 52 = .ok (.invokevirtual 93, 3) := by decide +kernel
theorem dX1_checkIn_55 : decode cX1_checkIn 55 = .ok (.ifCond .ne 13, 3) := by decide +kernel
theorem dX1_checkIn_58 : decode cX1_checkIn 58 = .ok (.new 77, 3) := by decide +kernel
theorem dX1_checkIn_61 : decode cX1_checkIn 61 = .ok (.dup, 1) := by decide +kernel
theorem dX1_checkIn_62 : decode cX1_checkIn 62 = .ok (.ldc 97, 2) := by decide +kernel
theorem dX1_checkIn_64 : decode cX1_checkIn 64 = .ok (.invokespecial 81, 3) := by decide +kernel
theorem dX1_checkIn_67 : decode cX1_checkIn 67 = .ok (.athrow, 1) := by decide +kernel
theorem dX1_checkIn_68 : decode cX1_checkIn 68 = .ok (.aload_n 0, 1) := by decide +kernel
theorem dX1_checkIn_69 : decode cX1_checkIn 69 = .ok (.iload_n 3, 1) := by decide +kernel
theorem dX1_checkIn_70 : decode cX1_checkIn 70 = .ok (.invokevirtual 99, 3) := by decide +kernel
theorem dX1_checkIn_73 : decode cX1_checkIn 73 = .ok (.aload_n 0, 1) := by decide +kernel
theorem dX1_checkIn_74 : decode cX1_checkIn 74 = .ok (.iload_n 1, 1) := by decide +kernel
theorem dX1_checkIn_75 : decode cX1_checkIn 75 = .ok (.iload_n 3, 1) := by decide +kernel
theorem dX1_checkIn_76 : decode cX1_checkIn 76 = .ok (.invokevirtual 103, 3) := by decide +kernel
theorem dX1_checkIn_79 : decode cX1_checkIn 79 = .ok (.aload_n 0, 1) := by decide +kernel
theorem dX1_checkIn_80 : decode cX1_checkIn 80 = .ok (.iload_n 1, 1) := by decide +kernel
theorem dX1_checkIn_81 : decode cX1_checkIn 81 = .ok (.invokevirtual 107, 3) := by decide +kernel
theorem dX1_checkIn_84 : decode cX1_checkIn 84 = .ok (.aload_n 0, 1) := by decide +kernel
theorem dX1_checkIn_85 : decode cX1_checkIn 85 = .ok (.invokevirtual 65, 3) := by decide +kernel
theorem dX1_checkIn_88 : decode cX1_checkIn 88 = .ok (.aload_n 0, 1) := by decide +kernel
theorem dX1_checkIn_89 : decode cX1_checkIn 89 = .ok (.getfield 40, 3) := by decide +kernel
theorem dX1_checkIn_92 : decode cX1_checkIn 92 = .ok (.ireturn, 1) := by decide +kernel
set_option maxRecDepth 20000 in
theorem ggX1_skip_X1_isForetold : GoodIn wsX1_skip wsX1_isForetold := goodIn_r _ [10, 11, 12, 13, 9, 14, 15, 16, 17, 18, 19, 20, 21, 22, 23, 24, 25, 26, 27, 28, 29] (by decide +kernel) (by decide +kernel)
set_option maxRecDepth 20000 in
theorem gX1_skip_X1_isForetold : GoodIn wsX1_skip (wsV RX1 110 RX1 yX1_isForetold wsX1_isForetold) := goodIn_app (goodIn_of _ (by decide +kernel)) ggX1_skip_X1_isForetold
theorem dX1_skip_0 : decode cX1_skip 0 = .ok (.aload_n 0, 1) := by decide +kernel
theorem dX1_skip_1 : decode cX1_skip 1 = .ok (.iload_n 1, 1) := by decide +kernel
theorem dX1_skip_2 : decode cX1_skip 2 = .ok (.invokevirtual 110, 3) := by decide +kernel
theorem dX1_skip_5 : decode cX1_skip 5 = .ok (.ifCond .ne 13, 3) := by decide +kernel
theorem dX1_skip_8 : decode cX1_skip 8 = .ok (.new 86, 3) := by decide +kernel
theorem dX1_skip_11 : decode cX1_skip 11 = .ok (.dup, 1) := by decide +kernel
theorem dX1_skip_12 : decode cX1_skip 12 = .ok (.ldc 113, 2) := by decide +kernel
theorem dX1_skip_14 : decode cX1_skip 14 = .ok (.invokespecial 90, 3) := by decide +kernel
theorem dX1_skip_17 : decode cX1_skip 17 = .ok (.athrow, 1) := by decide +kernel
theorem dX1_skip_18 : decode cX1_skip 18 = .ok (.aload_n 0, 1) := by decide +kernel
theorem dX1_skip_19 : decode cX1_skip 19 = .ok (.getfield 27, 3) := by decide +kernel
theorem dX1_skip_22 : decode cX1_skip 22 = .ok (.iload_n 1, 1) := by decide +kernel
theorem dX1_skip_23 : decode cX1_skip 23 = .ok (.iaload, 1) := by decide +kernel
theorem dX1_skip_24 : decode cX1_skip 24 = .ok (.ifCond .eq 13, 3) := by decide +kernel
theorem dX1_skip_27 : decode cX1_skip 27 = .ok (.new 77, 3) := by decide +kernel
theorem dX1_skip_30 : decode cX1_skip 30 = .ok (.dup, 1) := by decide +kernel
theorem dX1_skip_31 : decode cX1_skip 31 = .ok (.ldc 115, 2) := by decide +kernel
theorem dX1_skip_33 : decode cX1_skip 33 = .ok (.invokespecial 81, 3) := by decide +kernel
theorem dX1_skip_36 : decode cX1_skip 36 = .ok (.athrow, 1) := by decide +kernel
theorem dX1_skip_37 : decode cX1_skip 37 = .ok (.aload_n 0, 1) := by decide +kernel
theorem dX1_skip_38 : decode cX1_skip 38 = .ok (.getfield 27, 3) := by decide +kernel
theorem dX1_skip_41 : decode cX1_skip 41 = .ok (.iload_n 1, 1) := by decide +kernel
theorem dX1_skip_42 : decode cX1_skip 42 = .ok (.iconst 3, 1) := by decide +kernel
theorem dX1_skip_43 : decode cX1_skip 43 = .ok (.iastore, 1) := by decide +kernel
theorem dX1_skip_44 : decode cX1_skip 44 = .ok (.return_, 1) := by decide +kernel
set_option maxRecDepth 20000 in
theorem ggX1_round_X1_isLate : GoodIn wsX1_round wsX1_isLate := goodIn_r _ [9, 4, 3, 10, 11, 12, 13, 14, 8, 15, 16, 17, 18, 19, 25, 26, 27, 28, 29, 30, 31, 32, 33, 34, 35, 36, 37, 38, 39] (by decide +kernel) (by decide +kernel)
set_option maxRecDepth 20000 in
theorem gX1_round_X1_isLate : GoodIn wsX1_round (wsV RX1 117 RX1 yX1_isLate wsX1_isLate) := goodIn_app (goodIn_of _ (by decide +kernel)) ggX1_round_X1_isLate
set_option maxRecDepth 20000 in
theorem ggX1_round_X1_isTimeToClaim : GoodIn wsX1_round wsX1_isTimeToClaim := goodIn_r _ [23, 1, 3, 2, 24, 17, 18, 8, 19, 25, 26, 27, 28, 29, 30, 31, 32, 33, 34, 35, 36, 37, 38, 39] (by decide +kernel) (by decide +kernel)
set_option maxRecDepth 20000 in
theorem gX1_round_X1_isTimeToClaim : GoodIn wsX1_round (wsV RX1 120 RX1 yX1_isTimeToClaim wsX1_isTimeToClaim) := goodIn_app (goodIn_of _ (by decide +kernel)) ggX1_round_X1_isTimeToClaim
theorem dX1_round_0 : decode cX1_round 0 = .ok (.iconst 0, 1) := by decide +kernel
theorem dX1_round_1 : decode cX1_round 1 = .ok (.istore_n 1, 1) := by decide +kernel
theorem dX1_round_2 : decode cX1_round 2 = .ok (.iconst 0, 1) := by decide +kernel
theorem dX1_round_3 : decode cX1_round 3 = .ok (.istore_n 2, 1) := by decide +kernel
theorem dX1_round_4 : decode cX1_round 4 = .ok (.iload_n 2, 1) := by decide +kernel
theorem dX1_round_5 : decode cX1_round 5 = .ok (.sipush 200, 3) := by decide +kernel
theorem dX1_round_8 : decode cX1_round 8 = .ok (.if_icmp .ge 68, 3) := by decide +kernel
theorem dX1_round_11 : decode cX1_round 11 = .ok (.aload_n 0, 1) := by decide +kernel
theorem dX1_round_12 : decode cX1_round 12 = .ok (.iload_n 2, 1) := by decide +kernel
theorem dX1_round_13 : decode cX1_round 13 = .ok (.invokevirtual 117, 3) := by decide +kernel
theorem dX1_round_16 : decode cX1_round 16 = .ok (.ifCond .eq 54, 3) := by decide +kernel
theorem dX1_round_19 : decode cX1_round 19 = .ok (.aload_n 0, 1) := by decide +kernel
theorem dX1_round_20 : decode cX1_round 20 = .ok (.iload_n 2, 1) := by decide +kernel
theorem dX1_round_21 : decode cX1_round 21 = .ok (.invokevirtual 120, 3) := by decide +kernel
theorem dX1_round_24 : decode cX1_round 24 = .ok (.ifCond .eq 46, 3) := by decide +kernel
theorem dX1_round_27 : decode cX1_round 27 = .ok (.aload_n 0, 1) := by decide +kernel
theorem dX1_round_28 : decode cX1_round 28 = .ok (.getfield 30, 3) := by decide +kernel
theorem dX1_round_31 : decode cX1_round 31 = .ok (.iload_n 2, 1) := by decide +kernel
theorem dX1_round_32 : decode cX1_round 32 = .ok (.iaload, 1) := by decide +kernel
theorem dX1_round_33 : decode cX1_round 33 = .ok (.iconst 3, 1) := by decide +kernel
theorem dX1_round_34 : decode cX1_round 34 = .ok (.if_icmp .ge 29, 3) := by decide +kernel
theorem dX1_round_37 : decode cX1_round 37 = .ok (.aload_n 0, 1) := by decide +kernel
theorem dX1_round_38 : decode cX1_round 38 = .ok (.getfield 30, 3) := by decide +kernel
theorem dX1_round_41 : decode cX1_round 41 = .ok (.iload_n 2, 1) := by decide +kernel
theorem dX1_round_42 : decode cX1_round 42 = .ok (.dup2, 1) := by decide +kernel
theorem dX1_round_43 : decode cX1_round 43 = .ok (.iaload, 1) := by decide +kernel
theorem dX1_round_44 : decode cX1_round 44 = .ok (.iconst 1, 1) := by decide +kernel
theorem dX1_round_45 : decode cX1_round 45 = .ok (.iadd, 1) := by decide +kernel
theorem dX1_round_46 : decode cX1_round 46 = .ok (.iastore, 1) := by decide +kernel
theorem dX1_round_47 : decode cX1_round 47 = .ok (.aload_n 0, 1) := by decide +kernel
theorem dX1_round_48 : decode cX1_round 48 = .ok (.getfield 33, 3) := by decide +kernel
theorem dX1_round_51 : decode cX1_round 51 = .ok (.iload_n 2, 1) := by decide +kernel
theorem dX1_round_52 : decode cX1_round 52 = .ok (.aload_n 0, 1) := by decide +kernel
theorem dX1_round_53 : decode cX1_round 53 = .ok (.getfield 74, 3) := by decide +kernel
theorem dX1_round_56 : decode cX1_round 56 = .ok (.iastore, 1) := by decide +kernel
theorem dX1_round_57 : decode cX1_round 57 = .ok (.iinc 1 1, 3) := by decide +kernel
theorem dX1_round_60 : decode cX1_round 60 = .ok (.goto 10, 3) := by decide +kernel
theorem dX1_round_63 : decode cX1_round 63 = .ok (.aload_n 0, 1) := by decide +kernel
theorem dX1_round_64 : decode cX1_round 64 = .ok (.getfield 27, 3) := by decide +kernel
theorem dX1_round_67 : decode cX1_round 67 = .ok (.iload_n 2, 1) := by decide +kernel
theorem dX1_round_68 : decode cX1_round 68 = .ok (.iconst 3, 1) := by decide +kernel
theorem dX1_round_69 : decode cX1_round 69 = .ok (.iastore, 1) := by decide +kernel
theorem dX1_round_70 : decode cX1_round 70 = .ok (.iinc 2 1, 3) := by decide +kernel
theorem dX1_round_73 : decode cX1_round 73 = .ok (.goto (-69), 3) := by decide +kernel
theorem dX1_round_76 : decode cX1_round 76 = .ok (.iload_n 1, 1) := by decide +kernel
theorem dX1_round_77 : decode cX1_round 77 = .ok (.ireturn, 1) := by decide +kernel
theorem dX1_day_0 : decode cX1_day 0 = .ok (.aload_n 0, 1) := by decide +kernel
theorem dX1_day_1 : decode cX1_day 1 = .ok (.getfield 74, 3) := by decide +kernel
theorem dX1_day_4 : decode cX1_day 4 = .ok (.ireturn, 1) := by decide +kernel
theorem dX1_foretold_0 : decode cX1_foretold 0 = .ok (.aload_n 0, 1) := by decide +kernel
theorem dX1_foretold_1 : decode cX1_foretold 1 = .ok (.getfield 40, 3) := by decide +kernel
theorem dX1_foretold_4 : decode cX1_foretold 4 = .ok (.ireturn, 1) := by decide +kernel
theorem dX1_shift_0 : decode cX1_shift 0 = .ok (.aload_n 0, 1) := by decide +kernel
theorem dX1_shift_1 : decode cX1_shift 1 = .ok (.getfield 123, 3) := by decide +kernel
theorem dX1_shift_4 : decode cX1_shift 4 = .ok (.ireturn, 1) := by decide +kernel
set_option maxRecDepth 20000 in
theorem ggX1_dayOf_X1_isForetold : GoodIn wsX1_dayOf wsX1_isForetold := goodIn_r _ [8, 9, 10, 11, 7, 12, 13, 14, 15, 16, 17, 18, 19, 20, 21, 22, 23, 24, 25, 26, 27] (by decide +kernel) (by decide +kernel)
set_option maxRecDepth 20000 in
theorem gX1_dayOf_X1_isForetold : GoodIn wsX1_dayOf (wsV RX1 110 RX1 yX1_isForetold wsX1_isForetold) := goodIn_app (goodIn_of _ (by decide +kernel)) ggX1_dayOf_X1_isForetold
theorem dX1_dayOf_0 : decode cX1_dayOf 0 = .ok (.aload_n 0, 1) := by decide +kernel
theorem dX1_dayOf_1 : decode cX1_dayOf 1 = .ok (.iload_n 1, 1) := by decide +kernel
theorem dX1_dayOf_2 : decode cX1_dayOf 2 = .ok (.invokevirtual 110, 3) := by decide +kernel
theorem dX1_dayOf_5 : decode cX1_dayOf 5 = .ok (.ifCond .ne 13, 3) := by decide +kernel
theorem dX1_dayOf_8 : decode cX1_dayOf 8 = .ok (.new 86, 3) := by decide +kernel
theorem dX1_dayOf_11 : decode cX1_dayOf 11 = .ok (.dup, 1) := by decide +kernel
theorem dX1_dayOf_12 : decode cX1_dayOf 12 = .ok (.ldc 113, 2) := by decide +kernel
theorem dX1_dayOf_14 : decode cX1_dayOf 14 = .ok (.invokespecial 90, 3) := by decide +kernel
theorem dX1_dayOf_17 : decode cX1_dayOf 17 = .ok (.athrow, 1) := by decide +kernel
theorem dX1_dayOf_18 : decode cX1_dayOf 18 = .ok (.aload_n 0, 1) := by decide +kernel
theorem dX1_dayOf_19 : decode cX1_dayOf 19 = .ok (.getfield 23, 3) := by decide +kernel
theorem dX1_dayOf_22 : decode cX1_dayOf 22 = .ok (.iload_n 1, 1) := by decide +kernel
theorem dX1_dayOf_23 : decode cX1_dayOf 23 = .ok (.iaload, 1) := by decide +kernel
theorem dX1_dayOf_24 : decode cX1_dayOf 24 = .ok (.ireturn, 1) := by decide +kernel
set_option maxRecDepth 20000 in
theorem ggX1_stateOf_X1_isForetold : GoodIn wsX1_stateOf wsX1_isForetold := goodIn_r _ [8, 9, 10, 11, 7, 12, 13, 14, 15, 16, 17, 18, 19, 20, 21, 22, 23, 24, 25, 26, 27] (by decide +kernel) (by decide +kernel)
set_option maxRecDepth 20000 in
theorem gX1_stateOf_X1_isForetold : GoodIn wsX1_stateOf (wsV RX1 110 RX1 yX1_isForetold wsX1_isForetold) := goodIn_app (goodIn_of _ (by decide +kernel)) ggX1_stateOf_X1_isForetold
theorem dX1_stateOf_0 : decode cX1_stateOf 0 = .ok (.aload_n 0, 1) := by decide +kernel
theorem dX1_stateOf_1 : decode cX1_stateOf 1 = .ok (.iload_n 1, 1) := by decide +kernel
theorem dX1_stateOf_2 : decode cX1_stateOf 2 = .ok (.invokevirtual 110, 3) := by decide +kernel
theorem dX1_stateOf_5 : decode cX1_stateOf 5 = .ok (.ifCond .ne 13, 3) := by decide +kernel
theorem dX1_stateOf_8 : decode cX1_stateOf 8 = .ok (.new 86, 3) := by decide +kernel
theorem dX1_stateOf_11 : decode cX1_stateOf 11 = .ok (.dup, 1) := by decide +kernel
theorem dX1_stateOf_12 : decode cX1_stateOf 12 = .ok (.ldc 113, 2) := by decide +kernel
theorem dX1_stateOf_14 : decode cX1_stateOf 14 = .ok (.invokespecial 90, 3) := by decide +kernel
theorem dX1_stateOf_17 : decode cX1_stateOf 17 = .ok (.athrow, 1) := by decide +kernel
theorem dX1_stateOf_18 : decode cX1_stateOf 18 = .ok (.aload_n 0, 1) := by decide +kernel
theorem dX1_stateOf_19 : decode cX1_stateOf 19 = .ok (.getfield 27, 3) := by decide +kernel
theorem dX1_stateOf_22 : decode cX1_stateOf 22 = .ok (.iload_n 1, 1) := by decide +kernel
theorem dX1_stateOf_23 : decode cX1_stateOf 23 = .ok (.iaload, 1) := by decide +kernel
theorem dX1_stateOf_24 : decode cX1_stateOf 24 = .ok (.ireturn, 1) := by decide +kernel
set_option maxRecDepth 20000 in
theorem ggX1_claimsOf_X1_isForetold : GoodIn wsX1_claimsOf wsX1_isForetold := goodIn_r _ [8, 9, 10, 11, 7, 12, 13, 14, 15, 16, 17, 18, 19, 20, 21, 22, 23, 24, 25, 26, 27] (by decide +kernel) (by decide +kernel)
set_option maxRecDepth 20000 in
theorem gX1_claimsOf_X1_isForetold : GoodIn wsX1_claimsOf (wsV RX1 110 RX1 yX1_isForetold wsX1_isForetold) := goodIn_app (goodIn_of _ (by decide +kernel)) ggX1_claimsOf_X1_isForetold
theorem dX1_claimsOf_0 : decode cX1_claimsOf 0 = .ok (.aload_n 0, 1) := by decide +kernel
theorem dX1_claimsOf_1 : decode cX1_claimsOf 1 = .ok (.iload_n 1, 1) := by decide +kernel
theorem dX1_claimsOf_2 : decode cX1_claimsOf 2 = .ok (.invokevirtual 110, 3) := by decide +kernel
theorem dX1_claimsOf_5 : decode cX1_claimsOf 5 = .ok (.ifCond .ne 13, 3) := by decide +kernel
theorem dX1_claimsOf_8 : decode cX1_claimsOf 8 = .ok (.new 86, 3) := by decide +kernel
theorem dX1_claimsOf_11 : decode cX1_claimsOf 11 = .ok (.dup, 1) := by decide +kernel
theorem dX1_claimsOf_12 : decode cX1_claimsOf 12 = .ok (.ldc 113, 2) := by decide +kernel
theorem dX1_claimsOf_14 : decode cX1_claimsOf 14 = .ok (.invokespecial 90, 3) := by decide +kernel
theorem dX1_claimsOf_17 : decode cX1_claimsOf 17 = .ok (.athrow, 1) := by decide +kernel
theorem dX1_claimsOf_18 : decode cX1_claimsOf 18 = .ok (.aload_n 0, 1) := by decide +kernel
theorem dX1_claimsOf_19 : decode cX1_claimsOf 19 = .ok (.getfield 30, 3) := by decide +kernel
theorem dX1_claimsOf_22 : decode cX1_claimsOf 22 = .ok (.iload_n 1, 1) := by decide +kernel
theorem dX1_claimsOf_23 : decode cX1_claimsOf 23 = .ok (.iaload, 1) := by decide +kernel
theorem dX1_claimsOf_24 : decode cX1_claimsOf 24 = .ok (.ireturn, 1) := by decide +kernel
set_option maxRecDepth 20000 in
theorem ggX1_labelOf_X1_isIssue : GoodIn wsX1_labelOf wsX1_isIssue := goodIn_r _ [7] (by decide +kernel) (by decide +kernel)
set_option maxRecDepth 20000 in
theorem gX1_labelOf_X1_isIssue : GoodIn wsX1_labelOf (va_wsS RX1 82 yX1_isIssue wsX1_isIssue) := goodIn_app (goodIn_of _ (by decide +kernel)) ggX1_labelOf_X1_isIssue
set_option maxRecDepth 20000 in
theorem ggX1_labelOf_X0_volumeOf : GoodIn wsX1_labelOf wsX0_volumeOf := goodIn_r _ [12, 13, 34, 35, 36, 37] (by decide +kernel) (by decide +kernel)
set_option maxRecDepth 20000 in
theorem gX1_labelOf_X0_volumeOf : GoodIn wsX1_labelOf (wsV RX1 126 RX0 yX0_volumeOf wsX0_volumeOf) := goodIn_app (goodIn_of _ (by decide +kernel)) ggX1_labelOf_X0_volumeOf
set_option maxRecDepth 20000 in
theorem ggX1_labelOf_X0_numberOf : GoodIn wsX1_labelOf wsX0_numberOf := goodIn_r _ [17, 18, 13, 34, 35, 36, 37] (by decide +kernel) (by decide +kernel)
set_option maxRecDepth 20000 in
theorem gX1_labelOf_X0_numberOf : GoodIn wsX1_labelOf (wsV RX1 130 RX0 yX0_numberOf wsX0_numberOf) := goodIn_app (goodIn_of _ (by decide +kernel)) ggX1_labelOf_X0_numberOf
theorem dX1_labelOf_0 : decode cX1_labelOf 0 = .ok (.iload_n 1, 1) := by decide +kernel
theorem dX1_labelOf_1 : decode cX1_labelOf 1 = .ok (.invokestatic 82, 3) := by decide +kernel
theorem dX1_labelOf_4 : decode cX1_labelOf 4 = .ok (.ifCond .ne 13, 3) := by decide +kernel
theorem dX1_labelOf_7 : decode cX1_labelOf 7 = .ok (.new 86, 3) := by decide +kernel
theorem dX1_labelOf_10 : decode cX1_labelOf 10 = .ok (.dup, 1) := by decide +kernel
theorem dX1_labelOf_11 : decode cX1_labelOf 11 = .ok (.ldc 88, 2) := by decide +kernel
theorem dX1_labelOf_13 : decode cX1_labelOf 13 = .ok (.invokespecial 90, 3) := by decide +kernel
theorem dX1_labelOf_16 : decode cX1_labelOf 16 = .ok (.athrow, 1) := by decide +kernel
theorem dX1_labelOf_17 : decode cX1_labelOf 17 = .ok (.sipush 1000, 3) := by decide +kernel
theorem dX1_labelOf_20 : decode cX1_labelOf 20 = .ok (.aload_n 0, 1) := by decide +kernel
theorem dX1_labelOf_21 : decode cX1_labelOf 21 = .ok (.getfield 10, 3) := by decide +kernel
theorem dX1_labelOf_24 : decode cX1_labelOf 24 = .ok (.iload_n 1, 1) := by decide +kernel
theorem dX1_labelOf_25 : decode cX1_labelOf 25 = .ok (.invokevirtual 126, 3) := by decide +kernel
theorem dX1_labelOf_28 : decode cX1_labelOf 28 = .ok (.imul, 1) := by decide +kernel
theorem dX1_labelOf_29 : decode cX1_labelOf 29 = .ok (.aload_n 0, 1) := by decide +kernel
theorem dX1_labelOf_30 : decode cX1_labelOf 30 = .ok (.getfield 10, 3) := by decide +kernel
theorem dX1_labelOf_33 : decode cX1_labelOf 33 = .ok (.iload_n 1, 1) := by decide +kernel
theorem dX1_labelOf_34 : decode cX1_labelOf 34 = .ok (.invokevirtual 130, 3) := by decide +kernel
theorem dX1_labelOf_37 : decode cX1_labelOf 37 = .ok (.iadd, 1) := by decide +kernel
theorem dX1_labelOf_38 : decode cX1_labelOf 38 = .ok (.ireturn, 1) := by decide +kernel
set_option maxRecDepth 20000 in
theorem ggX1_find_X0_volumeOf : GoodIn wsX1_find wsX0_volumeOf := goodIn_r _ [6, 7, 28, 29, 30, 31] (by decide +kernel) (by decide +kernel)
set_option maxRecDepth 20000 in
theorem gX1_find_X0_volumeOf : GoodIn wsX1_find (wsV RX1 126 RX0 yX0_volumeOf wsX0_volumeOf) := goodIn_app (goodIn_of _ (by decide +kernel)) ggX1_find_X0_volumeOf
set_option maxRecDepth 20000 in
theorem ggX1_find_X0_numberOf : GoodIn wsX1_find wsX0_numberOf := goodIn_r _ [11, 12, 7, 28, 29, 30, 31] (by decide +kernel) (by decide +kernel)
set_option maxRecDepth 20000 in
theorem gX1_find_X0_numberOf : GoodIn wsX1_find (wsV RX1 130 RX0 yX0_numberOf wsX0_numberOf) := goodIn_app (goodIn_of _ (by decide +kernel)) ggX1_find_X0_numberOf
theorem dX1_find_0 : decode cX1_find 0 = .ok (.iconst 0, 1) := by decide +kernel
theorem dX1_find_1 : decode cX1_find 1 = .ok (.istore_n 3, 1) := by decide +kernel
theorem dX1_find_2 : decode cX1_find 2 = .ok (.iload_n 3, 1) := by decide +kernel
theorem dX1_find_3 : decode cX1_find 3 = .ok (.sipush 200, 3) := by decide +kernel
theorem dX1_find_6 : decode cX1_find 6 = .ok (.if_icmp .ge 35, 3) := by decide +kernel
theorem dX1_find_9 : decode cX1_find 9 = .ok (.aload_n 0, 1) := by decide +kernel
theorem dX1_find_10 : decode cX1_find 10 = .ok (.getfield 10, 3) := by decide +kernel
theorem dX1_find_13 : decode cX1_find 13 = .ok (.iload_n 3, 1) := by decide +kernel
theorem dX1_find_14 : decode cX1_find 14 = .ok (.invokevirtual 126, 3) := by decide +kernel
theorem dX1_find_17 : decode cX1_find 17 = .ok (.iload_n 1, 1) := by decide +kernel
theorem dX1_find_18 : decode cX1_find 18 = .ok (.if_icmp .ne 17, 3) := by decide +kernel
theorem dX1_find_21 : decode cX1_find 21 = .ok (.aload_n 0, 1) := by decide +kernel
theorem dX1_find_22 : decode cX1_find 22 = .ok (.getfield 10, 3) := by decide +kernel
theorem dX1_find_25 : decode cX1_find 25 = .ok (.iload_n 3, 1) := by decide +kernel
theorem dX1_find_26 : decode cX1_find 26 = .ok (.invokevirtual 130, 3) := by decide +kernel
theorem dX1_find_29 : decode cX1_find 29 = .ok (.iload_n 2, 1) := by decide +kernel
theorem dX1_find_30 : decode cX1_find 30 = .ok (.if_icmp .ne 5, 3) := by decide +kernel
theorem dX1_find_33 : decode cX1_find 33 = .ok (.iload_n 3, 1) := by decide +kernel
theorem dX1_find_34 : decode cX1_find 34 = .ok (.ireturn, 1) := by decide +kernel
theorem dX1_find_35 : decode cX1_find 35 = .ok (.iinc 3 1, 3) := by decide +kernel
theorem dX1_find_38 : decode cX1_find 38 = .ok (.goto (-36), 3) := by decide +kernel
theorem dX1_find_41 : decode cX1_find 41 = .ok (.iconst (-1), 1) := by decide +kernel
theorem dX1_find_42 : decode cX1_find 42 = .ok (.ireturn, 1) := by decide +kernel
set_option maxRecDepth 20000 in
theorem ggX1_late_X1_isLate : GoodIn wsX1_late wsX1_isLate := goodIn_r _ [5, 6, 7, 8, 9, 10, 11, 12, 4, 13, 14, 15, 16, 17, 18, 19, 20, 21, 22, 23, 24, 25, 26, 27, 28, 29, 30, 31, 32] (by decide +kernel) (by decide +kernel)
set_option maxRecDepth 20000 in
theorem gX1_late_X1_isLate : GoodIn wsX1_late (wsV RX1 117 RX1 yX1_isLate wsX1_isLate) := goodIn_app (goodIn_of _ (by decide +kernel)) ggX1_late_X1_isLate
theorem dX1_late_0 : decode cX1_late 0 = .ok (.iconst 0, 1) := by decide +kernel
theorem dX1_late_1 : decode cX1_late 1 = .ok (.istore_n 1, 1) := by decide +kernel
theorem dX1_late_2 : decode cX1_late 2 = .ok (.iconst 0, 1) := by decide +kernel
theorem dX1_late_3 : decode cX1_late 3 = .ok (.istore_n 2, 1) := by decide +kernel
theorem dX1_late_4 : decode cX1_late 4 = .ok (.iload_n 2, 1) := by decide +kernel
theorem dX1_late_5 : decode cX1_late 5 = .ok (.sipush 200, 3) := by decide +kernel
theorem dX1_late_8 : decode cX1_late 8 = .ok (.if_icmp .ge 20, 3) := by decide +kernel
theorem dX1_late_11 : decode cX1_late 11 = .ok (.aload_n 0, 1) := by decide +kernel
theorem dX1_late_12 : decode cX1_late 12 = .ok (.iload_n 2, 1) := by decide +kernel
theorem dX1_late_13 : decode cX1_late 13 = .ok (.invokevirtual 117, 3) := by decide +kernel
theorem dX1_late_16 : decode cX1_late 16 = .ok (.ifCond .eq 6, 3) := by decide +kernel
theorem dX1_late_19 : decode cX1_late 19 = .ok (.iinc 1 1, 3) := by decide +kernel
theorem dX1_late_22 : decode cX1_late 22 = .ok (.iinc 2 1, 3) := by decide +kernel
theorem dX1_late_25 : decode cX1_late 25 = .ok (.goto (-21), 3) := by decide +kernel
theorem dX1_late_28 : decode cX1_late 28 = .ok (.iload_n 1, 1) := by decide +kernel
theorem dX1_late_29 : decode cX1_late 29 = .ok (.ireturn, 1) := by decide +kernel
set_option maxRecDepth 20000 in
theorem ggX1_ranges_X1_isRangeStart : GoodIn wsX1_ranges wsX1_isRangeStart := goodIn_r _ [5, 6, 7, 8, 4, 9, 10, 11, 12, 13, 14, 15, 16, 17, 18, 19, 20, 21, 22, 23, 24, 25, 26, 27, 28, 29, 30, 31, 32, 33] (by decide +kernel) (by decide +kernel)
set_option maxRecDepth 20000 in
theorem gX1_ranges_X1_isRangeStart : GoodIn wsX1_ranges (wsV RX1 133 RX1 yX1_isRangeStart wsX1_isRangeStart) := goodIn_app (goodIn_of _ (by decide +kernel)) ggX1_ranges_X1_isRangeStart
theorem dX1_ranges_0 : decode cX1_ranges 0 = .ok (.iconst 0, 1) := by decide +kernel
theorem dX1_ranges_1 : decode cX1_ranges 1 = .ok (.istore_n 1, 1) := by decide +kernel
theorem dX1_ranges_2 : decode cX1_ranges 2 = .ok (.iconst 0, 1) := by decide +kernel
theorem dX1_ranges_3 : decode cX1_ranges 3 = .ok (.istore_n 2, 1) := by decide +kernel
theorem dX1_ranges_4 : decode cX1_ranges 4 = .ok (.iload_n 2, 1) := by decide +kernel
theorem dX1_ranges_5 : decode cX1_ranges 5 = .ok (.sipush 200, 3) := by decide +kernel
theorem dX1_ranges_8 : decode cX1_ranges 8 = .ok (.if_icmp .ge 20, 3) := by decide +kernel
theorem dX1_ranges_11 : decode cX1_ranges 11 = .ok (.aload_n 0, 1) := by decide +kernel
theorem dX1_ranges_12 : decode cX1_ranges 12 = .ok (.iload_n 2, 1) := by decide +kernel
theorem dX1_ranges_13 : decode cX1_ranges 13 = .ok (.invokevirtual 133, 3) := by decide +kernel
theorem dX1_ranges_16 : decode cX1_ranges 16 = .ok (.ifCond .eq 6, 3) := by decide +kernel
theorem dX1_ranges_19 : decode cX1_ranges 19 = .ok (.iinc 1 1, 3) := by decide +kernel
theorem dX1_ranges_22 : decode cX1_ranges 22 = .ok (.iinc 2 1, 3) := by decide +kernel
theorem dX1_ranges_25 : decode cX1_ranges 25 = .ok (.goto (-21), 3) := by decide +kernel
theorem dX1_ranges_28 : decode cX1_ranges 28 = .ok (.iload_n 1, 1) := by decide +kernel
theorem dX1_ranges_29 : decode cX1_ranges 29 = .ok (.ireturn, 1) := by decide +kernel
set_option maxRecDepth 20000 in
theorem ggX1_rangeAt_X1_startOfRange : GoodIn wsX1_rangeAt wsX1_startOfRange := goodIn_r _ [7, 8, 9, 10, 6, 11, 12, 13, 14, 15, 16, 17, 18, 19, 20, 21, 22, 23, 24, 29, 30, 31, 32, 33, 34, 35, 36, 37, 38, 39, 40, 41, 42, 43] (by decide +kernel) (by decide +kernel)
set_option maxRecDepth 20000 in
theorem gX1_rangeAt_X1_startOfRange : GoodIn wsX1_rangeAt (wsV RX1 136 RX1 yX1_startOfRange wsX1_startOfRange) := goodIn_app (goodIn_of _ (by decide +kernel)) ggX1_rangeAt_X1_startOfRange
set_option maxRecDepth 20000 in
theorem ggX1_rangeAt_X1_endOfRange : GoodIn wsX1_rangeAt wsX1_endOfRange := goodIn_r _ [28, 12, 13, 14, 6, 15, 16, 17, 18, 19, 20, 21, 22, 23, 24, 29, 30, 31, 32, 33, 34, 35, 36, 37, 38, 39, 40, 41, 42, 43] (by decide +kernel) (by decide +kernel)
set_option maxRecDepth 20000 in
theorem gX1_rangeAt_X1_endOfRange : GoodIn wsX1_rangeAt (wsV RX1 141 RX1 yX1_endOfRange wsX1_endOfRange) := goodIn_app (goodIn_of _ (by decide +kernel)) ggX1_rangeAt_X1_endOfRange
theorem dX1_rangeAt_0 : decode cX1_rangeAt 0 = .ok (.aload_n 0, 1) := by decide +kernel
theorem dX1_rangeAt_1 : decode cX1_rangeAt 1 = .ok (.iload_n 1, 1) := by decide +kernel
theorem dX1_rangeAt_2 : decode cX1_rangeAt 2 = .ok (.invokevirtual 136, 3) := by decide +kernel
theorem dX1_rangeAt_5 : decode cX1_rangeAt 5 = .ok (.istore_n 2, 1) := by decide +kernel
theorem dX1_rangeAt_6 : decode cX1_rangeAt 6 = .ok (.iload_n 2, 1) := by decide +kernel
theorem dX1_rangeAt_7 : decode cX1_rangeAt 7 = .ok (.iconst (-1), 1) := by decide +kernel
theorem dX1_rangeAt_8 : decode cX1_rangeAt 8 = .ok (.if_icmp .ne 13, 3) := by decide +kernel
theorem dX1_rangeAt_11 : decode cX1_rangeAt 11 = .ok (.new 86, 3) := by decide +kernel
theorem dX1_rangeAt_14 : decode cX1_rangeAt 14 = .ok (.dup, 1) := by decide +kernel
theorem dX1_rangeAt_15 : decode cX1_rangeAt 15 = .ok (.ldc 139, 2) := by decide +kernel
theorem dX1_rangeAt_17 : decode cX1_rangeAt 17 = .ok (.invokespecial 90, 3) := by decide +kernel
theorem dX1_rangeAt_20 : decode cX1_rangeAt 20 = .ok (.athrow, 1) := by decide +kernel
theorem dX1_rangeAt_21 : decode cX1_rangeAt 21 = .ok (.sipush 1000, 3) := by decide +kernel
theorem dX1_rangeAt_24 : decode cX1_rangeAt 24 = .ok (.iload_n 2, 1) := by decide +kernel
theorem dX1_rangeAt_25 : decode cX1_rangeAt 25 = .ok (.imul, 1) := by decide +kernel
theorem dX1_rangeAt_26 : decode cX1_rangeAt 26 = .ok (.aload_n 0, 1) := by decide +kernel
theorem dX1_rangeAt_27 : decode cX1_rangeAt 27 = .ok (.iload_n 2, 1) := by decide +kernel
theorem dX1_rangeAt_28 : decode cX1_rangeAt 28 = .ok (.invokevirtual 141, 3) := by decide +kernel
theorem dX1_rangeAt_31 : decode cX1_rangeAt 31 = .ok (.iadd, 1) := by decide +kernel
theorem dX1_rangeAt_32 : decode cX1_rangeAt 32 = .ok (.ireturn, 1) := by decide +kernel
set_option maxRecDepth 20000 in
theorem ggX1_isHeld_X1_isRangeStart : GoodIn wsX1_isHeld wsX1_isRangeStart := goodIn_r _ [5, 6, 7, 8, 4, 9, 10, 11, 12, 13, 14, 15, 16, 17, 18, 26, 27, 28, 29, 30, 31, 32, 33, 34, 35, 36, 37, 38, 39, 40] (by decide +kernel) (by decide +kernel)
set_option maxRecDepth 20000 in
theorem gX1_isHeld_X1_isRangeStart : GoodIn wsX1_isHeld (wsV RX1 133 RX1 yX1_isRangeStart wsX1_isRangeStart) := goodIn_app (goodIn_of _ (by decide +kernel)) ggX1_isHeld_X1_isRangeStart
set_option maxRecDepth 20000 in
theorem ggX1_isHeld_X1_endOfRange : GoodIn wsX1_isHeld wsX1_endOfRange := goodIn_r _ [22, 6, 7, 8, 4, 9, 10, 11, 12, 13, 14, 15, 16, 17, 18, 26, 27, 28, 29, 30, 31, 32, 33, 34, 35, 36, 37, 38, 39, 40] (by decide +kernel) (by decide +kernel)
set_option maxRecDepth 20000 in
theorem gX1_isHeld_X1_endOfRange : GoodIn wsX1_isHeld (wsV RX1 141 RX1 yX1_endOfRange wsX1_endOfRange) := goodIn_app (goodIn_of _ (by decide +kernel)) ggX1_isHeld_X1_endOfRange
set_option maxRecDepth 20000 in
theorem ggX1_isHeld_X1_isWithin : GoodIn wsX1_isHeld wsX1_isWithin := goodIn_r _ [25] (by decide +kernel) (by decide +kernel)
set_option maxRecDepth 20000 in
theorem gX1_isHeld_X1_isWithin : GoodIn wsX1_isHeld (va_wsS RX1 46 yX1_isWithin wsX1_isWithin) := goodIn_app (goodIn_of _ (by decide +kernel)) ggX1_isHeld_X1_isWithin
theorem dX1_isHeld_0 : decode cX1_isHeld 0 = .ok (.iconst 0, 1) := by decide +kernel
theorem dX1_isHeld_1 : decode cX1_isHeld 1 = .ok (.istore_n 2, 1) := by decide +kernel
theorem dX1_isHeld_2 : decode cX1_isHeld 2 = .ok (.iload_n 2, 1) := by decide +kernel
theorem dX1_isHeld_3 : decode cX1_isHeld 3 = .ok (.sipush 200, 3) := by decide +kernel
theorem dX1_isHeld_6 : decode cX1_isHeld 6 = .ok (.if_icmp .ge 32, 3) := by decide +kernel
theorem dX1_isHeld_9 : decode cX1_isHeld 9 = .ok (.aload_n 0, 1) := by decide +kernel
theorem dX1_isHeld_10 : decode cX1_isHeld 10 = .ok (.iload_n 2, 1) := by decide +kernel
theorem dX1_isHeld_11 : decode cX1_isHeld 11 = .ok (.invokevirtual 133, 3) := by decide +kernel
theorem dX1_isHeld_14 : decode cX1_isHeld 14 = .ok (.ifCond .eq 18, 3) := by decide +kernel
theorem dX1_isHeld_17 : decode cX1_isHeld 17 = .ok (.iload_n 1, 1) := by decide +kernel
theorem dX1_isHeld_18 : decode cX1_isHeld 18 = .ok (.iload_n 2, 1) := by decide +kernel
theorem dX1_isHeld_19 : decode cX1_isHeld 19 = .ok (.aload_n 0, 1) := by decide +kernel
theorem dX1_isHeld_20 : decode cX1_isHeld 20 = .ok (.iload_n 2, 1) := by decide +kernel
theorem dX1_isHeld_21 : decode cX1_isHeld 21 = .ok (.invokevirtual 141, 3) := by decide +kernel
theorem dX1_isHeld_24 : decode cX1_isHeld 24 = .ok (.invokestatic 46, 3) := by decide +kernel
theorem dX1_isHeld_27 : decode cX1_isHeld 27 = .ok (.ifCond .eq 5, 3) := by decide +kernel
theorem dX1_isHeld_30 : decode cX1_isHeld 30 = .ok (.iconst 1, 1) := by decide +kernel
theorem dX1_isHeld_31 : decode cX1_isHeld 31 = .ok (.ireturn, 1) := by decide +kernel
theorem dX1_isHeld_32 : decode cX1_isHeld 32 = .ok (.iinc 2 1, 3) := by decide +kernel
theorem dX1_isHeld_35 : decode cX1_isHeld 35 = .ok (.goto (-33), 3) := by decide +kernel
theorem dX1_isHeld_38 : decode cX1_isHeld 38 = .ok (.iconst 0, 1) := by decide +kernel
theorem dX1_isHeld_39 : decode cX1_isHeld 39 = .ok (.ireturn, 1) := by decide +kernel
set_option maxRecDepth 20000 in
theorem ggX1_give_X1_isIssue : GoodIn wsX1_give wsX1_isIssue := goodIn_r _ [8] (by decide +kernel) (by decide +kernel)
set_option maxRecDepth 20000 in
theorem gX1_give_X1_isIssue : GoodIn wsX1_give (va_wsS RX1 82 yX1_isIssue wsX1_isIssue) := goodIn_app (goodIn_of _ (by decide +kernel)) ggX1_give_X1_isIssue
set_option maxRecDepth 20000 in
theorem ggX1_give_X1_isWithin : GoodIn wsX1_give wsX1_isWithin := goodIn_r _ [11] (by decide +kernel) (by decide +kernel)
set_option maxRecDepth 20000 in
theorem gX1_give_X1_isWithin : GoodIn wsX1_give (va_wsS RX1 46 yX1_isWithin wsX1_isWithin) := goodIn_app (goodIn_of _ (by decide +kernel)) ggX1_give_X1_isWithin
theorem dX1_give_0 : decode cX1_give 0 = .ok (.iload_n 1, 1) := by decide +kernel
theorem dX1_give_1 : decode cX1_give 1 = .ok (.invokestatic 82, 3) := by decide +kernel
theorem dX1_give_4 : decode cX1_give 4 = .ok (.ifCond .ne 13, 3) := by decide +kernel
theorem dX1_give_7 : decode cX1_give 7 = .ok (.new 50, 3) := by decide +kernel
theorem dX1_give_10 : decode cX1_give 10 = .ok (.dup, 1) := by decide +kernel
theorem dX1_give_11 : decode cX1_give 11 = .ok (.ldc 144, 2) := by decide +kernel
theorem dX1_give_13 : decode cX1_give 13 = .ok (.invokespecial 54, 3) := by decide +kernel
theorem dX1_give_16 : decode cX1_give 16 = .ok (.athrow, 1) := by decide +kernel
theorem dX1_give_17 : decode cX1_give 17 = .ok (.iload_n 2, 1) := by decide +kernel
theorem dX1_give_18 : decode cX1_give 18 = .ok (.iload_n 1, 1) := by decide +kernel
theorem dX1_give_19 : decode cX1_give 19 = .ok (.sipush 199, 3) := by decide +kernel
theorem dX1_give_22 : decode cX1_give 22 = .ok (.invokestatic 46, 3) := by decide +kernel
theorem dX1_give_25 : decode cX1_give 25 = .ok (.ifCond .ne 13, 3) := by decide +kernel
theorem dX1_give_28 : decode cX1_give 28 = .ok (.new 50, 3) := by decide +kernel
theorem dX1_give_31 : decode cX1_give 31 = .ok (.dup, 1) := by decide +kernel
theorem dX1_give_32 : decode cX1_give 32 = .ok (.ldc 146, 2) := by decide +kernel
theorem dX1_give_34 : decode cX1_give 34 = .ok (.invokespecial 54, 3) := by decide +kernel
theorem dX1_give_37 : decode cX1_give 37 = .ok (.athrow, 1) := by decide +kernel
theorem dX1_give_38 : decode cX1_give 38 = .ok (.iload_n 1, 1) := by decide +kernel
theorem dX1_give_39 : decode cX1_give 39 = .ok (.istore_n 3, 1) := by decide +kernel
theorem dX1_give_40 : decode cX1_give 40 = .ok (.iload_n 3, 1) := by decide +kernel
theorem dX1_give_41 : decode cX1_give 41 = .ok (.iload_n 2, 1) := by decide +kernel
theorem dX1_give_42 : decode cX1_give 42 = .ok (.if_icmp .gt 35, 3) := by decide +kernel
theorem dX1_give_45 : decode cX1_give 45 = .ok (.aload_n 0, 1) := by decide +kernel
theorem dX1_give_46 : decode cX1_give 46 = .ok (.getfield 36, 3) := by decide +kernel
theorem dX1_give_49 : decode cX1_give 49 = .ok (.iload_n 3, 1) := by decide +kernel
theorem dX1_give_50 : decode cX1_give 50 = .ok (.baload, 1) := by decide +kernel
theorem dX1_give_51 : decode cX1_give 51 = .ok (.ifCond .ne 20, 3) := by decide +kernel
theorem dX1_give_54 : decode cX1_give 54 = .ok (.aload_n 0, 1) := by decide +kernel
theorem dX1_give_55 : decode cX1_give 55 = .ok (.getfield 36, 3) := by decide +kernel
theorem dX1_give_58 : decode cX1_give 58 = .ok (.iload_n 3, 1) := by decide +kernel
theorem dX1_give_59 : decode cX1_give 59 = .ok (.iconst 1, 1) := by decide +kernel
theorem dX1_give_60 : decode cX1_give 60 = .ok (.bastore, 1) := by decide +kernel
theorem dX1_give_61 : decode cX1_give 61 = .ok (.aload_n 0, 1) := by decide +kernel
theorem dX1_give_62 : decode cX1_give 62 = .ok (.dup, 1) := by decide +kernel
theorem dX1_give_63 : decode cX1_give 63 = .ok (.getfield 148, 3) := by decide +kernel
theorem dX1_give_66 : decode cX1_give 66 = .ok (.iconst 1, 1) := by decide +kernel
theorem dX1_give_67 : decode cX1_give 67 = .ok (.iadd, 1) := by decide +kernel
theorem dX1_give_68 : decode cX1_give 68 = .ok (.putfield 148, 3) := by decide +kernel
theorem dX1_give_71 : decode cX1_give 71 = .ok (.iinc 3 1, 3) := by decide +kernel
theorem dX1_give_74 : decode cX1_give 74 = .ok (.goto (-34), 3) := by decide +kernel
theorem dX1_give_77 : decode cX1_give 77 = .ok (.aload_n 0, 1) := by decide +kernel
theorem dX1_give_78 : decode cX1_give 78 = .ok (.getfield 148, 3) := by decide +kernel
theorem dX1_give_81 : decode cX1_give 81 = .ok (.ireturn, 1) := by decide +kernel
set_option maxRecDepth 20000 in
theorem ggX1_only_X1_isInHouse : GoodIn wsX1_only wsX1_isInHouse := goodIn_r _ [8, 9, 10, 11, 12, 7, 13, 14, 15, 16, 17, 18, 19, 20, 21, 22, 23, 24, 25, 26, 27, 28, 29, 30, 31, 32] (by decide +kernel) (by decide +kernel)
set_option maxRecDepth 20000 in
theorem gX1_only_X1_isInHouse : GoodIn wsX1_only (wsV RX1 153 RX1 yX1_isInHouse wsX1_isInHouse) := goodIn_app (goodIn_of _ (by decide +kernel)) ggX1_only_X1_isInHouse
theorem dX1_only_0 : decode cX1_only 0 = .ok (.iload_n 2, 1) := by decide +kernel
theorem dX1_only_1 : decode cX1_only 1 = .ok (.ifCond .ge 13, 3) := by decide +kernel
theorem dX1_only_4 : decode cX1_only 4 = .ok (.new 50, 3) := by decide +kernel
theorem dX1_only_7 : decode cX1_only 7 = .ok (.dup, 1) := by decide +kernel
theorem dX1_only_8 : decode cX1_only 8 = .ok (.ldc 151, 2) := by decide +kernel
theorem dX1_only_10 : decode cX1_only 10 = .ok (.invokespecial 54, 3) := by decide +kernel
theorem dX1_only_13 : decode cX1_only 13 = .ok (.athrow, 1) := by decide +kernel
theorem dX1_only_14 : decode cX1_only 14 = .ok (.iconst 0, 1) := by decide +kernel
theorem dX1_only_15 : decode cX1_only 15 = .ok (.istore_n 3, 1) := by decide +kernel
theorem dX1_only_16 : decode cX1_only 16 = .ok (.iconst 0, 1) := by decide +kernel
theorem dX1_only_17 : decode cX1_only 17 = .ok (.istore 4, 2) := by decide +kernel
theorem dX1_only_19 : decode cX1_only 19 = .ok (.iload 4, 2) := by decide +kernel
theorem dX1_only_21 : decode cX1_only 21 = .ok (.sipush 200, 3) := by decide +kernel
theorem dX1_only_24 : decode cX1_only 24 = .ok (.if_icmp .ge 46, 3) := by decide +kernel
theorem dX1_only_27 : decode cX1_only 27 = .ok (.aload_n 0, 1) := by decide +kernel
theorem dX1_only_28 : decode cX1_only 28 = .ok (.iload 4, 2) := by decide +kernel
theorem dX1_only_30 : decode cX1_only 30 = .ok (.invokevirtual 153, 3) := by decide +kernel
theorem dX1_only_33 : decode cX1_only 33 = .ok (.istore 5, 2) := by decide +kernel
theorem dX1_only_35 : decode cX1_only 35 = .ok (.iload 5, 2) := by decide +kernel
theorem dX1_only_37 : decode cX1_only 37 = .ok (.aload_n 0, 1) := by decide +kernel
theorem dX1_only_38 : decode cX1_only 38 = .ok (.getfield 36, 3) := by decide +kernel
theorem dX1_only_41 : decode cX1_only 41 = .ok (.iload 4, 2) := by decide +kernel
theorem dX1_only_43 : decode cX1_only 43 = .ok (.baload, 1) := by decide +kernel
theorem dX1_only_44 : decode cX1_only 44 = .ok (.if_icmp .eq 20, 3) := by decide +kernel
theorem dX1_only_47 : decode cX1_only 47 = .ok (.iload 5, 2) := by decide +kernel
theorem dX1_only_49 : decode cX1_only 49 = .ok (.iload_n 1, 1) := by decide +kernel
theorem dX1_only_50 : decode cX1_only 50 = .ok (.if_icmp .ne 14, 3) := by decide +kernel
theorem dX1_only_53 : decode cX1_only 53 = .ok (.iload_n 3, 1) := by decide +kernel
theorem dX1_only_54 : decode cX1_only 54 = .ok (.iload_n 2, 1) := by decide +kernel
theorem dX1_only_55 : decode cX1_only 55 = .ok (.if_icmp .ne 6, 3) := by decide +kernel
theorem dX1_only_58 : decode cX1_only 58 = .ok (.iload 4, 2) := by decide +kernel
theorem dX1_only_60 : decode cX1_only 60 = .ok (.ireturn, 1) := by decide +kernel
theorem dX1_only_61 : decode cX1_only 61 = .ok (.iinc 3 1, 3) := by decide +kernel
theorem dX1_only_64 : decode cX1_only 64 = .ok (.iinc 4 1, 3) := by decide +kernel
theorem dX1_only_67 : decode cX1_only 67 = .ok (.goto (-48), 3) := by decide +kernel
theorem dX1_only_70 : decode cX1_only 70 = .ok (.iconst (-1), 1) := by decide +kernel
theorem dX1_only_71 : decode cX1_only 71 = .ok (.ireturn, 1) := by decide +kernel
theorem dX1_isWithin_0 : decode cX1_isWithin 0 = .ok (.iload_n 0, 1) := by decide +kernel
theorem dX1_isWithin_1 : decode cX1_isWithin 1 = .ok (.iload_n 1, 1) := by decide +kernel
theorem dX1_isWithin_2 : decode cX1_isWithin 2 = .ok (.if_icmp .lt 12, 3) := by decide +kernel
theorem dX1_isWithin_5 : decode cX1_isWithin 5 = .ok (.iload_n 0, 1) := by decide +kernel
theorem dX1_isWithin_6 : decode cX1_isWithin 6 = .ok (.iload_n 2, 1) := by decide +kernel
theorem dX1_isWithin_7 : decode cX1_isWithin 7 = .ok (.if_icmp .gt 7, 3) := by decide +kernel
theorem dX1_isWithin_10 : decode cX1_isWithin 10 = .ok (.iconst 1, 1) := by decide +kernel
theorem dX1_isWithin_11 : decode cX1_isWithin 11 = .ok (.goto 4, 3) := by decide +kernel
theorem dX1_isWithin_14 : decode cX1_isWithin 14 = .ok (.iconst 0, 1) := by decide +kernel
theorem dX1_isWithin_15 : decode cX1_isWithin 15 = .ok (.ireturn, 1) := by decide +kernel
theorem dX1_isIssue_0 : decode cX1_isIssue 0 = .ok (.iload_n 0, 1) := by decide +kernel
theorem dX1_isIssue_1 : decode cX1_isIssue 1 = .ok (.ifCond .lt 14, 3) := by decide +kernel
theorem dX1_isIssue_4 : decode cX1_isIssue 4 = .ok (.iload_n 0, 1) := by decide +kernel
theorem dX1_isIssue_5 : decode cX1_isIssue 5 = .ok (.sipush 200, 3) := by decide +kernel
theorem dX1_isIssue_8 : decode cX1_isIssue 8 = .ok (.if_icmp .ge 7, 3) := by decide +kernel
theorem dX1_isIssue_11 : decode cX1_isIssue 11 = .ok (.iconst 1, 1) := by decide +kernel
theorem dX1_isIssue_12 : decode cX1_isIssue 12 = .ok (.goto 4, 3) := by decide +kernel
theorem dX1_isIssue_15 : decode cX1_isIssue 15 = .ok (.iconst 0, 1) := by decide +kernel
theorem dX1_isIssue_16 : decode cX1_isIssue 16 = .ok (.ireturn, 1) := by decide +kernel
set_option maxRecDepth 20000 in
theorem ggX1_isForetold_X1_isIssue : GoodIn wsX1_isForetold wsX1_isIssue := goodIn_r _ [5] (by decide +kernel) (by decide +kernel)
set_option maxRecDepth 20000 in
theorem gX1_isForetold_X1_isIssue : GoodIn wsX1_isForetold (va_wsS RX1 82 yX1_isIssue wsX1_isIssue) := goodIn_app (goodIn_of _ (by decide +kernel)) ggX1_isForetold_X1_isIssue
theorem dX1_isForetold_0 : decode cX1_isForetold 0 = .ok (.iload_n 1, 1) := by decide +kernel
theorem dX1_isForetold_1 : decode cX1_isForetold 1 = .ok (.invokestatic 82, 3) := by decide +kernel
theorem dX1_isForetold_4 : decode cX1_isForetold 4 = .ok (.ifCond .eq 15, 3) := by decide +kernel
theorem dX1_isForetold_7 : decode cX1_isForetold 7 = .ok (.iload_n 1, 1) := by decide +kernel
theorem dX1_isForetold_8 : decode cX1_isForetold 8 = .ok (.aload_n 0, 1) := by decide +kernel
theorem dX1_isForetold_9 : decode cX1_isForetold 9 = .ok (.getfield 40, 3) := by decide +kernel
theorem dX1_isForetold_12 : decode cX1_isForetold 12 = .ok (.if_icmp .ge 7, 3) := by decide +kernel
theorem dX1_isForetold_15 : decode cX1_isForetold 15 = .ok (.iconst 1, 1) := by decide +kernel
theorem dX1_isForetold_16 : decode cX1_isForetold 16 = .ok (.goto 4, 3) := by decide +kernel
theorem dX1_isForetold_19 : decode cX1_isForetold 19 = .ok (.iconst 0, 1) := by decide +kernel
theorem dX1_isForetold_20 : decode cX1_isForetold 20 = .ok (.ireturn, 1) := by decide +kernel
set_option maxRecDepth 20000 in
theorem ggX1_nextDay_X1_isIssue : GoodIn wsX1_nextDay wsX1_isIssue := goodIn_r _ [8] (by decide +kernel) (by decide +kernel)
set_option maxRecDepth 20000 in
theorem gX1_nextDay_X1_isIssue : GoodIn wsX1_nextDay (va_wsS RX1 82 yX1_isIssue wsX1_isIssue) := goodIn_app (goodIn_of _ (by decide +kernel)) ggX1_nextDay_X1_isIssue
set_option maxRecDepth 20000 in
theorem ggX1_nextDay_X0_dayBehind : GoodIn wsX1_nextDay wsX0_dayBehind := goodIn_r _ [13, 14, 15, 16, 17, 18, 19, 20, 21, 12, 22, 23, 39, 40, 41, 42] (by decide +kernel) (by decide +kernel)
set_option maxRecDepth 20000 in
theorem gX1_nextDay_X0_dayBehind : GoodIn wsX1_nextDay (wsV RX1 156 RX0 yX0_dayBehind wsX0_dayBehind) := goodIn_app (goodIn_of _ (by decide +kernel)) ggX1_nextDay_X0_dayBehind
theorem dX1_nextDay_0 : decode cX1_nextDay 0 = .ok (.aload_n 0, 1) := by decide +kernel
theorem dX1_nextDay_1 : decode cX1_nextDay 1 = .ok (.getfield 40, 3) := by decide +kernel
theorem dX1_nextDay_4 : decode cX1_nextDay 4 = .ok (.iconst 1, 1) := by decide +kernel
theorem dX1_nextDay_5 : decode cX1_nextDay 5 = .ok (.isub, 1) := by decide +kernel
theorem dX1_nextDay_6 : decode cX1_nextDay 6 = .ok (.istore_n 1, 1) := by decide +kernel
theorem dX1_nextDay_7 : decode cX1_nextDay 7 = .ok (.iload_n 1, 1) := by decide +kernel
theorem dX1_nextDay_8 : decode cX1_nextDay 8 = .ok (.invokestatic 82, 3) := by decide +kernel
theorem dX1_nextDay_11 : decode cX1_nextDay 11 = .ok (.ifCond .eq 23, 3) := by decide +kernel
theorem dX1_nextDay_14 : decode cX1_nextDay 14 = .ok (.aload_n 0, 1) := by decide +kernel
theorem dX1_nextDay_15 : decode cX1_nextDay 15 = .ok (.getfield 10, 3) := by decide +kernel
theorem dX1_nextDay_18 : decode cX1_nextDay 18 = .ok (.aload_n 0, 1) := by decide +kernel
theorem dX1_nextDay_19 : decode cX1_nextDay 19 = .ok (.getfield 23, 3) := by decide +kernel
theorem dX1_nextDay_22 : decode cX1_nextDay 22 = .ok (.iload_n 1, 1) := by decide +kernel
theorem dX1_nextDay_23 : decode cX1_nextDay 23 = .ok (.iaload, 1) := by decide +kernel
theorem dX1_nextDay_24 : decode cX1_nextDay 24 = .ok (.aload_n 0, 1) := by decide +kernel
theorem dX1_nextDay_25 : decode cX1_nextDay 25 = .ok (.getfield 123, 3) := by decide +kernel
theorem dX1_nextDay_28 : decode cX1_nextDay 28 = .ok (.invokevirtual 156, 3) := by decide +kernel
theorem dX1_nextDay_31 : decode cX1_nextDay 31 = .ok (.goto 4, 3) := by decide +kernel
theorem dX1_nextDay_34 : decode cX1_nextDay 34 = .ok (.iconst 0, 1) := by decide +kernel
theorem dX1_nextDay_35 : decode cX1_nextDay 35 = .ok (.ireturn, 1) := by decide +kernel
set_option maxRecDepth 20000 in
theorem ggX1_foretellNext_X1_isIssue : GoodIn wsX1_foretellNext wsX1_isIssue := goodIn_r _ [7] (by decide +kernel) (by decide +kernel)
set_option maxRecDepth 20000 in
theorem gX1_foretellNext_X1_isIssue : GoodIn wsX1_foretellNext (va_wsS RX1 82 yX1_isIssue wsX1_isIssue) := goodIn_app (goodIn_of _ (by decide +kernel)) ggX1_foretellNext_X1_isIssue
set_option maxRecDepth 20000 in
theorem ggX1_foretellNext_X1_nextDay : GoodIn wsX1_foretellNext wsX1_nextDay := goodIn_r _ [11, 1, 12, 2, 3, 4, 5, 6, 7, 13, 14, 15, 16, 17, 18, 19, 20, 21, 22, 23, 24, 25, 26, 27, 28, 29, 30, 31, 32, 33, 34, 35, 36, 37, 38, 39, 40, 41, 42, 43, 44, 45, 46] (by decide +kernel) (by decide +kernel)
set_option maxRecDepth 20000 in
theorem gX1_foretellNext_X1_nextDay : GoodIn wsX1_foretellNext (wsV RX1 160 RX1 yX1_nextDay wsX1_nextDay) := goodIn_app (goodIn_of _ (by decide +kernel)) ggX1_foretellNext_X1_nextDay
theorem dX1_foretellNext_0 : decode cX1_foretellNext 0 = .ok (.aload_n 0, 1) := by decide +kernel
theorem dX1_foretellNext_1 : decode cX1_foretellNext 1 = .ok (.getfield 40, 3) := by decide +kernel
theorem dX1_foretellNext_4 : decode cX1_foretellNext 4 = .ok (.invokestatic 82, 3) := by decide +kernel
theorem dX1_foretellNext_7 : decode cX1_foretellNext 7 = .ok (.ifCond .eq 31, 3) := by decide +kernel
theorem dX1_foretellNext_10 : decode cX1_foretellNext 10 = .ok (.aload_n 0, 1) := by decide +kernel
theorem dX1_foretellNext_11 : decode cX1_foretellNext 11 = .ok (.getfield 23, 3) := by decide +kernel
theorem dX1_foretellNext_14 : decode cX1_foretellNext 14 = .ok (.aload_n 0, 1) := by decide +kernel
theorem dX1_foretellNext_15 : decode cX1_foretellNext 15 = .ok (.getfield 40, 3) := by decide +kernel
theorem dX1_foretellNext_18 : decode cX1_foretellNext 18 = .ok (.aload_n 0, 1) := by decide +kernel
theorem dX1_foretellNext_19 : decode cX1_foretellNext 19 = .ok (.invokevirtual 160, 3) := by decide +kernel
theorem dX1_foretellNext_22 : decode cX1_foretellNext 22 = .ok (.iastore, 1) := by decide +kernel
theorem dX1_foretellNext_23 : decode cX1_foretellNext 23 = .ok (.aload_n 0, 1) := by decide +kernel
theorem dX1_foretellNext_24 : decode cX1_foretellNext 24 = .ok (.iconst 0, 1) := by decide +kernel
theorem dX1_foretellNext_25 : decode cX1_foretellNext 25 = .ok (.putfield 123, 3) := by decide +kernel
theorem dX1_foretellNext_28 : decode cX1_foretellNext 28 = .ok (.aload_n 0, 1) := by decide +kernel
theorem dX1_foretellNext_29 : decode cX1_foretellNext 29 = .ok (.dup, 1) := by decide +kernel
theorem dX1_foretellNext_30 : decode cX1_foretellNext 30 = .ok (.getfield 40, 3) := by decide +kernel
theorem dX1_foretellNext_33 : decode cX1_foretellNext 33 = .ok (.iconst 1, 1) := by decide +kernel
theorem dX1_foretellNext_34 : decode cX1_foretellNext 34 = .ok (.iadd, 1) := by decide +kernel
theorem dX1_foretellNext_35 : decode cX1_foretellNext 35 = .ok (.putfield 40, 3) := by decide +kernel
theorem dX1_foretellNext_38 : decode cX1_foretellNext 38 = .ok (.return_, 1) := by decide +kernel
set_option maxRecDepth 20000 in
theorem ggX1_foretellUpTo_X1_foretellNext : GoodIn wsX1_foretellUpTo wsX1_foretellNext := goodIn_r _ [6, 1, 7, 8, 9, 10, 5, 11, 12, 13, 14, 15, 16, 17, 18, 19, 20, 21, 22, 23, 24, 25, 26, 27, 28, 29, 30, 31, 32, 33, 34, 35, 36, 37, 38, 39, 40, 41, 42, 43, 44, 45, 46, 47, 48, 49, 50] (by decide +kernel) (by decide +kernel)
set_option maxRecDepth 20000 in
theorem gX1_foretellUpTo_X1_foretellNext : GoodIn wsX1_foretellUpTo (wsV RX1 164 RX1 yX1_foretellNext wsX1_foretellNext) := goodIn_app (goodIn_of _ (by decide +kernel)) ggX1_foretellUpTo_X1_foretellNext
theorem dX1_foretellUpTo_0 : decode cX1_foretellUpTo 0 = .ok (.aload_n 0, 1) := by decide +kernel
theorem dX1_foretellUpTo_1 : decode cX1_foretellUpTo 1 = .ok (.getfield 40, 3) := by decide +kernel
theorem dX1_foretellUpTo_4 : decode cX1_foretellUpTo 4 = .ok (.istore_n 2, 1) := by decide +kernel
theorem dX1_foretellUpTo_5 : decode cX1_foretellUpTo 5 = .ok (.iload_n 2, 1) := by decide +kernel
theorem dX1_foretellUpTo_6 : decode cX1_foretellUpTo 6 = .ok (.iload_n 1, 1) := by decide +kernel
theorem dX1_foretellUpTo_7 : decode cX1_foretellUpTo 7 = .ok (.if_icmp .gt 20, 3) := by decide +kernel
theorem dX1_foretellUpTo_10 : decode cX1_foretellUpTo 10 = .ok (.iload_n 2, 1) := by decide +kernel
theorem dX1_foretellUpTo_11 : decode cX1_foretellUpTo 11 = .ok (.sipush 200, 3) := by decide +kernel
theorem dX1_foretellUpTo_14 : decode cX1_foretellUpTo 14 = .ok (.if_icmp .ge 13, 3) := by decide +kernel
theorem dX1_foretellUpTo_17 : decode cX1_foretellUpTo 17 = .ok (.aload_n 0, 1) := by decide +kernel
theorem dX1_foretellUpTo_18 : decode cX1_foretellUpTo 18 = .ok (.invokevirtual 164, 3) := by decide +kernel
theorem dX1_foretellUpTo_21 : decode cX1_foretellUpTo 21 = .ok (.iinc 2 1, 3) := by decide +kernel
theorem dX1_foretellUpTo_24 : decode cX1_foretellUpTo 24 = .ok (.goto (-19), 3) := by decide +kernel
theorem dX1_foretellUpTo_27 : decode cX1_foretellUpTo 27 = .ok (.return_, 1) := by decide +kernel
set_option maxRecDepth 20000 in
theorem ggX1_foretellDueIssues_X1_nextDay : GoodIn wsX1_foretellDueIssues wsX1_nextDay := goodIn_r _ [7, 1, 8, 9, 10, 11, 12, 6, 13, 14, 15, 16, 17, 18, 19, 20, 21, 22, 23, 24, 25, 26, 27, 28, 33, 34, 35, 36, 37, 38, 39, 40, 41, 42, 43, 44, 45, 46, 47, 48, 49, 50, 51] (by decide +kernel) (by decide +kernel)
set_option maxRecDepth 20000 in
theorem gX1_foretellDueIssues_X1_nextDay : GoodIn wsX1_foretellDueIssues (wsV RX1 160 RX1 yX1_nextDay wsX1_nextDay) := goodIn_app (goodIn_of _ (by decide +kernel)) ggX1_foretellDueIssues_X1_nextDay
set_option maxRecDepth 20000 in
theorem ggX1_foretellDueIssues_X1_foretellNext : GoodIn wsX1_foretellDueIssues wsX1_foretellNext := goodIn_r _ [32, 1, 9, 10, 11, 12, 6, 13, 3, 4, 5, 7, 8, 14, 15, 16, 17, 18, 19, 20, 21, 22, 23, 24, 25, 26, 27, 28, 33, 34, 35, 36, 37, 38, 39, 40, 41, 42, 43, 44, 45, 46, 47, 48, 49, 50, 51] (by decide +kernel) (by decide +kernel)
set_option maxRecDepth 20000 in
theorem gX1_foretellDueIssues_X1_foretellNext : GoodIn wsX1_foretellDueIssues (wsV RX1 164 RX1 yX1_foretellNext wsX1_foretellNext) := goodIn_app (goodIn_of _ (by decide +kernel)) ggX1_foretellDueIssues_X1_foretellNext
theorem dX1_foretellDueIssues_0 : decode cX1_foretellDueIssues 0 = .ok (.aload_n 0, 1) := by decide +kernel
theorem dX1_foretellDueIssues_1 : decode cX1_foretellDueIssues 1 = .ok (.getfield 40, 3) := by decide +kernel
theorem dX1_foretellDueIssues_4 : decode cX1_foretellDueIssues 4 = .ok (.istore_n 1, 1) := by decide +kernel
theorem dX1_foretellDueIssues_5 : decode cX1_foretellDueIssues 5 = .ok (.iload_n 1, 1) := by decide +kernel
theorem dX1_foretellDueIssues_6 : decode cX1_foretellDueIssues 6 = .ok (.sipush 200, 3) := by decide +kernel
theorem dX1_foretellDueIssues_9 : decode cX1_foretellDueIssues 9 = .ok (.if_icmp .ge 24, 3) := by decide +kernel
theorem dX1_foretellDueIssues_12 : decode cX1_foretellDueIssues 12 = .ok (.aload_n 0, 1) := by decide +kernel
theorem dX1_foretellDueIssues_13 : decode cX1_foretellDueIssues 13 = .ok (.invokevirtual 160, 3) := by decide +kernel
theorem dX1_foretellDueIssues_16 : decode cX1_foretellDueIssues 16 = .ok (.aload_n 0, 1) := by decide +kernel
theorem dX1_foretellDueIssues_17 : decode cX1_foretellDueIssues 17 = .ok (.getfield 74, 3) := by decide +kernel
theorem dX1_foretellDueIssues_20 : decode cX1_foretellDueIssues 20 = .ok (.if_icmp .gt 13, 3) := by decide +kernel
theorem dX1_foretellDueIssues_23 : decode cX1_foretellDueIssues 23 = .ok (.aload_n 0, 1) := by decide +kernel
theorem dX1_foretellDueIssues_24 : decode cX1_foretellDueIssues 24 = .ok (.invokevirtual 164, 3) := by decide +kernel
theorem dX1_foretellDueIssues_27 : decode cX1_foretellDueIssues 27 = .ok (.iinc 1 1, 3) := by decide +kernel
theorem dX1_foretellDueIssues_30 : decode cX1_foretellDueIssues 30 = .ok (.goto (-25), 3) := by decide +kernel
theorem dX1_foretellDueIssues_33 : decode cX1_foretellDueIssues 33 = .ok (.return_, 1) := by decide +kernel
set_option maxRecDepth 20000 in
theorem ggX1_canAllCome_X1_isForetold : GoodIn wsX1_canAllCome wsX1_isForetold := goodIn_r _ [6, 7, 8, 9, 5, 10, 11, 12, 13, 14, 15, 16, 17, 18, 19, 20, 21, 22, 23, 24, 25] (by decide +kernel) (by decide +kernel)
set_option maxRecDepth 20000 in
theorem gX1_canAllCome_X1_isForetold : GoodIn wsX1_canAllCome (wsV RX1 110 RX1 yX1_isForetold wsX1_isForetold) := goodIn_app (goodIn_of _ (by decide +kernel)) ggX1_canAllCome_X1_isForetold
theorem dX1_canAllCome_0 : decode cX1_canAllCome 0 = .ok (.iload_n 1, 1) := by decide +kernel
theorem dX1_canAllCome_1 : decode cX1_canAllCome 1 = .ok (.istore_n 3, 1) := by decide +kernel
theorem dX1_canAllCome_2 : decode cX1_canAllCome 2 = .ok (.iload_n 3, 1) := by decide +kernel
theorem dX1_canAllCome_3 : decode cX1_canAllCome 3 = .ok (.iload_n 2, 1) := by decide +kernel
theorem dX1_canAllCome_4 : decode cX1_canAllCome 4 = .ok (.if_icmp .gt 35, 3) := by decide +kernel
theorem dX1_canAllCome_7 : decode cX1_canAllCome 7 = .ok (.iload_n 3, 1) := by decide +kernel
theorem dX1_canAllCome_8 : decode cX1_canAllCome 8 = .ok (.sipush 200, 3) := by decide +kernel
theorem dX1_canAllCome_11 : decode cX1_canAllCome 11 = .ok (.if_icmp .ge 28, 3) := by decide +kernel
theorem dX1_canAllCome_14 : decode cX1_canAllCome 14 = .ok (.aload_n 0, 1) := by decide +kernel
theorem dX1_canAllCome_15 : decode cX1_canAllCome 15 = .ok (.iload_n 3, 1) := by decide +kernel
theorem dX1_canAllCome_16 : decode cX1_canAllCome 16 = .ok (.invokevirtual 110, 3) := by decide +kernel
theorem dX1_canAllCome_19 : decode cX1_canAllCome 19 = .ok (.ifCond .eq 14, 3) := by decide +kernel
theorem dX1_canAllCome_22 : decode cX1_canAllCome 22 = .ok (.aload_n 0, 1) := by decide +kernel
theorem dX1_canAllCome_23 : decode cX1_canAllCome 23 = .ok (.getfield 27, 3) := by decide +kernel
theorem dX1_canAllCome_26 : decode cX1_canAllCome 26 = .ok (.iload_n 3, 1) := by decide +kernel
theorem dX1_canAllCome_27 : decode cX1_canAllCome 27 = .ok (.iaload, 1) := by decide +kernel
theorem dX1_canAllCome_28 : decode cX1_canAllCome 28 = .ok (.ifCond .eq 5, 3) := by decide +kernel
theorem dX1_canAllCome_31 : decode cX1_canAllCome 31 = .ok (.iconst 0, 1) := by decide +kernel
theorem dX1_canAllCome_32 : decode cX1_canAllCome 32 = .ok (.ireturn, 1) := by decide +kernel
theorem dX1_canAllCome_33 : decode cX1_canAllCome 33 = .ok (.iinc 3 1, 3) := by decide +kernel
theorem dX1_canAllCome_36 : decode cX1_canAllCome 36 = .ok (.goto (-34), 3) := by decide +kernel
theorem dX1_canAllCome_39 : decode cX1_canAllCome 39 = .ok (.iconst 1, 1) := by decide +kernel
theorem dX1_canAllCome_40 : decode cX1_canAllCome 40 = .ok (.ireturn, 1) := by decide +kernel
set_option maxRecDepth 20000 in
theorem ggX1_takeIn_X1_isForetold : GoodIn wsX1_takeIn wsX1_isForetold := goodIn_r _ [6, 7, 8, 9, 5, 10, 11, 12, 13, 14, 15, 16, 17, 18, 19, 20, 21, 22, 23, 24, 25] (by decide +kernel) (by decide +kernel)
set_option maxRecDepth 20000 in
theorem gX1_takeIn_X1_isForetold : GoodIn wsX1_takeIn (wsV RX1 110 RX1 yX1_isForetold wsX1_isForetold) := goodIn_app (goodIn_of _ (by decide +kernel)) ggX1_takeIn_X1_isForetold
theorem dX1_takeIn_0 : decode cX1_takeIn 0 = .ok (.iload_n 1, 1) := by decide +kernel
theorem dX1_takeIn_1 : decode cX1_takeIn 1 = .ok (.istore_n 3, 1) := by decide +kernel
theorem dX1_takeIn_2 : decode cX1_takeIn 2 = .ok (.iload_n 3, 1) := by decide +kernel
theorem dX1_takeIn_3 : decode cX1_takeIn 3 = .ok (.iload_n 2, 1) := by decide +kernel
theorem dX1_takeIn_4 : decode cX1_takeIn 4 = .ok (.if_icmp .gt 33, 3) := by decide +kernel
theorem dX1_takeIn_7 : decode cX1_takeIn 7 = .ok (.aload_n 0, 1) := by decide +kernel
theorem dX1_takeIn_8 : decode cX1_takeIn 8 = .ok (.iload_n 3, 1) := by decide +kernel
theorem dX1_takeIn_9 : decode cX1_takeIn 9 = .ok (.invokevirtual 110, 3) := by decide +kernel
theorem dX1_takeIn_12 : decode cX1_takeIn 12 = .ok (.ifCond .eq 19, 3) := by decide +kernel
theorem dX1_takeIn_15 : decode cX1_takeIn 15 = .ok (.aload_n 0, 1) := by decide +kernel
theorem dX1_takeIn_16 : decode cX1_takeIn 16 = .ok (.getfield 27, 3) := by decide +kernel
theorem dX1_takeIn_19 : decode cX1_takeIn 19 = .ok (.iload_n 3, 1) := by decide +kernel
theorem dX1_takeIn_20 : decode cX1_takeIn 20 = .ok (.iload_n 3, 1) := by decide +kernel
theorem dX1_takeIn_21 : decode cX1_takeIn 21 = .ok (.iload_n 1, 1) := by decide +kernel
theorem dX1_takeIn_22 : decode cX1_takeIn 22 = .ok (.if_icmp .ne 7, 3) := by decide +kernel
theorem dX1_takeIn_25 : decode cX1_takeIn 25 = .ok (.iconst 1, 1) := by decide +kernel
theorem dX1_takeIn_26 : decode cX1_takeIn 26 = .ok (.goto 4, 3) := by decide +kernel
theorem dX1_takeIn_29 : decode cX1_takeIn 29 = .ok (.iconst 2, 1) := by decide +kernel
theorem dX1_takeIn_30 : decode cX1_takeIn 30 = .ok (.iastore, 1) := by decide +kernel
theorem dX1_takeIn_31 : decode cX1_takeIn 31 = .ok (.iinc 3 1, 3) := by decide +kernel
theorem dX1_takeIn_34 : decode cX1_takeIn 34 = .ok (.goto (-32), 3) := by decide +kernel
theorem dX1_takeIn_37 : decode cX1_takeIn 37 = .ok (.return_, 1) := by decide +kernel
set_option maxRecDepth 20000 in
theorem ggX1_noteDifference_X1_isForetold : GoodIn wsX1_noteDifference wsX1_isForetold := goodIn_r _ [11, 12, 13, 14, 10, 15, 27, 28, 29, 30, 31, 32, 33, 34, 35, 36, 37, 38, 39, 40, 41] (by decide +kernel) (by decide +kernel)
set_option maxRecDepth 20000 in
theorem gX1_noteDifference_X1_isForetold : GoodIn wsX1_noteDifference (wsV RX1 110 RX1 yX1_isForetold wsX1_isForetold) := goodIn_app (goodIn_of _ (by decide +kernel)) ggX1_noteDifference_X1_isForetold
set_option maxRecDepth 20000 in
theorem ggX1_noteDifference_X1_followsStreak : GoodIn wsX1_noteDifference wsX1_followsStreak := goodIn_r _ [19, 5, 20, 7, 8, 9, 10, 11, 12, 13, 14, 15, 27, 28, 29, 30, 31, 32, 33, 34, 35, 36, 37, 38, 39, 40, 41] (by decide +kernel) (by decide +kernel)
set_option maxRecDepth 20000 in
theorem gX1_noteDifference_X1_followsStreak : GoodIn wsX1_noteDifference (wsV RX1 170 RX1 yX1_followsStreak wsX1_followsStreak) := goodIn_app (goodIn_of _ (by decide +kernel)) ggX1_noteDifference_X1_followsStreak
set_option maxRecDepth 20000 in
theorem ggX1_noteDifference_X1_canShift : GoodIn wsX1_noteDifference wsX1_canShift := goodIn_r _ [23, 24, 25, 10, 26] (by decide +kernel) (by decide +kernel)
set_option maxRecDepth 20000 in
theorem gX1_noteDifference_X1_canShift : GoodIn wsX1_noteDifference (va_wsS RX1 176 yX1_canShift wsX1_canShift) := goodIn_app (goodIn_of _ (by decide +kernel)) ggX1_noteDifference_X1_canShift
theorem dX1_noteDifference_0 : decode cX1_noteDifference 0 = .ok (.aload_n 0, 1) := by decide +kernel
theorem dX1_noteDifference_1 : decode cX1_noteDifference 1 = .ok (.iload_n 1, 1) := by decide +kernel
theorem dX1_noteDifference_2 : decode cX1_noteDifference 2 = .ok (.invokevirtual 110, 3) := by decide +kernel
theorem dX1_noteDifference_5 : decode cX1_noteDifference 5 = .ok (.ifCond .ne 4, 3) := by decide +kernel
theorem dX1_noteDifference_8 : decode cX1_noteDifference 8 = .ok (.return_, 1) := by decide +kernel
theorem dX1_noteDifference_9 : decode cX1_noteDifference 9 = .ok (.aload_n 0, 1) := by decide +kernel
theorem dX1_noteDifference_10 : decode cX1_noteDifference 10 = .ok (.getfield 74, 3) := by decide +kernel
theorem dX1_noteDifference_13 : decode cX1_noteDifference 13 = .ok (.aload_n 0, 1) := by decide +kernel
theorem dX1_noteDifference_14 : decode cX1_noteDifference 14 = .ok (.getfield 23, 3) := by decide +kernel
theorem dX1_noteDifference_17 : decode cX1_noteDifference 17 = .ok (.iload_n 1, 1) := by decide +kernel
theorem dX1_noteDifference_18 : decode cX1_noteDifference 18 = .ok (.iaload, 1) := by decide +kernel
theorem dX1_noteDifference_19 : decode cX1_noteDifference 19 = .ok (.isub, 1) := by decide +kernel
theorem dX1_noteDifference_20 : decode cX1_noteDifference 20 = .ok (.istore_n 2, 1) := by decide +kernel
theorem dX1_noteDifference_21 : decode cX1_noteDifference 21 = .ok (.iload_n 2, 1) := by decide +kernel
theorem dX1_noteDifference_22 : decode cX1_noteDifference 22 = .ok (.aload_n 0, 1) := by decide +kernel
theorem dX1_noteDifference_23 : decode cX1_noteDifference 23 = .ok (.getfield 167, 3) := by decide +kernel
theorem dX1_noteDifference_26 : decode cX1_noteDifference 26 = .ok (.if_icmp .ne 15, 3) := by decide +kernel
theorem dX1_noteDifference_29 : decode cX1_noteDifference 29 = .ok (.aload_n 0, 1) := by decide +kernel
theorem dX1_noteDifference_30 : decode cX1_noteDifference 30 = .ok (.iload_n 1, 1) := by decide +kernel
theorem dX1_noteDifference_31 : decode cX1_noteDifference 31 = .ok (.invokevirtual 170, 3) := by decide +kernel
theorem dX1_noteDifference_34 : decode cX1_noteDifference 34 = .ok (.ifCond .eq 7, 3) := by decide +kernel
theorem dX1_noteDifference_37 : decode cX1_noteDifference 37 = .ok (.iconst 1, 1) := by decide +kernel
theorem dX1_noteDifference_38 : decode cX1_noteDifference 38 = .ok (.goto 4, 3) := by decide +kernel
theorem dX1_noteDifference_41 : decode cX1_noteDifference 41 = .ok (.iconst 0, 1) := by decide +kernel
theorem dX1_noteDifference_42 : decode cX1_noteDifference 42 = .ok (.istore_n 3, 1) := by decide +kernel
theorem dX1_noteDifference_43 : decode cX1_noteDifference 43 = .ok (.aload_n 0, 1) := by decide +kernel
theorem dX1_noteDifference_44 : decode cX1_noteDifference 44 = .ok (.iload_n 3, 1) := by decide +kernel
theorem dX1_noteDifference_45 : decode cX1_noteDifference 45 = .ok (.ifCond .eq 12, 3) := by decide +kernel
theorem dX1_noteDifference_48 : decode cX1_noteDifference 48 = .ok (.aload_n 0, 1) := by decide +kernel
theorem dX1_noteDifference_49 : decode cX1_noteDifference 49 = .ok (.getfield 173, 3) := by decide +kernel
theorem dX1_noteDifference_52 : decode cX1_noteDifference 52 = .ok (.iconst 1, 1) := by decide +kernel
theorem dX1_noteDifference_53 : decode cX1_noteDifference 53 = .ok (.iadd, 1) := by decide +kernel
theorem dX1_noteDifference_54 : decode cX1_noteDifference 54 = .ok (.goto 4, 3) := by decide +kernel
theorem dX1_noteDifference_57 : decode cX1_noteDifference 57 = .ok (.iconst 1, 1) := by decide +kernel
theorem dX1_noteDifference_58 : decode cX1_noteDifference 58 = .ok (.putfield 173, 3) := by decide +kernel
theorem dX1_noteDifference_61 : decode cX1_noteDifference 61 = .ok (.aload_n 0, 1) := by decide +kernel
theorem dX1_noteDifference_62 : decode cX1_noteDifference 62 = .ok (.iload_n 2, 1) := by decide +kernel
theorem dX1_noteDifference_63 : decode cX1_noteDifference 63 = .ok (.putfield 167, 3) := by decide +kernel
theorem dX1_noteDifference_66 : decode cX1_noteDifference 66 = .ok (.aload_n 0, 1) := by decide +kernel
theorem dX1_noteDifference_67 : decode cX1_noteDifference 67 = .ok (.iload_n 1, 1) := by decide +kernel
theorem dX1_noteDifference_68 : decode cX1_noteDifference 68 = .ok (.putfield 43, 3) := by decide +kernel
theorem dX1_noteDifference_71 : decode cX1_noteDifference 71 = .ok (.aload_n 0, 1) := by decide +kernel
theorem dX1_noteDifference_72 : decode cX1_noteDifference 72 = .ok (.getfield 173, 3) := by decide +kernel
theorem dX1_noteDifference_75 : decode cX1_noteDifference 75 = .ok (.iconst 3, 1) := by decide +kernel
theorem dX1_noteDifference_76 : decode cX1_noteDifference 76 = .ok (.if_icmp .lt 25, 3) := by decide +kernel
theorem dX1_noteDifference_79 : decode cX1_noteDifference 79 = .ok (.iload_n 2, 1) := by decide +kernel
theorem dX1_noteDifference_80 : decode cX1_noteDifference 80 = .ok (.invokestatic 176, 3) := by decide +kernel
theorem dX1_noteDifference_83 : decode cX1_noteDifference 83 = .ok (.ifCond .eq 18, 3) := by decide +kernel
theorem dX1_noteDifference_86 : decode cX1_noteDifference 86 = .ok (.aload_n 0, 1) := by decide +kernel
theorem dX1_noteDifference_87 : decode cX1_noteDifference 87 = .ok (.dup, 1) := by decide +kernel
theorem dX1_noteDifference_88 : decode cX1_noteDifference 88 = .ok (.getfield 123, 3) := by decide +kernel
theorem dX1_noteDifference_91 : decode cX1_noteDifference 91 = .ok (.iload_n 2, 1) := by decide +kernel
theorem dX1_noteDifference_92 : decode cX1_noteDifference 92 = .ok (.iadd, 1) := by decide +kernel
theorem dX1_noteDifference_93 : decode cX1_noteDifference 93 = .ok (.putfield 123, 3) := by decide +kernel
theorem dX1_noteDifference_96 : decode cX1_noteDifference 96 = .ok (.aload_n 0, 1) := by decide +kernel
theorem dX1_noteDifference_97 : decode cX1_noteDifference 97 = .ok (.iconst 0, 1) := by decide +kernel
theorem dX1_noteDifference_98 : decode cX1_noteDifference 98 = .ok (.putfield 173, 3) := by decide +kernel
theorem dX1_noteDifference_101 : decode cX1_noteDifference 101 = .ok (.return_, 1) := by decide +kernel
set_option maxRecDepth 20000 in
theorem ggX1_followsStreak_X1_isForetold : GoodIn wsX1_followsStreak wsX1_isForetold := goodIn_r _ [7, 8, 9, 10, 6, 11, 12, 13, 14, 15, 16, 17, 18, 19, 20, 21, 22, 23, 24, 25, 26] (by decide +kernel) (by decide +kernel)
set_option maxRecDepth 20000 in
theorem gX1_followsStreak_X1_isForetold : GoodIn wsX1_followsStreak (wsV RX1 110 RX1 yX1_isForetold wsX1_isForetold) := goodIn_app (goodIn_of _ (by decide +kernel)) ggX1_followsStreak_X1_isForetold
theorem dX1_followsStreak_0 : decode cX1_followsStreak 0 = .ok (.iload_n 1, 1) := by decide +kernel
theorem dX1_followsStreak_1 : decode cX1_followsStreak 1 = .ok (.aload_n 0, 1) := by decide +kernel
theorem dX1_followsStreak_2 : decode cX1_followsStreak 2 = .ok (.getfield 43, 3) := by decide +kernel
theorem dX1_followsStreak_5 : decode cX1_followsStreak 5 = .ok (.if_icmp .gt 5, 3) := by decide +kernel
theorem dX1_followsStreak_8 : decode cX1_followsStreak 8 = .ok (.iconst 0, 1) := by decide +kernel
theorem dX1_followsStreak_9 : decode cX1_followsStreak 9 = .ok (.ireturn, 1) := by decide +kernel
theorem dX1_followsStreak_10 : decode cX1_followsStreak 10 = .ok (.aload_n 0, 1) := by decide +kernel
theorem dX1_followsStreak_11 : decode cX1_followsStreak 11 = .ok (.getfield 43, 3) := by decide +kernel
theorem dX1_followsStreak_14 : decode cX1_followsStreak 14 = .ok (.iconst 1, 1) := by decide +kernel
theorem dX1_followsStreak_15 : decode cX1_followsStreak 15 = .ok (.iadd, 1) := by decide +kernel
theorem dX1_followsStreak_16 : decode cX1_followsStreak 16 = .ok (.istore_n 2, 1) := by decide +kernel
theorem dX1_followsStreak_17 : decode cX1_followsStreak 17 = .ok (.iload_n 2, 1) := by decide +kernel
theorem dX1_followsStreak_18 : decode cX1_followsStreak 18 = .ok (.iload_n 1, 1) := by decide +kernel
theorem dX1_followsStreak_19 : decode cX1_followsStreak 19 = .ok (.if_icmp .ge 46, 3) := by decide +kernel
theorem dX1_followsStreak_22 : decode cX1_followsStreak 22 = .ok (.iload_n 2, 1) := by decide +kernel
theorem dX1_followsStreak_23 : decode cX1_followsStreak 23 = .ok (.sipush 200, 3) := by decide +kernel
theorem dX1_followsStreak_26 : decode cX1_followsStreak 26 = .ok (.if_icmp .ge 39, 3) := by decide +kernel
theorem dX1_followsStreak_29 : decode cX1_followsStreak 29 = .ok (.aload_n 0, 1) := by decide +kernel
theorem dX1_followsStreak_30 : decode cX1_followsStreak 30 = .ok (.iload_n 2, 1) := by decide +kernel
theorem dX1_followsStreak_31 : decode cX1_followsStreak 31 = .ok (.invokevirtual 110, 3) := by decide +kernel
theorem dX1_followsStreak_34 : decode cX1_followsStreak 34 = .ok (.ifCond .eq 23, 3) := by decide +kernel
theorem dX1_followsStreak_37 : decode cX1_followsStreak 37 = .ok (.aload_n 0, 1) := by decide +kernel
theorem dX1_followsStreak_38 : decode cX1_followsStreak 38 = .ok (.getfield 27, 3) := by decide +kernel
theorem dX1_followsStreak_41 : decode cX1_followsStreak 41 = .ok (.iload_n 2, 1) := by decide +kernel
theorem dX1_followsStreak_42 : decode cX1_followsStreak 42 = .ok (.iaload, 1) := by decide +kernel
theorem dX1_followsStreak_43 : decode cX1_followsStreak 43 = .ok (.iconst 2, 1) := by decide +kernel
theorem dX1_followsStreak_44 : decode cX1_followsStreak 44 = .ok (.if_icmp .eq 15, 3) := by decide +kernel
theorem dX1_followsStreak_47 : decode cX1_followsStreak 47 = .ok (.aload_n 0, 1) := by decide +kernel
theorem dX1_followsStreak_48 : decode cX1_followsStreak 48 = .ok (.getfield 27, 3) := by decide +kernel
theorem dX1_followsStreak_51 : decode cX1_followsStreak 51 = .ok (.iload_n 2, 1) := by decide +kernel
theorem dX1_followsStreak_52 : decode cX1_followsStreak 52 = .ok (.iaload, 1) := by decide +kernel
theorem dX1_followsStreak_53 : decode cX1_followsStreak 53 = .ok (.iconst 3, 1) := by decide +kernel
theorem dX1_followsStreak_54 : decode cX1_followsStreak 54 = .ok (.if_icmp .eq 5, 3) := by decide +kernel
theorem dX1_followsStreak_57 : decode cX1_followsStreak 57 = .ok (.iconst 0, 1) := by decide +kernel
theorem dX1_followsStreak_58 : decode cX1_followsStreak 58 = .ok (.ireturn, 1) := by decide +kernel
theorem dX1_followsStreak_59 : decode cX1_followsStreak 59 = .ok (.iinc 2 1, 3) := by decide +kernel
theorem dX1_followsStreak_62 : decode cX1_followsStreak 62 = .ok (.goto (-45), 3) := by decide +kernel
theorem dX1_followsStreak_65 : decode cX1_followsStreak 65 = .ok (.iconst 1, 1) := by decide +kernel
theorem dX1_followsStreak_66 : decode cX1_followsStreak 66 = .ok (.ireturn, 1) := by decide +kernel
set_option maxRecDepth 20000 in
theorem ggX1_canShift_X1_isWithin : GoodIn wsX1_canShift wsX1_isWithin := goodIn_r _ [4] (by decide +kernel) (by decide +kernel)
set_option maxRecDepth 20000 in
theorem gX1_canShift_X1_isWithin : GoodIn wsX1_canShift (va_wsS RX1 46 yX1_isWithin wsX1_isWithin) := goodIn_app (goodIn_of _ (by decide +kernel)) ggX1_canShift_X1_isWithin
theorem dX1_canShift_0 : decode cX1_canShift 0 = .ok (.iload_n 0, 1) := by decide +kernel
theorem dX1_canShift_1 : decode cX1_canShift 1 = .ok (.ifCond .eq 18, 3) := by decide +kernel
theorem dX1_canShift_4 : decode cX1_canShift 4 = .ok (.iload_n 0, 1) := by decide +kernel
theorem dX1_canShift_5 : decode cX1_canShift 5 = .ok (.bipush (-15), 2) := by decide +kernel
theorem dX1_canShift_7 : decode cX1_canShift 7 = .ok (.bipush 15, 2) := by decide +kernel
theorem dX1_canShift_9 : decode cX1_canShift 9 = .ok (.invokestatic 46, 3) := by decide +kernel
theorem dX1_canShift_12 : decode cX1_canShift 12 = .ok (.ifCond .eq 7, 3) := by decide +kernel
theorem dX1_canShift_15 : decode cX1_canShift 15 = .ok (.iconst 1, 1) := by decide +kernel
theorem dX1_canShift_16 : decode cX1_canShift 16 = .ok (.goto 4, 3) := by decide +kernel
theorem dX1_canShift_19 : decode cX1_canShift 19 = .ok (.iconst 0, 1) := by decide +kernel
theorem dX1_canShift_20 : decode cX1_canShift 20 = .ok (.ireturn, 1) := by decide +kernel
set_option maxRecDepth 20000 in
theorem ggX1_isLate_X1_isForetold : GoodIn wsX1_isLate wsX1_isForetold := goodIn_r _ [9, 10, 11, 12, 8, 13, 14, 15, 16, 17, 18, 19, 20, 21, 22, 23, 24, 25, 26, 27, 28] (by decide +kernel) (by decide +kernel)
set_option maxRecDepth 20000 in
theorem gX1_isLate_X1_isForetold : GoodIn wsX1_isLate (wsV RX1 110 RX1 yX1_isForetold wsX1_isForetold) := goodIn_app (goodIn_of _ (by decide +kernel)) ggX1_isLate_X1_isForetold
theorem dX1_isLate_0 : decode cX1_isLate 0 = .ok (.aload_n 0, 1) := by decide +kernel
theorem dX1_isLate_1 : decode cX1_isLate 1 = .ok (.iload_n 1, 1) := by decide +kernel
theorem dX1_isLate_2 : decode cX1_isLate 2 = .ok (.invokevirtual 110, 3) := by decide +kernel
theorem dX1_isLate_5 : decode cX1_isLate 5 = .ok (.ifCond .eq 34, 3) := by decide +kernel
theorem dX1_isLate_8 : decode cX1_isLate 8 = .ok (.aload_n 0, 1) := by decide +kernel
theorem dX1_isLate_9 : decode cX1_isLate 9 = .ok (.getfield 27, 3) := by decide +kernel
theorem dX1_isLate_12 : decode cX1_isLate 12 = .ok (.iload_n 1, 1) := by decide +kernel
theorem dX1_isLate_13 : decode cX1_isLate 13 = .ok (.iaload, 1) := by decide +kernel
theorem dX1_isLate_14 : decode cX1_isLate 14 = .ok (.ifCond .ne 25, 3) := by decide +kernel
theorem dX1_isLate_17 : decode cX1_isLate 17 = .ok (.aload_n 0, 1) := by decide +kernel
theorem dX1_isLate_18 : decode cX1_isLate 18 = .ok (.getfield 74, 3) := by decide +kernel
theorem dX1_isLate_21 : decode cX1_isLate 21 = .ok (.aload_n 0, 1) := by decide +kernel
theorem dX1_isLate_22 : decode cX1_isLate 22 = .ok (.getfield 23, 3) := by decide +kernel
theorem dX1_isLate_25 : decode cX1_isLate 25 = .ok (.iload_n 1, 1) := by decide +kernel
theorem dX1_isLate_26 : decode cX1_isLate 26 = .ok (.iaload, 1) := by decide +kernel
theorem dX1_isLate_27 : decode cX1_isLate 27 = .ok (.isub, 1) := by decide +kernel
theorem dX1_isLate_28 : decode cX1_isLate 28 = .ok (.aload_n 0, 1) := by decide +kernel
theorem dX1_isLate_29 : decode cX1_isLate 29 = .ok (.getfield 16, 3) := by decide +kernel
theorem dX1_isLate_32 : decode cX1_isLate 32 = .ok (.if_icmp .le 7, 3) := by decide +kernel
theorem dX1_isLate_35 : decode cX1_isLate 35 = .ok (.iconst 1, 1) := by decide +kernel
theorem dX1_isLate_36 : decode cX1_isLate 36 = .ok (.goto 4, 3) := by decide +kernel
theorem dX1_isLate_39 : decode cX1_isLate 39 = .ok (.iconst 0, 1) := by decide +kernel
theorem dX1_isLate_40 : decode cX1_isLate 40 = .ok (.ireturn, 1) := by decide +kernel
set_option maxRecDepth 20000 in
theorem ggX1_isTimeToClaim_X1_isIssue : GoodIn wsX1_isTimeToClaim wsX1_isIssue := goodIn_r _ [8] (by decide +kernel) (by decide +kernel)
set_option maxRecDepth 20000 in
theorem gX1_isTimeToClaim_X1_isIssue : GoodIn wsX1_isTimeToClaim (va_wsS RX1 82 yX1_isIssue wsX1_isIssue) := goodIn_app (goodIn_of _ (by decide +kernel)) ggX1_isTimeToClaim_X1_isIssue
theorem dX1_isTimeToClaim_0 : decode cX1_isTimeToClaim 0 = .ok (.iload_n 1, 1) := by decide +kernel
theorem dX1_isTimeToClaim_1 : decode cX1_isTimeToClaim 1 = .ok (.invokestatic 82, 3) := by decide +kernel
theorem dX1_isTimeToClaim_4 : decode cX1_isTimeToClaim 4 = .ok (.ifCond .eq 34, 3) := by decide +kernel
theorem dX1_isTimeToClaim_7 : decode cX1_isTimeToClaim 7 = .ok (.aload_n 0, 1) := by decide +kernel
theorem dX1_isTimeToClaim_8 : decode cX1_isTimeToClaim 8 = .ok (.getfield 30, 3) := by decide +kernel
theorem dX1_isTimeToClaim_11 : decode cX1_isTimeToClaim 11 = .ok (.iload_n 1, 1) := by decide +kernel
theorem dX1_isTimeToClaim_12 : decode cX1_isTimeToClaim 12 = .ok (.iaload, 1) := by decide +kernel
theorem dX1_isTimeToClaim_13 : decode cX1_isTimeToClaim 13 = .ok (.ifCond .eq 21, 3) := by decide +kernel
theorem dX1_isTimeToClaim_16 : decode cX1_isTimeToClaim 16 = .ok (.aload_n 0, 1) := by decide +kernel
theorem dX1_isTimeToClaim_17 : decode cX1_isTimeToClaim 17 = .ok (.getfield 74, 3) := by decide +kernel
theorem dX1_isTimeToClaim_20 : decode cX1_isTimeToClaim 20 = .ok (.aload_n 0, 1) := by decide +kernel
theorem dX1_isTimeToClaim_21 : decode cX1_isTimeToClaim 21 = .ok (.getfield 33, 3) := by decide +kernel
theorem dX1_isTimeToClaim_24 : decode cX1_isTimeToClaim 24 = .ok (.iload_n 1, 1) := by decide +kernel
theorem dX1_isTimeToClaim_25 : decode cX1_isTimeToClaim 25 = .ok (.iaload, 1) := by decide +kernel
theorem dX1_isTimeToClaim_26 : decode cX1_isTimeToClaim 26 = .ok (.isub, 1) := by decide +kernel
theorem dX1_isTimeToClaim_27 : decode cX1_isTimeToClaim 27 = .ok (.aload_n 0, 1) := by decide +kernel
theorem dX1_isTimeToClaim_28 : decode cX1_isTimeToClaim 28 = .ok (.getfield 20, 3) := by decide +kernel
theorem dX1_isTimeToClaim_31 : decode cX1_isTimeToClaim 31 = .ok (.if_icmp .lt 7, 3) := by decide +kernel
theorem dX1_isTimeToClaim_34 : decode cX1_isTimeToClaim 34 = .ok (.iconst 1, 1) := by decide +kernel
theorem dX1_isTimeToClaim_35 : decode cX1_isTimeToClaim 35 = .ok (.goto 4, 3) := by decide +kernel
theorem dX1_isTimeToClaim_38 : decode cX1_isTimeToClaim 38 = .ok (.iconst 0, 1) := by decide +kernel
theorem dX1_isTimeToClaim_39 : decode cX1_isTimeToClaim 39 = .ok (.ireturn, 1) := by decide +kernel
set_option maxRecDepth 20000 in
theorem ggX1_isInHouse_X1_isForetold : GoodIn wsX1_isInHouse wsX1_isForetold := goodIn_r _ [6, 7, 8, 9, 5, 10, 11, 12, 13, 14, 15, 16, 17, 18, 19, 20, 21, 22, 23, 24, 25] (by decide +kernel) (by decide +kernel)
set_option maxRecDepth 20000 in
theorem gX1_isInHouse_X1_isForetold : GoodIn wsX1_isInHouse (wsV RX1 110 RX1 yX1_isForetold wsX1_isForetold) := goodIn_app (goodIn_of _ (by decide +kernel)) ggX1_isInHouse_X1_isForetold
theorem dX1_isInHouse_0 : decode cX1_isInHouse 0 = .ok (.aload_n 0, 1) := by decide +kernel
theorem dX1_isInHouse_1 : decode cX1_isInHouse 1 = .ok (.iload_n 1, 1) := by decide +kernel
theorem dX1_isInHouse_2 : decode cX1_isInHouse 2 = .ok (.invokevirtual 110, 3) := by decide +kernel
theorem dX1_isInHouse_5 : decode cX1_isInHouse 5 = .ok (.ifCond .eq 27, 3) := by decide +kernel
theorem dX1_isInHouse_8 : decode cX1_isInHouse 8 = .ok (.aload_n 0, 1) := by decide +kernel
theorem dX1_isInHouse_9 : decode cX1_isInHouse 9 = .ok (.getfield 27, 3) := by decide +kernel
theorem dX1_isInHouse_12 : decode cX1_isInHouse 12 = .ok (.iload_n 1, 1) := by decide +kernel
theorem dX1_isInHouse_13 : decode cX1_isInHouse 13 = .ok (.iaload, 1) := by decide +kernel
theorem dX1_isInHouse_14 : decode cX1_isInHouse 14 = .ok (.iconst 1, 1) := by decide +kernel
theorem dX1_isInHouse_15 : decode cX1_isInHouse 15 = .ok (.if_icmp .eq 13, 3) := by decide +kernel
theorem dX1_isInHouse_18 : decode cX1_isInHouse 18 = .ok (.aload_n 0, 1) := by decide +kernel
theorem dX1_isInHouse_19 : decode cX1_isInHouse 19 = .ok (.getfield 27, 3) := by decide +kernel
theorem dX1_isInHouse_22 : decode cX1_isInHouse 22 = .ok (.iload_n 1, 1) := by decide +kernel
theorem dX1_isInHouse_23 : decode cX1_isInHouse 23 = .ok (.iaload, 1) := by decide +kernel
theorem dX1_isInHouse_24 : decode cX1_isInHouse 24 = .ok (.iconst 2, 1) := by decide +kernel
theorem dX1_isInHouse_25 : decode cX1_isInHouse 25 = .ok (.if_icmp .ne 7, 3) := by decide +kernel
theorem dX1_isInHouse_28 : decode cX1_isInHouse 28 = .ok (.iconst 1, 1) := by decide +kernel
theorem dX1_isInHouse_29 : decode cX1_isInHouse 29 = .ok (.goto 4, 3) := by decide +kernel
theorem dX1_isInHouse_32 : decode cX1_isInHouse 32 = .ok (.iconst 0, 1) := by decide +kernel
theorem dX1_isInHouse_33 : decode cX1_isInHouse 33 = .ok (.ireturn, 1) := by decide +kernel
set_option maxRecDepth 20000 in
theorem ggX1_isRangeStart_X1_isInHouse : GoodIn wsX1_isRangeStart wsX1_isInHouse := goodIn_r _ [5, 6, 7, 8, 9, 4, 10, 11, 12, 13, 14, 15, 16, 17, 18, 19, 20, 21, 22, 23, 24, 25, 26, 27, 28, 29] (by decide +kernel) (by decide +kernel)
set_option maxRecDepth 20000 in
theorem gX1_isRangeStart_X1_isInHouse : GoodIn wsX1_isRangeStart (wsV RX1 153 RX1 yX1_isInHouse wsX1_isInHouse) := goodIn_app (goodIn_of _ (by decide +kernel)) ggX1_isRangeStart_X1_isInHouse
theorem dX1_isRangeStart_0 : decode cX1_isRangeStart 0 = .ok (.aload_n 0, 1) := by decide +kernel
theorem dX1_isRangeStart_1 : decode cX1_isRangeStart 1 = .ok (.iload_n 1, 1) := by decide +kernel
theorem dX1_isRangeStart_2 : decode cX1_isRangeStart 2 = .ok (.invokevirtual 153, 3) := by decide +kernel
theorem dX1_isRangeStart_5 : decode cX1_isRangeStart 5 = .ok (.ifCond .eq 17, 3) := by decide +kernel
theorem dX1_isRangeStart_8 : decode cX1_isRangeStart 8 = .ok (.aload_n 0, 1) := by decide +kernel
theorem dX1_isRangeStart_9 : decode cX1_isRangeStart 9 = .ok (.iload_n 1, 1) := by decide +kernel
theorem dX1_isRangeStart_10 : decode cX1_isRangeStart 10 = .ok (.iconst 1, 1) := by decide +kernel
theorem dX1_isRangeStart_11 : decode cX1_isRangeStart 11 = .ok (.isub, 1) := by decide +kernel
theorem dX1_isRangeStart_12 : decode cX1_isRangeStart 12 = .ok (.invokevirtual 153, 3) := by decide +kernel
theorem dX1_isRangeStart_15 : decode cX1_isRangeStart 15 = .ok (.ifCond .ne 7, 3) := by decide +kernel
theorem dX1_isRangeStart_18 : decode cX1_isRangeStart 18 = .ok (.iconst 1, 1) := by decide +kernel
theorem dX1_isRangeStart_19 : decode cX1_isRangeStart 19 = .ok (.goto 4, 3) := by decide +kernel
theorem dX1_isRangeStart_22 : decode cX1_isRangeStart 22 = .ok (.iconst 0, 1) := by decide +kernel
theorem dX1_isRangeStart_23 : decode cX1_isRangeStart 23 = .ok (.ireturn, 1) := by decide +kernel
set_option maxRecDepth 20000 in
theorem ggX1_startOfRange_X1_isRangeStart : GoodIn wsX1_startOfRange wsX1_isRangeStart := goodIn_r _ [5, 6, 7, 8, 4, 9, 10, 11, 12, 13, 14, 15, 16, 17, 18, 19, 20, 21, 22, 23, 24, 25, 26, 27, 28, 29, 30, 31, 32, 33] (by decide +kernel) (by decide +kernel)
set_option maxRecDepth 20000 in
theorem gX1_startOfRange_X1_isRangeStart : GoodIn wsX1_startOfRange (wsV RX1 133 RX1 yX1_isRangeStart wsX1_isRangeStart) := goodIn_app (goodIn_of _ (by decide +kernel)) ggX1_startOfRange_X1_isRangeStart
theorem dX1_startOfRange_0 : decode cX1_startOfRange 0 = .ok (.iconst 0, 1) := by decide +kernel
theorem dX1_startOfRange_1 : decode cX1_startOfRange 1 = .ok (.istore_n 2, 1) := by decide +kernel
theorem dX1_startOfRange_2 : decode cX1_startOfRange 2 = .ok (.iconst 0, 1) := by decide +kernel
theorem dX1_startOfRange_3 : decode cX1_startOfRange 3 = .ok (.istore_n 3, 1) := by decide +kernel
theorem dX1_startOfRange_4 : decode cX1_startOfRange 4 = .ok (.iload_n 3, 1) := by decide +kernel
theorem dX1_startOfRange_5 : decode cX1_startOfRange 5 = .ok (.sipush 200, 3) := by decide +kernel
theorem dX1_startOfRange_8 : decode cX1_startOfRange 8 = .ok (.if_icmp .ge 27, 3) := by decide +kernel
theorem dX1_startOfRange_11 : decode cX1_startOfRange 11 = .ok (.aload_n 0, 1) := by decide +kernel
theorem dX1_startOfRange_12 : decode cX1_startOfRange 12 = .ok (.iload_n 3, 1) := by decide +kernel
theorem dX1_startOfRange_13 : decode cX1_startOfRange 13 = .ok (.invokevirtual 133, 3) := by decide +kernel
theorem dX1_startOfRange_16 : decode cX1_startOfRange 16 = .ok (.ifCond .eq 13, 3) := by decide +kernel
theorem dX1_startOfRange_19 : decode cX1_startOfRange 19 = .ok (.iload_n 2, 1) := by decide +kernel
theorem dX1_startOfRange_20 : decode cX1_startOfRange 20 = .ok (.iload_n 1, 1) := by decide +kernel
theorem dX1_startOfRange_21 : decode cX1_startOfRange 21 = .ok (.if_icmp .ne 5, 3) := by decide +kernel
theorem dX1_startOfRange_24 : decode cX1_startOfRange 24 = .ok (.iload_n 3, 1) := by decide +kernel
theorem dX1_startOfRange_25 : decode cX1_startOfRange 25 = .ok (.ireturn, 1) := by decide +kernel
theorem dX1_startOfRange_26 : decode cX1_startOfRange 26 = .ok (.iinc 2 1, 3) := by decide +kernel
theorem dX1_startOfRange_29 : decode cX1_startOfRange 29 = .ok (.iinc 3 1, 3) := by decide +kernel
theorem dX1_startOfRange_32 : decode cX1_startOfRange 32 = .ok (.goto (-28), 3) := by decide +kernel
theorem dX1_startOfRange_35 : decode cX1_startOfRange 35 = .ok (.iconst (-1), 1) := by decide +kernel
theorem dX1_startOfRange_36 : decode cX1_startOfRange 36 = .ok (.ireturn, 1) := by decide +kernel
set_option maxRecDepth 20000 in
theorem ggX1_endOfRange_X1_isInHouse : GoodIn wsX1_endOfRange wsX1_isInHouse := goodIn_r _ [5, 6, 7, 8, 9, 4, 10, 11, 12, 13, 14, 15, 16, 17, 18, 19, 20, 21, 22, 23, 24, 25, 26, 27, 28, 29] (by decide +kernel) (by decide +kernel)
set_option maxRecDepth 20000 in
theorem gX1_endOfRange_X1_isInHouse : GoodIn wsX1_endOfRange (wsV RX1 153 RX1 yX1_isInHouse wsX1_isInHouse) := goodIn_app (goodIn_of _ (by decide +kernel)) ggX1_endOfRange_X1_isInHouse
theorem dX1_endOfRange_0 : decode cX1_endOfRange 0 = .ok (.iload_n 1, 1) := by decide +kernel
theorem dX1_endOfRange_1 : decode cX1_endOfRange 1 = .ok (.istore_n 2, 1) := by decide +kernel
theorem dX1_endOfRange_2 : decode cX1_endOfRange 2 = .ok (.iload_n 2, 1) := by decide +kernel
theorem dX1_endOfRange_3 : decode cX1_endOfRange 3 = .ok (.sipush 199, 3) := by decide +kernel
theorem dX1_endOfRange_6 : decode cX1_endOfRange 6 = .ok (.if_icmp .ge 19, 3) := by decide +kernel
theorem dX1_endOfRange_9 : decode cX1_endOfRange 9 = .ok (.aload_n 0, 1) := by decide +kernel
theorem dX1_endOfRange_10 : decode cX1_endOfRange 10 = .ok (.iload_n 2, 1) := by decide +kernel
theorem dX1_endOfRange_11 : decode cX1_endOfRange 11 = .ok (.iconst 1, 1) := by decide +kernel
theorem dX1_endOfRange_12 : decode cX1_endOfRange 12 = .ok (.iadd, 1) := by decide +kernel
theorem dX1_endOfRange_13 : decode cX1_endOfRange 13 = .ok (.invokevirtual 153, 3) := by decide +kernel
theorem dX1_endOfRange_16 : decode cX1_endOfRange 16 = .ok (.ifCond .eq 9, 3) := by decide +kernel
theorem dX1_endOfRange_19 : decode cX1_endOfRange 19 = .ok (.iinc 2 1, 3) := by decide +kernel
theorem dX1_endOfRange_22 : decode cX1_endOfRange 22 = .ok (.goto (-20), 3) := by decide +kernel
theorem dX1_endOfRange_25 : decode cX1_endOfRange 25 = .ok (.iload_n 2, 1) := by decide +kernel
theorem dX1_endOfRange_26 : decode cX1_endOfRange 26 = .ok (.ireturn, 1) := by decide +kernel
end
section
theorem dX2_init_0 : decode cX2_init 0 = .ok (.aload_n 0, 1) := by decide +kernel
theorem dX2_init_1 : decode cX2_init 1 = .ok (.invokespecial 1, 3) := by decide +kernel
theorem dX2_init_4 : decode cX2_init 4 = .ok (.aload_n 0, 1) := by decide +kernel
theorem dX2_init_5 : decode cX2_init 5 = .ok (.bipush 30, 2) := by decide +kernel
theorem dX2_init_7 : decode cX2_init 7 = .ok (.putfield 7, 3) := by decide +kernel
theorem dX2_init_10 : decode cX2_init 10 = .ok (.aload_n 0, 1) := by decide +kernel
theorem dX2_init_11 : decode cX2_init 11 = .ok (.bipush 12, 2) := by decide +kernel
theorem dX2_init_13 : decode cX2_init 13 = .ok (.putfield 13, 3) := by decide +kernel
theorem dX2_init_16 : decode cX2_init 16 = .ok (.aload_n 0, 1) := by decide +kernel
theorem dX2_init_17 : decode cX2_init 17 = .ok (.iconst 1, 1) := by decide +kernel
theorem dX2_init_18 : decode cX2_init 18 = .ok (.putfield 16, 3) := by decide +kernel
theorem dX2_init_21 : decode cX2_init 21 = .ok (.aload_n 0, 1) := by decide +kernel
theorem dX2_init_22 : decode cX2_init 22 = .ok (.bipush 7, 2) := by decide +kernel
theorem dX2_init_24 : decode cX2_init 24 = .ok (.putfield 20, 3) := by decide +kernel
theorem dX2_init_27 : decode cX2_init 27 = .ok (.aload_n 0, 1) := by decide +kernel
theorem dX2_init_28 : decode cX2_init 28 = .ok (.bipush 30, 2) := by decide +kernel
theorem dX2_init_30 : decode cX2_init 30 = .ok (.putfield 23, 3) := by decide +kernel
theorem dX2_init_33 : decode cX2_init 33 = .ok (.aload_n 0, 1) := by decide +kernel
theorem dX2_init_34 : decode cX2_init 34 = .ok (.sipush 200, 3) := by decide +kernel
theorem dX2_init_37 : decode cX2_init 37 = .ok (.newarray .int, 2) := by decide +kernel
theorem dX2_init_39 : decode cX2_init 39 = .ok (.putfield 26, 3) := by decide +kernel
theorem dX2_init_42 : decode cX2_init 42 = .ok (.aload_n 0, 1) := by decide +kernel
theorem dX2_init_43 : decode cX2_init 43 = .ok (.sipush 200, 3) := by decide +kernel
theorem dX2_init_46 : decode cX2_init 46 = .ok (.newarray .int, 2) := by decide +kernel
theorem dX2_init_48 : decode cX2_init 48 = .ok (.putfield 30, 3) := by decide +kernel
theorem dX2_init_51 : decode cX2_init 51 = .ok (.aload_n 0, 1) := by decide +kernel
theorem dX2_init_52 : decode cX2_init 52 = .ok (.sipush 200, 3) := by decide +kernel
theorem dX2_init_55 : decode cX2_init 55 = .ok (.newarray .int, 2) := by decide +kernel
theorem dX2_init_57 : decode cX2_init 57 = .ok (.putfield 33, 3) := by decide +kernel
theorem dX2_init_60 : decode cX2_init 60 = .ok (.aload_n 0, 1) := by decide +kernel
theorem dX2_init_61 : decode cX2_init 61 = .ok (.sipush 200, 3) := by decide +kernel
theorem dX2_init_64 : decode cX2_init 64 = .ok (.newarray .int, 2) := by decide +kernel
theorem dX2_init_66 : decode cX2_init 66 = .ok (.putfield 36, 3) := by decide +kernel
theorem dX2_init_69 : decode cX2_init 69 = .ok (.aload_n 0, 1) := by decide +kernel
theorem dX2_init_70 : decode cX2_init 70 = .ok (.sipush 200, 3) := by decide +kernel
theorem dX2_init_73 : decode cX2_init 73 = .ok (.newarray .boolean, 2) := by decide +kernel
theorem dX2_init_75 : decode cX2_init 75 = .ok (.putfield 39, 3) := by decide +kernel
theorem dX2_init_78 : decode cX2_init 78 = .ok (.aload_n 0, 1) := by decide +kernel
theorem dX2_init_79 : decode cX2_init 79 = .ok (.iconst (-1), 1) := by decide +kernel
theorem dX2_init_80 : decode cX2_init 80 = .ok (.putfield 43, 3) := by decide +kernel
theorem dX2_init_83 : decode cX2_init 83 = .ok (.aload_n 0, 1) := by decide +kernel
theorem dX2_init_84 : decode cX2_init 84 = .ok (.iconst 1, 1) := by decide +kernel
theorem dX2_init_85 : decode cX2_init 85 = .ok (.putfield 46, 3) := by decide +kernel
theorem dX2_init_88 : decode cX2_init 88 = .ok (.return_, 1) := by decide +kernel
theorem dX2_thrown_0 : decode cX2_thrown 0 = .ok (.aload_n 0, 1) := by decide +kernel
theorem dX2_thrown_1 : decode cX2_thrown 1 = .ok (.getfield 49, 3) := by decide +kernel
theorem dX2_thrown_4 : decode cX2_thrown 4 = .ok (.ireturn, 1) := by decide +kernel
theorem dX2_can_0 : decode cX2_can 0 = .ok (.aload_n 0, 1) := by decide +kernel
theorem dX2_can_1 : decode cX2_can 1 = .ok (.iload_n 1, 1) := by decide +kernel
theorem dX2_can_2 : decode cX2_can 2 = .ok (.putfield 49, 3) := by decide +kernel
theorem dX2_can_5 : decode cX2_can 5 = .ok (.iload_n 1, 1) := by decide +kernel
theorem dX2_can_6 : decode cX2_can 6 = .ok (.ifCond .ne 7, 3) := by decide +kernel
theorem dX2_can_9 : decode cX2_can 9 = .ok (.iconst 1, 1) := by decide +kernel
theorem dX2_can_10 : decode cX2_can 10 = .ok (.goto 4, 3) := by decide +kernel
theorem dX2_can_13 : decode cX2_can 13 = .ok (.iconst 0, 1) := by decide +kernel
theorem dX2_can_14 : decode cX2_can 14 = .ok (.ireturn, 1) := by decide +kernel
theorem dX2_isIn_0 : decode cX2_isIn 0 = .ok (.iload_n 0, 1) := by decide +kernel
theorem dX2_isIn_1 : decode cX2_isIn 1 = .ok (.iload_n 1, 1) := by decide +kernel
theorem dX2_isIn_2 : decode cX2_isIn 2 = .ok (.if_icmp .lt 12, 3) := by decide +kernel
theorem dX2_isIn_5 : decode cX2_isIn 5 = .ok (.iload_n 0, 1) := by decide +kernel
theorem dX2_isIn_6 : decode cX2_isIn 6 = .ok (.iload_n 2, 1) := by decide +kernel
theorem dX2_isIn_7 : decode cX2_isIn 7 = .ok (.if_icmp .gt 7, 3) := by decide +kernel
theorem dX2_isIn_10 : decode cX2_isIn 10 = .ok (.iconst 1, 1) := by decide +kernel
theorem dX2_isIn_11 : decode cX2_isIn 11 = .ok (.goto 4, 3) := by decide +kernel
theorem dX2_isIn_14 : decode cX2_isIn 14 = .ok (.iconst 0, 1) := by decide +kernel
theorem dX2_isIn_15 : decode cX2_isIn 15 = .ok (.ireturn, 1) := by decide +kernel
set_option maxRecDepth 20000 in
theorem ggX2_isIssue_X2_isIn : GoodIn wsX2_isIssue wsX2_isIn := goodIn_r _ [4] (by decide +kernel) (by decide +kernel)
set_option maxRecDepth 20000 in
theorem gX2_isIssue_X2_isIn : GoodIn wsX2_isIssue (va_wsS RX2 52 yX2_isIn wsX2_isIn) := goodIn_app (goodIn_of _ (by decide +kernel)) ggX2_isIssue_X2_isIn
theorem dX2_isIssue_0 : decode cX2_isIssue 0 = .ok (.iload_n 0, 1) := by decide +kernel
theorem dX2_isIssue_1 : decode cX2_isIssue 1 = .ok (.iconst 0, 1) := by decide +kernel
theorem dX2_isIssue_2 : decode cX2_isIssue 2 = .ok (.sipush 199, 3) := by decide +kernel
theorem dX2_isIssue_5 : decode cX2_isIssue 5 = .ok (.invokestatic 52, 3) := by decide +kernel
theorem dX2_isIssue_8 : decode cX2_isIssue 8 = .ok (.ireturn, 1) := by decide +kernel
set_option maxRecDepth 20000 in
theorem ggX2_isForetold_X2_isIn : GoodIn wsX2_isForetold wsX2_isIn := goodIn_r _ [5] (by decide +kernel) (by decide +kernel)
set_option maxRecDepth 20000 in
theorem gX2_isForetold_X2_isIn : GoodIn wsX2_isForetold (va_wsS RX2 52 yX2_isIn wsX2_isIn) := goodIn_app (goodIn_of _ (by decide +kernel)) ggX2_isForetold_X2_isIn
theorem dX2_isForetold_0 : decode cX2_isForetold 0 = .ok (.iload_n 1, 1) := by decide +kernel
theorem dX2_isForetold_1 : decode cX2_isForetold 1 = .ok (.iconst 0, 1) := by decide +kernel
theorem dX2_isForetold_2 : decode cX2_isForetold 2 = .ok (.aload_n 0, 1) := by decide +kernel
theorem dX2_isForetold_3 : decode cX2_isForetold 3 = .ok (.getfield 46, 3) := by decide +kernel
theorem dX2_isForetold_6 : decode cX2_isForetold 6 = .ok (.iconst 1, 1) := by decide +kernel
theorem dX2_isForetold_7 : decode cX2_isForetold 7 = .ok (.isub, 1) := by decide +kernel
theorem dX2_isForetold_8 : decode cX2_isForetold 8 = .ok (.invokestatic 52, 3) := by decide +kernel
theorem dX2_isForetold_11 : decode cX2_isForetold 11 = .ok (.ireturn, 1) := by decide +kernel
theorem dX2_isBarred_0 : decode cX2_isBarred 0 = .ok (.aload_n 0, 1) := by decide +kernel
theorem dX2_isBarred_1 : decode cX2_isBarred 1 = .ok (.getfield 56, 3) := by decide +kernel
theorem dX2_isBarred_4 : decode cX2_isBarred 4 = .ok (.iload_n 1, 1) := by decide +kernel
theorem dX2_isBarred_5 : decode cX2_isBarred 5 = .ok (.bipush 30, 2) := by decide +kernel
theorem dX2_isBarred_7 : decode cX2_isBarred 7 = .ok (.idiv, 1) := by decide +kernel
theorem dX2_isBarred_8 : decode cX2_isBarred 8 = .ok (.bipush 12, 2) := by decide +kernel
theorem dX2_isBarred_10 : decode cX2_isBarred 10 = .ok (.irem, 1) := by decide +kernel
theorem dX2_isBarred_11 : decode cX2_isBarred 11 = .ok (.ishr, 1) := by decide +kernel
theorem dX2_isBarred_12 : decode cX2_isBarred 12 = .ok (.iconst 1, 1) := by decide +kernel
theorem dX2_isBarred_13 : decode cX2_isBarred 13 = .ok (.iand, 1) := by decide +kernel
theorem dX2_isBarred_14 : decode cX2_isBarred 14 = .ok (.iconst 1, 1) := by decide +kernel
theorem dX2_isBarred_15 : decode cX2_isBarred 15 = .ok (.if_icmp .ne 7, 3) := by decide +kernel
theorem dX2_isBarred_18 : decode cX2_isBarred 18 = .ok (.iconst 1, 1) := by decide +kernel
theorem dX2_isBarred_19 : decode cX2_isBarred 19 = .ok (.goto 4, 3) := by decide +kernel
theorem dX2_isBarred_22 : decode cX2_isBarred 22 = .ok (.iconst 0, 1) := by decide +kernel
theorem dX2_isBarred_23 : decode cX2_isBarred 23 = .ok (.ireturn, 1) := by decide +kernel
set_option maxRecDepth 20000 in
theorem ggX2_nextDay_X2_isBarred : GoodIn wsX2_nextDay wsX2_isBarred := goodIn_r _ [9, 10, 11, 12, 13, 14, 15, 16, 17, 18, 19, 20, 21, 22, 23, 24, 25, 26, 27, 28] (by decide +kernel) (by decide +kernel)
set_option maxRecDepth 20000 in
theorem gX2_nextDay_X2_isBarred : GoodIn wsX2_nextDay (wsV RX2 62 RX2 yX2_isBarred wsX2_isBarred) := goodIn_app (goodIn_of _ (by decide +kernel)) ggX2_nextDay_X2_isBarred
theorem dX2_nextDay_0 : decode cX2_nextDay 0 = .ok (.aload_n 0, 1) := by decide +kernel
theorem dX2_nextDay_1 : decode cX2_nextDay 1 = .ok (.getfield 26, 3) := by decide +kernel
theorem dX2_nextDay_4 : decode cX2_nextDay 4 = .ok (.aload_n 0, 1) := by decide +kernel
theorem dX2_nextDay_5 : decode cX2_nextDay 5 = .ok (.getfield 46, 3) := by decide +kernel
theorem dX2_nextDay_8 : decode cX2_nextDay 8 = .ok (.iconst 1, 1) := by decide +kernel
theorem dX2_nextDay_9 : decode cX2_nextDay 9 = .ok (.isub, 1) := by decide +kernel
theorem dX2_nextDay_10 : decode cX2_nextDay 10 = .ok (.iaload, 1) := by decide +kernel
theorem dX2_nextDay_11 : decode cX2_nextDay 11 = .ok (.istore_n 1, 1) := by decide +kernel
theorem dX2_nextDay_12 : decode cX2_nextDay 12 = .ok (.iload_n 1, 1) := by decide +kernel
theorem dX2_nextDay_13 : decode cX2_nextDay 13 = .ok (.aload_n 0, 1) := by decide +kernel
theorem dX2_nextDay_14 : decode cX2_nextDay 14 = .ok (.getfield 7, 3) := by decide +kernel
theorem dX2_nextDay_17 : decode cX2_nextDay 17 = .ok (.iadd, 1) := by decide +kernel
theorem dX2_nextDay_18 : decode cX2_nextDay 18 = .ok (.aload_n 0, 1) := by decide +kernel
theorem dX2_nextDay_19 : decode cX2_nextDay 19 = .ok (.getfield 59, 3) := by decide +kernel
theorem dX2_nextDay_22 : decode cX2_nextDay 22 = .ok (.iadd, 1) := by decide +kernel
theorem dX2_nextDay_23 : decode cX2_nextDay 23 = .ok (.istore_n 2, 1) := by decide +kernel
theorem dX2_nextDay_24 : decode cX2_nextDay 24 = .ok (.iload_n 2, 1) := by decide +kernel
theorem dX2_nextDay_25 : decode cX2_nextDay 25 = .ok (.iload_n 1, 1) := by decide +kernel
theorem dX2_nextDay_26 : decode cX2_nextDay 26 = .ok (.if_icmp .le 7, 3) := by decide +kernel
theorem dX2_nextDay_29 : decode cX2_nextDay 29 = .ok (.iload_n 2, 1) := by decide +kernel
theorem dX2_nextDay_30 : decode cX2_nextDay 30 = .ok (.goto 6, 3) := by decide +kernel
theorem dX2_nextDay_33 : decode cX2_nextDay 33 = .ok (.iload_n 1, 1) := by decide +kernel
theorem dX2_nextDay_34 : decode cX2_nextDay 34 = .ok (.iconst 1, 1) := by decide +kernel
theorem dX2_nextDay_35 : decode cX2_nextDay 35 = .ok (.iadd, 1) := by decide +kernel
theorem dX2_nextDay_36 : decode cX2_nextDay 36 = .ok (.istore_n 2, 1) := by decide +kernel
theorem dX2_nextDay_37 : decode cX2_nextDay 37 = .ok (.aload_n 0, 1) := by decide +kernel
theorem dX2_nextDay_38 : decode cX2_nextDay 38 = .ok (.iload_n 2, 1) := by decide +kernel
theorem dX2_nextDay_39 : decode cX2_nextDay 39 = .ok (.invokevirtual 62, 3) := by decide +kernel
theorem dX2_nextDay_42 : decode cX2_nextDay 42 = .ok (.ifCond .eq 9, 3) := by decide +kernel
theorem dX2_nextDay_45 : decode cX2_nextDay 45 = .ok (.iinc 2 1, 3) := by decide +kernel
theorem dX2_nextDay_48 : decode cX2_nextDay 48 = .ok (.goto (-11), 3) := by decide +kernel
theorem dX2_nextDay_51 : decode cX2_nextDay 51 = .ok (.iload_n 2, 1) := by decide +kernel
theorem dX2_nextDay_52 : decode cX2_nextDay 52 = .ok (.ireturn, 1) := by decide +kernel
set_option maxRecDepth 20000 in
theorem ggX2_foretells_X2_nextDay : GoodIn wsX2_foretells wsX2_nextDay := goodIn_r _ [8, 1, 2, 9, 3, 10, 11, 12, 7, 13, 14, 15, 16, 17, 18, 19, 20, 21, 22, 23, 24, 25, 26, 27, 28, 29, 30, 31, 32] (by decide +kernel) (by decide +kernel)
set_option maxRecDepth 20000 in
theorem gX2_foretells_X2_nextDay : GoodIn wsX2_foretells (wsV RX2 66 RX2 yX2_nextDay wsX2_nextDay) := goodIn_app (goodIn_of _ (by decide +kernel)) ggX2_foretells_X2_nextDay
theorem dX2_foretells_0 : decode cX2_foretells 0 = .ok (.aload_n 0, 1) := by decide +kernel
theorem dX2_foretells_1 : decode cX2_foretells 1 = .ok (.getfield 26, 3) := by decide +kernel
theorem dX2_foretells_4 : decode cX2_foretells 4 = .ok (.aload_n 0, 1) := by decide +kernel
theorem dX2_foretells_5 : decode cX2_foretells 5 = .ok (.getfield 46, 3) := by decide +kernel
theorem dX2_foretells_8 : decode cX2_foretells 8 = .ok (.aload_n 0, 1) := by decide +kernel
theorem dX2_foretells_9 : decode cX2_foretells 9 = .ok (.invokevirtual 66, 3) := by decide +kernel
theorem dX2_foretells_12 : decode cX2_foretells 12 = .ok (.iastore, 1) := by decide +kernel
theorem dX2_foretells_13 : decode cX2_foretells 13 = .ok (.aload_n 0, 1) := by decide +kernel
theorem dX2_foretells_14 : decode cX2_foretells 14 = .ok (.iconst 0, 1) := by decide +kernel
theorem dX2_foretells_15 : decode cX2_foretells 15 = .ok (.putfield 59, 3) := by decide +kernel
theorem dX2_foretells_18 : decode cX2_foretells 18 = .ok (.aload_n 0, 1) := by decide +kernel
theorem dX2_foretells_19 : decode cX2_foretells 19 = .ok (.dup, 1) := by decide +kernel
theorem dX2_foretells_20 : decode cX2_foretells 20 = .ok (.getfield 46, 3) := by decide +kernel
theorem dX2_foretells_23 : decode cX2_foretells 23 = .ok (.iconst 1, 1) := by decide +kernel
theorem dX2_foretells_24 : decode cX2_foretells 24 = .ok (.iadd, 1) := by decide +kernel
theorem dX2_foretells_25 : decode cX2_foretells 25 = .ok (.putfield 46, 3) := by decide +kernel
theorem dX2_foretells_28 : decode cX2_foretells 28 = .ok (.return_, 1) := by decide +kernel
set_option maxRecDepth 20000 in
theorem ggX2_looks_X2_nextDay : GoodIn wsX2_looks wsX2_nextDay := goodIn_r _ [7, 8, 1, 9, 10, 11, 12, 13, 6, 14, 15, 20, 21, 22, 23, 24, 25, 26, 27, 28, 29, 30, 31, 32, 33, 34, 35, 36, 37] (by decide +kernel) (by decide +kernel)
set_option maxRecDepth 20000 in
theorem gX2_looks_X2_nextDay : GoodIn wsX2_looks (wsV RX2 66 RX2 yX2_nextDay wsX2_nextDay) := goodIn_app (goodIn_of _ (by decide +kernel)) ggX2_looks_X2_nextDay
set_option maxRecDepth 20000 in
theorem ggX2_looks_X2_foretells : GoodIn wsX2_looks wsX2_foretells := goodIn_r _ [19, 8, 1, 10, 3, 4, 5, 6, 7, 9, 11, 12, 13, 14, 15, 20, 21, 22, 23, 24, 25, 26, 27, 28, 29, 30, 31, 32, 33, 34, 35, 36, 37] (by decide +kernel) (by decide +kernel)
set_option maxRecDepth 20000 in
theorem gX2_looks_X2_foretells : GoodIn wsX2_looks (wsV RX2 73 RX2 yX2_foretells wsX2_foretells) := goodIn_app (goodIn_of _ (by decide +kernel)) ggX2_looks_X2_foretells
theorem dX2_looks_0 : decode cX2_looks 0 = .ok (.aload_n 0, 1) := by decide +kernel
theorem dX2_looks_1 : decode cX2_looks 1 = .ok (.getfield 46, 3) := by decide +kernel
theorem dX2_looks_4 : decode cX2_looks 4 = .ok (.sipush 200, 3) := by decide +kernel
theorem dX2_looks_7 : decode cX2_looks 7 = .ok (.if_icmp .ge 21, 3) := by decide +kernel
theorem dX2_looks_10 : decode cX2_looks 10 = .ok (.aload_n 0, 1) := by decide +kernel
theorem dX2_looks_11 : decode cX2_looks 11 = .ok (.invokevirtual 66, 3) := by decide +kernel
theorem dX2_looks_14 : decode cX2_looks 14 = .ok (.aload_n 0, 1) := by decide +kernel
theorem dX2_looks_15 : decode cX2_looks 15 = .ok (.getfield 70, 3) := by decide +kernel
theorem dX2_looks_18 : decode cX2_looks 18 = .ok (.if_icmp .gt 10, 3) := by decide +kernel
theorem dX2_looks_21 : decode cX2_looks 21 = .ok (.aload_n 0, 1) := by decide +kernel
theorem dX2_looks_22 : decode cX2_looks 22 = .ok (.invokevirtual 73, 3) := by decide +kernel
theorem dX2_looks_25 : decode cX2_looks 25 = .ok (.goto (-25), 3) := by decide +kernel
theorem dX2_looks_28 : decode cX2_looks 28 = .ok (.return_, 1) := by decide +kernel
set_option maxRecDepth 20000 in
theorem ggX2_setPattern_X2_isIn : GoodIn wsX2_setPattern wsX2_isIn := goodIn_r _ [8] (by decide +kernel) (by decide +kernel)
set_option maxRecDepth 20000 in
theorem gX2_setPattern_X2_isIn : GoodIn wsX2_setPattern (va_wsS RX2 52 yX2_isIn wsX2_isIn) := goodIn_app (goodIn_of _ (by decide +kernel)) ggX2_setPattern_X2_isIn
set_option maxRecDepth 20000 in
theorem ggX2_setPattern_X2_can : GoodIn wsX2_setPattern wsX2_can := goodIn_r _ [12, 13, 34, 35, 36, 37, 38, 39, 40, 41, 42, 43, 44, 45, 46, 47, 48, 49, 50, 51] (by decide +kernel) (by decide +kernel)
set_option maxRecDepth 20000 in
theorem gX2_setPattern_X2_can : GoodIn wsX2_setPattern (wsV RX2 76 RX2 yX2_can wsX2_can) := goodIn_app (goodIn_of _ (by decide +kernel)) ggX2_setPattern_X2_can
set_option maxRecDepth 20000 in
theorem ggX2_setPattern_X2_looks : GoodIn wsX2_setPattern wsX2_looks := goodIn_r _ [17, 18, 19, 20, 21, 22, 7, 23, 24, 1, 25, 26, 27, 28, 29, 4, 30, 31, 32, 33, 34, 35, 36, 37, 38, 39, 40, 41, 42, 43, 44, 45, 46, 47, 48, 49, 50, 51] (by decide +kernel) (by decide +kernel)
set_option maxRecDepth 20000 in
theorem gX2_setPattern_X2_looks : GoodIn wsX2_setPattern (wsV RX2 79 RX2 yX2_looks wsX2_looks) := goodIn_app (goodIn_of _ (by decide +kernel)) ggX2_setPattern_X2_looks
theorem dX2_setPattern_0 : decode cX2_setPattern 0 = .ok (.aload_n 0, 1) := by decide +kernel
theorem dX2_setPattern_1 : decode cX2_setPattern 1 = .ok (.iload_n 1, 1) := by decide +kernel
theorem dX2_setPattern_2 : decode cX2_setPattern 2 = .ok (.iconst 1, 1) := by decide +kernel
theorem dX2_setPattern_3 : decode cX2_setPattern 3 = .ok (.bipush 90, 2) := by decide +kernel
theorem dX2_setPattern_5 : decode cX2_setPattern 5 = .ok (.invokestatic 52, 3) := by decide +kernel
theorem dX2_setPattern_8 : decode cX2_setPattern 8 = .ok (.ifCond .eq 29, 3) := by decide +kernel
theorem dX2_setPattern_11 : decode cX2_setPattern 11 = .ok (.iload_n 2, 1) := by decide +kernel
theorem dX2_setPattern_12 : decode cX2_setPattern 12 = .ok (.iconst 1, 1) := by decide +kernel
theorem dX2_setPattern_13 : decode cX2_setPattern 13 = .ok (.bipush 20, 2) := by decide +kernel
theorem dX2_setPattern_15 : decode cX2_setPattern 15 = .ok (.invokestatic 52, 3) := by decide +kernel
theorem dX2_setPattern_18 : decode cX2_setPattern 18 = .ok (.ifCond .eq 19, 3) := by decide +kernel
theorem dX2_setPattern_21 : decode cX2_setPattern 21 = .ok (.iload 4, 2) := by decide +kernel
theorem dX2_setPattern_23 : decode cX2_setPattern 23 = .ok (.iconst 0, 1) := by decide +kernel
theorem dX2_setPattern_24 : decode cX2_setPattern 24 = .ok (.sipush 4094, 3) := by decide +kernel
theorem dX2_setPattern_27 : decode cX2_setPattern 27 = .ok (.invokestatic 52, 3) := by decide +kernel
theorem dX2_setPattern_30 : decode cX2_setPattern 30 = .ok (.ifCond .eq 7, 3) := by decide +kernel
theorem dX2_setPattern_33 : decode cX2_setPattern 33 = .ok (.iconst 0, 1) := by decide +kernel
theorem dX2_setPattern_34 : decode cX2_setPattern 34 = .ok (.goto 4, 3) := by decide +kernel
theorem dX2_setPattern_37 : decode cX2_setPattern 37 = .ok (.iconst 1, 1) := by decide +kernel
theorem dX2_setPattern_38 : decode cX2_setPattern 38 = .ok (.invokevirtual 76, 3) := by decide +kernel
theorem dX2_setPattern_41 : decode cX2_setPattern 41 = .ok (.ifCond .eq 28, 3) := by decide +kernel
theorem dX2_setPattern_44 : decode cX2_setPattern 44 = .ok (.aload_n 0, 1) := by decide +kernel
theorem dX2_setPattern_45 : decode cX2_setPattern 45 = .ok (.iload_n 1, 1) := by decide +kernel
theorem dX2_setPattern_46 : decode cX2_setPattern 46 = .ok (.putfield 7, 3) := by decide +kernel
theorem dX2_setPattern_49 : decode cX2_setPattern 49 = .ok (.aload_n 0, 1) := by decide +kernel
theorem dX2_setPattern_50 : decode cX2_setPattern 50 = .ok (.iload_n 2, 1) := by decide +kernel
theorem dX2_setPattern_51 : decode cX2_setPattern 51 = .ok (.putfield 13, 3) := by decide +kernel
theorem dX2_setPattern_54 : decode cX2_setPattern 54 = .ok (.aload_n 0, 1) := by decide +kernel
theorem dX2_setPattern_55 : decode cX2_setPattern 55 = .ok (.iload_n 3, 1) := by decide +kernel
theorem dX2_setPattern_56 : decode cX2_setPattern 56 = .ok (.putfield 16, 3) := by decide +kernel
theorem dX2_setPattern_59 : decode cX2_setPattern 59 = .ok (.aload_n 0, 1) := by decide +kernel
theorem dX2_setPattern_60 : decode cX2_setPattern 60 = .ok (.iload 4, 2) := by decide +kernel
theorem dX2_setPattern_62 : decode cX2_setPattern 62 = .ok (.putfield 56, 3) := by decide +kernel
theorem dX2_setPattern_65 : decode cX2_setPattern 65 = .ok (.aload_n 0, 1) := by decide +kernel
theorem dX2_setPattern_66 : decode cX2_setPattern 66 = .ok (.invokevirtual 79, 3) := by decide +kernel
theorem dX2_setPattern_69 : decode cX2_setPattern 69 = .ok (.return_, 1) := by decide +kernel
set_option maxRecDepth 20000 in
theorem ggX2_setClaims_X2_isIn : GoodIn wsX2_setClaims wsX2_isIn := goodIn_r _ [6] (by decide +kernel) (by decide +kernel)
set_option maxRecDepth 20000 in
theorem gX2_setClaims_X2_isIn : GoodIn wsX2_setClaims (va_wsS RX2 52 yX2_isIn wsX2_isIn) := goodIn_app (goodIn_of _ (by decide +kernel)) ggX2_setClaims_X2_isIn
set_option maxRecDepth 20000 in
theorem ggX2_setClaims_X2_can : GoodIn wsX2_setClaims wsX2_can := goodIn_r _ [10, 11, 12, 13, 14, 15, 16, 17, 18, 19, 20, 21, 22, 23, 24, 25, 26, 27, 28, 29] (by decide +kernel) (by decide +kernel)
set_option maxRecDepth 20000 in
theorem gX2_setClaims_X2_can : GoodIn wsX2_setClaims (wsV RX2 76 RX2 yX2_can wsX2_can) := goodIn_app (goodIn_of _ (by decide +kernel)) ggX2_setClaims_X2_can
theorem dX2_setClaims_0 : decode cX2_setClaims 0 = .ok (.aload_n 0, 1) := by decide +kernel
theorem dX2_setClaims_1 : decode cX2_setClaims 1 = .ok (.iload_n 1, 1) := by decide +kernel
theorem dX2_setClaims_2 : decode cX2_setClaims 2 = .ok (.iconst 0, 1) := by decide +kernel
theorem dX2_setClaims_3 : decode cX2_setClaims 3 = .ok (.bipush 100, 2) := by decide +kernel
theorem dX2_setClaims_5 : decode cX2_setClaims 5 = .ok (.invokestatic 52, 3) := by decide +kernel
theorem dX2_setClaims_8 : decode cX2_setClaims 8 = .ok (.ifCond .eq 17, 3) := by decide +kernel
theorem dX2_setClaims_11 : decode cX2_setClaims 11 = .ok (.iload_n 2, 1) := by decide +kernel
theorem dX2_setClaims_12 : decode cX2_setClaims 12 = .ok (.iconst 1, 1) := by decide +kernel
theorem dX2_setClaims_13 : decode cX2_setClaims 13 = .ok (.bipush 100, 2) := by decide +kernel
theorem dX2_setClaims_15 : decode cX2_setClaims 15 = .ok (.invokestatic 52, 3) := by decide +kernel
theorem dX2_setClaims_18 : decode cX2_setClaims 18 = .ok (.ifCond .eq 7, 3) := by decide +kernel
theorem dX2_setClaims_21 : decode cX2_setClaims 21 = .ok (.iconst 0, 1) := by decide +kernel
theorem dX2_setClaims_22 : decode cX2_setClaims 22 = .ok (.goto 4, 3) := by decide +kernel
theorem dX2_setClaims_25 : decode cX2_setClaims 25 = .ok (.iconst 1, 1) := by decide +kernel
theorem dX2_setClaims_26 : decode cX2_setClaims 26 = .ok (.invokevirtual 76, 3) := by decide +kernel
theorem dX2_setClaims_29 : decode cX2_setClaims 29 = .ok (.ifCond .eq 13, 3) := by decide +kernel
theorem dX2_setClaims_32 : decode cX2_setClaims 32 = .ok (.aload_n 0, 1) := by decide +kernel
theorem dX2_setClaims_33 : decode cX2_setClaims 33 = .ok (.iload_n 1, 1) := by decide +kernel
theorem dX2_setClaims_34 : decode cX2_setClaims 34 = .ok (.putfield 20, 3) := by decide +kernel
theorem dX2_setClaims_37 : decode cX2_setClaims 37 = .ok (.aload_n 0, 1) := by decide +kernel
theorem dX2_setClaims_38 : decode cX2_setClaims 38 = .ok (.iload_n 2, 1) := by decide +kernel
theorem dX2_setClaims_39 : decode cX2_setClaims 39 = .ok (.putfield 23, 3) := by decide +kernel
theorem dX2_setClaims_42 : decode cX2_setClaims 42 = .ok (.return_, 1) := by decide +kernel
set_option maxRecDepth 20000 in
theorem ggX2_advance_X2_isIn : GoodIn wsX2_advance wsX2_isIn := goodIn_r _ [5] (by decide +kernel) (by decide +kernel)
set_option maxRecDepth 20000 in
theorem gX2_advance_X2_isIn : GoodIn wsX2_advance (va_wsS RX2 52 yX2_isIn wsX2_isIn) := goodIn_app (goodIn_of _ (by decide +kernel)) ggX2_advance_X2_isIn
set_option maxRecDepth 20000 in
theorem ggX2_advance_X2_can : GoodIn wsX2_advance wsX2_can := goodIn_r _ [9, 10, 32, 33, 34, 35, 36, 37, 38, 39, 40, 41, 42, 43, 44, 45, 46, 47, 48, 49] (by decide +kernel) (by decide +kernel)
set_option maxRecDepth 20000 in
theorem gX2_advance_X2_can : GoodIn wsX2_advance (wsV RX2 76 RX2 yX2_can wsX2_can) := goodIn_app (goodIn_of _ (by decide +kernel)) ggX2_advance_X2_can
set_option maxRecDepth 20000 in
theorem ggX2_advance_X2_looks : GoodIn wsX2_advance wsX2_looks := goodIn_r _ [14, 15, 1, 16, 17, 18, 4, 19, 20, 21, 22, 23, 24, 25, 26, 27, 28, 29, 30, 31, 32, 33, 34, 35, 36, 37, 38, 39, 40, 41, 42, 43, 44, 45, 46, 47, 48, 49] (by decide +kernel) (by decide +kernel)
set_option maxRecDepth 20000 in
theorem gX2_advance_X2_looks : GoodIn wsX2_advance (wsV RX2 79 RX2 yX2_looks wsX2_looks) := goodIn_app (goodIn_of _ (by decide +kernel)) ggX2_advance_X2_looks
theorem dX2_advance_0 : decode cX2_advance 0 = .ok (.aload_n 0, 1) := by decide +kernel
theorem dX2_advance_1 : decode cX2_advance 1 = .ok (.iload_n 1, 1) := by decide +kernel
theorem dX2_advance_2 : decode cX2_advance 2 = .ok (.iconst 1, 1) := by decide +kernel
theorem dX2_advance_3 : decode cX2_advance 3 = .ok (.sipush 400, 3) := by decide +kernel
theorem dX2_advance_6 : decode cX2_advance 6 = .ok (.invokestatic 52, 3) := by decide +kernel
theorem dX2_advance_9 : decode cX2_advance 9 = .ok (.ifCond .ne 7, 3) := by decide +kernel
theorem dX2_advance_12 : decode cX2_advance 12 = .ok (.iconst 1, 1) := by decide +kernel
theorem dX2_advance_13 : decode cX2_advance 13 = .ok (.goto 20, 3) := by decide +kernel
theorem dX2_advance_16 : decode cX2_advance 16 = .ok (.aload_n 0, 1) := by decide +kernel
theorem dX2_advance_17 : decode cX2_advance 17 = .ok (.getfield 70, 3) := by decide +kernel
theorem dX2_advance_20 : decode cX2_advance 20 = .ok (.iload_n 1, 1) := by decide +kernel
theorem dX2_advance_21 : decode cX2_advance 21 = .ok (.iadd, 1) := by decide +kernel
theorem dX2_advance_22 : decode cX2_advance 22 = .ok (.sipush 7200, 3) := by decide +kernel
theorem dX2_advance_25 : decode cX2_advance 25 = .ok (.if_icmp .le 7, 3) := by decide +kernel
theorem dX2_advance_28 : decode cX2_advance 28 = .ok (.iconst 2, 1) := by decide +kernel
theorem dX2_advance_29 : decode cX2_advance 29 = .ok (.goto 4, 3) := by decide +kernel
theorem dX2_advance_32 : decode cX2_advance 32 = .ok (.iconst 0, 1) := by decide +kernel
theorem dX2_advance_33 : decode cX2_advance 33 = .ok (.invokevirtual 76, 3) := by decide +kernel
theorem dX2_advance_36 : decode cX2_advance 36 = .ok (.ifCond .ne 5, 3) := by decide +kernel
theorem dX2_advance_39 : decode cX2_advance 39 = .ok (.iconst 0, 1) := by decide +kernel
theorem dX2_advance_40 : decode cX2_advance 40 = .ok (.ireturn, 1) := by decide +kernel
theorem dX2_advance_41 : decode cX2_advance 41 = .ok (.aload_n 0, 1) := by decide +kernel
theorem dX2_advance_42 : decode cX2_advance 42 = .ok (.dup, 1) := by decide +kernel
theorem dX2_advance_43 : decode cX2_advance 43 = .ok (.getfield 70, 3) := by decide +kernel
theorem dX2_advance_46 : decode cX2_advance 46 = .ok (.iload_n 1, 1) := by decide +kernel
theorem dX2_advance_47 : decode cX2_advance 47 = .ok (.iadd, 1) := by decide +kernel
theorem dX2_advance_48 : decode cX2_advance 48 = .ok (.putfield 70, 3) := by decide +kernel
theorem dX2_advance_51 : decode cX2_advance 51 = .ok (.aload_n 0, 1) := by decide +kernel
theorem dX2_advance_52 : decode cX2_advance 52 = .ok (.invokevirtual 79, 3) := by decide +kernel
theorem dX2_advance_55 : decode cX2_advance 55 = .ok (.aload_n 0, 1) := by decide +kernel
theorem dX2_advance_56 : decode cX2_advance 56 = .ok (.getfield 70, 3) := by decide +kernel
theorem dX2_advance_59 : decode cX2_advance 59 = .ok (.ireturn, 1) := by decide +kernel
theorem dX2_isOpen_0 : decode cX2_isOpen 0 = .ok (.iconst 1, 1) := by decide +kernel
theorem dX2_isOpen_1 : decode cX2_isOpen 1 = .ok (.istore_n 3, 1) := by decide +kernel
theorem dX2_isOpen_2 : decode cX2_isOpen 2 = .ok (.iload_n 1, 1) := by decide +kernel
theorem dX2_isOpen_3 : decode cX2_isOpen 3 = .ok (.istore 4, 2) := by decide +kernel
theorem dX2_isOpen_5 : decode cX2_isOpen 5 = .ok (.iload 4, 2) := by decide +kernel
theorem dX2_isOpen_7 : decode cX2_isOpen 7 = .ok (.iload_n 1, 1) := by decide +kernel
theorem dX2_isOpen_8 : decode cX2_isOpen 8 = .ok (.iload_n 2, 1) := by decide +kernel
theorem dX2_isOpen_9 : decode cX2_isOpen 9 = .ok (.iadd, 1) := by decide +kernel
theorem dX2_isOpen_10 : decode cX2_isOpen 10 = .ok (.if_icmp .gt 38, 3) := by decide +kernel
theorem dX2_isOpen_13 : decode cX2_isOpen 13 = .ok (.iload_n 3, 1) := by decide +kernel
theorem dX2_isOpen_14 : decode cX2_isOpen 14 = .ok (.ifCond .eq 26, 3) := by decide +kernel
theorem dX2_isOpen_17 : decode cX2_isOpen 17 = .ok (.iload 4, 2) := by decide +kernel
theorem dX2_isOpen_19 : decode cX2_isOpen 19 = .ok (.aload_n 0, 1) := by decide +kernel
theorem dX2_isOpen_20 : decode cX2_isOpen 20 = .ok (.getfield 46, 3) := by decide +kernel
theorem dX2_isOpen_23 : decode cX2_isOpen 23 = .ok (.if_icmp .ge 13, 3) := by decide +kernel
theorem dX2_isOpen_26 : decode cX2_isOpen 26 = .ok (.aload_n 0, 1) := by decide +kernel
theorem dX2_isOpen_27 : decode cX2_isOpen 27 = .ok (.getfield 30, 3) := by decide +kernel
theorem dX2_isOpen_30 : decode cX2_isOpen 30 = .ok (.iload 4, 2) := by decide +kernel
theorem dX2_isOpen_32 : decode cX2_isOpen 32 = .ok (.iaload, 1) := by decide +kernel
theorem dX2_isOpen_33 : decode cX2_isOpen 33 = .ok (.ifCond .ne 7, 3) := by decide +kernel
theorem dX2_isOpen_36 : decode cX2_isOpen 36 = .ok (.iconst 1, 1) := by decide +kernel
theorem dX2_isOpen_37 : decode cX2_isOpen 37 = .ok (.goto 4, 3) := by decide +kernel
theorem dX2_isOpen_40 : decode cX2_isOpen 40 = .ok (.iconst 0, 1) := by decide +kernel
theorem dX2_isOpen_41 : decode cX2_isOpen 41 = .ok (.istore_n 3, 1) := by decide +kernel
theorem dX2_isOpen_42 : decode cX2_isOpen 42 = .ok (.iinc 4 1, 3) := by decide +kernel
theorem dX2_isOpen_45 : decode cX2_isOpen 45 = .ok (.goto (-40), 3) := by decide +kernel
theorem dX2_isOpen_48 : decode cX2_isOpen 48 = .ok (.iload_n 3, 1) := by decide +kernel
theorem dX2_isOpen_49 : decode cX2_isOpen 49 = .ok (.ireturn, 1) := by decide +kernel
theorem dX2_follows_0 : decode cX2_follows 0 = .ok (.aload_n 0, 1) := by decide +kernel
theorem dX2_follows_1 : decode cX2_follows 1 = .ok (.getfield 43, 3) := by decide +kernel
theorem dX2_follows_4 : decode cX2_follows 4 = .ok (.iconst (-1), 1) := by decide +kernel
theorem dX2_follows_5 : decode cX2_follows 5 = .ok (.if_icmp .eq 15, 3) := by decide +kernel
theorem dX2_follows_8 : decode cX2_follows 8 = .ok (.iload_n 1, 1) := by decide +kernel
theorem dX2_follows_9 : decode cX2_follows 9 = .ok (.aload_n 0, 1) := by decide +kernel
theorem dX2_follows_10 : decode cX2_follows 10 = .ok (.getfield 43, 3) := by decide +kernel
theorem dX2_follows_13 : decode cX2_follows 13 = .ok (.if_icmp .le 7, 3) := by decide +kernel
theorem dX2_follows_16 : decode cX2_follows 16 = .ok (.iconst 1, 1) := by decide +kernel
theorem dX2_follows_17 : decode cX2_follows 17 = .ok (.goto 4, 3) := by decide +kernel
theorem dX2_follows_20 : decode cX2_follows 20 = .ok (.iconst 0, 1) := by decide +kernel
theorem dX2_follows_21 : decode cX2_follows 21 = .ok (.istore_n 2, 1) := by decide +kernel
theorem dX2_follows_22 : decode cX2_follows 22 = .ok (.aload_n 0, 1) := by decide +kernel
theorem dX2_follows_23 : decode cX2_follows 23 = .ok (.getfield 43, 3) := by decide +kernel
theorem dX2_follows_26 : decode cX2_follows 26 = .ok (.iconst 1, 1) := by decide +kernel
theorem dX2_follows_27 : decode cX2_follows 27 = .ok (.iadd, 1) := by decide +kernel
theorem dX2_follows_28 : decode cX2_follows 28 = .ok (.istore_n 3, 1) := by decide +kernel
theorem dX2_follows_29 : decode cX2_follows 29 = .ok (.iload_n 3, 1) := by decide +kernel
theorem dX2_follows_30 : decode cX2_follows 30 = .ok (.iload_n 1, 1) := by decide +kernel
theorem dX2_follows_31 : decode cX2_follows 31 = .ok (.if_icmp .ge 39, 3) := by decide +kernel
theorem dX2_follows_34 : decode cX2_follows 34 = .ok (.iload_n 2, 1) := by decide +kernel
theorem dX2_follows_35 : decode cX2_follows 35 = .ok (.ifCond .eq 35, 3) := by decide +kernel
theorem dX2_follows_38 : decode cX2_follows 38 = .ok (.aload_n 0, 1) := by decide +kernel
theorem dX2_follows_39 : decode cX2_follows 39 = .ok (.getfield 30, 3) := by decide +kernel
theorem dX2_follows_42 : decode cX2_follows 42 = .ok (.iload_n 3, 1) := by decide +kernel
theorem dX2_follows_43 : decode cX2_follows 43 = .ok (.iaload, 1) := by decide +kernel
theorem dX2_follows_44 : decode cX2_follows 44 = .ok (.iconst 2, 1) := by decide +kernel
theorem dX2_follows_45 : decode cX2_follows 45 = .ok (.if_icmp .eq 13, 3) := by decide +kernel
theorem dX2_follows_48 : decode cX2_follows 48 = .ok (.aload_n 0, 1) := by decide +kernel
theorem dX2_follows_49 : decode cX2_follows 49 = .ok (.getfield 30, 3) := by decide +kernel
theorem dX2_follows_52 : decode cX2_follows 52 = .ok (.iload_n 3, 1) := by decide +kernel
theorem dX2_follows_53 : decode cX2_follows 53 = .ok (.iaload, 1) := by decide +kernel
theorem dX2_follows_54 : decode cX2_follows 54 = .ok (.iconst 3, 1) := by decide +kernel
theorem dX2_follows_55 : decode cX2_follows 55 = .ok (.if_icmp .ne 7, 3) := by decide +kernel
theorem dX2_follows_58 : decode cX2_follows 58 = .ok (.iconst 1, 1) := by decide +kernel
theorem dX2_follows_59 : decode cX2_follows 59 = .ok (.goto 4, 3) := by decide +kernel
theorem dX2_follows_62 : decode cX2_follows 62 = .ok (.iconst 0, 1) := by decide +kernel
theorem dX2_follows_63 : decode cX2_follows 63 = .ok (.istore_n 2, 1) := by decide +kernel
theorem dX2_follows_64 : decode cX2_follows 64 = .ok (.iinc 3 1, 3) := by decide +kernel
theorem dX2_follows_67 : decode cX2_follows 67 = .ok (.goto (-38), 3) := by decide +kernel
theorem dX2_follows_70 : decode cX2_follows 70 = .ok (.iload_n 2, 1) := by decide +kernel
theorem dX2_follows_71 : decode cX2_follows 71 = .ok (.ireturn, 1) := by decide +kernel
set_option maxRecDepth 20000 in
theorem ggX2_counts_X2_follows : GoodIn wsX2_counts wsX2_follows := goodIn_r _ [11, 5, 12, 16, 17, 18, 19, 20, 21, 22, 23, 24, 25, 26, 27, 28, 29, 30, 31, 32, 33] (by decide +kernel) (by decide +kernel)
set_option maxRecDepth 20000 in
theorem gX2_counts_X2_follows : GoodIn wsX2_counts (wsV RX2 85 RX2 yX2_follows wsX2_follows) := goodIn_app (goodIn_of _ (by decide +kernel)) ggX2_counts_X2_follows
set_option maxRecDepth 20000 in
theorem ggX2_counts_X2_isIn : GoodIn wsX2_counts wsX2_isIn := goodIn_r _ [15] (by decide +kernel) (by decide +kernel)
set_option maxRecDepth 20000 in
theorem gX2_counts_X2_isIn : GoodIn wsX2_counts (va_wsS RX2 52 yX2_isIn wsX2_isIn) := goodIn_app (goodIn_of _ (by decide +kernel)) ggX2_counts_X2_isIn
theorem dX2_counts_0 : decode cX2_counts 0 = .ok (.aload_n 0, 1) := by decide +kernel
theorem dX2_counts_1 : decode cX2_counts 1 = .ok (.getfield 70, 3) := by decide +kernel
theorem dX2_counts_4 : decode cX2_counts 4 = .ok (.aload_n 0, 1) := by decide +kernel
theorem dX2_counts_5 : decode cX2_counts 5 = .ok (.getfield 26, 3) := by decide +kernel
theorem dX2_counts_8 : decode cX2_counts 8 = .ok (.iload_n 1, 1) := by decide +kernel
theorem dX2_counts_9 : decode cX2_counts 9 = .ok (.iaload, 1) := by decide +kernel
theorem dX2_counts_10 : decode cX2_counts 10 = .ok (.isub, 1) := by decide +kernel
theorem dX2_counts_11 : decode cX2_counts 11 = .ok (.istore_n 2, 1) := by decide +kernel
theorem dX2_counts_12 : decode cX2_counts 12 = .ok (.aload_n 0, 1) := by decide +kernel
theorem dX2_counts_13 : decode cX2_counts 13 = .ok (.aload_n 0, 1) := by decide +kernel
theorem dX2_counts_14 : decode cX2_counts 14 = .ok (.getfield 82, 3) := by decide +kernel
theorem dX2_counts_17 : decode cX2_counts 17 = .ok (.ifCond .le 28, 3) := by decide +kernel
theorem dX2_counts_20 : decode cX2_counts 20 = .ok (.aload_n 0, 1) := by decide +kernel
theorem dX2_counts_21 : decode cX2_counts 21 = .ok (.iload_n 1, 1) := by decide +kernel
theorem dX2_counts_22 : decode cX2_counts 22 = .ok (.invokevirtual 85, 3) := by decide +kernel
theorem dX2_counts_25 : decode cX2_counts 25 = .ok (.ifCond .eq 20, 3) := by decide +kernel
theorem dX2_counts_28 : decode cX2_counts 28 = .ok (.iload_n 2, 1) := by decide +kernel
theorem dX2_counts_29 : decode cX2_counts 29 = .ok (.aload_n 0, 1) := by decide +kernel
theorem dX2_counts_30 : decode cX2_counts 30 = .ok (.getfield 88, 3) := by decide +kernel
theorem dX2_counts_33 : decode cX2_counts 33 = .ok (.if_icmp .ne 12, 3) := by decide +kernel
theorem dX2_counts_36 : decode cX2_counts 36 = .ok (.aload_n 0, 1) := by decide +kernel
theorem dX2_counts_37 : decode cX2_counts 37 = .ok (.getfield 82, 3) := by decide +kernel
theorem dX2_counts_40 : decode cX2_counts 40 = .ok (.iconst 1, 1) := by decide +kernel
theorem dX2_counts_41 : decode cX2_counts 41 = .ok (.iadd, 1) := by decide +kernel
theorem dX2_counts_42 : decode cX2_counts 42 = .ok (.goto 4, 3) := by decide +kernel
theorem dX2_counts_45 : decode cX2_counts 45 = .ok (.iconst 1, 1) := by decide +kernel
theorem dX2_counts_46 : decode cX2_counts 46 = .ok (.putfield 82, 3) := by decide +kernel
theorem dX2_counts_49 : decode cX2_counts 49 = .ok (.aload_n 0, 1) := by decide +kernel
theorem dX2_counts_50 : decode cX2_counts 50 = .ok (.iload_n 1, 1) := by decide +kernel
theorem dX2_counts_51 : decode cX2_counts 51 = .ok (.putfield 43, 3) := by decide +kernel
theorem dX2_counts_54 : decode cX2_counts 54 = .ok (.aload_n 0, 1) := by decide +kernel
theorem dX2_counts_55 : decode cX2_counts 55 = .ok (.iload_n 2, 1) := by decide +kernel
theorem dX2_counts_56 : decode cX2_counts 56 = .ok (.putfield 88, 3) := by decide +kernel
theorem dX2_counts_59 : decode cX2_counts 59 = .ok (.aload_n 0, 1) := by decide +kernel
theorem dX2_counts_60 : decode cX2_counts 60 = .ok (.getfield 82, 3) := by decide +kernel
theorem dX2_counts_63 : decode cX2_counts 63 = .ok (.iconst 3, 1) := by decide +kernel
theorem dX2_counts_64 : decode cX2_counts 64 = .ok (.if_icmp .lt 33, 3) := by decide +kernel
theorem dX2_counts_67 : decode cX2_counts 67 = .ok (.iload_n 2, 1) := by decide +kernel
theorem dX2_counts_68 : decode cX2_counts 68 = .ok (.ifCond .eq 29, 3) := by decide +kernel
theorem dX2_counts_71 : decode cX2_counts 71 = .ok (.iload_n 2, 1) := by decide +kernel
theorem dX2_counts_72 : decode cX2_counts 72 = .ok (.bipush (-15), 2) := by decide +kernel
theorem dX2_counts_74 : decode cX2_counts 74 = .ok (.bipush 15, 2) := by decide +kernel
theorem dX2_counts_76 : decode cX2_counts 76 = .ok (.invokestatic 52, 3) := by decide +kernel
theorem dX2_counts_79 : decode cX2_counts 79 = .ok (.ifCond .eq 18, 3) := by decide +kernel
theorem dX2_counts_82 : decode cX2_counts 82 = .ok (.aload_n 0, 1) := by decide +kernel
theorem dX2_counts_83 : decode cX2_counts 83 = .ok (.dup, 1) := by decide +kernel
theorem dX2_counts_84 : decode cX2_counts 84 = .ok (.getfield 59, 3) := by decide +kernel
theorem dX2_counts_87 : decode cX2_counts 87 = .ok (.iload_n 2, 1) := by decide +kernel
theorem dX2_counts_88 : decode cX2_counts 88 = .ok (.iadd, 1) := by decide +kernel
theorem dX2_counts_89 : decode cX2_counts 89 = .ok (.putfield 59, 3) := by decide +kernel
theorem dX2_counts_92 : decode cX2_counts 92 = .ok (.aload_n 0, 1) := by decide +kernel
theorem dX2_counts_93 : decode cX2_counts 93 = .ok (.iconst 0, 1) := by decide +kernel
theorem dX2_counts_94 : decode cX2_counts 94 = .ok (.putfield 82, 3) := by decide +kernel
theorem dX2_counts_97 : decode cX2_counts 97 = .ok (.return_, 1) := by decide +kernel
set_option maxRecDepth 20000 in
theorem ggX2_checkIn_X2_isIn : GoodIn wsX2_checkIn wsX2_isIn := goodIn_r _ [6] (by decide +kernel) (by decide +kernel)
set_option maxRecDepth 20000 in
theorem gX2_checkIn_X2_isIn : GoodIn wsX2_checkIn (va_wsS RX2 52 yX2_isIn wsX2_isIn) := goodIn_app (goodIn_of _ (by decide +kernel)) ggX2_checkIn_X2_isIn
set_option maxRecDepth 20000 in
theorem ggX2_checkIn_X2_isIssue : GoodIn wsX2_checkIn wsX2_isIssue := goodIn_r _ [9, 3, 4, 5, 6] (by decide +kernel) (by decide +kernel)
set_option maxRecDepth 20000 in
theorem gX2_checkIn_X2_isIssue : GoodIn wsX2_checkIn (va_wsS RX2 91 yX2_isIssue wsX2_isIssue) := goodIn_app (goodIn_of _ (by decide +kernel)) ggX2_checkIn_X2_isIssue
set_option maxRecDepth 20000 in
theorem ggX2_checkIn_X2_isOpen : GoodIn wsX2_checkIn wsX2_isOpen := goodIn_r _ [13, 1, 2, 51, 52, 53, 54, 55, 56, 57, 58, 59, 60, 61, 62, 63, 64, 65, 66, 67, 68] (by decide +kernel) (by decide +kernel)
set_option maxRecDepth 20000 in
theorem gX2_checkIn_X2_isOpen : GoodIn wsX2_checkIn (wsV RX2 94 RX2 yX2_isOpen wsX2_isOpen) := goodIn_app (goodIn_of _ (by decide +kernel)) ggX2_checkIn_X2_isOpen
set_option maxRecDepth 20000 in
theorem ggX2_checkIn_X2_can : GoodIn wsX2_checkIn wsX2_can := goodIn_r _ [17, 18, 51, 52, 53, 54, 55, 56, 57, 58, 59, 60, 61, 62, 63, 64, 65, 66, 67, 68] (by decide +kernel) (by decide +kernel)
set_option maxRecDepth 20000 in
theorem gX2_checkIn_X2_can : GoodIn wsX2_checkIn (wsV RX2 76 RX2 yX2_can wsX2_can) := goodIn_app (goodIn_of _ (by decide +kernel)) ggX2_checkIn_X2_can
set_option maxRecDepth 20000 in
theorem ggX2_checkIn_X2_foretells : GoodIn wsX2_checkIn wsX2_foretells := goodIn_r _ [22, 23, 1, 24, 25, 26, 27, 5, 28, 29, 30, 31, 32, 33, 34, 51, 52, 53, 54, 55, 56, 57, 58, 59, 60, 61, 62, 63, 64, 65, 66, 67, 68] (by decide +kernel) (by decide +kernel)
set_option maxRecDepth 20000 in
theorem gX2_checkIn_X2_foretells : GoodIn wsX2_checkIn (wsV RX2 73 RX2 yX2_foretells wsX2_foretells) := goodIn_app (goodIn_of _ (by decide +kernel)) ggX2_checkIn_X2_foretells
set_option maxRecDepth 20000 in
theorem ggX2_checkIn_X2_counts : GoodIn wsX2_checkIn wsX2_counts := goodIn_r _ [38, 39, 23, 40, 41, 42, 24, 43, 44, 45, 5, 46, 2, 3, 4, 6, 51, 52, 53, 54, 55, 56, 57, 58, 59, 60, 61, 62, 63, 64, 65, 66, 67, 68] (by decide +kernel) (by decide +kernel)
set_option maxRecDepth 20000 in
theorem gX2_checkIn_X2_counts : GoodIn wsX2_checkIn (wsV RX2 98 RX2 yX2_counts wsX2_counts) := goodIn_app (goodIn_of _ (by decide +kernel)) ggX2_checkIn_X2_counts
set_option maxRecDepth 20000 in
theorem ggX2_checkIn_X2_looks : GoodIn wsX2_checkIn wsX2_looks := goodIn_r _ [50, 1, 39, 25, 26, 27, 5, 28, 23, 29, 24, 30, 31, 32, 33, 34, 19, 20, 21, 22, 51, 52, 53, 54, 55, 56, 57, 58, 59, 60, 61, 62, 63, 64, 65, 66, 67, 68] (by decide +kernel) (by decide +kernel)
set_option maxRecDepth 20000 in
theorem gX2_checkIn_X2_looks : GoodIn wsX2_checkIn (wsV RX2 79 RX2 yX2_looks wsX2_looks) := goodIn_app (goodIn_of _ (by decide +kernel)) ggX2_checkIn_X2_looks
theorem dX2_checkIn_0 : decode cX2_checkIn 0 = .ok (.iload_n 2, 1) := by decide +kernel
theorem dX2_checkIn_1 : decode cX2_checkIn 1 = .ok (.iconst 0, 1) := by decide +kernel
theorem dX2_checkIn_2 : decode cX2_checkIn 2 = .ok (.iconst 5, 1) := by decide +kernel
theorem dX2_checkIn_3 : decode cX2_checkIn 3 = .ok (.invokestatic 52, 3) := by decide +kernel
theorem dX2_checkIn_6 : decode cX2_checkIn 6 = .ok (.ifCond .eq 16, 3) := by decide +kernel
theorem dX2_checkIn_9 : decode cX2_checkIn 9 = .ok (.iload_n 1, 1) := by decide +kernel
theorem dX2_checkIn_10 : decode cX2_checkIn 10 = .ok (.iload_n 2, 1) := by decide +kernel
theorem dX2_checkIn_11 : decode cX2_checkIn 11 = .ok (.iadd, 1) := by decide +kernel
theorem dX2_checkIn_12 : decode cX2_checkIn 12 = .ok (.sipush 200, 3) := by decide +kernel
theorem dX2_checkIn_15 : decode cX2_checkIn 15 = .ok (.if_icmp .ge 7, 3) := by decide +kernel
theorem dX2_checkIn_18 : decode cX2_checkIn 18 = .ok (.iconst 1, 1) := by decide +kernel
theorem dX2_checkIn_19 : decode cX2_checkIn 19 = .ok (.goto 4, 3) := by decide +kernel
theorem dX2_checkIn_22 : decode cX2_checkIn 22 = .ok (.iconst 0, 1) := by decide +kernel
theorem dX2_checkIn_23 : decode cX2_checkIn 23 = .ok (.istore_n 3, 1) := by decide +kernel
theorem dX2_checkIn_24 : decode cX2_checkIn 24 = .ok (.aload_n 0, 1) := by decide +kernel
theorem dX2_checkIn_25 : decode cX2_checkIn 25 = .ok (.iload_n 1, 1) := by decide +kernel
theorem dX2_checkIn_26 : decode cX2_checkIn 26 = .ok (.invokestatic 91, 3) := by decide +kernel
theorem dX2_checkIn_29 : decode cX2_checkIn 29 = .ok (.ifCond .ne 7, 3) := by decide +kernel
theorem dX2_checkIn_32 : decode cX2_checkIn 32 = .ok (.iconst 1, 1) := by decide +kernel
theorem dX2_checkIn_33 : decode cX2_checkIn 33 = .ok (.goto 25, 3) := by decide +kernel
theorem dX2_checkIn_36 : decode cX2_checkIn 36 = .ok (.iload_n 3, 1) := by decide +kernel
theorem dX2_checkIn_37 : decode cX2_checkIn 37 = .ok (.ifCond .ne 7, 3) := by decide +kernel
theorem dX2_checkIn_40 : decode cX2_checkIn 40 = .ok (.iconst 2, 1) := by decide +kernel
theorem dX2_checkIn_41 : decode cX2_checkIn 41 = .ok (.goto 17, 3) := by decide +kernel
theorem dX2_checkIn_44 : decode cX2_checkIn 44 = .ok (.aload_n 0, 1) := by decide +kernel
theorem dX2_checkIn_45 : decode cX2_checkIn 45 = .ok (.iload_n 1, 1) := by decide +kernel
theorem dX2_checkIn_46 : decode cX2_checkIn 46 = .ok (.iload_n 2, 1) := by decide +kernel
theorem dX2_checkIn_47 : decode cX2_checkIn 47 = .ok (.invokevirtual 94, 3) := by decide +kernel
theorem dX2_checkIn_50 : decode cX2_checkIn 50 = .ok (.ifCond .eq 7, 3) := by decide +kernel
theorem dX2_checkIn_53 : decode cX2_checkIn 53 = .ok (.iconst 0, 1) := by decide +kernel
theorem dX2_checkIn_54 : decode cX2_checkIn 54 = .ok (.goto 4, 3) := by decide +kernel
theorem dX2_checkIn_57 : decode cX2_checkIn 57 = .ok (.iconst 3, 1) := by decide +kernel
theorem dX2_checkIn_58 : decode cX2_checkIn 58 = .ok (.invokevirtual 76, 3) := by decide +kernel
theorem dX2_checkIn_61 : decode cX2_checkIn 61 = .ok (.ifCond .ne 5, 3) := by decide +kernel
theorem dX2_checkIn_64 : decode cX2_checkIn 64 = .ok (.iconst 0, 1) := by decide +kernel
theorem dX2_checkIn_65 : decode cX2_checkIn 65 = .ok (.ireturn, 1) := by decide +kernel
theorem dX2_checkIn_66 : decode cX2_checkIn 66 = .ok (.aload_n 0, 1) := by decide +kernel
theorem dX2_checkIn_67 : decode cX2_checkIn 67 = .ok (.getfield 46, 3) := by decide +kernel
theorem dX2_checkIn_70 : decode cX2_checkIn 70 = .ok (.iload_n 1, 1) := by decide +kernel
theorem dX2_checkIn_71 : decode cX2_checkIn 71 = .ok (.iload_n 2, 1) := by decide +kernel
theorem dX2_checkIn_72 : decode cX2_checkIn 72 = .ok (.iadd, 1) := by decide +kernel
theorem dX2_checkIn_73 : decode cX2_checkIn 73 = .ok (.if_icmp .gt 10, 3) := by decide +kernel
theorem dX2_checkIn_76 : decode cX2_checkIn 76 = .ok (.aload_n 0, 1) := by decide +kernel
theorem dX2_checkIn_77 : decode cX2_checkIn 77 = .ok (.invokevirtual 73, 3) := by decide +kernel
theorem dX2_checkIn_80 : decode cX2_checkIn 80 = .ok (.goto (-14), 3) := by decide +kernel
theorem dX2_checkIn_83 : decode cX2_checkIn 83 = .ok (.aload_n 0, 1) := by decide +kernel
theorem dX2_checkIn_84 : decode cX2_checkIn 84 = .ok (.iload_n 1, 1) := by decide +kernel
theorem dX2_checkIn_85 : decode cX2_checkIn 85 = .ok (.invokevirtual 98, 3) := by decide +kernel
theorem dX2_checkIn_88 : decode cX2_checkIn 88 = .ok (.aload_n 0, 1) := by decide +kernel
theorem dX2_checkIn_89 : decode cX2_checkIn 89 = .ok (.getfield 30, 3) := by decide +kernel
theorem dX2_checkIn_92 : decode cX2_checkIn 92 = .ok (.iload_n 1, 1) := by decide +kernel
theorem dX2_checkIn_93 : decode cX2_checkIn 93 = .ok (.iconst 1, 1) := by decide +kernel
theorem dX2_checkIn_94 : decode cX2_checkIn 94 = .ok (.iastore, 1) := by decide +kernel
theorem dX2_checkIn_95 : decode cX2_checkIn 95 = .ok (.iload_n 1, 1) := by decide +kernel
theorem dX2_checkIn_96 : decode cX2_checkIn 96 = .ok (.iconst 1, 1) := by decide +kernel
theorem dX2_checkIn_97 : decode cX2_checkIn 97 = .ok (.iadd, 1) := by decide +kernel
theorem dX2_checkIn_98 : decode cX2_checkIn 98 = .ok (.istore 4, 2) := by decide +kernel
theorem dX2_checkIn_100 : decode cX2_checkIn 100 = .ok (.iload 4, 2) := by decide +kernel
theorem dX2_checkIn_102 : decode cX2_checkIn 102 = .ok (.iload_n 1, 1) := by decide +kernel
theorem dX2_checkIn_103 : decode cX2_checkIn 103 = .ok (.iload_n 2, 1) := by decide +kernel
theorem dX2_checkIn_104 : decode cX2_checkIn 104 = .ok (.iadd, 1) := by decide +kernel
theorem dX2_checkIn_105 : decode cX2_checkIn 105 = .ok (.if_icmp .gt 17, 3) := by decide +kernel
theorem dX2_checkIn_108 : decode cX2_checkIn 108 = .ok (.aload_n 0, 1) := by decide +kernel
theorem dX2_checkIn_109 : decode cX2_checkIn 109 = .ok (.getfield 30, 3) := by decide +kernel
theorem dX2_checkIn_112 : decode cX2_checkIn 112 = .ok (.iload 4, 2) := by decide +kernel
theorem dX2_checkIn_114 : decode cX2_checkIn 114 = .ok (.iconst 2, 1) := by decide +kernel
theorem dX2_checkIn_115 : decode cX2_checkIn 115 = .ok (.iastore, 1) := by decide +kernel
theorem dX2_checkIn_116 : decode cX2_checkIn 116 = .ok (.iinc 4 1, 3) := by decide +kernel
theorem dX2_checkIn_119 : decode cX2_checkIn 119 = .ok (.goto (-19), 3) := by decide +kernel
theorem dX2_checkIn_122 : decode cX2_checkIn 122 = .ok (.aload_n 0, 1) := by decide +kernel
theorem dX2_checkIn_123 : decode cX2_checkIn 123 = .ok (.invokevirtual 79, 3) := by decide +kernel
theorem dX2_checkIn_126 : decode cX2_checkIn 126 = .ok (.aload_n 0, 1) := by decide +kernel
theorem dX2_checkIn_127 : decode cX2_checkIn 127 = .ok (.getfield 46, 3) := by decide +kernel
theorem dX2_checkIn_130 : decode cX2_checkIn 130 = .ok (.ireturn, 1) := by decide +kernel
set_option maxRecDepth 20000 in
theorem ggX2_skip_X2_isForetold : GoodIn wsX2_skip wsX2_isForetold := goodIn_r _ [6, 7, 8, 9, 5, 10, 16, 17, 18, 19, 20, 21, 22, 23, 24, 25, 26, 27, 28, 29, 30, 31, 32, 33] (by decide +kernel) (by decide +kernel)
set_option maxRecDepth 20000 in
theorem gX2_skip_X2_isForetold : GoodIn wsX2_skip (wsV RX2 102 RX2 yX2_isForetold wsX2_isForetold) := goodIn_app (goodIn_of _ (by decide +kernel)) ggX2_skip_X2_isForetold
set_option maxRecDepth 20000 in
theorem ggX2_skip_X2_can : GoodIn wsX2_skip wsX2_can := goodIn_r _ [14, 15, 16, 17, 18, 19, 20, 21, 22, 23, 24, 25, 26, 27, 28, 29, 30, 31, 32, 33] (by decide +kernel) (by decide +kernel)
set_option maxRecDepth 20000 in
theorem gX2_skip_X2_can : GoodIn wsX2_skip (wsV RX2 76 RX2 yX2_can wsX2_can) := goodIn_app (goodIn_of _ (by decide +kernel)) ggX2_skip_X2_can
theorem dX2_skip_0 : decode cX2_skip 0 = .ok (.aload_n 0, 1) := by decide +kernel
theorem dX2_skip_1 : decode cX2_skip 1 = .ok (.aload_n 0, 1) := by decide +kernel
theorem dX2_skip_2 : decode cX2_skip 2 = .ok (.iload_n 1, 1) := by decide +kernel
theorem dX2_skip_3 : decode cX2_skip 3 = .ok (.invokevirtual 102, 3) := by decide +kernel
theorem dX2_skip_6 : decode cX2_skip 6 = .ok (.ifCond .ne 7, 3) := by decide +kernel
theorem dX2_skip_9 : decode cX2_skip 9 = .ok (.iconst 1, 1) := by decide +kernel
theorem dX2_skip_10 : decode cX2_skip 10 = .ok (.goto 17, 3) := by decide +kernel
theorem dX2_skip_13 : decode cX2_skip 13 = .ok (.aload_n 0, 1) := by decide +kernel
theorem dX2_skip_14 : decode cX2_skip 14 = .ok (.getfield 30, 3) := by decide +kernel
theorem dX2_skip_17 : decode cX2_skip 17 = .ok (.iload_n 1, 1) := by decide +kernel
theorem dX2_skip_18 : decode cX2_skip 18 = .ok (.iaload, 1) := by decide +kernel
theorem dX2_skip_19 : decode cX2_skip 19 = .ok (.ifCond .ne 7, 3) := by decide +kernel
theorem dX2_skip_22 : decode cX2_skip 22 = .ok (.iconst 0, 1) := by decide +kernel
theorem dX2_skip_23 : decode cX2_skip 23 = .ok (.goto 4, 3) := by decide +kernel
theorem dX2_skip_26 : decode cX2_skip 26 = .ok (.iconst 2, 1) := by decide +kernel
theorem dX2_skip_27 : decode cX2_skip 27 = .ok (.invokevirtual 76, 3) := by decide +kernel
theorem dX2_skip_30 : decode cX2_skip 30 = .ok (.ifCond .eq 10, 3) := by decide +kernel
theorem dX2_skip_33 : decode cX2_skip 33 = .ok (.aload_n 0, 1) := by decide +kernel
theorem dX2_skip_34 : decode cX2_skip 34 = .ok (.getfield 30, 3) := by decide +kernel
theorem dX2_skip_37 : decode cX2_skip 37 = .ok (.iload_n 1, 1) := by decide +kernel
theorem dX2_skip_38 : decode cX2_skip 38 = .ok (.iconst 3, 1) := by decide +kernel
theorem dX2_skip_39 : decode cX2_skip 39 = .ok (.iastore, 1) := by decide +kernel
theorem dX2_skip_40 : decode cX2_skip 40 = .ok (.return_, 1) := by decide +kernel
theorem dX2_isLate_0 : decode cX2_isLate 0 = .ok (.aload_n 0, 1) := by decide +kernel
theorem dX2_isLate_1 : decode cX2_isLate 1 = .ok (.getfield 30, 3) := by decide +kernel
theorem dX2_isLate_4 : decode cX2_isLate 4 = .ok (.iload_n 1, 1) := by decide +kernel
theorem dX2_isLate_5 : decode cX2_isLate 5 = .ok (.iaload, 1) := by decide +kernel
theorem dX2_isLate_6 : decode cX2_isLate 6 = .ok (.ifCond .ne 25, 3) := by decide +kernel
theorem dX2_isLate_9 : decode cX2_isLate 9 = .ok (.aload_n 0, 1) := by decide +kernel
theorem dX2_isLate_10 : decode cX2_isLate 10 = .ok (.getfield 70, 3) := by decide +kernel
theorem dX2_isLate_13 : decode cX2_isLate 13 = .ok (.aload_n 0, 1) := by decide +kernel
theorem dX2_isLate_14 : decode cX2_isLate 14 = .ok (.getfield 26, 3) := by decide +kernel
theorem dX2_isLate_17 : decode cX2_isLate 17 = .ok (.iload_n 1, 1) := by decide +kernel
theorem dX2_isLate_18 : decode cX2_isLate 18 = .ok (.iaload, 1) := by decide +kernel
theorem dX2_isLate_19 : decode cX2_isLate 19 = .ok (.isub, 1) := by decide +kernel
theorem dX2_isLate_20 : decode cX2_isLate 20 = .ok (.aload_n 0, 1) := by decide +kernel
theorem dX2_isLate_21 : decode cX2_isLate 21 = .ok (.getfield 20, 3) := by decide +kernel
theorem dX2_isLate_24 : decode cX2_isLate 24 = .ok (.if_icmp .le 7, 3) := by decide +kernel
theorem dX2_isLate_27 : decode cX2_isLate 27 = .ok (.iconst 1, 1) := by decide +kernel
theorem dX2_isLate_28 : decode cX2_isLate 28 = .ok (.goto 4, 3) := by decide +kernel
theorem dX2_isLate_31 : decode cX2_isLate 31 = .ok (.iconst 0, 1) := by decide +kernel
theorem dX2_isLate_32 : decode cX2_isLate 32 = .ok (.ireturn, 1) := by decide +kernel
set_option maxRecDepth 20000 in
theorem ggX2_round_X2_isLate : GoodIn wsX2_round wsX2_isLate := goodIn_r _ [12, 7, 4, 13, 14, 15, 16, 17, 18, 19, 20, 21, 22, 23, 24, 25, 26, 27, 28, 29, 30, 31, 32] (by decide +kernel) (by decide +kernel)
set_option maxRecDepth 20000 in
theorem gX2_round_X2_isLate : GoodIn wsX2_round (wsV RX2 105 RX2 yX2_isLate wsX2_isLate) := goodIn_app (goodIn_of _ (by decide +kernel)) ggX2_round_X2_isLate
theorem dX2_round_0 : decode cX2_round 0 = .ok (.aload_n 0, 1) := by decide +kernel
theorem dX2_round_1 : decode cX2_round 1 = .ok (.iconst 0, 1) := by decide +kernel
theorem dX2_round_2 : decode cX2_round 2 = .ok (.putfield 49, 3) := by decide +kernel
theorem dX2_round_5 : decode cX2_round 5 = .ok (.iconst 0, 1) := by decide +kernel
theorem dX2_round_6 : decode cX2_round 6 = .ok (.istore_n 1, 1) := by decide +kernel
theorem dX2_round_7 : decode cX2_round 7 = .ok (.iconst 0, 1) := by decide +kernel
theorem dX2_round_8 : decode cX2_round 8 = .ok (.istore_n 2, 1) := by decide +kernel
theorem dX2_round_9 : decode cX2_round 9 = .ok (.iload_n 2, 1) := by decide +kernel
theorem dX2_round_10 : decode cX2_round 10 = .ok (.aload_n 0, 1) := by decide +kernel
theorem dX2_round_11 : decode cX2_round 11 = .ok (.getfield 46, 3) := by decide +kernel
theorem dX2_round_14 : decode cX2_round 14 = .ok (.if_icmp .ge 117, 3) := by decide +kernel
theorem dX2_round_17 : decode cX2_round 17 = .ok (.aload_n 0, 1) := by decide +kernel
theorem dX2_round_18 : decode cX2_round 18 = .ok (.iload_n 2, 1) := by decide +kernel
theorem dX2_round_19 : decode cX2_round 19 = .ok (.invokevirtual 105, 3) := by decide +kernel
theorem dX2_round_22 : decode cX2_round 22 = .ok (.ifCond .eq 103, 3) := by decide +kernel
theorem dX2_round_25 : decode cX2_round 25 = .ok (.aload_n 0, 1) := by decide +kernel
theorem dX2_round_26 : decode cX2_round 26 = .ok (.getfield 33, 3) := by decide +kernel
theorem dX2_round_29 : decode cX2_round 29 = .ok (.iload_n 2, 1) := by decide +kernel
theorem dX2_round_30 : decode cX2_round 30 = .ok (.iaload, 1) := by decide +kernel
theorem dX2_round_31 : decode cX2_round 31 = .ok (.ifCond .eq 21, 3) := by decide +kernel
theorem dX2_round_34 : decode cX2_round 34 = .ok (.aload_n 0, 1) := by decide +kernel
theorem dX2_round_35 : decode cX2_round 35 = .ok (.getfield 70, 3) := by decide +kernel
theorem dX2_round_38 : decode cX2_round 38 = .ok (.aload_n 0, 1) := by decide +kernel
theorem dX2_round_39 : decode cX2_round 39 = .ok (.getfield 36, 3) := by decide +kernel
theorem dX2_round_42 : decode cX2_round 42 = .ok (.iload_n 2, 1) := by decide +kernel
theorem dX2_round_43 : decode cX2_round 43 = .ok (.iaload, 1) := by decide +kernel
theorem dX2_round_44 : decode cX2_round 44 = .ok (.isub, 1) := by decide +kernel
theorem dX2_round_45 : decode cX2_round 45 = .ok (.aload_n 0, 1) := by decide +kernel
theorem dX2_round_46 : decode cX2_round 46 = .ok (.getfield 23, 3) := by decide +kernel
theorem dX2_round_49 : decode cX2_round 49 = .ok (.if_icmp .lt 76, 3) := by decide +kernel
theorem dX2_round_52 : decode cX2_round 52 = .ok (.aload_n 0, 1) := by decide +kernel
theorem dX2_round_53 : decode cX2_round 53 = .ok (.getfield 30, 3) := by decide +kernel
theorem dX2_round_56 : decode cX2_round 56 = .ok (.iload_n 2, 1) := by decide +kernel
theorem dX2_round_57 : decode cX2_round 57 = .ok (.aload_n 0, 1) := by decide +kernel
theorem dX2_round_58 : decode cX2_round 58 = .ok (.getfield 33, 3) := by decide +kernel
theorem dX2_round_61 : decode cX2_round 61 = .ok (.iload_n 2, 1) := by decide +kernel
theorem dX2_round_62 : decode cX2_round 62 = .ok (.iaload, 1) := by decide +kernel
theorem dX2_round_63 : decode cX2_round 63 = .ok (.iconst 3, 1) := by decide +kernel
theorem dX2_round_64 : decode cX2_round 64 = .ok (.if_icmp .ge 7, 3) := by decide +kernel
theorem dX2_round_67 : decode cX2_round 67 = .ok (.iconst 0, 1) := by decide +kernel
theorem dX2_round_68 : decode cX2_round 68 = .ok (.goto 4, 3) := by decide +kernel
theorem dX2_round_71 : decode cX2_round 71 = .ok (.iconst 3, 1) := by decide +kernel
theorem dX2_round_72 : decode cX2_round 72 = .ok (.iastore, 1) := by decide +kernel
theorem dX2_round_73 : decode cX2_round 73 = .ok (.iload_n 1, 1) := by decide +kernel
theorem dX2_round_74 : decode cX2_round 74 = .ok (.aload_n 0, 1) := by decide +kernel
theorem dX2_round_75 : decode cX2_round 75 = .ok (.getfield 33, 3) := by decide +kernel
theorem dX2_round_78 : decode cX2_round 78 = .ok (.iload_n 2, 1) := by decide +kernel
theorem dX2_round_79 : decode cX2_round 79 = .ok (.iaload, 1) := by decide +kernel
theorem dX2_round_80 : decode cX2_round 80 = .ok (.iconst 3, 1) := by decide +kernel
theorem dX2_round_81 : decode cX2_round 81 = .ok (.if_icmp .ge 7, 3) := by decide +kernel
theorem dX2_round_84 : decode cX2_round 84 = .ok (.iconst 1, 1) := by decide +kernel
theorem dX2_round_85 : decode cX2_round 85 = .ok (.goto 4, 3) := by decide +kernel
theorem dX2_round_88 : decode cX2_round 88 = .ok (.iconst 0, 1) := by decide +kernel
theorem dX2_round_89 : decode cX2_round 89 = .ok (.iadd, 1) := by decide +kernel
theorem dX2_round_90 : decode cX2_round 90 = .ok (.istore_n 1, 1) := by decide +kernel
theorem dX2_round_91 : decode cX2_round 91 = .ok (.aload_n 0, 1) := by decide +kernel
theorem dX2_round_92 : decode cX2_round 92 = .ok (.getfield 36, 3) := by decide +kernel
theorem dX2_round_95 : decode cX2_round 95 = .ok (.iload_n 2, 1) := by decide +kernel
theorem dX2_round_96 : decode cX2_round 96 = .ok (.aload_n 0, 1) := by decide +kernel
theorem dX2_round_97 : decode cX2_round 97 = .ok (.getfield 70, 3) := by decide +kernel
theorem dX2_round_100 : decode cX2_round 100 = .ok (.iastore, 1) := by decide +kernel
theorem dX2_round_101 : decode cX2_round 101 = .ok (.aload_n 0, 1) := by decide +kernel
theorem dX2_round_102 : decode cX2_round 102 = .ok (.getfield 33, 3) := by decide +kernel
theorem dX2_round_105 : decode cX2_round 105 = .ok (.iload_n 2, 1) := by decide +kernel
theorem dX2_round_106 : decode cX2_round 106 = .ok (.dup2, 1) := by decide +kernel
theorem dX2_round_107 : decode cX2_round 107 = .ok (.iaload, 1) := by decide +kernel
theorem dX2_round_108 : decode cX2_round 108 = .ok (.aload_n 0, 1) := by decide +kernel
theorem dX2_round_109 : decode cX2_round 109 = .ok (.getfield 33, 3) := by decide +kernel
theorem dX2_round_112 : decode cX2_round 112 = .ok (.iload_n 2, 1) := by decide +kernel
theorem dX2_round_113 : decode cX2_round 113 = .ok (.iaload, 1) := by decide +kernel
theorem dX2_round_114 : decode cX2_round 114 = .ok (.iconst 3, 1) := by decide +kernel
theorem dX2_round_115 : decode cX2_round 115 = .ok (.if_icmp .ge 7, 3) := by decide +kernel
theorem dX2_round_118 : decode cX2_round 118 = .ok (.iconst 1, 1) := by decide +kernel
theorem dX2_round_119 : decode cX2_round 119 = .ok (.goto 4, 3) := by decide +kernel
theorem dX2_round_122 : decode cX2_round 122 = .ok (.iconst 0, 1) := by decide +kernel
theorem dX2_round_123 : decode cX2_round 123 = .ok (.iadd, 1) := by decide +kernel
theorem dX2_round_124 : decode cX2_round 124 = .ok (.iastore, 1) := by decide +kernel
theorem dX2_round_125 : decode cX2_round 125 = .ok (.iinc 2 1, 3) := by decide +kernel
theorem dX2_round_128 : decode cX2_round 128 = .ok (.goto (-119), 3) := by decide +kernel
theorem dX2_round_131 : decode cX2_round 131 = .ok (.iload_n 1, 1) := by decide +kernel
theorem dX2_round_132 : decode cX2_round 132 = .ok (.ireturn, 1) := by decide +kernel
theorem dX2_day_0 : decode cX2_day 0 = .ok (.aload_n 0, 1) := by decide +kernel
theorem dX2_day_1 : decode cX2_day 1 = .ok (.iconst 0, 1) := by decide +kernel
theorem dX2_day_2 : decode cX2_day 2 = .ok (.putfield 49, 3) := by decide +kernel
theorem dX2_day_5 : decode cX2_day 5 = .ok (.aload_n 0, 1) := by decide +kernel
theorem dX2_day_6 : decode cX2_day 6 = .ok (.getfield 70, 3) := by decide +kernel
theorem dX2_day_9 : decode cX2_day 9 = .ok (.ireturn, 1) := by decide +kernel
theorem dX2_foretold_0 : decode cX2_foretold 0 = .ok (.aload_n 0, 1) := by decide +kernel
theorem dX2_foretold_1 : decode cX2_foretold 1 = .ok (.iconst 0, 1) := by decide +kernel
theorem dX2_foretold_2 : decode cX2_foretold 2 = .ok (.putfield 49, 3) := by decide +kernel
theorem dX2_foretold_5 : decode cX2_foretold 5 = .ok (.aload_n 0, 1) := by decide +kernel
theorem dX2_foretold_6 : decode cX2_foretold 6 = .ok (.getfield 46, 3) := by decide +kernel
theorem dX2_foretold_9 : decode cX2_foretold 9 = .ok (.ireturn, 1) := by decide +kernel
theorem dX2_shift_0 : decode cX2_shift 0 = .ok (.aload_n 0, 1) := by decide +kernel
theorem dX2_shift_1 : decode cX2_shift 1 = .ok (.iconst 0, 1) := by decide +kernel
theorem dX2_shift_2 : decode cX2_shift 2 = .ok (.putfield 49, 3) := by decide +kernel
theorem dX2_shift_5 : decode cX2_shift 5 = .ok (.aload_n 0, 1) := by decide +kernel
theorem dX2_shift_6 : decode cX2_shift 6 = .ok (.getfield 59, 3) := by decide +kernel
theorem dX2_shift_9 : decode cX2_shift 9 = .ok (.ireturn, 1) := by decide +kernel
set_option maxRecDepth 20000 in
theorem ggX2_isAsked_X2_isForetold : GoodIn wsX2_isAsked wsX2_isForetold := goodIn_r _ [5, 6, 7, 8, 4, 9, 15, 16, 17, 18, 19, 20, 21, 22, 23, 24, 25, 26, 27, 28, 29, 30, 31, 32] (by decide +kernel) (by decide +kernel)
set_option maxRecDepth 20000 in
theorem gX2_isAsked_X2_isForetold : GoodIn wsX2_isAsked (wsV RX2 102 RX2 yX2_isForetold wsX2_isForetold) := goodIn_app (goodIn_of _ (by decide +kernel)) ggX2_isAsked_X2_isForetold
set_option maxRecDepth 20000 in
theorem ggX2_isAsked_X2_can : GoodIn wsX2_isAsked wsX2_can := goodIn_r _ [13, 14, 15, 16, 17, 18, 19, 20, 21, 22, 23, 24, 25, 26, 27, 28, 29, 30, 31, 32] (by decide +kernel) (by decide +kernel)
set_option maxRecDepth 20000 in
theorem gX2_isAsked_X2_can : GoodIn wsX2_isAsked (wsV RX2 76 RX2 yX2_can wsX2_can) := goodIn_app (goodIn_of _ (by decide +kernel)) ggX2_isAsked_X2_can
theorem dX2_isAsked_0 : decode cX2_isAsked 0 = .ok (.aload_n 0, 1) := by decide +kernel
theorem dX2_isAsked_1 : decode cX2_isAsked 1 = .ok (.aload_n 0, 1) := by decide +kernel
theorem dX2_isAsked_2 : decode cX2_isAsked 2 = .ok (.iload_n 1, 1) := by decide +kernel
theorem dX2_isAsked_3 : decode cX2_isAsked 3 = .ok (.invokevirtual 102, 3) := by decide +kernel
theorem dX2_isAsked_6 : decode cX2_isAsked 6 = .ok (.ifCond .eq 7, 3) := by decide +kernel
theorem dX2_isAsked_9 : decode cX2_isAsked 9 = .ok (.iconst 0, 1) := by decide +kernel
theorem dX2_isAsked_10 : decode cX2_isAsked 10 = .ok (.goto 4, 3) := by decide +kernel
theorem dX2_isAsked_13 : decode cX2_isAsked 13 = .ok (.iconst 1, 1) := by decide +kernel
theorem dX2_isAsked_14 : decode cX2_isAsked 14 = .ok (.invokevirtual 76, 3) := by decide +kernel
theorem dX2_isAsked_17 : decode cX2_isAsked 17 = .ok (.ireturn, 1) := by decide +kernel
set_option maxRecDepth 20000 in
theorem ggX2_dayOf_X2_isAsked : GoodIn wsX2_dayOf wsX2_isAsked := goodIn_r _ [6, 7, 8, 9, 5, 10, 11, 12, 13, 14, 15, 16, 17, 18, 19, 20, 21, 22, 23, 24, 25, 26, 27, 28, 29, 30, 31, 32, 33, 34, 35, 36, 37] (by decide +kernel) (by decide +kernel)
set_option maxRecDepth 20000 in
theorem gX2_dayOf_X2_isAsked : GoodIn wsX2_dayOf (wsV RX2 108 RX2 yX2_isAsked wsX2_isAsked) := goodIn_app (goodIn_of _ (by decide +kernel)) ggX2_dayOf_X2_isAsked
theorem dX2_dayOf_0 : decode cX2_dayOf 0 = .ok (.aload_n 0, 1) := by decide +kernel
theorem dX2_dayOf_1 : decode cX2_dayOf 1 = .ok (.iload_n 1, 1) := by decide +kernel
theorem dX2_dayOf_2 : decode cX2_dayOf 2 = .ok (.invokevirtual 108, 3) := by decide +kernel
theorem dX2_dayOf_5 : decode cX2_dayOf 5 = .ok (.ifCond .eq 12, 3) := by decide +kernel
theorem dX2_dayOf_8 : decode cX2_dayOf 8 = .ok (.aload_n 0, 1) := by decide +kernel
theorem dX2_dayOf_9 : decode cX2_dayOf 9 = .ok (.getfield 26, 3) := by decide +kernel
theorem dX2_dayOf_12 : decode cX2_dayOf 12 = .ok (.iload_n 1, 1) := by decide +kernel
theorem dX2_dayOf_13 : decode cX2_dayOf 13 = .ok (.iaload, 1) := by decide +kernel
theorem dX2_dayOf_14 : decode cX2_dayOf 14 = .ok (.goto 4, 3) := by decide +kernel
theorem dX2_dayOf_17 : decode cX2_dayOf 17 = .ok (.iconst 0, 1) := by decide +kernel
theorem dX2_dayOf_18 : decode cX2_dayOf 18 = .ok (.ireturn, 1) := by decide +kernel
set_option maxRecDepth 20000 in
theorem ggX2_stateOf_X2_isAsked : GoodIn wsX2_stateOf wsX2_isAsked := goodIn_r _ [6, 7, 8, 9, 5, 10, 11, 12, 13, 14, 15, 16, 17, 18, 19, 20, 21, 22, 23, 24, 25, 26, 27, 28, 29, 30, 31, 32, 33, 34, 35, 36, 37] (by decide +kernel) (by decide +kernel)
set_option maxRecDepth 20000 in
theorem gX2_stateOf_X2_isAsked : GoodIn wsX2_stateOf (wsV RX2 108 RX2 yX2_isAsked wsX2_isAsked) := goodIn_app (goodIn_of _ (by decide +kernel)) ggX2_stateOf_X2_isAsked
theorem dX2_stateOf_0 : decode cX2_stateOf 0 = .ok (.aload_n 0, 1) := by decide +kernel
theorem dX2_stateOf_1 : decode cX2_stateOf 1 = .ok (.iload_n 1, 1) := by decide +kernel
theorem dX2_stateOf_2 : decode cX2_stateOf 2 = .ok (.invokevirtual 108, 3) := by decide +kernel
theorem dX2_stateOf_5 : decode cX2_stateOf 5 = .ok (.ifCond .eq 12, 3) := by decide +kernel
theorem dX2_stateOf_8 : decode cX2_stateOf 8 = .ok (.aload_n 0, 1) := by decide +kernel
theorem dX2_stateOf_9 : decode cX2_stateOf 9 = .ok (.getfield 30, 3) := by decide +kernel
theorem dX2_stateOf_12 : decode cX2_stateOf 12 = .ok (.iload_n 1, 1) := by decide +kernel
theorem dX2_stateOf_13 : decode cX2_stateOf 13 = .ok (.iaload, 1) := by decide +kernel
theorem dX2_stateOf_14 : decode cX2_stateOf 14 = .ok (.goto 4, 3) := by decide +kernel
theorem dX2_stateOf_17 : decode cX2_stateOf 17 = .ok (.iconst 0, 1) := by decide +kernel
theorem dX2_stateOf_18 : decode cX2_stateOf 18 = .ok (.ireturn, 1) := by decide +kernel
set_option maxRecDepth 20000 in
theorem ggX2_claimsOf_X2_isAsked : GoodIn wsX2_claimsOf wsX2_isAsked := goodIn_r _ [6, 7, 8, 9, 5, 10, 11, 12, 13, 14, 15, 16, 17, 18, 19, 20, 21, 22, 23, 24, 25, 26, 27, 28, 29, 30, 31, 32, 33, 34, 35, 36, 37] (by decide +kernel) (by decide +kernel)
set_option maxRecDepth 20000 in
theorem gX2_claimsOf_X2_isAsked : GoodIn wsX2_claimsOf (wsV RX2 108 RX2 yX2_isAsked wsX2_isAsked) := goodIn_app (goodIn_of _ (by decide +kernel)) ggX2_claimsOf_X2_isAsked
theorem dX2_claimsOf_0 : decode cX2_claimsOf 0 = .ok (.aload_n 0, 1) := by decide +kernel
theorem dX2_claimsOf_1 : decode cX2_claimsOf 1 = .ok (.iload_n 1, 1) := by decide +kernel
theorem dX2_claimsOf_2 : decode cX2_claimsOf 2 = .ok (.invokevirtual 108, 3) := by decide +kernel
theorem dX2_claimsOf_5 : decode cX2_claimsOf 5 = .ok (.ifCond .eq 12, 3) := by decide +kernel
theorem dX2_claimsOf_8 : decode cX2_claimsOf 8 = .ok (.aload_n 0, 1) := by decide +kernel
theorem dX2_claimsOf_9 : decode cX2_claimsOf 9 = .ok (.getfield 33, 3) := by decide +kernel
theorem dX2_claimsOf_12 : decode cX2_claimsOf 12 = .ok (.iload_n 1, 1) := by decide +kernel
theorem dX2_claimsOf_13 : decode cX2_claimsOf 13 = .ok (.iaload, 1) := by decide +kernel
theorem dX2_claimsOf_14 : decode cX2_claimsOf 14 = .ok (.goto 4, 3) := by decide +kernel
theorem dX2_claimsOf_17 : decode cX2_claimsOf 17 = .ok (.iconst 0, 1) := by decide +kernel
theorem dX2_claimsOf_18 : decode cX2_claimsOf 18 = .ok (.ireturn, 1) := by decide +kernel
theorem dX2_volume_0 : decode cX2_volume 0 = .ok (.iload_n 1, 1) := by decide +kernel
theorem dX2_volume_1 : decode cX2_volume 1 = .ok (.aload_n 0, 1) := by decide +kernel
theorem dX2_volume_2 : decode cX2_volume 2 = .ok (.getfield 13, 3) := by decide +kernel
theorem dX2_volume_5 : decode cX2_volume 5 = .ok (.idiv, 1) := by decide +kernel
theorem dX2_volume_6 : decode cX2_volume 6 = .ok (.iconst 1, 1) := by decide +kernel
theorem dX2_volume_7 : decode cX2_volume 7 = .ok (.iadd, 1) := by decide +kernel
theorem dX2_volume_8 : decode cX2_volume 8 = .ok (.ireturn, 1) := by decide +kernel
theorem dX2_number_0 : decode cX2_number 0 = .ok (.aload_n 0, 1) := by decide +kernel
theorem dX2_number_1 : decode cX2_number 1 = .ok (.getfield 16, 3) := by decide +kernel
theorem dX2_number_4 : decode cX2_number 4 = .ok (.ifCond .eq 14, 3) := by decide +kernel
theorem dX2_number_7 : decode cX2_number 7 = .ok (.iload_n 1, 1) := by decide +kernel
theorem dX2_number_8 : decode cX2_number 8 = .ok (.aload_n 0, 1) := by decide +kernel
theorem dX2_number_9 : decode cX2_number 9 = .ok (.getfield 13, 3) := by decide +kernel
theorem dX2_number_12 : decode cX2_number 12 = .ok (.irem, 1) := by decide +kernel
theorem dX2_number_13 : decode cX2_number 13 = .ok (.iconst 1, 1) := by decide +kernel
theorem dX2_number_14 : decode cX2_number 14 = .ok (.iadd, 1) := by decide +kernel
theorem dX2_number_15 : decode cX2_number 15 = .ok (.goto 6, 3) := by decide +kernel
theorem dX2_number_18 : decode cX2_number 18 = .ok (.iload_n 1, 1) := by decide +kernel
theorem dX2_number_19 : decode cX2_number 19 = .ok (.iconst 1, 1) := by decide +kernel
theorem dX2_number_20 : decode cX2_number 20 = .ok (.iadd, 1) := by decide +kernel
theorem dX2_number_21 : decode cX2_number 21 = .ok (.ireturn, 1) := by decide +kernel
set_option maxRecDepth 20000 in
theorem ggX2_labelOf_X2_isIssue : GoodIn wsX2_labelOf wsX2_isIssue := goodIn_r _ [4, 5, 6, 3, 7] (by decide +kernel) (by decide +kernel)
set_option maxRecDepth 20000 in
theorem gX2_labelOf_X2_isIssue : GoodIn wsX2_labelOf (va_wsS RX2 91 yX2_isIssue wsX2_isIssue) := goodIn_app (goodIn_of _ (by decide +kernel)) ggX2_labelOf_X2_isIssue
set_option maxRecDepth 20000 in
theorem ggX2_labelOf_X2_can : GoodIn wsX2_labelOf wsX2_can := goodIn_r _ [11, 12, 23, 24, 25, 26, 27, 28, 29, 30, 31, 32, 33, 34, 35, 36, 37, 38, 39, 40] (by decide +kernel) (by decide +kernel)
set_option maxRecDepth 20000 in
theorem gX2_labelOf_X2_can : GoodIn wsX2_labelOf (wsV RX2 76 RX2 yX2_can wsX2_can) := goodIn_app (goodIn_of _ (by decide +kernel)) ggX2_labelOf_X2_can
set_option maxRecDepth 20000 in
theorem ggX2_labelOf_X2_volume : GoodIn wsX2_labelOf wsX2_volume := goodIn_r _ [16, 17, 23, 24, 25, 26, 27, 28, 29, 30, 31, 32, 33, 34, 35, 36, 37, 38, 39, 40] (by decide +kernel) (by decide +kernel)
set_option maxRecDepth 20000 in
theorem gX2_labelOf_X2_volume : GoodIn wsX2_labelOf (wsV RX2 111 RX2 yX2_volume wsX2_volume) := goodIn_app (goodIn_of _ (by decide +kernel)) ggX2_labelOf_X2_volume
set_option maxRecDepth 20000 in
theorem ggX2_labelOf_X2_number : GoodIn wsX2_labelOf wsX2_number := goodIn_r _ [21, 22, 17, 23, 24, 25, 26, 27, 28, 29, 30, 31, 32, 33, 34, 35, 36, 37, 38, 39, 40] (by decide +kernel) (by decide +kernel)
set_option maxRecDepth 20000 in
theorem gX2_labelOf_X2_number : GoodIn wsX2_labelOf (wsV RX2 115 RX2 yX2_number wsX2_number) := goodIn_app (goodIn_of _ (by decide +kernel)) ggX2_labelOf_X2_number
theorem dX2_labelOf_0 : decode cX2_labelOf 0 = .ok (.aload_n 0, 1) := by decide +kernel
theorem dX2_labelOf_1 : decode cX2_labelOf 1 = .ok (.iload_n 1, 1) := by decide +kernel
theorem dX2_labelOf_2 : decode cX2_labelOf 2 = .ok (.invokestatic 91, 3) := by decide +kernel
theorem dX2_labelOf_5 : decode cX2_labelOf 5 = .ok (.ifCond .eq 7, 3) := by decide +kernel
theorem dX2_labelOf_8 : decode cX2_labelOf 8 = .ok (.iconst 0, 1) := by decide +kernel
theorem dX2_labelOf_9 : decode cX2_labelOf 9 = .ok (.goto 4, 3) := by decide +kernel
theorem dX2_labelOf_12 : decode cX2_labelOf 12 = .ok (.iconst 1, 1) := by decide +kernel
theorem dX2_labelOf_13 : decode cX2_labelOf 13 = .ok (.invokevirtual 76, 3) := by decide +kernel
theorem dX2_labelOf_16 : decode cX2_labelOf 16 = .ok (.ifCond .eq 21, 3) := by decide +kernel
theorem dX2_labelOf_19 : decode cX2_labelOf 19 = .ok (.sipush 1000, 3) := by decide +kernel
theorem dX2_labelOf_22 : decode cX2_labelOf 22 = .ok (.aload_n 0, 1) := by decide +kernel
theorem dX2_labelOf_23 : decode cX2_labelOf 23 = .ok (.iload_n 1, 1) := by decide +kernel
theorem dX2_labelOf_24 : decode cX2_labelOf 24 = .ok (.invokevirtual 111, 3) := by decide +kernel
theorem dX2_labelOf_27 : decode cX2_labelOf 27 = .ok (.imul, 1) := by decide +kernel
theorem dX2_labelOf_28 : decode cX2_labelOf 28 = .ok (.aload_n 0, 1) := by decide +kernel
theorem dX2_labelOf_29 : decode cX2_labelOf 29 = .ok (.iload_n 1, 1) := by decide +kernel
theorem dX2_labelOf_30 : decode cX2_labelOf 30 = .ok (.invokevirtual 115, 3) := by decide +kernel
theorem dX2_labelOf_33 : decode cX2_labelOf 33 = .ok (.iadd, 1) := by decide +kernel
theorem dX2_labelOf_34 : decode cX2_labelOf 34 = .ok (.goto 4, 3) := by decide +kernel
theorem dX2_labelOf_37 : decode cX2_labelOf 37 = .ok (.iconst 0, 1) := by decide +kernel
theorem dX2_labelOf_38 : decode cX2_labelOf 38 = .ok (.ireturn, 1) := by decide +kernel
set_option maxRecDepth 20000 in
theorem ggX2_find_X2_volume : GoodIn wsX2_find wsX2_volume := goodIn_r _ [6, 7, 13, 14, 15, 16, 17, 18, 19, 20, 21, 22, 23, 24, 25, 26, 27, 28, 29, 30] (by decide +kernel) (by decide +kernel)
set_option maxRecDepth 20000 in
theorem gX2_find_X2_volume : GoodIn wsX2_find (wsV RX2 111 RX2 yX2_volume wsX2_volume) := goodIn_app (goodIn_of _ (by decide +kernel)) ggX2_find_X2_volume
set_option maxRecDepth 20000 in
theorem ggX2_find_X2_number : GoodIn wsX2_find wsX2_number := goodIn_r _ [11, 12, 7, 13, 14, 15, 16, 17, 18, 19, 20, 21, 22, 23, 24, 25, 26, 27, 28, 29, 30] (by decide +kernel) (by decide +kernel)
set_option maxRecDepth 20000 in
theorem gX2_find_X2_number : GoodIn wsX2_find (wsV RX2 115 RX2 yX2_number wsX2_number) := goodIn_app (goodIn_of _ (by decide +kernel)) ggX2_find_X2_number
theorem dX2_find_0 : decode cX2_find 0 = .ok (.aload_n 0, 1) := by decide +kernel
theorem dX2_find_1 : decode cX2_find 1 = .ok (.iconst 0, 1) := by decide +kernel
theorem dX2_find_2 : decode cX2_find 2 = .ok (.putfield 49, 3) := by decide +kernel
theorem dX2_find_5 : decode cX2_find 5 = .ok (.iconst (-1), 1) := by decide +kernel
theorem dX2_find_6 : decode cX2_find 6 = .ok (.istore_n 3, 1) := by decide +kernel
theorem dX2_find_7 : decode cX2_find 7 = .ok (.iconst 0, 1) := by decide +kernel
theorem dX2_find_8 : decode cX2_find 8 = .ok (.istore 4, 2) := by decide +kernel
theorem dX2_find_10 : decode cX2_find 10 = .ok (.iload 4, 2) := by decide +kernel
theorem dX2_find_12 : decode cX2_find 12 = .ok (.sipush 200, 3) := by decide +kernel
theorem dX2_find_15 : decode cX2_find 15 = .ok (.if_icmp .ge 36, 3) := by decide +kernel
theorem dX2_find_18 : decode cX2_find 18 = .ok (.aload_n 0, 1) := by decide +kernel
theorem dX2_find_19 : decode cX2_find 19 = .ok (.iload 4, 2) := by decide +kernel
theorem dX2_find_21 : decode cX2_find 21 = .ok (.invokevirtual 111, 3) := by decide +kernel
theorem dX2_find_24 : decode cX2_find 24 = .ok (.iload_n 1, 1) := by decide +kernel
theorem dX2_find_25 : decode cX2_find 25 = .ok (.if_icmp .ne 18, 3) := by decide +kernel
theorem dX2_find_28 : decode cX2_find 28 = .ok (.aload_n 0, 1) := by decide +kernel
theorem dX2_find_29 : decode cX2_find 29 = .ok (.iload 4, 2) := by decide +kernel
theorem dX2_find_31 : decode cX2_find 31 = .ok (.invokevirtual 115, 3) := by decide +kernel
theorem dX2_find_34 : decode cX2_find 34 = .ok (.iload_n 2, 1) := by decide +kernel
theorem dX2_find_35 : decode cX2_find 35 = .ok (.if_icmp .ne 8, 3) := by decide +kernel
theorem dX2_find_38 : decode cX2_find 38 = .ok (.iload 4, 2) := by decide +kernel
theorem dX2_find_40 : decode cX2_find 40 = .ok (.goto 4, 3) := by decide +kernel
theorem dX2_find_43 : decode cX2_find 43 = .ok (.iload_n 3, 1) := by decide +kernel
theorem dX2_find_44 : decode cX2_find 44 = .ok (.istore_n 3, 1) := by decide +kernel
theorem dX2_find_45 : decode cX2_find 45 = .ok (.iinc 4 1, 3) := by decide +kernel
theorem dX2_find_48 : decode cX2_find 48 = .ok (.goto (-38), 3) := by decide +kernel
theorem dX2_find_51 : decode cX2_find 51 = .ok (.iload_n 3, 1) := by decide +kernel
theorem dX2_find_52 : decode cX2_find 52 = .ok (.ireturn, 1) := by decide +kernel
set_option maxRecDepth 20000 in
theorem ggX2_late_X2_isLate : GoodIn wsX2_late wsX2_isLate := goodIn_r _ [7, 8, 9, 10, 11, 12, 13, 14, 15, 16, 17, 18, 19, 20, 21, 22, 23, 24, 25, 26, 27, 28, 29] (by decide +kernel) (by decide +kernel)
set_option maxRecDepth 20000 in
theorem gX2_late_X2_isLate : GoodIn wsX2_late (wsV RX2 105 RX2 yX2_isLate wsX2_isLate) := goodIn_app (goodIn_of _ (by decide +kernel)) ggX2_late_X2_isLate
theorem dX2_late_0 : decode cX2_late 0 = .ok (.aload_n 0, 1) := by decide +kernel
theorem dX2_late_1 : decode cX2_late 1 = .ok (.iconst 0, 1) := by decide +kernel
theorem dX2_late_2 : decode cX2_late 2 = .ok (.putfield 49, 3) := by decide +kernel
theorem dX2_late_5 : decode cX2_late 5 = .ok (.iconst 0, 1) := by decide +kernel
theorem dX2_late_6 : decode cX2_late 6 = .ok (.istore_n 1, 1) := by decide +kernel
theorem dX2_late_7 : decode cX2_late 7 = .ok (.iconst 0, 1) := by decide +kernel
theorem dX2_late_8 : decode cX2_late 8 = .ok (.istore_n 2, 1) := by decide +kernel
theorem dX2_late_9 : decode cX2_late 9 = .ok (.iload_n 2, 1) := by decide +kernel
theorem dX2_late_10 : decode cX2_late 10 = .ok (.aload_n 0, 1) := by decide +kernel
theorem dX2_late_11 : decode cX2_late 11 = .ok (.getfield 46, 3) := by decide +kernel
theorem dX2_late_14 : decode cX2_late 14 = .ok (.if_icmp .ge 25, 3) := by decide +kernel
theorem dX2_late_17 : decode cX2_late 17 = .ok (.iload_n 1, 1) := by decide +kernel
theorem dX2_late_18 : decode cX2_late 18 = .ok (.aload_n 0, 1) := by decide +kernel
theorem dX2_late_19 : decode cX2_late 19 = .ok (.iload_n 2, 1) := by decide +kernel
theorem dX2_late_20 : decode cX2_late 20 = .ok (.invokevirtual 105, 3) := by decide +kernel
theorem dX2_late_23 : decode cX2_late 23 = .ok (.ifCond .eq 7, 3) := by decide +kernel
theorem dX2_late_26 : decode cX2_late 26 = .ok (.iconst 1, 1) := by decide +kernel
theorem dX2_late_27 : decode cX2_late 27 = .ok (.goto 4, 3) := by decide +kernel
theorem dX2_late_30 : decode cX2_late 30 = .ok (.iconst 0, 1) := by decide +kernel
theorem dX2_late_31 : decode cX2_late 31 = .ok (.iadd, 1) := by decide +kernel
theorem dX2_late_32 : decode cX2_late 32 = .ok (.istore_n 1, 1) := by decide +kernel
theorem dX2_late_33 : decode cX2_late 33 = .ok (.iinc 2 1, 3) := by decide +kernel
theorem dX2_late_36 : decode cX2_late 36 = .ok (.goto (-27), 3) := by decide +kernel
theorem dX2_late_39 : decode cX2_late 39 = .ok (.iload_n 1, 1) := by decide +kernel
theorem dX2_late_40 : decode cX2_late 40 = .ok (.ireturn, 1) := by decide +kernel
set_option maxRecDepth 20000 in
theorem ggX2_isHere_X2_isForetold : GoodIn wsX2_isHere wsX2_isForetold := goodIn_r _ [6, 7, 8, 9, 5, 10, 11, 12, 13, 14, 15, 16, 17, 18, 19, 20, 21, 22, 23, 24, 25, 26, 27, 28] (by decide +kernel) (by decide +kernel)
set_option maxRecDepth 20000 in
theorem gX2_isHere_X2_isForetold : GoodIn wsX2_isHere (wsV RX2 102 RX2 yX2_isForetold wsX2_isForetold) := goodIn_app (goodIn_of _ (by decide +kernel)) ggX2_isHere_X2_isForetold
theorem dX2_isHere_0 : decode cX2_isHere 0 = .ok (.aload_n 0, 1) := by decide +kernel
theorem dX2_isHere_1 : decode cX2_isHere 1 = .ok (.iload_n 1, 1) := by decide +kernel
theorem dX2_isHere_2 : decode cX2_isHere 2 = .ok (.invokevirtual 102, 3) := by decide +kernel
theorem dX2_isHere_5 : decode cX2_isHere 5 = .ok (.ifCond .eq 27, 3) := by decide +kernel
theorem dX2_isHere_8 : decode cX2_isHere 8 = .ok (.aload_n 0, 1) := by decide +kernel
theorem dX2_isHere_9 : decode cX2_isHere 9 = .ok (.getfield 30, 3) := by decide +kernel
theorem dX2_isHere_12 : decode cX2_isHere 12 = .ok (.iload_n 1, 1) := by decide +kernel
theorem dX2_isHere_13 : decode cX2_isHere 13 = .ok (.iaload, 1) := by decide +kernel
theorem dX2_isHere_14 : decode cX2_isHere 14 = .ok (.iconst 1, 1) := by decide +kernel
theorem dX2_isHere_15 : decode cX2_isHere 15 = .ok (.if_icmp .eq 13, 3) := by decide +kernel
theorem dX2_isHere_18 : decode cX2_isHere 18 = .ok (.aload_n 0, 1) := by decide +kernel
theorem dX2_isHere_19 : decode cX2_isHere 19 = .ok (.getfield 30, 3) := by decide +kernel
theorem dX2_isHere_22 : decode cX2_isHere 22 = .ok (.iload_n 1, 1) := by decide +kernel
theorem dX2_isHere_23 : decode cX2_isHere 23 = .ok (.iaload, 1) := by decide +kernel
theorem dX2_isHere_24 : decode cX2_isHere 24 = .ok (.iconst 2, 1) := by decide +kernel
theorem dX2_isHere_25 : decode cX2_isHere 25 = .ok (.if_icmp .ne 7, 3) := by decide +kernel
theorem dX2_isHere_28 : decode cX2_isHere 28 = .ok (.iconst 1, 1) := by decide +kernel
theorem dX2_isHere_29 : decode cX2_isHere 29 = .ok (.goto 4, 3) := by decide +kernel
theorem dX2_isHere_32 : decode cX2_isHere 32 = .ok (.iconst 0, 1) := by decide +kernel
theorem dX2_isHere_33 : decode cX2_isHere 33 = .ok (.ireturn, 1) := by decide +kernel
set_option maxRecDepth 20000 in
theorem ggX2_allRanges_X2_isHere : GoodIn wsX2_allRanges wsX2_isHere := goodIn_r _ [6, 7, 8, 9, 10, 5, 11, 1, 12, 13, 14, 15, 16, 17, 18, 19, 20, 21, 22, 23, 24, 25, 26, 27, 28, 29, 30, 31, 32] (by decide +kernel) (by decide +kernel)
set_option maxRecDepth 20000 in
theorem gX2_allRanges_X2_isHere : GoodIn wsX2_allRanges (wsV RX2 118 RX2 yX2_isHere wsX2_isHere) := goodIn_app (goodIn_of _ (by decide +kernel)) ggX2_allRanges_X2_isHere
theorem dX2_allRanges_0 : decode cX2_allRanges 0 = .ok (.iconst 0, 1) := by decide +kernel
theorem dX2_allRanges_1 : decode cX2_allRanges 1 = .ok (.istore_n 1, 1) := by decide +kernel
theorem dX2_allRanges_2 : decode cX2_allRanges 2 = .ok (.iconst 0, 1) := by decide +kernel
theorem dX2_allRanges_3 : decode cX2_allRanges 3 = .ok (.istore_n 2, 1) := by decide +kernel
theorem dX2_allRanges_4 : decode cX2_allRanges 4 = .ok (.iload_n 2, 1) := by decide +kernel
theorem dX2_allRanges_5 : decode cX2_allRanges 5 = .ok (.aload_n 0, 1) := by decide +kernel
theorem dX2_allRanges_6 : decode cX2_allRanges 6 = .ok (.getfield 46, 3) := by decide +kernel
theorem dX2_allRanges_9 : decode cX2_allRanges 9 = .ok (.if_icmp .ge 35, 3) := by decide +kernel
theorem dX2_allRanges_12 : decode cX2_allRanges 12 = .ok (.iload_n 1, 1) := by decide +kernel
theorem dX2_allRanges_13 : decode cX2_allRanges 13 = .ok (.aload_n 0, 1) := by decide +kernel
theorem dX2_allRanges_14 : decode cX2_allRanges 14 = .ok (.iload_n 2, 1) := by decide +kernel
theorem dX2_allRanges_15 : decode cX2_allRanges 15 = .ok (.invokevirtual 118, 3) := by decide +kernel
theorem dX2_allRanges_18 : decode cX2_allRanges 18 = .ok (.ifCond .eq 17, 3) := by decide +kernel
theorem dX2_allRanges_21 : decode cX2_allRanges 21 = .ok (.aload_n 0, 1) := by decide +kernel
theorem dX2_allRanges_22 : decode cX2_allRanges 22 = .ok (.iload_n 2, 1) := by decide +kernel
theorem dX2_allRanges_23 : decode cX2_allRanges 23 = .ok (.iconst 1, 1) := by decide +kernel
theorem dX2_allRanges_24 : decode cX2_allRanges 24 = .ok (.isub, 1) := by decide +kernel
theorem dX2_allRanges_25 : decode cX2_allRanges 25 = .ok (.invokevirtual 118, 3) := by decide +kernel
theorem dX2_allRanges_28 : decode cX2_allRanges 28 = .ok (.ifCond .ne 7, 3) := by decide +kernel
theorem dX2_allRanges_31 : decode cX2_allRanges 31 = .ok (.iconst 1, 1) := by decide +kernel
theorem dX2_allRanges_32 : decode cX2_allRanges 32 = .ok (.goto 4, 3) := by decide +kernel
theorem dX2_allRanges_35 : decode cX2_allRanges 35 = .ok (.iconst 0, 1) := by decide +kernel
theorem dX2_allRanges_36 : decode cX2_allRanges 36 = .ok (.iadd, 1) := by decide +kernel
theorem dX2_allRanges_37 : decode cX2_allRanges 37 = .ok (.istore_n 1, 1) := by decide +kernel
theorem dX2_allRanges_38 : decode cX2_allRanges 38 = .ok (.iinc 2 1, 3) := by decide +kernel
theorem dX2_allRanges_41 : decode cX2_allRanges 41 = .ok (.goto (-37), 3) := by decide +kernel
theorem dX2_allRanges_44 : decode cX2_allRanges 44 = .ok (.iload_n 1, 1) := by decide +kernel
theorem dX2_allRanges_45 : decode cX2_allRanges 45 = .ok (.ireturn, 1) := by decide +kernel
set_option maxRecDepth 20000 in
theorem ggX2_ranges_X2_allRanges : GoodIn wsX2_ranges wsX2_allRanges := goodIn_r _ [6, 7, 8, 9, 10, 5, 11, 12, 13, 14, 15, 16, 17, 18, 19, 20, 21, 22, 23, 24, 25, 26, 27, 28, 29, 30, 31, 32, 33, 34, 35, 36, 37] (by decide +kernel) (by decide +kernel)
set_option maxRecDepth 20000 in
theorem gX2_ranges_X2_allRanges : GoodIn wsX2_ranges (wsV RX2 121 RX2 yX2_allRanges wsX2_allRanges) := goodIn_app (goodIn_of _ (by decide +kernel)) ggX2_ranges_X2_allRanges
theorem dX2_ranges_0 : decode cX2_ranges 0 = .ok (.aload_n 0, 1) := by decide +kernel
theorem dX2_ranges_1 : decode cX2_ranges 1 = .ok (.iconst 0, 1) := by decide +kernel
theorem dX2_ranges_2 : decode cX2_ranges 2 = .ok (.putfield 49, 3) := by decide +kernel
theorem dX2_ranges_5 : decode cX2_ranges 5 = .ok (.aload_n 0, 1) := by decide +kernel
theorem dX2_ranges_6 : decode cX2_ranges 6 = .ok (.invokevirtual 121, 3) := by decide +kernel
theorem dX2_ranges_9 : decode cX2_ranges 9 = .ok (.ireturn, 1) := by decide +kernel
set_option maxRecDepth 20000 in
theorem ggX2_rangeAt_X2_allRanges : GoodIn wsX2_rangeAt wsX2_allRanges := goodIn_r _ [5, 6, 7, 8, 9, 4, 10, 11, 12, 13, 14, 15, 16, 17, 18, 24, 25, 26, 27, 28, 29, 30, 31, 32, 33, 34, 35, 36, 37, 38, 39, 40, 41] (by decide +kernel) (by decide +kernel)
set_option maxRecDepth 20000 in
theorem gX2_rangeAt_X2_allRanges : GoodIn wsX2_rangeAt (wsV RX2 121 RX2 yX2_allRanges wsX2_allRanges) := goodIn_app (goodIn_of _ (by decide +kernel)) ggX2_rangeAt_X2_allRanges
set_option maxRecDepth 20000 in
theorem ggX2_rangeAt_X2_isIn : GoodIn wsX2_rangeAt wsX2_isIn := goodIn_r _ [18] (by decide +kernel) (by decide +kernel)
set_option maxRecDepth 20000 in
theorem gX2_rangeAt_X2_isIn : GoodIn wsX2_rangeAt (va_wsS RX2 52 yX2_isIn wsX2_isIn) := goodIn_app (goodIn_of _ (by decide +kernel)) ggX2_rangeAt_X2_isIn
set_option maxRecDepth 20000 in
theorem ggX2_rangeAt_X2_can : GoodIn wsX2_rangeAt wsX2_can := goodIn_r _ [22, 23, 24, 25, 26, 27, 28, 29, 30, 31, 32, 33, 34, 35, 36, 37, 38, 39, 40, 41] (by decide +kernel) (by decide +kernel)
set_option maxRecDepth 20000 in
theorem gX2_rangeAt_X2_can : GoodIn wsX2_rangeAt (wsV RX2 76 RX2 yX2_can wsX2_can) := goodIn_app (goodIn_of _ (by decide +kernel)) ggX2_rangeAt_X2_can
set_option maxRecDepth 20000 in
theorem ggX2_rangeAt_X2_isHere : GoodIn wsX2_rangeAt wsX2_isHere := goodIn_r _ [10, 11, 12, 13, 14, 4, 15, 6, 16, 17, 18, 24, 25, 26, 27, 28, 29, 30, 31, 32, 33, 34, 35, 36, 37, 38, 39, 40, 41] (by decide +kernel) (by decide +kernel)
set_option maxRecDepth 20000 in
theorem gX2_rangeAt_X2_isHere : GoodIn wsX2_rangeAt (wsV RX2 118 RX2 yX2_isHere wsX2_isHere) := goodIn_app (goodIn_of _ (by decide +kernel)) ggX2_rangeAt_X2_isHere
theorem dX2_rangeAt_0 : decode cX2_rangeAt 0 = .ok (.aload_n 0, 1) := by decide +kernel
theorem dX2_rangeAt_1 : decode cX2_rangeAt 1 = .ok (.iload_n 1, 1) := by decide +kernel
theorem dX2_rangeAt_2 : decode cX2_rangeAt 2 = .ok (.iconst 0, 1) := by decide +kernel
theorem dX2_rangeAt_3 : decode cX2_rangeAt 3 = .ok (.aload_n 0, 1) := by decide +kernel
theorem dX2_rangeAt_4 : decode cX2_rangeAt 4 = .ok (.invokevirtual 121, 3) := by decide +kernel
theorem dX2_rangeAt_7 : decode cX2_rangeAt 7 = .ok (.iconst 1, 1) := by decide +kernel
theorem dX2_rangeAt_8 : decode cX2_rangeAt 8 = .ok (.isub, 1) := by decide +kernel
theorem dX2_rangeAt_9 : decode cX2_rangeAt 9 = .ok (.invokestatic 52, 3) := by decide +kernel
theorem dX2_rangeAt_12 : decode cX2_rangeAt 12 = .ok (.ifCond .eq 7, 3) := by decide +kernel
theorem dX2_rangeAt_15 : decode cX2_rangeAt 15 = .ok (.iconst 0, 1) := by decide +kernel
theorem dX2_rangeAt_16 : decode cX2_rangeAt 16 = .ok (.goto 4, 3) := by decide +kernel
theorem dX2_rangeAt_19 : decode cX2_rangeAt 19 = .ok (.iconst 1, 1) := by decide +kernel
theorem dX2_rangeAt_20 : decode cX2_rangeAt 20 = .ok (.invokevirtual 76, 3) := by decide +kernel
theorem dX2_rangeAt_23 : decode cX2_rangeAt 23 = .ok (.ifCond .ne 5, 3) := by decide +kernel
theorem dX2_rangeAt_26 : decode cX2_rangeAt 26 = .ok (.iconst 0, 1) := by decide +kernel
theorem dX2_rangeAt_27 : decode cX2_rangeAt 27 = .ok (.ireturn, 1) := by decide +kernel
theorem dX2_rangeAt_28 : decode cX2_rangeAt 28 = .ok (.iload_n 1, 1) := by decide +kernel
theorem dX2_rangeAt_29 : decode cX2_rangeAt 29 = .ok (.istore_n 2, 1) := by decide +kernel
theorem dX2_rangeAt_30 : decode cX2_rangeAt 30 = .ok (.iconst 0, 1) := by decide +kernel
theorem dX2_rangeAt_31 : decode cX2_rangeAt 31 = .ok (.istore_n 3, 1) := by decide +kernel
theorem dX2_rangeAt_32 : decode cX2_rangeAt 32 = .ok (.iload_n 2, 1) := by decide +kernel
theorem dX2_rangeAt_33 : decode cX2_rangeAt 33 = .ok (.ifCond .gt 21, 3) := by decide +kernel
theorem dX2_rangeAt_36 : decode cX2_rangeAt 36 = .ok (.aload_n 0, 1) := by decide +kernel
theorem dX2_rangeAt_37 : decode cX2_rangeAt 37 = .ok (.iload_n 3, 1) := by decide +kernel
theorem dX2_rangeAt_38 : decode cX2_rangeAt 38 = .ok (.invokevirtual 118, 3) := by decide +kernel
theorem dX2_rangeAt_41 : decode cX2_rangeAt 41 = .ok (.ifCond .eq 13, 3) := by decide +kernel
theorem dX2_rangeAt_44 : decode cX2_rangeAt 44 = .ok (.aload_n 0, 1) := by decide +kernel
theorem dX2_rangeAt_45 : decode cX2_rangeAt 45 = .ok (.iload_n 3, 1) := by decide +kernel
theorem dX2_rangeAt_46 : decode cX2_rangeAt 46 = .ok (.iconst 1, 1) := by decide +kernel
theorem dX2_rangeAt_47 : decode cX2_rangeAt 47 = .ok (.isub, 1) := by decide +kernel
theorem dX2_rangeAt_48 : decode cX2_rangeAt 48 = .ok (.invokevirtual 118, 3) := by decide +kernel
theorem dX2_rangeAt_51 : decode cX2_rangeAt 51 = .ok (.ifCond .eq 35, 3) := by decide +kernel
theorem dX2_rangeAt_54 : decode cX2_rangeAt 54 = .ok (.iload_n 2, 1) := by decide +kernel
theorem dX2_rangeAt_55 : decode cX2_rangeAt 55 = .ok (.aload_n 0, 1) := by decide +kernel
theorem dX2_rangeAt_56 : decode cX2_rangeAt 56 = .ok (.iload_n 3, 1) := by decide +kernel
theorem dX2_rangeAt_57 : decode cX2_rangeAt 57 = .ok (.invokevirtual 118, 3) := by decide +kernel
theorem dX2_rangeAt_60 : decode cX2_rangeAt 60 = .ok (.ifCond .eq 17, 3) := by decide +kernel
theorem dX2_rangeAt_63 : decode cX2_rangeAt 63 = .ok (.aload_n 0, 1) := by decide +kernel
theorem dX2_rangeAt_64 : decode cX2_rangeAt 64 = .ok (.iload_n 3, 1) := by decide +kernel
theorem dX2_rangeAt_65 : decode cX2_rangeAt 65 = .ok (.iconst 1, 1) := by decide +kernel
theorem dX2_rangeAt_66 : decode cX2_rangeAt 66 = .ok (.isub, 1) := by decide +kernel
theorem dX2_rangeAt_67 : decode cX2_rangeAt 67 = .ok (.invokevirtual 118, 3) := by decide +kernel
theorem dX2_rangeAt_70 : decode cX2_rangeAt 70 = .ok (.ifCond .ne 7, 3) := by decide +kernel
theorem dX2_rangeAt_73 : decode cX2_rangeAt 73 = .ok (.iconst 1, 1) := by decide +kernel
theorem dX2_rangeAt_74 : decode cX2_rangeAt 74 = .ok (.goto 4, 3) := by decide +kernel
theorem dX2_rangeAt_77 : decode cX2_rangeAt 77 = .ok (.iconst 0, 1) := by decide +kernel
theorem dX2_rangeAt_78 : decode cX2_rangeAt 78 = .ok (.isub, 1) := by decide +kernel
theorem dX2_rangeAt_79 : decode cX2_rangeAt 79 = .ok (.istore_n 2, 1) := by decide +kernel
theorem dX2_rangeAt_80 : decode cX2_rangeAt 80 = .ok (.iinc 3 1, 3) := by decide +kernel
theorem dX2_rangeAt_83 : decode cX2_rangeAt 83 = .ok (.goto (-51), 3) := by decide +kernel
theorem dX2_rangeAt_86 : decode cX2_rangeAt 86 = .ok (.iload_n 3, 1) := by decide +kernel
theorem dX2_rangeAt_87 : decode cX2_rangeAt 87 = .ok (.istore 4, 2) := by decide +kernel
theorem dX2_rangeAt_89 : decode cX2_rangeAt 89 = .ok (.aload_n 0, 1) := by decide +kernel
theorem dX2_rangeAt_90 : decode cX2_rangeAt 90 = .ok (.iload 4, 2) := by decide +kernel
theorem dX2_rangeAt_92 : decode cX2_rangeAt 92 = .ok (.iconst 1, 1) := by decide +kernel
theorem dX2_rangeAt_93 : decode cX2_rangeAt 93 = .ok (.iadd, 1) := by decide +kernel
theorem dX2_rangeAt_94 : decode cX2_rangeAt 94 = .ok (.invokevirtual 118, 3) := by decide +kernel
theorem dX2_rangeAt_97 : decode cX2_rangeAt 97 = .ok (.ifCond .eq 9, 3) := by decide +kernel
theorem dX2_rangeAt_100 : decode cX2_rangeAt 100 = .ok (.iinc 4 1, 3) := by decide +kernel
theorem dX2_rangeAt_103 : decode cX2_rangeAt 103 = .ok (.goto (-14), 3) := by decide +kernel
theorem dX2_rangeAt_106 : decode cX2_rangeAt 106 = .ok (.sipush 1000, 3) := by decide +kernel
theorem dX2_rangeAt_109 : decode cX2_rangeAt 109 = .ok (.iload_n 3, 1) := by decide +kernel
theorem dX2_rangeAt_110 : decode cX2_rangeAt 110 = .ok (.imul, 1) := by decide +kernel
theorem dX2_rangeAt_111 : decode cX2_rangeAt 111 = .ok (.iload 4, 2) := by decide +kernel
theorem dX2_rangeAt_113 : decode cX2_rangeAt 113 = .ok (.iadd, 1) := by decide +kernel
theorem dX2_rangeAt_114 : decode cX2_rangeAt 114 = .ok (.ireturn, 1) := by decide +kernel
set_option maxRecDepth 20000 in
theorem ggX2_isHeld_X2_isHere : GoodIn wsX2_isHeld wsX2_isHere := goodIn_r _ [6, 7, 8, 9, 10, 5, 11, 12, 13, 14, 15, 16, 17, 18, 19, 20, 21, 22, 23, 24, 25, 26, 27, 28, 29, 30, 31, 32, 33] (by decide +kernel) (by decide +kernel)
set_option maxRecDepth 20000 in
theorem gX2_isHeld_X2_isHere : GoodIn wsX2_isHeld (wsV RX2 118 RX2 yX2_isHere wsX2_isHere) := goodIn_app (goodIn_of _ (by decide +kernel)) ggX2_isHeld_X2_isHere
theorem dX2_isHeld_0 : decode cX2_isHeld 0 = .ok (.aload_n 0, 1) := by decide +kernel
theorem dX2_isHeld_1 : decode cX2_isHeld 1 = .ok (.iconst 0, 1) := by decide +kernel
theorem dX2_isHeld_2 : decode cX2_isHeld 2 = .ok (.putfield 49, 3) := by decide +kernel
theorem dX2_isHeld_5 : decode cX2_isHeld 5 = .ok (.aload_n 0, 1) := by decide +kernel
theorem dX2_isHeld_6 : decode cX2_isHeld 6 = .ok (.iload_n 1, 1) := by decide +kernel
theorem dX2_isHeld_7 : decode cX2_isHeld 7 = .ok (.invokevirtual 118, 3) := by decide +kernel
theorem dX2_isHeld_10 : decode cX2_isHeld 10 = .ok (.ireturn, 1) := by decide +kernel
set_option maxRecDepth 20000 in
theorem ggX2_give_X2_isIssue : GoodIn wsX2_give wsX2_isIssue := goodIn_r _ [5, 6, 7, 4, 8] (by decide +kernel) (by decide +kernel)
set_option maxRecDepth 20000 in
theorem gX2_give_X2_isIssue : GoodIn wsX2_give (va_wsS RX2 91 yX2_isIssue wsX2_isIssue) := goodIn_app (goodIn_of _ (by decide +kernel)) ggX2_give_X2_isIssue
set_option maxRecDepth 20000 in
theorem ggX2_give_X2_isIn : GoodIn wsX2_give wsX2_isIn := goodIn_r _ [8] (by decide +kernel) (by decide +kernel)
set_option maxRecDepth 20000 in
theorem gX2_give_X2_isIn : GoodIn wsX2_give (va_wsS RX2 52 yX2_isIn wsX2_isIn) := goodIn_app (goodIn_of _ (by decide +kernel)) ggX2_give_X2_isIn
set_option maxRecDepth 20000 in
theorem ggX2_give_X2_can : GoodIn wsX2_give wsX2_can := goodIn_r _ [12, 13, 14, 15, 16, 17, 18, 19, 20, 21, 22, 23, 24, 25, 26, 27, 28, 29, 30, 31] (by decide +kernel) (by decide +kernel)
set_option maxRecDepth 20000 in
theorem gX2_give_X2_can : GoodIn wsX2_give (wsV RX2 76 RX2 yX2_can wsX2_can) := goodIn_app (goodIn_of _ (by decide +kernel)) ggX2_give_X2_can
theorem dX2_give_0 : decode cX2_give 0 = .ok (.aload_n 0, 1) := by decide +kernel
theorem dX2_give_1 : decode cX2_give 1 = .ok (.iload_n 1, 1) := by decide +kernel
theorem dX2_give_2 : decode cX2_give 2 = .ok (.invokestatic 91, 3) := by decide +kernel
theorem dX2_give_5 : decode cX2_give 5 = .ok (.ifCond .eq 18, 3) := by decide +kernel
theorem dX2_give_8 : decode cX2_give 8 = .ok (.iload_n 2, 1) := by decide +kernel
theorem dX2_give_9 : decode cX2_give 9 = .ok (.iload_n 1, 1) := by decide +kernel
theorem dX2_give_10 : decode cX2_give 10 = .ok (.sipush 199, 3) := by decide +kernel
theorem dX2_give_13 : decode cX2_give 13 = .ok (.invokestatic 52, 3) := by decide +kernel
theorem dX2_give_16 : decode cX2_give 16 = .ok (.ifCond .eq 7, 3) := by decide +kernel
theorem dX2_give_19 : decode cX2_give 19 = .ok (.iconst 0, 1) := by decide +kernel
theorem dX2_give_20 : decode cX2_give 20 = .ok (.goto 4, 3) := by decide +kernel
theorem dX2_give_23 : decode cX2_give 23 = .ok (.iconst 1, 1) := by decide +kernel
theorem dX2_give_24 : decode cX2_give 24 = .ok (.invokevirtual 76, 3) := by decide +kernel
theorem dX2_give_27 : decode cX2_give 27 = .ok (.ifCond .ne 5, 3) := by decide +kernel
theorem dX2_give_30 : decode cX2_give 30 = .ok (.iconst 0, 1) := by decide +kernel
theorem dX2_give_31 : decode cX2_give 31 = .ok (.ireturn, 1) := by decide +kernel
theorem dX2_give_32 : decode cX2_give 32 = .ok (.iconst 0, 1) := by decide +kernel
theorem dX2_give_33 : decode cX2_give 33 = .ok (.istore_n 3, 1) := by decide +kernel
theorem dX2_give_34 : decode cX2_give 34 = .ok (.iconst 0, 1) := by decide +kernel
theorem dX2_give_35 : decode cX2_give 35 = .ok (.istore 4, 2) := by decide +kernel
theorem dX2_give_37 : decode cX2_give 37 = .ok (.iload 4, 2) := by decide +kernel
theorem dX2_give_39 : decode cX2_give 39 = .ok (.sipush 200, 3) := by decide +kernel
theorem dX2_give_42 : decode cX2_give 42 = .ok (.if_icmp .ge 59, 3) := by decide +kernel
theorem dX2_give_45 : decode cX2_give 45 = .ok (.aload_n 0, 1) := by decide +kernel
theorem dX2_give_46 : decode cX2_give 46 = .ok (.getfield 39, 3) := by decide +kernel
theorem dX2_give_49 : decode cX2_give 49 = .ok (.iload 4, 2) := by decide +kernel
theorem dX2_give_51 : decode cX2_give 51 = .ok (.aload_n 0, 1) := by decide +kernel
theorem dX2_give_52 : decode cX2_give 52 = .ok (.getfield 39, 3) := by decide +kernel
theorem dX2_give_55 : decode cX2_give 55 = .ok (.iload 4, 2) := by decide +kernel
theorem dX2_give_57 : decode cX2_give 57 = .ok (.baload, 1) := by decide +kernel
theorem dX2_give_58 : decode cX2_give 58 = .ok (.ifCond .ne 13, 3) := by decide +kernel
theorem dX2_give_61 : decode cX2_give 61 = .ok (.iload 4, 2) := by decide +kernel
theorem dX2_give_63 : decode cX2_give 63 = .ok (.iload_n 1, 1) := by decide +kernel
theorem dX2_give_64 : decode cX2_give 64 = .ok (.iload_n 2, 1) := by decide +kernel
theorem dX2_give_65 : decode cX2_give 65 = .ok (.invokestatic 52, 3) := by decide +kernel
theorem dX2_give_68 : decode cX2_give 68 = .ok (.ifCond .eq 7, 3) := by decide +kernel
theorem dX2_give_71 : decode cX2_give 71 = .ok (.iconst 1, 1) := by decide +kernel
theorem dX2_give_72 : decode cX2_give 72 = .ok (.goto 4, 3) := by decide +kernel
theorem dX2_give_75 : decode cX2_give 75 = .ok (.iconst 0, 1) := by decide +kernel
theorem dX2_give_76 : decode cX2_give 76 = .ok (.bastore, 1) := by decide +kernel
theorem dX2_give_77 : decode cX2_give 77 = .ok (.iload_n 3, 1) := by decide +kernel
theorem dX2_give_78 : decode cX2_give 78 = .ok (.aload_n 0, 1) := by decide +kernel
theorem dX2_give_79 : decode cX2_give 79 = .ok (.getfield 39, 3) := by decide +kernel
theorem dX2_give_82 : decode cX2_give 82 = .ok (.iload 4, 2) := by decide +kernel
theorem dX2_give_84 : decode cX2_give 84 = .ok (.baload, 1) := by decide +kernel
theorem dX2_give_85 : decode cX2_give 85 = .ok (.ifCond .eq 7, 3) := by decide +kernel
theorem dX2_give_88 : decode cX2_give 88 = .ok (.iconst 1, 1) := by decide +kernel
theorem dX2_give_89 : decode cX2_give 89 = .ok (.goto 4, 3) := by decide +kernel
theorem dX2_give_92 : decode cX2_give 92 = .ok (.iconst 0, 1) := by decide +kernel
theorem dX2_give_93 : decode cX2_give 93 = .ok (.iadd, 1) := by decide +kernel
theorem dX2_give_94 : decode cX2_give 94 = .ok (.istore_n 3, 1) := by decide +kernel
theorem dX2_give_95 : decode cX2_give 95 = .ok (.iinc 4 1, 3) := by decide +kernel
theorem dX2_give_98 : decode cX2_give 98 = .ok (.goto (-61), 3) := by decide +kernel
theorem dX2_give_101 : decode cX2_give 101 = .ok (.iload_n 3, 1) := by decide +kernel
theorem dX2_give_102 : decode cX2_give 102 = .ok (.ireturn, 1) := by decide +kernel
set_option maxRecDepth 20000 in
theorem ggX2_only_X2_can : GoodIn wsX2_only wsX2_can := goodIn_r _ [6, 7, 21, 22, 23, 24, 25, 26, 27, 28, 29, 30, 31, 32, 33, 34, 35, 36, 37, 38] (by decide +kernel) (by decide +kernel)
set_option maxRecDepth 20000 in
theorem gX2_only_X2_can : GoodIn wsX2_only (wsV RX2 76 RX2 yX2_can wsX2_can) := goodIn_app (goodIn_of _ (by decide +kernel)) ggX2_only_X2_can
set_option maxRecDepth 20000 in
theorem ggX2_only_X2_isHere : GoodIn wsX2_only wsX2_isHere := goodIn_r _ [11, 12, 13, 14, 15, 5, 16, 17, 18, 19, 20, 21, 22, 23, 24, 25, 26, 27, 28, 29, 30, 31, 32, 33, 34, 35, 36, 37, 38] (by decide +kernel) (by decide +kernel)
set_option maxRecDepth 20000 in
theorem gX2_only_X2_isHere : GoodIn wsX2_only (wsV RX2 118 RX2 yX2_isHere wsX2_isHere) := goodIn_app (goodIn_of _ (by decide +kernel)) ggX2_only_X2_isHere
theorem dX2_only_0 : decode cX2_only 0 = .ok (.aload_n 0, 1) := by decide +kernel
theorem dX2_only_1 : decode cX2_only 1 = .ok (.iload_n 2, 1) := by decide +kernel
theorem dX2_only_2 : decode cX2_only 2 = .ok (.ifCond .ge 7, 3) := by decide +kernel
theorem dX2_only_5 : decode cX2_only 5 = .ok (.iconst 1, 1) := by decide +kernel
theorem dX2_only_6 : decode cX2_only 6 = .ok (.goto 4, 3) := by decide +kernel
theorem dX2_only_9 : decode cX2_only 9 = .ok (.iconst 0, 1) := by decide +kernel
theorem dX2_only_10 : decode cX2_only 10 = .ok (.invokevirtual 76, 3) := by decide +kernel
theorem dX2_only_13 : decode cX2_only 13 = .ok (.ifCond .ne 5, 3) := by decide +kernel
theorem dX2_only_16 : decode cX2_only 16 = .ok (.iconst 0, 1) := by decide +kernel
theorem dX2_only_17 : decode cX2_only 17 = .ok (.ireturn, 1) := by decide +kernel
theorem dX2_only_18 : decode cX2_only 18 = .ok (.iload_n 2, 1) := by decide +kernel
theorem dX2_only_19 : decode cX2_only 19 = .ok (.istore_n 3, 1) := by decide +kernel
theorem dX2_only_20 : decode cX2_only 20 = .ok (.iconst 0, 1) := by decide +kernel
theorem dX2_only_21 : decode cX2_only 21 = .ok (.istore 4, 2) := by decide +kernel
theorem dX2_only_23 : decode cX2_only 23 = .ok (.iload 4, 2) := by decide +kernel
theorem dX2_only_25 : decode cX2_only 25 = .ok (.sipush 200, 3) := by decide +kernel
theorem dX2_only_28 : decode cX2_only 28 = .ok (.if_icmp .ge 91, 3) := by decide +kernel
theorem dX2_only_31 : decode cX2_only 31 = .ok (.iload_n 1, 1) := by decide +kernel
theorem dX2_only_32 : decode cX2_only 32 = .ok (.ifCond .eq 30, 3) := by decide +kernel
theorem dX2_only_35 : decode cX2_only 35 = .ok (.aload_n 0, 1) := by decide +kernel
theorem dX2_only_36 : decode cX2_only 36 = .ok (.iload 4, 2) := by decide +kernel
theorem dX2_only_38 : decode cX2_only 38 = .ok (.invokevirtual 118, 3) := by decide +kernel
theorem dX2_only_41 : decode cX2_only 41 = .ok (.ifCond .eq 17, 3) := by decide +kernel
theorem dX2_only_44 : decode cX2_only 44 = .ok (.aload_n 0, 1) := by decide +kernel
theorem dX2_only_45 : decode cX2_only 45 = .ok (.getfield 39, 3) := by decide +kernel
theorem dX2_only_48 : decode cX2_only 48 = .ok (.iload 4, 2) := by decide +kernel
theorem dX2_only_50 : decode cX2_only 50 = .ok (.baload, 1) := by decide +kernel
theorem dX2_only_51 : decode cX2_only 51 = .ok (.ifCond .ne 7, 3) := by decide +kernel
theorem dX2_only_54 : decode cX2_only 54 = .ok (.iconst 1, 1) := by decide +kernel
theorem dX2_only_55 : decode cX2_only 55 = .ok (.goto 31, 3) := by decide +kernel
theorem dX2_only_58 : decode cX2_only 58 = .ok (.iconst 0, 1) := by decide +kernel
theorem dX2_only_59 : decode cX2_only 59 = .ok (.goto 27, 3) := by decide +kernel
theorem dX2_only_62 : decode cX2_only 62 = .ok (.aload_n 0, 1) := by decide +kernel
theorem dX2_only_63 : decode cX2_only 63 = .ok (.getfield 39, 3) := by decide +kernel
theorem dX2_only_66 : decode cX2_only 66 = .ok (.iload 4, 2) := by decide +kernel
theorem dX2_only_68 : decode cX2_only 68 = .ok (.baload, 1) := by decide +kernel
theorem dX2_only_69 : decode cX2_only 69 = .ok (.ifCond .eq 16, 3) := by decide +kernel
theorem dX2_only_72 : decode cX2_only 72 = .ok (.aload_n 0, 1) := by decide +kernel
theorem dX2_only_73 : decode cX2_only 73 = .ok (.iload 4, 2) := by decide +kernel
theorem dX2_only_75 : decode cX2_only 75 = .ok (.invokevirtual 118, 3) := by decide +kernel
theorem dX2_only_78 : decode cX2_only 78 = .ok (.ifCond .ne 7, 3) := by decide +kernel
theorem dX2_only_81 : decode cX2_only 81 = .ok (.iconst 1, 1) := by decide +kernel
theorem dX2_only_82 : decode cX2_only 82 = .ok (.goto 4, 3) := by decide +kernel
theorem dX2_only_85 : decode cX2_only 85 = .ok (.iconst 0, 1) := by decide +kernel
theorem dX2_only_86 : decode cX2_only 86 = .ok (.istore 5, 2) := by decide +kernel
theorem dX2_only_88 : decode cX2_only 88 = .ok (.iload 5, 2) := by decide +kernel
theorem dX2_only_90 : decode cX2_only 90 = .ok (.ifCond .eq 10, 3) := by decide +kernel
theorem dX2_only_93 : decode cX2_only 93 = .ok (.iload_n 3, 1) := by decide +kernel
theorem dX2_only_94 : decode cX2_only 94 = .ok (.ifCond .ne 6, 3) := by decide +kernel
theorem dX2_only_97 : decode cX2_only 97 = .ok (.iload 4, 2) := by decide +kernel
theorem dX2_only_99 : decode cX2_only 99 = .ok (.ireturn, 1) := by decide +kernel
theorem dX2_only_100 : decode cX2_only 100 = .ok (.iload_n 3, 1) := by decide +kernel
theorem dX2_only_101 : decode cX2_only 101 = .ok (.iload 5, 2) := by decide +kernel
theorem dX2_only_103 : decode cX2_only 103 = .ok (.ifCond .eq 7, 3) := by decide +kernel
theorem dX2_only_106 : decode cX2_only 106 = .ok (.iconst 1, 1) := by decide +kernel
theorem dX2_only_107 : decode cX2_only 107 = .ok (.goto 4, 3) := by decide +kernel
theorem dX2_only_110 : decode cX2_only 110 = .ok (.iconst 0, 1) := by decide +kernel
theorem dX2_only_111 : decode cX2_only 111 = .ok (.isub, 1) := by decide +kernel
theorem dX2_only_112 : decode cX2_only 112 = .ok (.istore_n 3, 1) := by decide +kernel
theorem dX2_only_113 : decode cX2_only 113 = .ok (.iinc 4 1, 3) := by decide +kernel
theorem dX2_only_116 : decode cX2_only 116 = .ok (.goto (-93), 3) := by decide +kernel
theorem dX2_only_119 : decode cX2_only 119 = .ok (.iconst (-1), 1) := by decide +kernel
theorem dX2_only_120 : decode cX2_only 120 = .ok (.ireturn, 1) := by decide +kernel
theorem dJ9_max_7cf53_0 : decode cJ9_max_7cf53 0 = .ok (.iload_n 0, 1) := by decide +kernel
theorem dJ9_max_7cf53_1 : decode cJ9_max_7cf53 1 = .ok (.iload_n 1, 1) := by decide +kernel
theorem dJ9_max_7cf53_2 : decode cJ9_max_7cf53 2 = .ok (.if_icmp .lt 7, 3) := by decide +kernel
theorem dJ9_max_7cf53_5 : decode cJ9_max_7cf53 5 = .ok (.iload_n 0, 1) := by decide +kernel
theorem dJ9_max_7cf53_6 : decode cJ9_max_7cf53 6 = .ok (.goto 4, 3) := by decide +kernel
theorem dJ9_max_7cf53_9 : decode cJ9_max_7cf53 9 = .ok (.iload_n 1, 1) := by decide +kernel
theorem dJ9_max_7cf53_10 : decode cJ9_max_7cf53 10 = .ok (.ireturn, 1) := by decide +kernel
end
section
set_option maxRecDepth 20000 in
theorem ggL_setPattern_X1_setPattern : GoodIn wsL_setPattern wsX1_setPattern := goodIn_ca (goodIn_r _ [6, 7, 8, 9, 10, 11, 5, 12, 13, 14, 15, 16, 17, 18, 19, 20, 21, 22, 23, 24, 25, 26, 27, 28, 29, 30, 31, 32, 33, 34, 35, 36, 37, 38, 39, 40, 41, 42, 43, 44, 45, 46, 47, 48, 49, 50, 51, 52, 53, 54, 55, 56, 57, 58, 59, 60, 61, 62, 63, 64, 65, 66, 67, 68, 69, 70, 71] (by decide +kernel) (by decide +kernel)) (goodIn_sub (fun _ h => List.mem_cons_of_mem _ (List.mem_append_right _ h)) (by decide +kernel))
set_option maxRecDepth 20000 in
theorem gL_setPattern_X1_setPattern : GoodIn wsL_setPattern (wsV RL 7 RX1 yX1_setPattern wsX1_setPattern) := goodIn_app (goodIn_of _ (by decide +kernel)) ggL_setPattern_X1_setPattern
theorem dL_setPattern_0 : decode cL_setPattern 0 = .ok (.aload_n 0, 1) := by decide +kernel
theorem dL_setPattern_1 : decode cL_setPattern 1 = .ok (.iload_n 1, 1) := by decide +kernel
theorem dL_setPattern_2 : decode cL_setPattern 2 = .ok (.iload_n 2, 1) := by decide +kernel
theorem dL_setPattern_3 : decode cL_setPattern 3 = .ok (.iload_n 3, 1) := by decide +kernel
theorem dL_setPattern_4 : decode cL_setPattern 4 = .ok (.iload 4, 2) := by decide +kernel
theorem dL_setPattern_6 : decode cL_setPattern 6 = .ok (.invokevirtual 7, 3) := by decide +kernel
theorem dL_setPattern_9 : decode cL_setPattern 9 = .ok (.goto 7, 3) := by decide +kernel
theorem dL_setPattern_12 : decode cL_setPattern 12 = .ok (.astore 5, 2) := by decide +kernel
theorem dL_setPattern_14 : decode cL_setPattern 14 = .ok (.iconst 1, 1) := by decide +kernel
theorem dL_setPattern_15 : decode cL_setPattern 15 = .ok (.ireturn, 1) := by decide +kernel
theorem dL_setPattern_16 : decode cL_setPattern 16 = .ok (.iconst 0, 1) := by decide +kernel
theorem dL_setPattern_17 : decode cL_setPattern 17 = .ok (.ireturn, 1) := by decide +kernel
set_option maxRecDepth 20000 in
theorem ggL_setClaims_X1_setClaims : GoodIn wsL_setClaims wsX1_setClaims := goodIn_ca (goodIn_r _ [6, 7, 8, 9, 10, 11, 12, 5, 13, 14, 15, 16, 17, 18, 19, 20, 21, 22, 23, 24, 25, 26, 27, 28] (by decide +kernel) (by decide +kernel)) (goodIn_sub (fun _ h => List.mem_cons_of_mem _ (List.mem_append_right _ h)) (by decide +kernel))
set_option maxRecDepth 20000 in
theorem gL_setClaims_X1_setClaims : GoodIn wsL_setClaims (wsV RL 15 RX1 yX1_setClaims wsX1_setClaims) := goodIn_app (goodIn_of _ (by decide +kernel)) ggL_setClaims_X1_setClaims
theorem dL_setClaims_0 : decode cL_setClaims 0 = .ok (.aload_n 0, 1) := by decide +kernel
theorem dL_setClaims_1 : decode cL_setClaims 1 = .ok (.iload_n 1, 1) := by decide +kernel
theorem dL_setClaims_2 : decode cL_setClaims 2 = .ok (.iload_n 2, 1) := by decide +kernel
theorem dL_setClaims_3 : decode cL_setClaims 3 = .ok (.invokevirtual 15, 3) := by decide +kernel
theorem dL_setClaims_6 : decode cL_setClaims 6 = .ok (.goto 6, 3) := by decide +kernel
theorem dL_setClaims_9 : decode cL_setClaims 9 = .ok (.astore_n 3, 1) := by decide +kernel
theorem dL_setClaims_10 : decode cL_setClaims 10 = .ok (.iconst 1, 1) := by decide +kernel
theorem dL_setClaims_11 : decode cL_setClaims 11 = .ok (.ireturn, 1) := by decide +kernel
theorem dL_setClaims_12 : decode cL_setClaims 12 = .ok (.iconst 0, 1) := by decide +kernel
theorem dL_setClaims_13 : decode cL_setClaims 13 = .ok (.ireturn, 1) := by decide +kernel
set_option maxRecDepth 20000 in
theorem ggL_advance_X1_advance : GoodIn wsL_advance wsX1_advance := goodIn_ca (goodIn_ca (goodIn_r _ [7, 8, 9, 10, 11, 12, 13, 14, 6, 15, 16, 17, 18, 19, 20, 21, 22, 23, 24, 25, 26, 27, 28, 29, 30, 31, 32, 33, 34, 35, 36, 37, 38, 39, 40, 41, 42, 43, 44, 45, 46, 47, 48, 49, 50, 51, 52, 53, 54, 55, 56, 57, 58, 59, 60, 61, 62, 63, 64, 65, 66, 67, 68] (by decide +kernel) (by decide +kernel)) (goodIn_sub (fun _ h => List.mem_cons_of_mem _ (List.mem_append_left _ (List.mem_append_right _ h))) (by decide +kernel))) (goodIn_sub (fun _ h => List.mem_cons_of_mem _ (List.mem_append_right _ h)) (by decide +kernel))
set_option maxRecDepth 20000 in
theorem gL_advance_X1_advance : GoodIn wsL_advance (wsV RL 19 RX1 yX1_advance wsX1_advance) := goodIn_app (goodIn_of _ (by decide +kernel)) ggL_advance_X1_advance
theorem dL_advance_0 : decode cL_advance 0 = .ok (.aload_n 2, 1) := by decide +kernel
theorem dL_advance_1 : decode cL_advance 1 = .ok (.iconst 0, 1) := by decide +kernel
theorem dL_advance_2 : decode cL_advance 2 = .ok (.aload_n 0, 1) := by decide +kernel
theorem dL_advance_3 : decode cL_advance 3 = .ok (.iload_n 1, 1) := by decide +kernel
theorem dL_advance_4 : decode cL_advance 4 = .ok (.invokevirtual 19, 3) := by decide +kernel
theorem dL_advance_7 : decode cL_advance 7 = .ok (.i2l, 1) := by decide +kernel
theorem dL_advance_8 : decode cL_advance 8 = .ok (.lastore, 1) := by decide +kernel
theorem dL_advance_9 : decode cL_advance 9 = .ok (.goto 9, 3) := by decide +kernel
theorem dL_advance_12 : decode cL_advance 12 = .ok (.astore_n 3, 1) := by decide +kernel
theorem dL_advance_13 : decode cL_advance 13 = .ok (.iconst 1, 1) := by decide +kernel
theorem dL_advance_14 : decode cL_advance 14 = .ok (.ireturn, 1) := by decide +kernel
theorem dL_advance_15 : decode cL_advance 15 = .ok (.astore_n 3, 1) := by decide +kernel
theorem dL_advance_16 : decode cL_advance 16 = .ok (.iconst 2, 1) := by decide +kernel
theorem dL_advance_17 : decode cL_advance 17 = .ok (.ireturn, 1) := by decide +kernel
theorem dL_advance_18 : decode cL_advance 18 = .ok (.iconst 0, 1) := by decide +kernel
theorem dL_advance_19 : decode cL_advance 19 = .ok (.ireturn, 1) := by decide +kernel
set_option maxRecDepth 20000 in
theorem ggL_checkIn_X1_checkIn : GoodIn wsL_checkIn wsX1_checkIn := goodIn_ca (goodIn_ca (goodIn_ca (goodIn_r _ [8, 9, 10, 11, 12, 13, 14, 15, 16, 17, 7, 18, 19, 20, 21, 22, 23, 24, 25, 26, 27, 28, 29, 30, 31, 32, 33, 34, 35, 36, 37, 38, 39, 40, 41, 42, 43, 44, 45, 46, 47, 48, 49, 50, 51, 52, 53, 54, 55, 56, 57, 58, 59, 60, 61, 62, 63, 64, 65, 66, 67, 68, 69, 70, 71, 72, 73, 74, 75, 76, 77, 78, 79, 80, 81, 82, 83, 84, 85, 86, 87, 88, 89, 90, 91, 92, 93, 94, 95, 96, 97, 98, 99, 100, 101, 102] (by decide +kernel) (by decide +kernel)) (goodIn_sub (fun _ h => List.mem_cons_of_mem _ (List.mem_append_left _ (List.mem_append_left _ (List.mem_append_right _ h)))) (by decide +kernel))) (goodIn_sub (fun _ h => List.mem_cons_of_mem _ (List.mem_append_left _ (List.mem_append_right _ h))) (by decide +kernel))) (goodIn_sub (fun _ h => List.mem_cons_of_mem _ (List.mem_append_right _ h)) (by decide +kernel))
set_option maxRecDepth 20000 in
theorem gL_checkIn_X1_checkIn : GoodIn wsL_checkIn (wsV RL 25 RX1 yX1_checkIn wsX1_checkIn) := goodIn_app (goodIn_of _ (by decide +kernel)) ggL_checkIn_X1_checkIn
theorem dL_checkIn_0 : decode cL_checkIn 0 = .ok (.aload_n 3, 1) := by decide +kernel
theorem dL_checkIn_1 : decode cL_checkIn 1 = .ok (.iconst 0, 1) := by decide +kernel
theorem dL_checkIn_2 : decode cL_checkIn 2 = .ok (.aload_n 0, 1) := by decide +kernel
theorem dL_checkIn_3 : decode cL_checkIn 3 = .ok (.iload_n 1, 1) := by decide +kernel
theorem dL_checkIn_4 : decode cL_checkIn 4 = .ok (.iload_n 2, 1) := by decide +kernel
theorem dL_checkIn_5 : decode cL_checkIn 5 = .ok (.invokevirtual 25, 3) := by decide +kernel
theorem dL_checkIn_8 : decode cL_checkIn 8 = .ok (.i2l, 1) := by decide +kernel
theorem dL_checkIn_9 : decode cL_checkIn 9 = .ok (.lastore, 1) := by decide +kernel
theorem dL_checkIn_10 : decode cL_checkIn 10 = .ok (.goto 15, 3) := by decide +kernel
theorem dL_checkIn_13 : decode cL_checkIn 13 = .ok (.astore 4, 2) := by decide +kernel
theorem dL_checkIn_15 : decode cL_checkIn 15 = .ok (.iconst 1, 1) := by decide +kernel
theorem dL_checkIn_16 : decode cL_checkIn 16 = .ok (.ireturn, 1) := by decide +kernel
theorem dL_checkIn_17 : decode cL_checkIn 17 = .ok (.astore 4, 2) := by decide +kernel
theorem dL_checkIn_19 : decode cL_checkIn 19 = .ok (.iconst 2, 1) := by decide +kernel
theorem dL_checkIn_20 : decode cL_checkIn 20 = .ok (.ireturn, 1) := by decide +kernel
theorem dL_checkIn_21 : decode cL_checkIn 21 = .ok (.astore 4, 2) := by decide +kernel
theorem dL_checkIn_23 : decode cL_checkIn 23 = .ok (.iconst 3, 1) := by decide +kernel
theorem dL_checkIn_24 : decode cL_checkIn 24 = .ok (.ireturn, 1) := by decide +kernel
theorem dL_checkIn_25 : decode cL_checkIn 25 = .ok (.iconst 0, 1) := by decide +kernel
theorem dL_checkIn_26 : decode cL_checkIn 26 = .ok (.ireturn, 1) := by decide +kernel
set_option maxRecDepth 20000 in
theorem ggL_skip_X1_skip : GoodIn wsL_skip wsX1_skip := goodIn_ca (goodIn_ca (goodIn_r _ [7, 8, 9, 10, 11, 12, 13, 14, 15, 6, 16, 17, 18, 19, 20, 21, 22, 23, 24, 25, 26, 27, 28, 29, 30, 31, 32, 33, 34, 35] (by decide +kernel) (by decide +kernel)) (goodIn_sub (fun _ h => List.mem_cons_of_mem _ (List.mem_append_left _ (List.mem_append_right _ h))) (by decide +kernel))) (goodIn_sub (fun _ h => List.mem_cons_of_mem _ (List.mem_append_right _ h)) (by decide +kernel))
set_option maxRecDepth 20000 in
theorem gL_skip_X1_skip : GoodIn wsL_skip (wsV RL 31 RX1 yX1_skip wsX1_skip) := goodIn_app (goodIn_of _ (by decide +kernel)) ggL_skip_X1_skip
theorem dL_skip_0 : decode cL_skip 0 = .ok (.aload_n 0, 1) := by decide +kernel
theorem dL_skip_1 : decode cL_skip 1 = .ok (.iload_n 1, 1) := by decide +kernel
theorem dL_skip_2 : decode cL_skip 2 = .ok (.invokevirtual 31, 3) := by decide +kernel
theorem dL_skip_5 : decode cL_skip 5 = .ok (.goto 9, 3) := by decide +kernel
theorem dL_skip_8 : decode cL_skip 8 = .ok (.astore_n 2, 1) := by decide +kernel
theorem dL_skip_9 : decode cL_skip 9 = .ok (.iconst 1, 1) := by decide +kernel
theorem dL_skip_10 : decode cL_skip 10 = .ok (.ireturn, 1) := by decide +kernel
theorem dL_skip_11 : decode cL_skip 11 = .ok (.astore_n 2, 1) := by decide +kernel
theorem dL_skip_12 : decode cL_skip 12 = .ok (.iconst 2, 1) := by decide +kernel
theorem dL_skip_13 : decode cL_skip 13 = .ok (.ireturn, 1) := by decide +kernel
theorem dL_skip_14 : decode cL_skip 14 = .ok (.iconst 0, 1) := by decide +kernel
theorem dL_skip_15 : decode cL_skip 15 = .ok (.ireturn, 1) := by decide +kernel
set_option maxRecDepth 20000 in
theorem ggL_dayOf_X1_dayOf : GoodIn wsL_dayOf wsX1_dayOf := goodIn_ca (goodIn_r _ [6, 7, 8, 9, 10, 11, 12, 5, 13, 14, 15, 16, 17, 18, 19, 20, 21, 22, 23, 24, 25, 26, 27, 28, 29, 30, 31, 32] (by decide +kernel) (by decide +kernel)) (goodIn_sub (fun _ h => List.mem_cons_of_mem _ (List.mem_append_right _ h)) (by decide +kernel))
set_option maxRecDepth 20000 in
theorem gL_dayOf_X1_dayOf : GoodIn wsL_dayOf (wsV RL 35 RX1 yX1_dayOf wsX1_dayOf) := goodIn_app (goodIn_of _ (by decide +kernel)) ggL_dayOf_X1_dayOf
theorem dL_dayOf_0 : decode cL_dayOf 0 = .ok (.aload_n 2, 1) := by decide +kernel
theorem dL_dayOf_1 : decode cL_dayOf 1 = .ok (.iconst 0, 1) := by decide +kernel
theorem dL_dayOf_2 : decode cL_dayOf 2 = .ok (.aload_n 0, 1) := by decide +kernel
theorem dL_dayOf_3 : decode cL_dayOf 3 = .ok (.iload_n 1, 1) := by decide +kernel
theorem dL_dayOf_4 : decode cL_dayOf 4 = .ok (.invokevirtual 35, 3) := by decide +kernel
theorem dL_dayOf_7 : decode cL_dayOf 7 = .ok (.i2l, 1) := by decide +kernel
theorem dL_dayOf_8 : decode cL_dayOf 8 = .ok (.lastore, 1) := by decide +kernel
theorem dL_dayOf_9 : decode cL_dayOf 9 = .ok (.goto 6, 3) := by decide +kernel
theorem dL_dayOf_12 : decode cL_dayOf 12 = .ok (.astore_n 3, 1) := by decide +kernel
theorem dL_dayOf_13 : decode cL_dayOf 13 = .ok (.iconst 1, 1) := by decide +kernel
theorem dL_dayOf_14 : decode cL_dayOf 14 = .ok (.ireturn, 1) := by decide +kernel
theorem dL_dayOf_15 : decode cL_dayOf 15 = .ok (.iconst 0, 1) := by decide +kernel
theorem dL_dayOf_16 : decode cL_dayOf 16 = .ok (.ireturn, 1) := by decide +kernel
set_option maxRecDepth 20000 in
theorem ggL_stateOf_X1_stateOf : GoodIn wsL_stateOf wsX1_stateOf := goodIn_ca (goodIn_r _ [6, 7, 8, 9, 10, 11, 12, 5, 13, 14, 15, 16, 17, 18, 19, 20, 21, 22, 23, 24, 25, 26, 27, 28, 29, 30, 31, 32] (by decide +kernel) (by decide +kernel)) (goodIn_sub (fun _ h => List.mem_cons_of_mem _ (List.mem_append_right _ h)) (by decide +kernel))
set_option maxRecDepth 20000 in
theorem gL_stateOf_X1_stateOf : GoodIn wsL_stateOf (wsV RL 38 RX1 yX1_stateOf wsX1_stateOf) := goodIn_app (goodIn_of _ (by decide +kernel)) ggL_stateOf_X1_stateOf
theorem dL_stateOf_0 : decode cL_stateOf 0 = .ok (.aload_n 2, 1) := by decide +kernel
theorem dL_stateOf_1 : decode cL_stateOf 1 = .ok (.iconst 0, 1) := by decide +kernel
theorem dL_stateOf_2 : decode cL_stateOf 2 = .ok (.aload_n 0, 1) := by decide +kernel
theorem dL_stateOf_3 : decode cL_stateOf 3 = .ok (.iload_n 1, 1) := by decide +kernel
theorem dL_stateOf_4 : decode cL_stateOf 4 = .ok (.invokevirtual 38, 3) := by decide +kernel
theorem dL_stateOf_7 : decode cL_stateOf 7 = .ok (.i2l, 1) := by decide +kernel
theorem dL_stateOf_8 : decode cL_stateOf 8 = .ok (.lastore, 1) := by decide +kernel
theorem dL_stateOf_9 : decode cL_stateOf 9 = .ok (.goto 6, 3) := by decide +kernel
theorem dL_stateOf_12 : decode cL_stateOf 12 = .ok (.astore_n 3, 1) := by decide +kernel
theorem dL_stateOf_13 : decode cL_stateOf 13 = .ok (.iconst 1, 1) := by decide +kernel
theorem dL_stateOf_14 : decode cL_stateOf 14 = .ok (.ireturn, 1) := by decide +kernel
theorem dL_stateOf_15 : decode cL_stateOf 15 = .ok (.iconst 0, 1) := by decide +kernel
theorem dL_stateOf_16 : decode cL_stateOf 16 = .ok (.ireturn, 1) := by decide +kernel
set_option maxRecDepth 20000 in
theorem ggL_claimsOf_X1_claimsOf : GoodIn wsL_claimsOf wsX1_claimsOf := goodIn_ca (goodIn_r _ [6, 7, 8, 9, 10, 11, 12, 5, 13, 14, 15, 16, 17, 18, 19, 20, 21, 22, 23, 24, 25, 26, 27, 28, 29, 30, 31, 32] (by decide +kernel) (by decide +kernel)) (goodIn_sub (fun _ h => List.mem_cons_of_mem _ (List.mem_append_right _ h)) (by decide +kernel))
set_option maxRecDepth 20000 in
theorem gL_claimsOf_X1_claimsOf : GoodIn wsL_claimsOf (wsV RL 41 RX1 yX1_claimsOf wsX1_claimsOf) := goodIn_app (goodIn_of _ (by decide +kernel)) ggL_claimsOf_X1_claimsOf
theorem dL_claimsOf_0 : decode cL_claimsOf 0 = .ok (.aload_n 2, 1) := by decide +kernel
theorem dL_claimsOf_1 : decode cL_claimsOf 1 = .ok (.iconst 0, 1) := by decide +kernel
theorem dL_claimsOf_2 : decode cL_claimsOf 2 = .ok (.aload_n 0, 1) := by decide +kernel
theorem dL_claimsOf_3 : decode cL_claimsOf 3 = .ok (.iload_n 1, 1) := by decide +kernel
theorem dL_claimsOf_4 : decode cL_claimsOf 4 = .ok (.invokevirtual 41, 3) := by decide +kernel
theorem dL_claimsOf_7 : decode cL_claimsOf 7 = .ok (.i2l, 1) := by decide +kernel
theorem dL_claimsOf_8 : decode cL_claimsOf 8 = .ok (.lastore, 1) := by decide +kernel
theorem dL_claimsOf_9 : decode cL_claimsOf 9 = .ok (.goto 6, 3) := by decide +kernel
theorem dL_claimsOf_12 : decode cL_claimsOf 12 = .ok (.astore_n 3, 1) := by decide +kernel
theorem dL_claimsOf_13 : decode cL_claimsOf 13 = .ok (.iconst 1, 1) := by decide +kernel
theorem dL_claimsOf_14 : decode cL_claimsOf 14 = .ok (.ireturn, 1) := by decide +kernel
theorem dL_claimsOf_15 : decode cL_claimsOf 15 = .ok (.iconst 0, 1) := by decide +kernel
theorem dL_claimsOf_16 : decode cL_claimsOf 16 = .ok (.ireturn, 1) := by decide +kernel
set_option maxRecDepth 20000 in
theorem ggL_labelOf_X1_labelOf : GoodIn wsL_labelOf wsX1_labelOf := goodIn_ca (goodIn_r _ [6, 7, 8, 9, 10, 11, 5, 12, 13, 14, 15, 16, 17, 18, 19, 20, 21, 22, 23, 24, 25, 26, 27, 28, 29, 30, 31, 32, 33, 34, 35, 36, 37, 38, 39, 40, 41, 42] (by decide +kernel) (by decide +kernel)) (goodIn_sub (fun _ h => List.mem_cons_of_mem _ (List.mem_append_right _ h)) (by decide +kernel))
set_option maxRecDepth 20000 in
theorem gL_labelOf_X1_labelOf : GoodIn wsL_labelOf (wsV RL 44 RX1 yX1_labelOf wsX1_labelOf) := goodIn_app (goodIn_of _ (by decide +kernel)) ggL_labelOf_X1_labelOf
theorem dL_labelOf_0 : decode cL_labelOf 0 = .ok (.aload_n 2, 1) := by decide +kernel
theorem dL_labelOf_1 : decode cL_labelOf 1 = .ok (.iconst 0, 1) := by decide +kernel
theorem dL_labelOf_2 : decode cL_labelOf 2 = .ok (.aload_n 0, 1) := by decide +kernel
theorem dL_labelOf_3 : decode cL_labelOf 3 = .ok (.iload_n 1, 1) := by decide +kernel
theorem dL_labelOf_4 : decode cL_labelOf 4 = .ok (.invokevirtual 44, 3) := by decide +kernel
theorem dL_labelOf_7 : decode cL_labelOf 7 = .ok (.i2l, 1) := by decide +kernel
theorem dL_labelOf_8 : decode cL_labelOf 8 = .ok (.lastore, 1) := by decide +kernel
theorem dL_labelOf_9 : decode cL_labelOf 9 = .ok (.goto 6, 3) := by decide +kernel
theorem dL_labelOf_12 : decode cL_labelOf 12 = .ok (.astore_n 3, 1) := by decide +kernel
theorem dL_labelOf_13 : decode cL_labelOf 13 = .ok (.iconst 1, 1) := by decide +kernel
theorem dL_labelOf_14 : decode cL_labelOf 14 = .ok (.ireturn, 1) := by decide +kernel
theorem dL_labelOf_15 : decode cL_labelOf 15 = .ok (.iconst 0, 1) := by decide +kernel
theorem dL_labelOf_16 : decode cL_labelOf 16 = .ok (.ireturn, 1) := by decide +kernel
set_option maxRecDepth 20000 in
theorem ggL_rangeAt_X1_rangeAt : GoodIn wsL_rangeAt wsX1_rangeAt := goodIn_ca (goodIn_r _ [6, 7, 8, 9, 10, 11, 5, 12, 13, 14, 15, 16, 17, 18, 19, 20, 21, 22, 23, 24, 25, 26, 27, 28, 29, 30, 31, 32, 33, 34, 35, 36, 37, 38, 39, 40, 41, 42, 43, 44, 45, 46, 47, 48] (by decide +kernel) (by decide +kernel)) (goodIn_sub (fun _ h => List.mem_cons_of_mem _ (List.mem_append_right _ h)) (by decide +kernel))
set_option maxRecDepth 20000 in
theorem gL_rangeAt_X1_rangeAt : GoodIn wsL_rangeAt (wsV RL 47 RX1 yX1_rangeAt wsX1_rangeAt) := goodIn_app (goodIn_of _ (by decide +kernel)) ggL_rangeAt_X1_rangeAt
theorem dL_rangeAt_0 : decode cL_rangeAt 0 = .ok (.aload_n 2, 1) := by decide +kernel
theorem dL_rangeAt_1 : decode cL_rangeAt 1 = .ok (.iconst 0, 1) := by decide +kernel
theorem dL_rangeAt_2 : decode cL_rangeAt 2 = .ok (.aload_n 0, 1) := by decide +kernel
theorem dL_rangeAt_3 : decode cL_rangeAt 3 = .ok (.iload_n 1, 1) := by decide +kernel
theorem dL_rangeAt_4 : decode cL_rangeAt 4 = .ok (.invokevirtual 47, 3) := by decide +kernel
theorem dL_rangeAt_7 : decode cL_rangeAt 7 = .ok (.i2l, 1) := by decide +kernel
theorem dL_rangeAt_8 : decode cL_rangeAt 8 = .ok (.lastore, 1) := by decide +kernel
theorem dL_rangeAt_9 : decode cL_rangeAt 9 = .ok (.goto 6, 3) := by decide +kernel
theorem dL_rangeAt_12 : decode cL_rangeAt 12 = .ok (.astore_n 3, 1) := by decide +kernel
theorem dL_rangeAt_13 : decode cL_rangeAt 13 = .ok (.iconst 1, 1) := by decide +kernel
theorem dL_rangeAt_14 : decode cL_rangeAt 14 = .ok (.ireturn, 1) := by decide +kernel
theorem dL_rangeAt_15 : decode cL_rangeAt 15 = .ok (.iconst 0, 1) := by decide +kernel
theorem dL_rangeAt_16 : decode cL_rangeAt 16 = .ok (.ireturn, 1) := by decide +kernel
set_option maxRecDepth 20000 in
theorem ggL_give_X1_give : GoodIn wsL_give wsX1_give := goodIn_ca (goodIn_r _ [6, 7, 8, 9, 10, 11, 12, 5, 13, 14, 15, 16, 17, 18, 19, 20, 21, 22, 23, 24, 25, 26, 27, 28, 29, 30, 31] (by decide +kernel) (by decide +kernel)) (goodIn_sub (fun _ h => List.mem_cons_of_mem _ (List.mem_append_right _ h)) (by decide +kernel))
set_option maxRecDepth 20000 in
theorem gL_give_X1_give : GoodIn wsL_give (wsV RL 50 RX1 yX1_give wsX1_give) := goodIn_app (goodIn_of _ (by decide +kernel)) ggL_give_X1_give
theorem dL_give_0 : decode cL_give 0 = .ok (.aload_n 3, 1) := by decide +kernel
theorem dL_give_1 : decode cL_give 1 = .ok (.iconst 0, 1) := by decide +kernel
theorem dL_give_2 : decode cL_give 2 = .ok (.aload_n 0, 1) := by decide +kernel
theorem dL_give_3 : decode cL_give 3 = .ok (.iload_n 1, 1) := by decide +kernel
theorem dL_give_4 : decode cL_give 4 = .ok (.iload_n 2, 1) := by decide +kernel
theorem dL_give_5 : decode cL_give 5 = .ok (.invokevirtual 50, 3) := by decide +kernel
theorem dL_give_8 : decode cL_give 8 = .ok (.i2l, 1) := by decide +kernel
theorem dL_give_9 : decode cL_give 9 = .ok (.lastore, 1) := by decide +kernel
theorem dL_give_10 : decode cL_give 10 = .ok (.goto 7, 3) := by decide +kernel
theorem dL_give_13 : decode cL_give 13 = .ok (.astore 4, 2) := by decide +kernel
theorem dL_give_15 : decode cL_give 15 = .ok (.iconst 1, 1) := by decide +kernel
theorem dL_give_16 : decode cL_give 16 = .ok (.ireturn, 1) := by decide +kernel
theorem dL_give_17 : decode cL_give 17 = .ok (.iconst 0, 1) := by decide +kernel
theorem dL_give_18 : decode cL_give 18 = .ok (.ireturn, 1) := by decide +kernel
set_option maxRecDepth 20000 in
theorem ggL_only_X1_only : GoodIn wsL_only wsX1_only := goodIn_ca (goodIn_r _ [6, 7, 8, 9, 10, 11, 12, 5, 13, 14, 15, 16, 17, 18, 19, 20, 21, 22, 23, 24, 25, 26, 27, 28, 29, 30, 31, 32, 33, 34, 35, 36, 37] (by decide +kernel) (by decide +kernel)) (goodIn_sub (fun _ h => List.mem_cons_of_mem _ (List.mem_append_right _ h)) (by decide +kernel))
set_option maxRecDepth 20000 in
theorem gL_only_X1_only : GoodIn wsL_only (wsV RL 53 RX1 yX1_only wsX1_only) := goodIn_app (goodIn_of _ (by decide +kernel)) ggL_only_X1_only
theorem dL_only_0 : decode cL_only 0 = .ok (.aload_n 3, 1) := by decide +kernel
theorem dL_only_1 : decode cL_only 1 = .ok (.iconst 0, 1) := by decide +kernel
theorem dL_only_2 : decode cL_only 2 = .ok (.aload_n 0, 1) := by decide +kernel
theorem dL_only_3 : decode cL_only 3 = .ok (.iload_n 1, 1) := by decide +kernel
theorem dL_only_4 : decode cL_only 4 = .ok (.iload_n 2, 1) := by decide +kernel
theorem dL_only_5 : decode cL_only 5 = .ok (.invokevirtual 53, 3) := by decide +kernel
theorem dL_only_8 : decode cL_only 8 = .ok (.i2l, 1) := by decide +kernel
theorem dL_only_9 : decode cL_only 9 = .ok (.lastore, 1) := by decide +kernel
theorem dL_only_10 : decode cL_only 10 = .ok (.goto 7, 3) := by decide +kernel
theorem dL_only_13 : decode cL_only 13 = .ok (.astore 4, 2) := by decide +kernel
theorem dL_only_15 : decode cL_only 15 = .ok (.iconst 1, 1) := by decide +kernel
theorem dL_only_16 : decode cL_only 16 = .ok (.ireturn, 1) := by decide +kernel
theorem dL_only_17 : decode cL_only 17 = .ok (.iconst 0, 1) := by decide +kernel
theorem dL_only_18 : decode cL_only 18 = .ok (.ireturn, 1) := by decide +kernel
end
section
set_option maxRecDepth 20000 in
theorem ggL_law_X1_init : GoodIn wsL_law wsX1_init := goodIn_r _ [9, 10, 11, 12, 13, 14, 15, 16, 17, 18, 19, 20, 21, 22, 23, 24, 25, 26, 27, 28, 29, 30, 31, 32, 33, 34, 35, 465, 466, 467, 468, 432, 433, 434, 435, 436, 437, 438, 439, 440, 441, 442, 443, 444, 445, 446] (by decide +kernel) (by decide +kernel)
set_option maxRecDepth 20000 in
theorem gL_law_X1_init : GoodIn wsL_law (wsX1_init) := ggL_law_X1_init
set_option maxRecDepth 20000 in
theorem ggL_law_X2_init : GoodIn wsL_law wsX2_init := goodIn_r _ [38, 39, 11, 12, 40, 41, 42, 43, 44, 19, 45, 46, 47, 48, 24, 49, 50, 51, 447, 448, 449, 450, 451, 452, 453, 454, 455, 456, 457, 458, 459, 460, 461, 462, 463, 464] (by decide +kernel) (by decide +kernel)
set_option maxRecDepth 20000 in
theorem gL_law_X2_init : GoodIn wsL_law (wsX2_init) := ggL_law_X2_init
set_option maxRecDepth 20000 in
theorem ggL_law_L_setPattern : GoodIn wsL_law wsL_setPattern := goodIn_ca (goodIn_r _ [55, 56, 57, 58, 59, 2, 60, 61, 62, 16, 63, 64, 65, 66, 67, 68, 15, 69, 32, 33, 34, 35, 70, 71, 72, 73, 26, 74, 75, 76, 77, 78, 20, 79, 80, 81, 82, 83, 84, 85, 86, 87, 88, 89, 90, 91, 92, 93, 94, 95, 96, 97, 98, 432, 433, 434, 435, 436, 437, 438, 439, 440, 441, 442, 443, 444, 445, 446, 465, 466, 467, 468] (by decide +kernel) (by decide +kernel)) (goodIn_sub (fun _ h => List.mem_append_left _ (List.mem_append_left _ (List.mem_append_right _ h))) (by decide +kernel))
set_option maxRecDepth 20000 in
theorem gL_law_L_setPattern : GoodIn wsL_law (va_wsS RL 61 yL_setPattern wsL_setPattern) := goodIn_app (goodIn_of _ (by decide +kernel)) ggL_law_L_setPattern
set_option maxRecDepth 20000 in
theorem ggL_law_X2_setPattern : GoodIn wsL_law wsX2_setPattern := goodIn_r _ [102, 40, 41, 42, 103, 104, 105, 5, 106, 107, 108, 109, 110, 111, 112, 113, 114, 115, 51, 116, 117, 118, 119, 120, 45, 121, 122, 123, 124, 125, 126, 127, 128, 129, 447, 448, 449, 450, 451, 452, 453, 454, 455, 456, 457, 458, 459, 460, 461, 462, 463, 464] (by decide +kernel) (by decide +kernel)
set_option maxRecDepth 20000 in
theorem gL_law_X2_setPattern : GoodIn wsL_law (wsV RL 66 RX2 yX2_setPattern wsX2_setPattern) := goodIn_app (goodIn_of _ (by decide +kernel)) ggL_law_X2_setPattern
set_option maxRecDepth 20000 in
theorem ggL_law_X2_thrown : GoodIn wsL_law wsX2_thrown := goodIn_r _ [133, 111, 447, 448, 449, 450, 451, 452, 453, 454, 455, 456, 457, 458, 459, 460, 461, 462, 463, 464] (by decide +kernel) (by decide +kernel)
set_option maxRecDepth 20000 in
theorem gL_law_X2_thrown : GoodIn wsL_law (wsV RL 67 RX2 yX2_thrown wsX2_thrown) := goodIn_app (goodIn_of _ (by decide +kernel)) ggL_law_X2_thrown
set_option maxRecDepth 20000 in
theorem ggL_law_L_setClaims : GoodIn wsL_law wsL_setClaims := goodIn_ca (goodIn_r _ [136, 56, 137, 138, 139, 2, 140, 61, 62, 17, 18, 63, 64, 65, 432, 433, 434, 435, 436, 437, 438, 439, 440, 441, 442, 443, 444, 445, 446] (by decide +kernel) (by decide +kernel)) (goodIn_sub (fun _ h => List.mem_append_left _ (List.mem_append_left _ (List.mem_append_right _ h))) (by decide +kernel))
set_option maxRecDepth 20000 in
theorem gL_law_L_setClaims : GoodIn wsL_law (va_wsS RL 71 yL_setClaims wsL_setClaims) := goodIn_app (goodIn_of _ (by decide +kernel)) ggL_law_L_setClaims
set_option maxRecDepth 20000 in
theorem ggL_law_X2_setClaims : GoodIn wsL_law wsX2_setClaims := goodIn_r _ [144, 43, 44, 104, 105, 5, 106, 107, 108, 109, 110, 111, 447, 448, 449, 450, 451, 452, 453, 454, 455, 456, 457, 458, 459, 460, 461, 462, 463, 464] (by decide +kernel) (by decide +kernel)
set_option maxRecDepth 20000 in
theorem gL_law_X2_setClaims : GoodIn wsL_law (wsV RL 74 RX2 yX2_setClaims wsX2_setClaims) := goodIn_app (goodIn_of _ (by decide +kernel)) ggL_law_X2_setClaims
set_option maxRecDepth 20000 in
theorem ggL_law_L_advance : GoodIn wsL_law wsL_advance := goodIn_ca (goodIn_ca (goodIn_r _ [147, 56, 148, 149, 150, 151, 2, 152, 61, 62, 153, 154, 74, 63, 64, 65, 70, 71, 72, 73, 26, 75, 76, 77, 78, 16, 20, 79, 80, 81, 82, 83, 84, 85, 15, 86, 32, 87, 88, 89, 90, 91, 92, 93, 94, 35, 95, 96, 97, 98, 432, 433, 434, 435, 436, 437, 438, 439, 440, 441, 442, 443, 444, 445, 446, 465, 466, 467, 468] (by decide +kernel) (by decide +kernel)) (goodIn_sub (fun _ h => List.mem_append_left _ (List.mem_append_left _ (List.mem_append_right _ h))) (by decide +kernel))) (goodIn_sub (fun _ h => List.mem_append_left _ (List.mem_append_right _ h)) (by decide +kernel))
set_option maxRecDepth 20000 in
theorem gL_law_L_advance : GoodIn wsL_law (va_wsS RL 75 yL_advance wsL_advance) := goodIn_app (goodIn_of _ (by decide +kernel)) ggL_law_L_advance
set_option maxRecDepth 20000 in
theorem ggL_law_X2_advance : GoodIn wsL_law wsX2_advance := goodIn_r _ [158, 116, 104, 105, 5, 106, 107, 108, 109, 110, 111, 112, 113, 114, 115, 51, 117, 118, 119, 120, 45, 40, 121, 122, 123, 124, 125, 103, 126, 127, 128, 129, 447, 448, 449, 450, 451, 452, 453, 454, 455, 456, 457, 458, 459, 460, 461, 462, 463, 464] (by decide +kernel) (by decide +kernel)
set_option maxRecDepth 20000 in
theorem gL_law_X2_advance : GoodIn wsL_law (wsV RL 78 RX2 yX2_advance wsX2_advance) := goodIn_app (goodIn_of _ (by decide +kernel)) ggL_law_X2_advance
set_option maxRecDepth 20000 in
theorem ggL_law_L_checkIn : GoodIn wsL_law wsL_checkIn := goodIn_ca (goodIn_ca (goodIn_ca (goodIn_r _ [161, 162, 56, 148, 163, 164, 165, 2, 166, 167, 168, 61, 62, 153, 154, 26, 80, 81, 82, 63, 64, 65, 169, 170, 171, 172, 21, 173, 174, 175, 176, 177, 178, 179, 180, 95, 96, 97, 98, 20, 79, 75, 76, 77, 78, 16, 83, 84, 85, 15, 86, 32, 87, 88, 89, 90, 91, 92, 93, 94, 35, 181, 182, 183, 184, 185, 186, 187, 188, 74, 189, 190, 27, 191, 192, 193, 194, 195, 196, 197, 70, 71, 72, 73, 432, 433, 434, 435, 436, 437, 438, 439, 440, 441, 442, 443, 444, 445, 446, 465, 466, 467, 468] (by decide +kernel) (by decide +kernel)) (goodIn_sub (fun _ h => List.mem_append_right _ h) (by decide +kernel))) (goodIn_sub (fun _ h => List.mem_append_left _ (List.mem_append_left _ (List.mem_append_right _ h))) (by decide +kernel))) (goodIn_sub (fun _ h => List.mem_append_left _ (List.mem_append_right _ h)) (by decide +kernel))
set_option maxRecDepth 20000 in
theorem gL_law_L_checkIn : GoodIn wsL_law (va_wsS RL 79 yL_checkIn wsL_checkIn) := goodIn_app (goodIn_of _ (by decide +kernel)) ggL_law_L_checkIn
set_option maxRecDepth 20000 in
theorem ggL_law_X2_checkIn : GoodIn wsL_law wsX2_checkIn := goodIn_r _ [201, 51, 46, 104, 105, 5, 106, 202, 203, 204, 205, 206, 207, 208, 107, 108, 109, 110, 111, 126, 127, 128, 129, 45, 121, 117, 118, 119, 120, 40, 122, 123, 124, 125, 103, 209, 210, 211, 212, 116, 213, 214, 50, 215, 216, 217, 218, 112, 113, 114, 115, 447, 448, 449, 450, 451, 452, 453, 454, 455, 456, 457, 458, 459, 460, 461, 462, 463, 464] (by decide +kernel) (by decide +kernel)
set_option maxRecDepth 20000 in
theorem gL_law_X2_checkIn : GoodIn wsL_law (wsV RL 82 RX2 yX2_checkIn wsX2_checkIn) := goodIn_app (goodIn_of _ (by decide +kernel)) ggL_law_X2_checkIn
set_option maxRecDepth 20000 in
theorem ggL_law_L_skip : GoodIn wsL_law wsL_skip := goodIn_ca (goodIn_ca (goodIn_r _ [221, 162, 148, 222, 223, 224, 2, 225, 167, 168, 153, 154, 21, 173, 174, 175, 176, 26, 80, 81, 82, 432, 433, 434, 435, 436, 437, 438, 439, 440, 441, 442, 443, 444, 445, 446] (by decide +kernel) (by decide +kernel)) (goodIn_sub (fun _ h => List.mem_append_right _ h) (by decide +kernel))) (goodIn_sub (fun _ h => List.mem_append_left _ (List.mem_append_right _ h)) (by decide +kernel))
set_option maxRecDepth 20000 in
theorem gL_law_L_skip : GoodIn wsL_law (va_wsS RL 83 yL_skip wsL_skip) := goodIn_app (goodIn_of _ (by decide +kernel)) ggL_law_L_skip
set_option maxRecDepth 20000 in
theorem ggL_law_X2_skip : GoodIn wsL_law wsX2_skip := goodIn_r _ [229, 46, 230, 231, 232, 5, 233, 51, 104, 105, 106, 107, 108, 109, 110, 111, 447, 448, 449, 450, 451, 452, 453, 454, 455, 456, 457, 458, 459, 460, 461, 462, 463, 464] (by decide +kernel) (by decide +kernel)
set_option maxRecDepth 20000 in
theorem gL_law_X2_skip : GoodIn wsL_law (wsV RL 86 RX2 yX2_skip wsX2_skip) := goodIn_app (goodIn_of _ (by decide +kernel)) ggL_law_X2_skip
set_option maxRecDepth 20000 in
theorem ggL_law_X1_round : GoodIn wsL_law wsX1_round := goodIn_r _ [237, 22, 23, 74, 21, 238, 239, 240, 2, 241, 20, 17, 173, 174, 175, 176, 26, 80, 81, 82, 242, 243, 244, 245, 18, 432, 433, 434, 435, 436, 437, 438, 439, 440, 441, 442, 443, 444, 445, 446] (by decide +kernel) (by decide +kernel)
set_option maxRecDepth 20000 in
theorem gL_law_X1_round : GoodIn wsL_law (wsV RL 87 RX1 yX1_round wsX1_round) := goodIn_app (goodIn_of _ (by decide +kernel)) ggL_law_X1_round
set_option maxRecDepth 20000 in
theorem ggL_law_X2_round : GoodIn wsL_law wsX2_round := goodIn_r _ [249, 111, 51, 47, 116, 48, 44, 46, 250, 251, 252, 5, 253, 45, 43, 447, 448, 449, 450, 451, 452, 453, 454, 455, 456, 457, 458, 459, 460, 461, 462, 463, 464] (by decide +kernel) (by decide +kernel)
set_option maxRecDepth 20000 in
theorem gL_law_X2_round : GoodIn wsL_law (wsV RL 90 RX2 yX2_round wsX2_round) := goodIn_app (goodIn_of _ (by decide +kernel)) ggL_law_X2_round
set_option maxRecDepth 20000 in
theorem ggL_law_X1_day : GoodIn wsL_law wsX1_day := goodIn_r _ [257, 74, 432, 433, 434, 435, 436, 437, 438, 439, 440, 441, 442, 443, 444, 445, 446] (by decide +kernel) (by decide +kernel)
set_option maxRecDepth 20000 in
theorem gL_law_X1_day : GoodIn wsL_law (wsV RL 91 RX1 yX1_day wsX1_day) := goodIn_app (goodIn_of _ (by decide +kernel)) ggL_law_X1_day
set_option maxRecDepth 20000 in
theorem ggL_law_X2_day : GoodIn wsL_law wsX2_day := goodIn_r _ [261, 111, 116, 447, 448, 449, 450, 451, 452, 453, 454, 455, 456, 457, 458, 459, 460, 461, 462, 463, 464] (by decide +kernel) (by decide +kernel)
set_option maxRecDepth 20000 in
theorem gL_law_X2_day : GoodIn wsL_law (wsV RL 94 RX2 yX2_day wsX2_day) := goodIn_app (goodIn_of _ (by decide +kernel)) ggL_law_X2_day
set_option maxRecDepth 20000 in
theorem ggL_law_X1_foretold : GoodIn wsL_law wsX1_foretold := goodIn_r _ [265, 26, 432, 433, 434, 435, 436, 437, 438, 439, 440, 441, 442, 443, 444, 445, 446] (by decide +kernel) (by decide +kernel)
set_option maxRecDepth 20000 in
theorem gL_law_X1_foretold : GoodIn wsL_law (wsV RL 95 RX1 yX1_foretold wsX1_foretold) := goodIn_app (goodIn_of _ (by decide +kernel)) ggL_law_X1_foretold
set_option maxRecDepth 20000 in
theorem ggL_law_X2_foretold : GoodIn wsL_law wsX2_foretold := goodIn_r _ [269, 111, 51, 447, 448, 449, 450, 451, 452, 453, 454, 455, 456, 457, 458, 459, 460, 461, 462, 463, 464] (by decide +kernel) (by decide +kernel)
set_option maxRecDepth 20000 in
theorem gL_law_X2_foretold : GoodIn wsL_law (wsV RL 98 RX2 yX2_foretold wsX2_foretold) := goodIn_app (goodIn_of _ (by decide +kernel)) ggL_law_X2_foretold
set_option maxRecDepth 20000 in
theorem ggL_law_X1_shift : GoodIn wsL_law wsX1_shift := goodIn_r _ [273, 79, 432, 433, 434, 435, 436, 437, 438, 439, 440, 441, 442, 443, 444, 445, 446] (by decide +kernel) (by decide +kernel)
set_option maxRecDepth 20000 in
theorem gL_law_X1_shift : GoodIn wsL_law (wsV RL 99 RX1 yX1_shift wsX1_shift) := goodIn_app (goodIn_of _ (by decide +kernel)) ggL_law_X1_shift
set_option maxRecDepth 20000 in
theorem ggL_law_X2_shift : GoodIn wsL_law wsX2_shift := goodIn_r _ [277, 111, 121, 447, 448, 449, 450, 451, 452, 453, 454, 455, 456, 457, 458, 459, 460, 461, 462, 463, 464] (by decide +kernel) (by decide +kernel)
set_option maxRecDepth 20000 in
theorem gL_law_X2_shift : GoodIn wsL_law (wsV RL 102 RX2 yX2_shift wsX2_shift) := goodIn_app (goodIn_of _ (by decide +kernel)) ggL_law_X2_shift
set_option maxRecDepth 20000 in
theorem ggL_law_L_dayOf : GoodIn wsL_law wsL_dayOf := goodIn_ca (goodIn_r _ [280, 162, 281, 282, 283, 2, 284, 167, 168, 20, 173, 174, 175, 176, 26, 80, 81, 82, 432, 433, 434, 435, 436, 437, 438, 439, 440, 441, 442, 443, 444, 445, 446] (by decide +kernel) (by decide +kernel)) (goodIn_sub (fun _ h => List.mem_append_right _ h) (by decide +kernel))
set_option maxRecDepth 20000 in
theorem gL_law_L_dayOf : GoodIn wsL_law (va_wsS RL 103 yL_dayOf wsL_dayOf) := goodIn_app (goodIn_of _ (by decide +kernel)) ggL_law_L_dayOf
set_option maxRecDepth 20000 in
theorem ggL_law_X2_dayOf : GoodIn wsL_law wsX2_dayOf := goodIn_r _ [288, 45, 289, 290, 291, 5, 292, 230, 231, 232, 233, 51, 104, 105, 106, 107, 108, 109, 110, 111, 447, 448, 449, 450, 451, 452, 453, 454, 455, 456, 457, 458, 459, 460, 461, 462, 463, 464] (by decide +kernel) (by decide +kernel)
set_option maxRecDepth 20000 in
theorem gL_law_X2_dayOf : GoodIn wsL_law (wsV RL 105 RX2 yX2_dayOf wsX2_dayOf) := goodIn_app (goodIn_of _ (by decide +kernel)) ggL_law_X2_dayOf
set_option maxRecDepth 20000 in
theorem ggL_law_L_stateOf : GoodIn wsL_law wsL_stateOf := goodIn_ca (goodIn_r _ [295, 162, 296, 297, 298, 2, 299, 167, 168, 21, 173, 174, 175, 176, 26, 80, 81, 82, 432, 433, 434, 435, 436, 437, 438, 439, 440, 441, 442, 443, 444, 445, 446] (by decide +kernel) (by decide +kernel)) (goodIn_sub (fun _ h => List.mem_append_right _ h) (by decide +kernel))
set_option maxRecDepth 20000 in
theorem gL_law_L_stateOf : GoodIn wsL_law (va_wsS RL 106 yL_stateOf wsL_stateOf) := goodIn_app (goodIn_of _ (by decide +kernel)) ggL_law_L_stateOf
set_option maxRecDepth 20000 in
theorem ggL_law_X2_stateOf : GoodIn wsL_law wsX2_stateOf := goodIn_r _ [303, 46, 289, 290, 291, 5, 292, 230, 231, 232, 233, 51, 104, 105, 106, 107, 108, 109, 110, 111, 447, 448, 449, 450, 451, 452, 453, 454, 455, 456, 457, 458, 459, 460, 461, 462, 463, 464] (by decide +kernel) (by decide +kernel)
set_option maxRecDepth 20000 in
theorem gL_law_X2_stateOf : GoodIn wsL_law (wsV RL 108 RX2 yX2_stateOf wsX2_stateOf) := goodIn_app (goodIn_of _ (by decide +kernel)) ggL_law_X2_stateOf
set_option maxRecDepth 20000 in
theorem ggL_law_L_claimsOf : GoodIn wsL_law wsL_claimsOf := goodIn_ca (goodIn_r _ [306, 162, 307, 308, 309, 2, 310, 167, 168, 22, 173, 174, 175, 176, 26, 80, 81, 82, 432, 433, 434, 435, 436, 437, 438, 439, 440, 441, 442, 443, 444, 445, 446] (by decide +kernel) (by decide +kernel)) (goodIn_sub (fun _ h => List.mem_append_right _ h) (by decide +kernel))
set_option maxRecDepth 20000 in
theorem gL_law_L_claimsOf : GoodIn wsL_law (va_wsS RL 109 yL_claimsOf wsL_claimsOf) := goodIn_app (goodIn_of _ (by decide +kernel)) ggL_law_L_claimsOf
set_option maxRecDepth 20000 in
theorem ggL_law_X2_claimsOf : GoodIn wsL_law wsX2_claimsOf := goodIn_r _ [314, 47, 289, 290, 291, 5, 292, 230, 231, 232, 233, 51, 104, 105, 106, 107, 108, 109, 110, 111, 447, 448, 449, 450, 451, 452, 453, 454, 455, 456, 457, 458, 459, 460, 461, 462, 463, 464] (by decide +kernel) (by decide +kernel)
set_option maxRecDepth 20000 in
theorem gL_law_X2_claimsOf : GoodIn wsL_law (wsV RL 111 RX2 yX2_claimsOf wsX2_claimsOf) := goodIn_app (goodIn_of _ (by decide +kernel)) ggL_law_X2_claimsOf
set_option maxRecDepth 20000 in
theorem ggL_law_L_labelOf : GoodIn wsL_law wsL_labelOf := goodIn_ca (goodIn_r _ [317, 162, 318, 319, 320, 2, 321, 167, 168, 16, 80, 81, 82, 322, 323, 324, 15, 325, 33, 326, 327, 328, 329, 34, 432, 433, 434, 435, 436, 437, 438, 439, 440, 441, 442, 443, 444, 445, 446, 465, 466, 467, 468] (by decide +kernel) (by decide +kernel)) (goodIn_sub (fun _ h => List.mem_append_right _ h) (by decide +kernel))
set_option maxRecDepth 20000 in
theorem gL_law_L_labelOf : GoodIn wsL_law (va_wsS RL 112 yL_labelOf wsL_labelOf) := goodIn_app (goodIn_of _ (by decide +kernel)) ggL_law_L_labelOf
set_option maxRecDepth 20000 in
theorem ggL_law_X2_labelOf : GoodIn wsL_law wsX2_labelOf := goodIn_r _ [333, 202, 203, 5, 204, 104, 105, 106, 107, 108, 109, 110, 111, 334, 335, 336, 337, 41, 338, 339, 340, 341, 42, 447, 448, 449, 450, 451, 452, 453, 454, 455, 456, 457, 458, 459, 460, 461, 462, 463, 464] (by decide +kernel) (by decide +kernel)
set_option maxRecDepth 20000 in
theorem gL_law_X2_labelOf : GoodIn wsL_law (wsV RL 114 RX2 yX2_labelOf wsX2_labelOf) := goodIn_app (goodIn_of _ (by decide +kernel)) ggL_law_X2_labelOf
set_option maxRecDepth 20000 in
theorem ggL_law_X1_find : GoodIn wsL_law wsX1_find := goodIn_r _ [345, 16, 322, 323, 324, 15, 325, 33, 326, 327, 328, 329, 34, 432, 433, 434, 435, 436, 437, 438, 439, 440, 441, 442, 443, 444, 445, 446, 465, 466, 467, 468] (by decide +kernel) (by decide +kernel)
set_option maxRecDepth 20000 in
theorem gL_law_X1_find : GoodIn wsL_law (wsV RL 115 RX1 yX1_find wsX1_find) := goodIn_app (goodIn_of _ (by decide +kernel)) ggL_law_X1_find
set_option maxRecDepth 20000 in
theorem ggL_law_X2_find : GoodIn wsL_law wsX2_find := goodIn_r _ [349, 111, 334, 335, 336, 5, 337, 41, 338, 339, 340, 341, 42, 447, 448, 449, 450, 451, 452, 453, 454, 455, 456, 457, 458, 459, 460, 461, 462, 463, 464] (by decide +kernel) (by decide +kernel)
set_option maxRecDepth 20000 in
theorem gL_law_X2_find : GoodIn wsL_law (wsV RL 118 RX2 yX2_find wsX2_find) := goodIn_app (goodIn_of _ (by decide +kernel)) ggL_law_X2_find
set_option maxRecDepth 20000 in
theorem ggL_law_X1_late : GoodIn wsL_law wsX1_late := goodIn_r _ [353, 238, 239, 240, 2, 241, 21, 74, 20, 17, 173, 174, 175, 176, 26, 80, 81, 82, 432, 433, 434, 435, 436, 437, 438, 439, 440, 441, 442, 443, 444, 445, 446] (by decide +kernel) (by decide +kernel)
set_option maxRecDepth 20000 in
theorem gL_law_X1_late : GoodIn wsL_law (wsV RL 119 RX1 yX1_late wsX1_late) := goodIn_app (goodIn_of _ (by decide +kernel)) ggL_law_X1_late
set_option maxRecDepth 20000 in
theorem ggL_law_X2_late : GoodIn wsL_law wsX2_late := goodIn_r _ [357, 111, 51, 250, 251, 252, 5, 253, 46, 116, 45, 43, 447, 448, 449, 450, 451, 452, 453, 454, 455, 456, 457, 458, 459, 460, 461, 462, 463, 464] (by decide +kernel) (by decide +kernel)
set_option maxRecDepth 20000 in
theorem gL_law_X2_late : GoodIn wsL_law (wsV RL 122 RX2 yX2_late wsX2_late) := goodIn_app (goodIn_of _ (by decide +kernel)) ggL_law_X2_late
set_option maxRecDepth 20000 in
theorem ggL_law_X1_ranges : GoodIn wsL_law wsX1_ranges := goodIn_r _ [361, 362, 363, 364, 2, 365, 366, 367, 368, 369, 21, 173, 174, 175, 176, 26, 80, 81, 82, 432, 433, 434, 435, 436, 437, 438, 439, 440, 441, 442, 443, 444, 445, 446] (by decide +kernel) (by decide +kernel)
set_option maxRecDepth 20000 in
theorem gL_law_X1_ranges : GoodIn wsL_law (wsV RL 123 RX1 yX1_ranges wsX1_ranges) := goodIn_app (goodIn_of _ (by decide +kernel)) ggL_law_X1_ranges
set_option maxRecDepth 20000 in
theorem ggL_law_X2_ranges : GoodIn wsL_law wsX2_ranges := goodIn_r _ [373, 111, 374, 375, 376, 5, 377, 51, 378, 379, 380, 381, 46, 230, 231, 232, 233, 104, 105, 106, 447, 448, 449, 450, 451, 452, 453, 454, 455, 456, 457, 458, 459, 460, 461, 462, 463, 464] (by decide +kernel) (by decide +kernel)
set_option maxRecDepth 20000 in
theorem gL_law_X2_ranges : GoodIn wsL_law (wsV RL 126 RX2 yX2_ranges wsX2_ranges) := goodIn_app (goodIn_of _ (by decide +kernel)) ggL_law_X2_ranges
set_option maxRecDepth 20000 in
theorem ggL_law_L_rangeAt : GoodIn wsL_law wsL_rangeAt := goodIn_ca (goodIn_r _ [384, 162, 385, 386, 387, 2, 388, 167, 168, 389, 390, 391, 392, 362, 363, 364, 365, 366, 367, 368, 369, 21, 173, 174, 175, 176, 26, 80, 81, 82, 393, 394, 395, 396, 432, 433, 434, 435, 436, 437, 438, 439, 440, 441, 442, 443, 444, 445, 446] (by decide +kernel) (by decide +kernel)) (goodIn_sub (fun _ h => List.mem_append_right _ h) (by decide +kernel))
set_option maxRecDepth 20000 in
theorem gL_law_L_rangeAt : GoodIn wsL_law (va_wsS RL 127 yL_rangeAt wsL_rangeAt) := goodIn_app (goodIn_of _ (by decide +kernel)) ggL_law_L_rangeAt
set_option maxRecDepth 20000 in
theorem ggL_law_X2_rangeAt : GoodIn wsL_law wsX2_rangeAt := goodIn_r _ [400, 374, 375, 376, 5, 377, 51, 378, 379, 380, 381, 46, 230, 231, 232, 233, 104, 105, 106, 107, 108, 109, 110, 111, 447, 448, 449, 450, 451, 452, 453, 454, 455, 456, 457, 458, 459, 460, 461, 462, 463, 464] (by decide +kernel) (by decide +kernel)
set_option maxRecDepth 20000 in
theorem gL_law_X2_rangeAt : GoodIn wsL_law (wsV RL 129 RX2 yX2_rangeAt wsX2_rangeAt) := goodIn_app (goodIn_of _ (by decide +kernel)) ggL_law_X2_rangeAt
set_option maxRecDepth 20000 in
theorem ggL_law_X1_isHeld : GoodIn wsL_law wsX1_isHeld := goodIn_r _ [404, 362, 363, 364, 2, 365, 366, 367, 368, 369, 21, 173, 174, 175, 176, 26, 80, 81, 82, 393, 394, 395, 396, 63, 64, 65, 432, 433, 434, 435, 436, 437, 438, 439, 440, 441, 442, 443, 444, 445, 446] (by decide +kernel) (by decide +kernel)
set_option maxRecDepth 20000 in
theorem gL_law_X1_isHeld : GoodIn wsL_law (wsV RL 130 RX1 yX1_isHeld wsX1_isHeld) := goodIn_app (goodIn_of _ (by decide +kernel)) ggL_law_X1_isHeld
set_option maxRecDepth 20000 in
theorem ggL_law_X2_isHeld : GoodIn wsL_law wsX2_isHeld := goodIn_r _ [408, 111, 378, 379, 380, 5, 381, 46, 230, 231, 232, 233, 51, 104, 105, 106, 447, 448, 449, 450, 451, 452, 453, 454, 455, 456, 457, 458, 459, 460, 461, 462, 463, 464] (by decide +kernel) (by decide +kernel)
set_option maxRecDepth 20000 in
theorem gL_law_X2_isHeld : GoodIn wsL_law (wsV RL 134 RX2 yX2_isHeld wsX2_isHeld) := goodIn_app (goodIn_of _ (by decide +kernel)) ggL_law_X2_isHeld
set_option maxRecDepth 20000 in
theorem ggL_law_L_give : GoodIn wsL_law wsL_give := goodIn_ca (goodIn_r _ [411, 56, 412, 413, 414, 2, 415, 61, 62, 25, 416, 80, 81, 82, 63, 64, 65, 432, 433, 434, 435, 436, 437, 438, 439, 440, 441, 442, 443, 444, 445, 446] (by decide +kernel) (by decide +kernel)) (goodIn_sub (fun _ h => List.mem_append_left _ (List.mem_append_left _ (List.mem_append_right _ h))) (by decide +kernel))
set_option maxRecDepth 20000 in
theorem gL_law_L_give : GoodIn wsL_law (va_wsS RL 135 yL_give wsL_give) := goodIn_app (goodIn_of _ (by decide +kernel)) ggL_law_L_give
set_option maxRecDepth 20000 in
theorem ggL_law_X2_give : GoodIn wsL_law wsX2_give := goodIn_r _ [420, 49, 202, 203, 5, 204, 104, 105, 106, 107, 108, 109, 110, 111, 447, 448, 449, 450, 451, 452, 453, 454, 455, 456, 457, 458, 459, 460, 461, 462, 463, 464] (by decide +kernel) (by decide +kernel)
set_option maxRecDepth 20000 in
theorem gL_law_X2_give : GoodIn wsL_law (wsV RL 137 RX2 yX2_give wsX2_give) := goodIn_app (goodIn_of _ (by decide +kernel)) ggL_law_X2_give
set_option maxRecDepth 20000 in
theorem ggL_law_L_only : GoodIn wsL_law wsL_only := goodIn_ca (goodIn_r _ [423, 56, 424, 425, 426, 2, 427, 61, 62, 25, 366, 367, 368, 369, 21, 173, 174, 175, 176, 26, 80, 81, 82, 432, 433, 434, 435, 436, 437, 438, 439, 440, 441, 442, 443, 444, 445, 446] (by decide +kernel) (by decide +kernel)) (goodIn_sub (fun _ h => List.mem_append_left _ (List.mem_append_left _ (List.mem_append_right _ h))) (by decide +kernel))
set_option maxRecDepth 20000 in
theorem gL_law_L_only : GoodIn wsL_law (va_wsS RL 138 yL_only wsL_only) := goodIn_app (goodIn_of _ (by decide +kernel)) ggL_law_L_only
set_option maxRecDepth 20000 in
theorem ggL_law_X2_only : GoodIn wsL_law wsX2_only := goodIn_r _ [431, 49, 107, 108, 109, 5, 110, 111, 378, 379, 380, 381, 46, 230, 231, 232, 233, 51, 104, 105, 106, 447, 448, 449, 450, 451, 452, 453, 454, 455, 456, 457, 458, 459, 460, 461, 462, 463, 464] (by decide +kernel) (by decide +kernel)
set_option maxRecDepth 20000 in
theorem gL_law_X2_only : GoodIn wsL_law (wsV RL 141 RX2 yX2_only wsX2_only) := goodIn_app (goodIn_of _ (by decide +kernel)) ggL_law_X2_only
theorem dL_law_0 : decode cL_law 0 = .ok (.new 8, 3) := by decide +kernel
theorem dL_law_3 : decode cL_law 3 = .ok (.dup, 1) := by decide +kernel
theorem dL_law_4 : decode cL_law 4 = .ok (.invokespecial 57, 3) := by decide +kernel
theorem dL_law_7 : decode cL_law 7 = .ok (.astore_n 1, 1) := by decide +kernel
theorem dL_law_8 : decode cL_law 8 = .ok (.new 58, 3) := by decide +kernel
theorem dL_law_11 : decode cL_law 11 = .ok (.dup, 1) := by decide +kernel
theorem dL_law_12 : decode cL_law 12 = .ok (.invokespecial 60, 3) := by decide +kernel
theorem dL_law_15 : decode cL_law 15 = .ok (.astore_n 2, 1) := by decide +kernel
theorem dL_law_16 : decode cL_law 16 = .ok (.iconst 1, 1) := by decide +kernel
theorem dL_law_17 : decode cL_law 17 = .ok (.newarray .long, 2) := by decide +kernel
theorem dL_law_19 : decode cL_law 19 = .ok (.astore_n 3, 1) := by decide +kernel
theorem dL_law_20 : decode cL_law 20 = .ok (.iconst 0, 1) := by decide +kernel
theorem dL_law_21 : decode cL_law 21 = .ok (.istore 4, 2) := by decide +kernel
theorem dL_law_23 : decode cL_law 23 = .ok (.iload 4, 2) := by decide +kernel
theorem dL_law_25 : decode cL_law 25 = .ok (.aload_n 0, 1) := by decide +kernel
theorem dL_law_26 : decode cL_law 26 = .ok (.arraylength, 1) := by decide +kernel
theorem dL_law_27 : decode cL_law 27 = .ok (.iconst 5, 1) := by decide +kernel
theorem dL_law_28 : decode cL_law 28 = .ok (.isub, 1) := by decide +kernel
theorem dL_law_29 : decode cL_law 29 = .ok (.if_icmp .gt 977, 3) := by decide +kernel
theorem dL_law_32 : decode cL_law 32 = .ok (.aload_n 0, 1) := by decide +kernel
theorem dL_law_33 : decode cL_law 33 = .ok (.iload 4, 2) := by decide +kernel
theorem dL_law_35 : decode cL_law 35 = .ok (.iaload, 1) := by decide +kernel
theorem dL_law_36 : decode cL_law 36 = .ok (.bipush 31, 2) := by decide +kernel
theorem dL_law_38 : decode cL_law 38 = .ok (.iand, 1) := by decide +kernel
theorem dL_law_39 : decode cL_law 39 = .ok (.tableswitch 961 0 19 #[93, 181, 229, 285, 353, 389, 402, 415, 428, 441, 497, 553, 609, 665, 702, 715, 728, 784, 809, 877], 93) := by decide +kernel
theorem dL_law_132 : decode cL_law 132 = .ok (.aload_n 1, 1) := by decide +kernel
theorem dL_law_133 : decode cL_law 133 = .ok (.aload_n 0, 1) := by decide +kernel
theorem dL_law_134 : decode cL_law 134 = .ok (.iload 4, 2) := by decide +kernel
theorem dL_law_136 : decode cL_law 136 = .ok (.iconst 1, 1) := by decide +kernel
theorem dL_law_137 : decode cL_law 137 = .ok (.iadd, 1) := by decide +kernel
theorem dL_law_138 : decode cL_law 138 = .ok (.iaload, 1) := by decide +kernel
theorem dL_law_139 : decode cL_law 139 = .ok (.aload_n 0, 1) := by decide +kernel
theorem dL_law_140 : decode cL_law 140 = .ok (.iload 4, 2) := by decide +kernel
theorem dL_law_142 : decode cL_law 142 = .ok (.iconst 2, 1) := by decide +kernel
theorem dL_law_143 : decode cL_law 143 = .ok (.iadd, 1) := by decide +kernel
theorem dL_law_144 : decode cL_law 144 = .ok (.iaload, 1) := by decide +kernel
theorem dL_law_145 : decode cL_law 145 = .ok (.aload_n 0, 1) := by decide +kernel
theorem dL_law_146 : decode cL_law 146 = .ok (.iload 4, 2) := by decide +kernel
theorem dL_law_148 : decode cL_law 148 = .ok (.iconst 3, 1) := by decide +kernel
theorem dL_law_149 : decode cL_law 149 = .ok (.iadd, 1) := by decide +kernel
theorem dL_law_150 : decode cL_law 150 = .ok (.iaload, 1) := by decide +kernel
theorem dL_law_151 : decode cL_law 151 = .ok (.ifCond .eq 7, 3) := by decide +kernel
theorem dL_law_154 : decode cL_law 154 = .ok (.iconst 1, 1) := by decide +kernel
theorem dL_law_155 : decode cL_law 155 = .ok (.goto 4, 3) := by decide +kernel
theorem dL_law_158 : decode cL_law 158 = .ok (.iconst 0, 1) := by decide +kernel
theorem dL_law_159 : decode cL_law 159 = .ok (.aload_n 0, 1) := by decide +kernel
theorem dL_law_160 : decode cL_law 160 = .ok (.iload 4, 2) := by decide +kernel
theorem dL_law_162 : decode cL_law 162 = .ok (.iconst 4, 1) := by decide +kernel
theorem dL_law_163 : decode cL_law 163 = .ok (.iadd, 1) := by decide +kernel
theorem dL_law_164 : decode cL_law 164 = .ok (.iaload, 1) := by decide +kernel
theorem dL_law_165 : decode cL_law 165 = .ok (.invokestatic 61, 3) := by decide +kernel
theorem dL_law_168 : decode cL_law 168 = .ok (.istore 5, 2) := by decide +kernel
theorem dL_law_170 : decode cL_law 170 = .ok (.aload_n 2, 1) := by decide +kernel
theorem dL_law_171 : decode cL_law 171 = .ok (.aload_n 0, 1) := by decide +kernel
theorem dL_law_172 : decode cL_law 172 = .ok (.iload 4, 2) := by decide +kernel
theorem dL_law_174 : decode cL_law 174 = .ok (.iconst 1, 1) := by decide +kernel
theorem dL_law_175 : decode cL_law 175 = .ok (.iadd, 1) := by decide +kernel
theorem dL_law_176 : decode cL_law 176 = .ok (.iaload, 1) := by decide +kernel
theorem dL_law_177 : decode cL_law 177 = .ok (.aload_n 0, 1) := by decide +kernel
theorem dL_law_178 : decode cL_law 178 = .ok (.iload 4, 2) := by decide +kernel
theorem dL_law_180 : decode cL_law 180 = .ok (.iconst 2, 1) := by decide +kernel
theorem dL_law_181 : decode cL_law 181 = .ok (.iadd, 1) := by decide +kernel
theorem dL_law_182 : decode cL_law 182 = .ok (.iaload, 1) := by decide +kernel
theorem dL_law_183 : decode cL_law 183 = .ok (.aload_n 0, 1) := by decide +kernel
theorem dL_law_184 : decode cL_law 184 = .ok (.iload 4, 2) := by decide +kernel
theorem dL_law_186 : decode cL_law 186 = .ok (.iconst 3, 1) := by decide +kernel
theorem dL_law_187 : decode cL_law 187 = .ok (.iadd, 1) := by decide +kernel
theorem dL_law_188 : decode cL_law 188 = .ok (.iaload, 1) := by decide +kernel
theorem dL_law_189 : decode cL_law 189 = .ok (.ifCond .eq 7, 3) := by decide +kernel
theorem dL_law_192 : decode cL_law 192 = .ok (.iconst 1, 1) := by decide +kernel
theorem dL_law_193 : decode cL_law 193 = .ok (.goto 4, 3) := by decide +kernel
theorem dL_law_196 : decode cL_law 196 = .ok (.iconst 0, 1) := by decide +kernel
theorem dL_law_197 : decode cL_law 197 = .ok (.aload_n 0, 1) := by decide +kernel
theorem dL_law_198 : decode cL_law 198 = .ok (.iload 4, 2) := by decide +kernel
theorem dL_law_200 : decode cL_law 200 = .ok (.iconst 4, 1) := by decide +kernel
theorem dL_law_201 : decode cL_law 201 = .ok (.iadd, 1) := by decide +kernel
theorem dL_law_202 : decode cL_law 202 = .ok (.iaload, 1) := by decide +kernel
theorem dL_law_203 : decode cL_law 203 = .ok (.invokevirtual 66, 3) := by decide +kernel
theorem dL_law_206 : decode cL_law 206 = .ok (.aload_n 2, 1) := by decide +kernel
theorem dL_law_207 : decode cL_law 207 = .ok (.invokevirtual 67, 3) := by decide +kernel
theorem dL_law_210 : decode cL_law 210 = .ok (.iload 5, 2) := by decide +kernel
theorem dL_law_212 : decode cL_law 212 = .ok (.if_icmp .eq 5, 3) := by decide +kernel
theorem dL_law_215 : decode cL_law 215 = .ok (.iconst 0, 1) := by decide +kernel
theorem dL_law_216 : decode cL_law 216 = .ok (.ireturn, 1) := by decide +kernel
theorem dL_law_217 : decode cL_law 217 = .ok (.goto 783, 3) := by decide +kernel
theorem dL_law_220 : decode cL_law 220 = .ok (.aload_n 1, 1) := by decide +kernel
theorem dL_law_221 : decode cL_law 221 = .ok (.aload_n 0, 1) := by decide +kernel
theorem dL_law_222 : decode cL_law 222 = .ok (.iload 4, 2) := by decide +kernel
theorem dL_law_224 : decode cL_law 224 = .ok (.iconst 1, 1) := by decide +kernel
theorem dL_law_225 : decode cL_law 225 = .ok (.iadd, 1) := by decide +kernel
theorem dL_law_226 : decode cL_law 226 = .ok (.iaload, 1) := by decide +kernel
theorem dL_law_227 : decode cL_law 227 = .ok (.aload_n 0, 1) := by decide +kernel
theorem dL_law_228 : decode cL_law 228 = .ok (.iload 4, 2) := by decide +kernel
theorem dL_law_230 : decode cL_law 230 = .ok (.iconst 2, 1) := by decide +kernel
theorem dL_law_231 : decode cL_law 231 = .ok (.iadd, 1) := by decide +kernel
theorem dL_law_232 : decode cL_law 232 = .ok (.iaload, 1) := by decide +kernel
theorem dL_law_233 : decode cL_law 233 = .ok (.invokestatic 71, 3) := by decide +kernel
theorem dL_law_236 : decode cL_law 236 = .ok (.istore 5, 2) := by decide +kernel
theorem dL_law_238 : decode cL_law 238 = .ok (.aload_n 2, 1) := by decide +kernel
theorem dL_law_239 : decode cL_law 239 = .ok (.aload_n 0, 1) := by decide +kernel
theorem dL_law_240 : decode cL_law 240 = .ok (.iload 4, 2) := by decide +kernel
theorem dL_law_242 : decode cL_law 242 = .ok (.iconst 1, 1) := by decide +kernel
theorem dL_law_243 : decode cL_law 243 = .ok (.iadd, 1) := by decide +kernel
theorem dL_law_244 : decode cL_law 244 = .ok (.iaload, 1) := by decide +kernel
theorem dL_law_245 : decode cL_law 245 = .ok (.aload_n 0, 1) := by decide +kernel
theorem dL_law_246 : decode cL_law 246 = .ok (.iload 4, 2) := by decide +kernel
theorem dL_law_248 : decode cL_law 248 = .ok (.iconst 2, 1) := by decide +kernel
theorem dL_law_249 : decode cL_law 249 = .ok (.iadd, 1) := by decide +kernel
theorem dL_law_250 : decode cL_law 250 = .ok (.iaload, 1) := by decide +kernel
theorem dL_law_251 : decode cL_law 251 = .ok (.invokevirtual 74, 3) := by decide +kernel
theorem dL_law_254 : decode cL_law 254 = .ok (.aload_n 2, 1) := by decide +kernel
theorem dL_law_255 : decode cL_law 255 = .ok (.invokevirtual 67, 3) := by decide +kernel
theorem dL_law_258 : decode cL_law 258 = .ok (.iload 5, 2) := by decide +kernel
theorem dL_law_260 : decode cL_law 260 = .ok (.if_icmp .eq 5, 3) := by decide +kernel
theorem dL_law_263 : decode cL_law 263 = .ok (.iconst 0, 1) := by decide +kernel
theorem dL_law_264 : decode cL_law 264 = .ok (.ireturn, 1) := by decide +kernel
theorem dL_law_265 : decode cL_law 265 = .ok (.goto 735, 3) := by decide +kernel
theorem dL_law_268 : decode cL_law 268 = .ok (.aload_n 1, 1) := by decide +kernel
theorem dL_law_269 : decode cL_law 269 = .ok (.aload_n 0, 1) := by decide +kernel
theorem dL_law_270 : decode cL_law 270 = .ok (.iload 4, 2) := by decide +kernel
theorem dL_law_272 : decode cL_law 272 = .ok (.iconst 1, 1) := by decide +kernel
theorem dL_law_273 : decode cL_law 273 = .ok (.iadd, 1) := by decide +kernel
theorem dL_law_274 : decode cL_law 274 = .ok (.iaload, 1) := by decide +kernel
theorem dL_law_275 : decode cL_law 275 = .ok (.aload_n 3, 1) := by decide +kernel
theorem dL_law_276 : decode cL_law 276 = .ok (.invokestatic 75, 3) := by decide +kernel
theorem dL_law_279 : decode cL_law 279 = .ok (.istore 5, 2) := by decide +kernel
theorem dL_law_281 : decode cL_law 281 = .ok (.aload_n 2, 1) := by decide +kernel
theorem dL_law_282 : decode cL_law 282 = .ok (.aload_n 0, 1) := by decide +kernel
theorem dL_law_283 : decode cL_law 283 = .ok (.iload 4, 2) := by decide +kernel
theorem dL_law_285 : decode cL_law 285 = .ok (.iconst 1, 1) := by decide +kernel
theorem dL_law_286 : decode cL_law 286 = .ok (.iadd, 1) := by decide +kernel
theorem dL_law_287 : decode cL_law 287 = .ok (.iaload, 1) := by decide +kernel
theorem dL_law_288 : decode cL_law 288 = .ok (.invokevirtual 78, 3) := by decide +kernel
theorem dL_law_291 : decode cL_law 291 = .ok (.istore 6, 2) := by decide +kernel
theorem dL_law_293 : decode cL_law 293 = .ok (.aload_n 2, 1) := by decide +kernel
theorem dL_law_294 : decode cL_law 294 = .ok (.invokevirtual 67, 3) := by decide +kernel
theorem dL_law_297 : decode cL_law 297 = .ok (.iload 5, 2) := by decide +kernel
theorem dL_law_299 : decode cL_law 299 = .ok (.if_icmp .eq 5, 3) := by decide +kernel
theorem dL_law_302 : decode cL_law 302 = .ok (.iconst 0, 1) := by decide +kernel
theorem dL_law_303 : decode cL_law 303 = .ok (.ireturn, 1) := by decide +kernel
theorem dL_law_304 : decode cL_law 304 = .ok (.iload 5, 2) := by decide +kernel
theorem dL_law_306 : decode cL_law 306 = .ok (.ifCond .ne 15, 3) := by decide +kernel
theorem dL_law_309 : decode cL_law 309 = .ok (.aload_n 3, 1) := by decide +kernel
theorem dL_law_310 : decode cL_law 310 = .ok (.iconst 0, 1) := by decide +kernel
theorem dL_law_311 : decode cL_law 311 = .ok (.laload, 1) := by decide +kernel
theorem dL_law_312 : decode cL_law 312 = .ok (.iload 6, 2) := by decide +kernel
theorem dL_law_314 : decode cL_law 314 = .ok (.i2l, 1) := by decide +kernel
theorem dL_law_315 : decode cL_law 315 = .ok (.lcmp, 1) := by decide +kernel
theorem dL_law_316 : decode cL_law 316 = .ok (.ifCond .eq 5, 3) := by decide +kernel
theorem dL_law_319 : decode cL_law 319 = .ok (.iconst 0, 1) := by decide +kernel
theorem dL_law_320 : decode cL_law 320 = .ok (.ireturn, 1) := by decide +kernel
theorem dL_law_321 : decode cL_law 321 = .ok (.goto 679, 3) := by decide +kernel
theorem dL_law_324 : decode cL_law 324 = .ok (.aload_n 1, 1) := by decide +kernel
theorem dL_law_325 : decode cL_law 325 = .ok (.aload_n 0, 1) := by decide +kernel
theorem dL_law_326 : decode cL_law 326 = .ok (.iload 4, 2) := by decide +kernel
theorem dL_law_328 : decode cL_law 328 = .ok (.iconst 1, 1) := by decide +kernel
theorem dL_law_329 : decode cL_law 329 = .ok (.iadd, 1) := by decide +kernel
theorem dL_law_330 : decode cL_law 330 = .ok (.iaload, 1) := by decide +kernel
theorem dL_law_331 : decode cL_law 331 = .ok (.aload_n 0, 1) := by decide +kernel
theorem dL_law_332 : decode cL_law 332 = .ok (.iload 4, 2) := by decide +kernel
theorem dL_law_334 : decode cL_law 334 = .ok (.iconst 2, 1) := by decide +kernel
theorem dL_law_335 : decode cL_law 335 = .ok (.iadd, 1) := by decide +kernel
theorem dL_law_336 : decode cL_law 336 = .ok (.iaload, 1) := by decide +kernel
theorem dL_law_337 : decode cL_law 337 = .ok (.aload_n 3, 1) := by decide +kernel
theorem dL_law_338 : decode cL_law 338 = .ok (.invokestatic 79, 3) := by decide +kernel
theorem dL_law_341 : decode cL_law 341 = .ok (.istore 5, 2) := by decide +kernel
theorem dL_law_343 : decode cL_law 343 = .ok (.aload_n 2, 1) := by decide +kernel
theorem dL_law_344 : decode cL_law 344 = .ok (.aload_n 0, 1) := by decide +kernel
theorem dL_law_345 : decode cL_law 345 = .ok (.iload 4, 2) := by decide +kernel
theorem dL_law_347 : decode cL_law 347 = .ok (.iconst 1, 1) := by decide +kernel
theorem dL_law_348 : decode cL_law 348 = .ok (.iadd, 1) := by decide +kernel
theorem dL_law_349 : decode cL_law 349 = .ok (.iaload, 1) := by decide +kernel
theorem dL_law_350 : decode cL_law 350 = .ok (.aload_n 0, 1) := by decide +kernel
theorem dL_law_351 : decode cL_law 351 = .ok (.iload 4, 2) := by decide +kernel
theorem dL_law_353 : decode cL_law 353 = .ok (.iconst 2, 1) := by decide +kernel
theorem dL_law_354 : decode cL_law 354 = .ok (.iadd, 1) := by decide +kernel
theorem dL_law_355 : decode cL_law 355 = .ok (.iaload, 1) := by decide +kernel
theorem dL_law_356 : decode cL_law 356 = .ok (.invokevirtual 82, 3) := by decide +kernel
theorem dL_law_359 : decode cL_law 359 = .ok (.istore 6, 2) := by decide +kernel
theorem dL_law_361 : decode cL_law 361 = .ok (.aload_n 2, 1) := by decide +kernel
theorem dL_law_362 : decode cL_law 362 = .ok (.invokevirtual 67, 3) := by decide +kernel
theorem dL_law_365 : decode cL_law 365 = .ok (.iload 5, 2) := by decide +kernel
theorem dL_law_367 : decode cL_law 367 = .ok (.if_icmp .eq 5, 3) := by decide +kernel
theorem dL_law_370 : decode cL_law 370 = .ok (.iconst 0, 1) := by decide +kernel
theorem dL_law_371 : decode cL_law 371 = .ok (.ireturn, 1) := by decide +kernel
theorem dL_law_372 : decode cL_law 372 = .ok (.iload 5, 2) := by decide +kernel
theorem dL_law_374 : decode cL_law 374 = .ok (.ifCond .ne 15, 3) := by decide +kernel
theorem dL_law_377 : decode cL_law 377 = .ok (.aload_n 3, 1) := by decide +kernel
theorem dL_law_378 : decode cL_law 378 = .ok (.iconst 0, 1) := by decide +kernel
theorem dL_law_379 : decode cL_law 379 = .ok (.laload, 1) := by decide +kernel
theorem dL_law_380 : decode cL_law 380 = .ok (.iload 6, 2) := by decide +kernel
theorem dL_law_382 : decode cL_law 382 = .ok (.i2l, 1) := by decide +kernel
theorem dL_law_383 : decode cL_law 383 = .ok (.lcmp, 1) := by decide +kernel
theorem dL_law_384 : decode cL_law 384 = .ok (.ifCond .eq 5, 3) := by decide +kernel
theorem dL_law_387 : decode cL_law 387 = .ok (.iconst 0, 1) := by decide +kernel
theorem dL_law_388 : decode cL_law 388 = .ok (.ireturn, 1) := by decide +kernel
theorem dL_law_389 : decode cL_law 389 = .ok (.goto 611, 3) := by decide +kernel
theorem dL_law_392 : decode cL_law 392 = .ok (.aload_n 1, 1) := by decide +kernel
theorem dL_law_393 : decode cL_law 393 = .ok (.aload_n 0, 1) := by decide +kernel
theorem dL_law_394 : decode cL_law 394 = .ok (.iload 4, 2) := by decide +kernel
theorem dL_law_396 : decode cL_law 396 = .ok (.iconst 1, 1) := by decide +kernel
theorem dL_law_397 : decode cL_law 397 = .ok (.iadd, 1) := by decide +kernel
theorem dL_law_398 : decode cL_law 398 = .ok (.iaload, 1) := by decide +kernel
theorem dL_law_399 : decode cL_law 399 = .ok (.invokestatic 83, 3) := by decide +kernel
theorem dL_law_402 : decode cL_law 402 = .ok (.istore 5, 2) := by decide +kernel
theorem dL_law_404 : decode cL_law 404 = .ok (.aload_n 2, 1) := by decide +kernel
theorem dL_law_405 : decode cL_law 405 = .ok (.aload_n 0, 1) := by decide +kernel
theorem dL_law_406 : decode cL_law 406 = .ok (.iload 4, 2) := by decide +kernel
theorem dL_law_408 : decode cL_law 408 = .ok (.iconst 1, 1) := by decide +kernel
theorem dL_law_409 : decode cL_law 409 = .ok (.iadd, 1) := by decide +kernel
theorem dL_law_410 : decode cL_law 410 = .ok (.iaload, 1) := by decide +kernel
theorem dL_law_411 : decode cL_law 411 = .ok (.invokevirtual 86, 3) := by decide +kernel
theorem dL_law_414 : decode cL_law 414 = .ok (.aload_n 2, 1) := by decide +kernel
theorem dL_law_415 : decode cL_law 415 = .ok (.invokevirtual 67, 3) := by decide +kernel
theorem dL_law_418 : decode cL_law 418 = .ok (.iload 5, 2) := by decide +kernel
theorem dL_law_420 : decode cL_law 420 = .ok (.if_icmp .eq 5, 3) := by decide +kernel
theorem dL_law_423 : decode cL_law 423 = .ok (.iconst 0, 1) := by decide +kernel
theorem dL_law_424 : decode cL_law 424 = .ok (.ireturn, 1) := by decide +kernel
theorem dL_law_425 : decode cL_law 425 = .ok (.goto 575, 3) := by decide +kernel
theorem dL_law_428 : decode cL_law 428 = .ok (.aload_n 1, 1) := by decide +kernel
theorem dL_law_429 : decode cL_law 429 = .ok (.invokevirtual 87, 3) := by decide +kernel
theorem dL_law_432 : decode cL_law 432 = .ok (.aload_n 2, 1) := by decide +kernel
theorem dL_law_433 : decode cL_law 433 = .ok (.invokevirtual 90, 3) := by decide +kernel
theorem dL_law_436 : decode cL_law 436 = .ok (.if_icmp .eq 564, 3) := by decide +kernel
theorem dL_law_439 : decode cL_law 439 = .ok (.iconst 0, 1) := by decide +kernel
theorem dL_law_440 : decode cL_law 440 = .ok (.ireturn, 1) := by decide +kernel
theorem dL_law_441 : decode cL_law 441 = .ok (.aload_n 1, 1) := by decide +kernel
theorem dL_law_442 : decode cL_law 442 = .ok (.invokevirtual 91, 3) := by decide +kernel
theorem dL_law_445 : decode cL_law 445 = .ok (.aload_n 2, 1) := by decide +kernel
theorem dL_law_446 : decode cL_law 446 = .ok (.invokevirtual 94, 3) := by decide +kernel
theorem dL_law_449 : decode cL_law 449 = .ok (.if_icmp .eq 551, 3) := by decide +kernel
theorem dL_law_452 : decode cL_law 452 = .ok (.iconst 0, 1) := by decide +kernel
theorem dL_law_453 : decode cL_law 453 = .ok (.ireturn, 1) := by decide +kernel
theorem dL_law_454 : decode cL_law 454 = .ok (.aload_n 1, 1) := by decide +kernel
theorem dL_law_455 : decode cL_law 455 = .ok (.invokevirtual 95, 3) := by decide +kernel
theorem dL_law_458 : decode cL_law 458 = .ok (.aload_n 2, 1) := by decide +kernel
theorem dL_law_459 : decode cL_law 459 = .ok (.invokevirtual 98, 3) := by decide +kernel
theorem dL_law_462 : decode cL_law 462 = .ok (.if_icmp .eq 538, 3) := by decide +kernel
theorem dL_law_465 : decode cL_law 465 = .ok (.iconst 0, 1) := by decide +kernel
theorem dL_law_466 : decode cL_law 466 = .ok (.ireturn, 1) := by decide +kernel
theorem dL_law_467 : decode cL_law 467 = .ok (.aload_n 1, 1) := by decide +kernel
theorem dL_law_468 : decode cL_law 468 = .ok (.invokevirtual 99, 3) := by decide +kernel
theorem dL_law_471 : decode cL_law 471 = .ok (.aload_n 2, 1) := by decide +kernel
theorem dL_law_472 : decode cL_law 472 = .ok (.invokevirtual 102, 3) := by decide +kernel
theorem dL_law_475 : decode cL_law 475 = .ok (.if_icmp .eq 525, 3) := by decide +kernel
theorem dL_law_478 : decode cL_law 478 = .ok (.iconst 0, 1) := by decide +kernel
theorem dL_law_479 : decode cL_law 479 = .ok (.ireturn, 1) := by decide +kernel
theorem dL_law_480 : decode cL_law 480 = .ok (.aload_n 1, 1) := by decide +kernel
theorem dL_law_481 : decode cL_law 481 = .ok (.aload_n 0, 1) := by decide +kernel
theorem dL_law_482 : decode cL_law 482 = .ok (.iload 4, 2) := by decide +kernel
theorem dL_law_484 : decode cL_law 484 = .ok (.iconst 1, 1) := by decide +kernel
theorem dL_law_485 : decode cL_law 485 = .ok (.iadd, 1) := by decide +kernel
theorem dL_law_486 : decode cL_law 486 = .ok (.iaload, 1) := by decide +kernel
theorem dL_law_487 : decode cL_law 487 = .ok (.aload_n 3, 1) := by decide +kernel
theorem dL_law_488 : decode cL_law 488 = .ok (.invokestatic 103, 3) := by decide +kernel
theorem dL_law_491 : decode cL_law 491 = .ok (.istore 5, 2) := by decide +kernel
theorem dL_law_493 : decode cL_law 493 = .ok (.aload_n 2, 1) := by decide +kernel
theorem dL_law_494 : decode cL_law 494 = .ok (.aload_n 0, 1) := by decide +kernel
theorem dL_law_495 : decode cL_law 495 = .ok (.iload 4, 2) := by decide +kernel
theorem dL_law_497 : decode cL_law 497 = .ok (.iconst 1, 1) := by decide +kernel
theorem dL_law_498 : decode cL_law 498 = .ok (.iadd, 1) := by decide +kernel
theorem dL_law_499 : decode cL_law 499 = .ok (.iaload, 1) := by decide +kernel
theorem dL_law_500 : decode cL_law 500 = .ok (.invokevirtual 105, 3) := by decide +kernel
theorem dL_law_503 : decode cL_law 503 = .ok (.istore 6, 2) := by decide +kernel
theorem dL_law_505 : decode cL_law 505 = .ok (.aload_n 2, 1) := by decide +kernel
theorem dL_law_506 : decode cL_law 506 = .ok (.invokevirtual 67, 3) := by decide +kernel
theorem dL_law_509 : decode cL_law 509 = .ok (.iload 5, 2) := by decide +kernel
theorem dL_law_511 : decode cL_law 511 = .ok (.if_icmp .eq 5, 3) := by decide +kernel
theorem dL_law_514 : decode cL_law 514 = .ok (.iconst 0, 1) := by decide +kernel
theorem dL_law_515 : decode cL_law 515 = .ok (.ireturn, 1) := by decide +kernel
theorem dL_law_516 : decode cL_law 516 = .ok (.iload 5, 2) := by decide +kernel
theorem dL_law_518 : decode cL_law 518 = .ok (.ifCond .ne 15, 3) := by decide +kernel
theorem dL_law_521 : decode cL_law 521 = .ok (.aload_n 3, 1) := by decide +kernel
theorem dL_law_522 : decode cL_law 522 = .ok (.iconst 0, 1) := by decide +kernel
theorem dL_law_523 : decode cL_law 523 = .ok (.laload, 1) := by decide +kernel
theorem dL_law_524 : decode cL_law 524 = .ok (.iload 6, 2) := by decide +kernel
theorem dL_law_526 : decode cL_law 526 = .ok (.i2l, 1) := by decide +kernel
theorem dL_law_527 : decode cL_law 527 = .ok (.lcmp, 1) := by decide +kernel
theorem dL_law_528 : decode cL_law 528 = .ok (.ifCond .eq 5, 3) := by decide +kernel
theorem dL_law_531 : decode cL_law 531 = .ok (.iconst 0, 1) := by decide +kernel
theorem dL_law_532 : decode cL_law 532 = .ok (.ireturn, 1) := by decide +kernel
theorem dL_law_533 : decode cL_law 533 = .ok (.goto 467, 3) := by decide +kernel
theorem dL_law_536 : decode cL_law 536 = .ok (.aload_n 1, 1) := by decide +kernel
theorem dL_law_537 : decode cL_law 537 = .ok (.aload_n 0, 1) := by decide +kernel
theorem dL_law_538 : decode cL_law 538 = .ok (.iload 4, 2) := by decide +kernel
theorem dL_law_540 : decode cL_law 540 = .ok (.iconst 1, 1) := by decide +kernel
theorem dL_law_541 : decode cL_law 541 = .ok (.iadd, 1) := by decide +kernel
theorem dL_law_542 : decode cL_law 542 = .ok (.iaload, 1) := by decide +kernel
theorem dL_law_543 : decode cL_law 543 = .ok (.aload_n 3, 1) := by decide +kernel
theorem dL_law_544 : decode cL_law 544 = .ok (.invokestatic 106, 3) := by decide +kernel
theorem dL_law_547 : decode cL_law 547 = .ok (.istore 5, 2) := by decide +kernel
theorem dL_law_549 : decode cL_law 549 = .ok (.aload_n 2, 1) := by decide +kernel
theorem dL_law_550 : decode cL_law 550 = .ok (.aload_n 0, 1) := by decide +kernel
theorem dL_law_551 : decode cL_law 551 = .ok (.iload 4, 2) := by decide +kernel
theorem dL_law_553 : decode cL_law 553 = .ok (.iconst 1, 1) := by decide +kernel
theorem dL_law_554 : decode cL_law 554 = .ok (.iadd, 1) := by decide +kernel
theorem dL_law_555 : decode cL_law 555 = .ok (.iaload, 1) := by decide +kernel
theorem dL_law_556 : decode cL_law 556 = .ok (.invokevirtual 108, 3) := by decide +kernel
theorem dL_law_559 : decode cL_law 559 = .ok (.istore 6, 2) := by decide +kernel
theorem dL_law_561 : decode cL_law 561 = .ok (.aload_n 2, 1) := by decide +kernel
theorem dL_law_562 : decode cL_law 562 = .ok (.invokevirtual 67, 3) := by decide +kernel
theorem dL_law_565 : decode cL_law 565 = .ok (.iload 5, 2) := by decide +kernel
theorem dL_law_567 : decode cL_law 567 = .ok (.if_icmp .eq 5, 3) := by decide +kernel
theorem dL_law_570 : decode cL_law 570 = .ok (.iconst 0, 1) := by decide +kernel
theorem dL_law_571 : decode cL_law 571 = .ok (.ireturn, 1) := by decide +kernel
theorem dL_law_572 : decode cL_law 572 = .ok (.iload 5, 2) := by decide +kernel
theorem dL_law_574 : decode cL_law 574 = .ok (.ifCond .ne 15, 3) := by decide +kernel
theorem dL_law_577 : decode cL_law 577 = .ok (.aload_n 3, 1) := by decide +kernel
theorem dL_law_578 : decode cL_law 578 = .ok (.iconst 0, 1) := by decide +kernel
theorem dL_law_579 : decode cL_law 579 = .ok (.laload, 1) := by decide +kernel
theorem dL_law_580 : decode cL_law 580 = .ok (.iload 6, 2) := by decide +kernel
theorem dL_law_582 : decode cL_law 582 = .ok (.i2l, 1) := by decide +kernel
theorem dL_law_583 : decode cL_law 583 = .ok (.lcmp, 1) := by decide +kernel
theorem dL_law_584 : decode cL_law 584 = .ok (.ifCond .eq 5, 3) := by decide +kernel
theorem dL_law_587 : decode cL_law 587 = .ok (.iconst 0, 1) := by decide +kernel
theorem dL_law_588 : decode cL_law 588 = .ok (.ireturn, 1) := by decide +kernel
theorem dL_law_589 : decode cL_law 589 = .ok (.goto 411, 3) := by decide +kernel
theorem dL_law_592 : decode cL_law 592 = .ok (.aload_n 1, 1) := by decide +kernel
theorem dL_law_593 : decode cL_law 593 = .ok (.aload_n 0, 1) := by decide +kernel
theorem dL_law_594 : decode cL_law 594 = .ok (.iload 4, 2) := by decide +kernel
theorem dL_law_596 : decode cL_law 596 = .ok (.iconst 1, 1) := by decide +kernel
theorem dL_law_597 : decode cL_law 597 = .ok (.iadd, 1) := by decide +kernel
theorem dL_law_598 : decode cL_law 598 = .ok (.iaload, 1) := by decide +kernel
theorem dL_law_599 : decode cL_law 599 = .ok (.aload_n 3, 1) := by decide +kernel
theorem dL_law_600 : decode cL_law 600 = .ok (.invokestatic 109, 3) := by decide +kernel
theorem dL_law_603 : decode cL_law 603 = .ok (.istore 5, 2) := by decide +kernel
theorem dL_law_605 : decode cL_law 605 = .ok (.aload_n 2, 1) := by decide +kernel
theorem dL_law_606 : decode cL_law 606 = .ok (.aload_n 0, 1) := by decide +kernel
theorem dL_law_607 : decode cL_law 607 = .ok (.iload 4, 2) := by decide +kernel
theorem dL_law_609 : decode cL_law 609 = .ok (.iconst 1, 1) := by decide +kernel
theorem dL_law_610 : decode cL_law 610 = .ok (.iadd, 1) := by decide +kernel
theorem dL_law_611 : decode cL_law 611 = .ok (.iaload, 1) := by decide +kernel
theorem dL_law_612 : decode cL_law 612 = .ok (.invokevirtual 111, 3) := by decide +kernel
theorem dL_law_615 : decode cL_law 615 = .ok (.istore 6, 2) := by decide +kernel
theorem dL_law_617 : decode cL_law 617 = .ok (.aload_n 2, 1) := by decide +kernel
theorem dL_law_618 : decode cL_law 618 = .ok (.invokevirtual 67, 3) := by decide +kernel
theorem dL_law_621 : decode cL_law 621 = .ok (.iload 5, 2) := by decide +kernel
theorem dL_law_623 : decode cL_law 623 = .ok (.if_icmp .eq 5, 3) := by decide +kernel
theorem dL_law_626 : decode cL_law 626 = .ok (.iconst 0, 1) := by decide +kernel
theorem dL_law_627 : decode cL_law 627 = .ok (.ireturn, 1) := by decide +kernel
theorem dL_law_628 : decode cL_law 628 = .ok (.iload 5, 2) := by decide +kernel
theorem dL_law_630 : decode cL_law 630 = .ok (.ifCond .ne 15, 3) := by decide +kernel
theorem dL_law_633 : decode cL_law 633 = .ok (.aload_n 3, 1) := by decide +kernel
theorem dL_law_634 : decode cL_law 634 = .ok (.iconst 0, 1) := by decide +kernel
theorem dL_law_635 : decode cL_law 635 = .ok (.laload, 1) := by decide +kernel
theorem dL_law_636 : decode cL_law 636 = .ok (.iload 6, 2) := by decide +kernel
theorem dL_law_638 : decode cL_law 638 = .ok (.i2l, 1) := by decide +kernel
theorem dL_law_639 : decode cL_law 639 = .ok (.lcmp, 1) := by decide +kernel
theorem dL_law_640 : decode cL_law 640 = .ok (.ifCond .eq 5, 3) := by decide +kernel
theorem dL_law_643 : decode cL_law 643 = .ok (.iconst 0, 1) := by decide +kernel
theorem dL_law_644 : decode cL_law 644 = .ok (.ireturn, 1) := by decide +kernel
theorem dL_law_645 : decode cL_law 645 = .ok (.goto 355, 3) := by decide +kernel
theorem dL_law_648 : decode cL_law 648 = .ok (.aload_n 1, 1) := by decide +kernel
theorem dL_law_649 : decode cL_law 649 = .ok (.aload_n 0, 1) := by decide +kernel
theorem dL_law_650 : decode cL_law 650 = .ok (.iload 4, 2) := by decide +kernel
theorem dL_law_652 : decode cL_law 652 = .ok (.iconst 1, 1) := by decide +kernel
theorem dL_law_653 : decode cL_law 653 = .ok (.iadd, 1) := by decide +kernel
theorem dL_law_654 : decode cL_law 654 = .ok (.iaload, 1) := by decide +kernel
theorem dL_law_655 : decode cL_law 655 = .ok (.aload_n 3, 1) := by decide +kernel
theorem dL_law_656 : decode cL_law 656 = .ok (.invokestatic 112, 3) := by decide +kernel
theorem dL_law_659 : decode cL_law 659 = .ok (.istore 5, 2) := by decide +kernel
theorem dL_law_661 : decode cL_law 661 = .ok (.aload_n 2, 1) := by decide +kernel
theorem dL_law_662 : decode cL_law 662 = .ok (.aload_n 0, 1) := by decide +kernel
theorem dL_law_663 : decode cL_law 663 = .ok (.iload 4, 2) := by decide +kernel
theorem dL_law_665 : decode cL_law 665 = .ok (.iconst 1, 1) := by decide +kernel
theorem dL_law_666 : decode cL_law 666 = .ok (.iadd, 1) := by decide +kernel
theorem dL_law_667 : decode cL_law 667 = .ok (.iaload, 1) := by decide +kernel
theorem dL_law_668 : decode cL_law 668 = .ok (.invokevirtual 114, 3) := by decide +kernel
theorem dL_law_671 : decode cL_law 671 = .ok (.istore 6, 2) := by decide +kernel
theorem dL_law_673 : decode cL_law 673 = .ok (.aload_n 2, 1) := by decide +kernel
theorem dL_law_674 : decode cL_law 674 = .ok (.invokevirtual 67, 3) := by decide +kernel
theorem dL_law_677 : decode cL_law 677 = .ok (.iload 5, 2) := by decide +kernel
theorem dL_law_679 : decode cL_law 679 = .ok (.if_icmp .eq 5, 3) := by decide +kernel
theorem dL_law_682 : decode cL_law 682 = .ok (.iconst 0, 1) := by decide +kernel
theorem dL_law_683 : decode cL_law 683 = .ok (.ireturn, 1) := by decide +kernel
theorem dL_law_684 : decode cL_law 684 = .ok (.iload 5, 2) := by decide +kernel
theorem dL_law_686 : decode cL_law 686 = .ok (.ifCond .ne 15, 3) := by decide +kernel
theorem dL_law_689 : decode cL_law 689 = .ok (.aload_n 3, 1) := by decide +kernel
theorem dL_law_690 : decode cL_law 690 = .ok (.iconst 0, 1) := by decide +kernel
theorem dL_law_691 : decode cL_law 691 = .ok (.laload, 1) := by decide +kernel
theorem dL_law_692 : decode cL_law 692 = .ok (.iload 6, 2) := by decide +kernel
theorem dL_law_694 : decode cL_law 694 = .ok (.i2l, 1) := by decide +kernel
theorem dL_law_695 : decode cL_law 695 = .ok (.lcmp, 1) := by decide +kernel
theorem dL_law_696 : decode cL_law 696 = .ok (.ifCond .eq 5, 3) := by decide +kernel
theorem dL_law_699 : decode cL_law 699 = .ok (.iconst 0, 1) := by decide +kernel
theorem dL_law_700 : decode cL_law 700 = .ok (.ireturn, 1) := by decide +kernel
theorem dL_law_701 : decode cL_law 701 = .ok (.goto 299, 3) := by decide +kernel
theorem dL_law_704 : decode cL_law 704 = .ok (.aload_n 1, 1) := by decide +kernel
theorem dL_law_705 : decode cL_law 705 = .ok (.aload_n 0, 1) := by decide +kernel
theorem dL_law_706 : decode cL_law 706 = .ok (.iload 4, 2) := by decide +kernel
theorem dL_law_708 : decode cL_law 708 = .ok (.iconst 1, 1) := by decide +kernel
theorem dL_law_709 : decode cL_law 709 = .ok (.iadd, 1) := by decide +kernel
theorem dL_law_710 : decode cL_law 710 = .ok (.iaload, 1) := by decide +kernel
theorem dL_law_711 : decode cL_law 711 = .ok (.aload_n 0, 1) := by decide +kernel
theorem dL_law_712 : decode cL_law 712 = .ok (.iload 4, 2) := by decide +kernel
theorem dL_law_714 : decode cL_law 714 = .ok (.iconst 2, 1) := by decide +kernel
theorem dL_law_715 : decode cL_law 715 = .ok (.iadd, 1) := by decide +kernel
theorem dL_law_716 : decode cL_law 716 = .ok (.iaload, 1) := by decide +kernel
theorem dL_law_717 : decode cL_law 717 = .ok (.invokevirtual 115, 3) := by decide +kernel
theorem dL_law_720 : decode cL_law 720 = .ok (.aload_n 2, 1) := by decide +kernel
theorem dL_law_721 : decode cL_law 721 = .ok (.aload_n 0, 1) := by decide +kernel
theorem dL_law_722 : decode cL_law 722 = .ok (.iload 4, 2) := by decide +kernel
theorem dL_law_724 : decode cL_law 724 = .ok (.iconst 1, 1) := by decide +kernel
theorem dL_law_725 : decode cL_law 725 = .ok (.iadd, 1) := by decide +kernel
theorem dL_law_726 : decode cL_law 726 = .ok (.iaload, 1) := by decide +kernel
theorem dL_law_727 : decode cL_law 727 = .ok (.aload_n 0, 1) := by decide +kernel
theorem dL_law_728 : decode cL_law 728 = .ok (.iload 4, 2) := by decide +kernel
theorem dL_law_730 : decode cL_law 730 = .ok (.iconst 2, 1) := by decide +kernel
theorem dL_law_731 : decode cL_law 731 = .ok (.iadd, 1) := by decide +kernel
theorem dL_law_732 : decode cL_law 732 = .ok (.iaload, 1) := by decide +kernel
theorem dL_law_733 : decode cL_law 733 = .ok (.invokevirtual 118, 3) := by decide +kernel
theorem dL_law_736 : decode cL_law 736 = .ok (.if_icmp .eq 264, 3) := by decide +kernel
theorem dL_law_739 : decode cL_law 739 = .ok (.iconst 0, 1) := by decide +kernel
theorem dL_law_740 : decode cL_law 740 = .ok (.ireturn, 1) := by decide +kernel
theorem dL_law_741 : decode cL_law 741 = .ok (.aload_n 1, 1) := by decide +kernel
theorem dL_law_742 : decode cL_law 742 = .ok (.invokevirtual 119, 3) := by decide +kernel
theorem dL_law_745 : decode cL_law 745 = .ok (.aload_n 2, 1) := by decide +kernel
theorem dL_law_746 : decode cL_law 746 = .ok (.invokevirtual 122, 3) := by decide +kernel
theorem dL_law_749 : decode cL_law 749 = .ok (.if_icmp .eq 251, 3) := by decide +kernel
theorem dL_law_752 : decode cL_law 752 = .ok (.iconst 0, 1) := by decide +kernel
theorem dL_law_753 : decode cL_law 753 = .ok (.ireturn, 1) := by decide +kernel
theorem dL_law_754 : decode cL_law 754 = .ok (.aload_n 1, 1) := by decide +kernel
theorem dL_law_755 : decode cL_law 755 = .ok (.invokevirtual 123, 3) := by decide +kernel
theorem dL_law_758 : decode cL_law 758 = .ok (.aload_n 2, 1) := by decide +kernel
theorem dL_law_759 : decode cL_law 759 = .ok (.invokevirtual 126, 3) := by decide +kernel
theorem dL_law_762 : decode cL_law 762 = .ok (.if_icmp .eq 238, 3) := by decide +kernel
theorem dL_law_765 : decode cL_law 765 = .ok (.iconst 0, 1) := by decide +kernel
theorem dL_law_766 : decode cL_law 766 = .ok (.ireturn, 1) := by decide +kernel
theorem dL_law_767 : decode cL_law 767 = .ok (.aload_n 1, 1) := by decide +kernel
theorem dL_law_768 : decode cL_law 768 = .ok (.aload_n 0, 1) := by decide +kernel
theorem dL_law_769 : decode cL_law 769 = .ok (.iload 4, 2) := by decide +kernel
theorem dL_law_771 : decode cL_law 771 = .ok (.iconst 1, 1) := by decide +kernel
theorem dL_law_772 : decode cL_law 772 = .ok (.iadd, 1) := by decide +kernel
theorem dL_law_773 : decode cL_law 773 = .ok (.iaload, 1) := by decide +kernel
theorem dL_law_774 : decode cL_law 774 = .ok (.aload_n 3, 1) := by decide +kernel
theorem dL_law_775 : decode cL_law 775 = .ok (.invokestatic 127, 3) := by decide +kernel
theorem dL_law_778 : decode cL_law 778 = .ok (.istore 5, 2) := by decide +kernel
theorem dL_law_780 : decode cL_law 780 = .ok (.aload_n 2, 1) := by decide +kernel
theorem dL_law_781 : decode cL_law 781 = .ok (.aload_n 0, 1) := by decide +kernel
theorem dL_law_782 : decode cL_law 782 = .ok (.iload 4, 2) := by decide +kernel
theorem dL_law_784 : decode cL_law 784 = .ok (.iconst 1, 1) := by decide +kernel
theorem dL_law_785 : decode cL_law 785 = .ok (.iadd, 1) := by decide +kernel
theorem dL_law_786 : decode cL_law 786 = .ok (.iaload, 1) := by decide +kernel
theorem dL_law_787 : decode cL_law 787 = .ok (.invokevirtual 129, 3) := by decide +kernel
theorem dL_law_790 : decode cL_law 790 = .ok (.istore 6, 2) := by decide +kernel
theorem dL_law_792 : decode cL_law 792 = .ok (.aload_n 2, 1) := by decide +kernel
theorem dL_law_793 : decode cL_law 793 = .ok (.invokevirtual 67, 3) := by decide +kernel
theorem dL_law_796 : decode cL_law 796 = .ok (.iload 5, 2) := by decide +kernel
theorem dL_law_798 : decode cL_law 798 = .ok (.if_icmp .eq 5, 3) := by decide +kernel
theorem dL_law_801 : decode cL_law 801 = .ok (.iconst 0, 1) := by decide +kernel
theorem dL_law_802 : decode cL_law 802 = .ok (.ireturn, 1) := by decide +kernel
theorem dL_law_803 : decode cL_law 803 = .ok (.iload 5, 2) := by decide +kernel
theorem dL_law_805 : decode cL_law 805 = .ok (.ifCond .ne 15, 3) := by decide +kernel
theorem dL_law_808 : decode cL_law 808 = .ok (.aload_n 3, 1) := by decide +kernel
theorem dL_law_809 : decode cL_law 809 = .ok (.iconst 0, 1) := by decide +kernel
theorem dL_law_810 : decode cL_law 810 = .ok (.laload, 1) := by decide +kernel
theorem dL_law_811 : decode cL_law 811 = .ok (.iload 6, 2) := by decide +kernel
theorem dL_law_813 : decode cL_law 813 = .ok (.i2l, 1) := by decide +kernel
theorem dL_law_814 : decode cL_law 814 = .ok (.lcmp, 1) := by decide +kernel
theorem dL_law_815 : decode cL_law 815 = .ok (.ifCond .eq 5, 3) := by decide +kernel
theorem dL_law_818 : decode cL_law 818 = .ok (.iconst 0, 1) := by decide +kernel
theorem dL_law_819 : decode cL_law 819 = .ok (.ireturn, 1) := by decide +kernel
theorem dL_law_820 : decode cL_law 820 = .ok (.goto 180, 3) := by decide +kernel
theorem dL_law_823 : decode cL_law 823 = .ok (.aload_n 1, 1) := by decide +kernel
theorem dL_law_824 : decode cL_law 824 = .ok (.aload_n 0, 1) := by decide +kernel
theorem dL_law_825 : decode cL_law 825 = .ok (.iload 4, 2) := by decide +kernel
theorem dL_law_827 : decode cL_law 827 = .ok (.iconst 1, 1) := by decide +kernel
theorem dL_law_828 : decode cL_law 828 = .ok (.iadd, 1) := by decide +kernel
theorem dL_law_829 : decode cL_law 829 = .ok (.iaload, 1) := by decide +kernel
theorem dL_law_830 : decode cL_law 830 = .ok (.invokevirtual 130, 3) := by decide +kernel
theorem dL_law_833 : decode cL_law 833 = .ok (.aload_n 2, 1) := by decide +kernel
theorem dL_law_834 : decode cL_law 834 = .ok (.aload_n 0, 1) := by decide +kernel
theorem dL_law_835 : decode cL_law 835 = .ok (.iload 4, 2) := by decide +kernel
theorem dL_law_837 : decode cL_law 837 = .ok (.iconst 1, 1) := by decide +kernel
theorem dL_law_838 : decode cL_law 838 = .ok (.iadd, 1) := by decide +kernel
theorem dL_law_839 : decode cL_law 839 = .ok (.iaload, 1) := by decide +kernel
theorem dL_law_840 : decode cL_law 840 = .ok (.invokevirtual 134, 3) := by decide +kernel
theorem dL_law_843 : decode cL_law 843 = .ok (.if_icmp .eq 157, 3) := by decide +kernel
theorem dL_law_846 : decode cL_law 846 = .ok (.iconst 0, 1) := by decide +kernel
theorem dL_law_847 : decode cL_law 847 = .ok (.ireturn, 1) := by decide +kernel
theorem dL_law_848 : decode cL_law 848 = .ok (.aload_n 1, 1) := by decide +kernel
theorem dL_law_849 : decode cL_law 849 = .ok (.aload_n 0, 1) := by decide +kernel
theorem dL_law_850 : decode cL_law 850 = .ok (.iload 4, 2) := by decide +kernel
theorem dL_law_852 : decode cL_law 852 = .ok (.iconst 1, 1) := by decide +kernel
theorem dL_law_853 : decode cL_law 853 = .ok (.iadd, 1) := by decide +kernel
theorem dL_law_854 : decode cL_law 854 = .ok (.iaload, 1) := by decide +kernel
theorem dL_law_855 : decode cL_law 855 = .ok (.aload_n 0, 1) := by decide +kernel
theorem dL_law_856 : decode cL_law 856 = .ok (.iload 4, 2) := by decide +kernel
theorem dL_law_858 : decode cL_law 858 = .ok (.iconst 2, 1) := by decide +kernel
theorem dL_law_859 : decode cL_law 859 = .ok (.iadd, 1) := by decide +kernel
theorem dL_law_860 : decode cL_law 860 = .ok (.iaload, 1) := by decide +kernel
theorem dL_law_861 : decode cL_law 861 = .ok (.aload_n 3, 1) := by decide +kernel
theorem dL_law_862 : decode cL_law 862 = .ok (.invokestatic 135, 3) := by decide +kernel
theorem dL_law_865 : decode cL_law 865 = .ok (.istore 5, 2) := by decide +kernel
theorem dL_law_867 : decode cL_law 867 = .ok (.aload_n 2, 1) := by decide +kernel
theorem dL_law_868 : decode cL_law 868 = .ok (.aload_n 0, 1) := by decide +kernel
theorem dL_law_869 : decode cL_law 869 = .ok (.iload 4, 2) := by decide +kernel
theorem dL_law_871 : decode cL_law 871 = .ok (.iconst 1, 1) := by decide +kernel
theorem dL_law_872 : decode cL_law 872 = .ok (.iadd, 1) := by decide +kernel
theorem dL_law_873 : decode cL_law 873 = .ok (.iaload, 1) := by decide +kernel
theorem dL_law_874 : decode cL_law 874 = .ok (.aload_n 0, 1) := by decide +kernel
theorem dL_law_875 : decode cL_law 875 = .ok (.iload 4, 2) := by decide +kernel
theorem dL_law_877 : decode cL_law 877 = .ok (.iconst 2, 1) := by decide +kernel
theorem dL_law_878 : decode cL_law 878 = .ok (.iadd, 1) := by decide +kernel
theorem dL_law_879 : decode cL_law 879 = .ok (.iaload, 1) := by decide +kernel
theorem dL_law_880 : decode cL_law 880 = .ok (.invokevirtual 137, 3) := by decide +kernel
theorem dL_law_883 : decode cL_law 883 = .ok (.istore 6, 2) := by decide +kernel
theorem dL_law_885 : decode cL_law 885 = .ok (.aload_n 2, 1) := by decide +kernel
theorem dL_law_886 : decode cL_law 886 = .ok (.invokevirtual 67, 3) := by decide +kernel
theorem dL_law_889 : decode cL_law 889 = .ok (.iload 5, 2) := by decide +kernel
theorem dL_law_891 : decode cL_law 891 = .ok (.if_icmp .eq 5, 3) := by decide +kernel
theorem dL_law_894 : decode cL_law 894 = .ok (.iconst 0, 1) := by decide +kernel
theorem dL_law_895 : decode cL_law 895 = .ok (.ireturn, 1) := by decide +kernel
theorem dL_law_896 : decode cL_law 896 = .ok (.iload 5, 2) := by decide +kernel
theorem dL_law_898 : decode cL_law 898 = .ok (.ifCond .ne 15, 3) := by decide +kernel
theorem dL_law_901 : decode cL_law 901 = .ok (.aload_n 3, 1) := by decide +kernel
theorem dL_law_902 : decode cL_law 902 = .ok (.iconst 0, 1) := by decide +kernel
theorem dL_law_903 : decode cL_law 903 = .ok (.laload, 1) := by decide +kernel
theorem dL_law_904 : decode cL_law 904 = .ok (.iload 6, 2) := by decide +kernel
theorem dL_law_906 : decode cL_law 906 = .ok (.i2l, 1) := by decide +kernel
theorem dL_law_907 : decode cL_law 907 = .ok (.lcmp, 1) := by decide +kernel
theorem dL_law_908 : decode cL_law 908 = .ok (.ifCond .eq 5, 3) := by decide +kernel
theorem dL_law_911 : decode cL_law 911 = .ok (.iconst 0, 1) := by decide +kernel
theorem dL_law_912 : decode cL_law 912 = .ok (.ireturn, 1) := by decide +kernel
theorem dL_law_913 : decode cL_law 913 = .ok (.goto 87, 3) := by decide +kernel
theorem dL_law_916 : decode cL_law 916 = .ok (.aload_n 1, 1) := by decide +kernel
theorem dL_law_917 : decode cL_law 917 = .ok (.aload_n 0, 1) := by decide +kernel
theorem dL_law_918 : decode cL_law 918 = .ok (.iload 4, 2) := by decide +kernel
theorem dL_law_920 : decode cL_law 920 = .ok (.iconst 1, 1) := by decide +kernel
theorem dL_law_921 : decode cL_law 921 = .ok (.iadd, 1) := by decide +kernel
theorem dL_law_922 : decode cL_law 922 = .ok (.iaload, 1) := by decide +kernel
theorem dL_law_923 : decode cL_law 923 = .ok (.ifCond .eq 7, 3) := by decide +kernel
theorem dL_law_926 : decode cL_law 926 = .ok (.iconst 1, 1) := by decide +kernel
theorem dL_law_927 : decode cL_law 927 = .ok (.goto 4, 3) := by decide +kernel
theorem dL_law_930 : decode cL_law 930 = .ok (.iconst 0, 1) := by decide +kernel
theorem dL_law_931 : decode cL_law 931 = .ok (.aload_n 0, 1) := by decide +kernel
theorem dL_law_932 : decode cL_law 932 = .ok (.iload 4, 2) := by decide +kernel
theorem dL_law_934 : decode cL_law 934 = .ok (.iconst 2, 1) := by decide +kernel
theorem dL_law_935 : decode cL_law 935 = .ok (.iadd, 1) := by decide +kernel
theorem dL_law_936 : decode cL_law 936 = .ok (.iaload, 1) := by decide +kernel
theorem dL_law_937 : decode cL_law 937 = .ok (.aload_n 3, 1) := by decide +kernel
theorem dL_law_938 : decode cL_law 938 = .ok (.invokestatic 138, 3) := by decide +kernel
theorem dL_law_941 : decode cL_law 941 = .ok (.istore 5, 2) := by decide +kernel
theorem dL_law_943 : decode cL_law 943 = .ok (.aload_n 2, 1) := by decide +kernel
theorem dL_law_944 : decode cL_law 944 = .ok (.aload_n 0, 1) := by decide +kernel
theorem dL_law_945 : decode cL_law 945 = .ok (.iload 4, 2) := by decide +kernel
theorem dL_law_947 : decode cL_law 947 = .ok (.iconst 1, 1) := by decide +kernel
theorem dL_law_948 : decode cL_law 948 = .ok (.iadd, 1) := by decide +kernel
theorem dL_law_949 : decode cL_law 949 = .ok (.iaload, 1) := by decide +kernel
theorem dL_law_950 : decode cL_law 950 = .ok (.ifCond .eq 7, 3) := by decide +kernel
theorem dL_law_953 : decode cL_law 953 = .ok (.iconst 1, 1) := by decide +kernel
theorem dL_law_954 : decode cL_law 954 = .ok (.goto 4, 3) := by decide +kernel
theorem dL_law_957 : decode cL_law 957 = .ok (.iconst 0, 1) := by decide +kernel
theorem dL_law_958 : decode cL_law 958 = .ok (.aload_n 0, 1) := by decide +kernel
theorem dL_law_959 : decode cL_law 959 = .ok (.iload 4, 2) := by decide +kernel
theorem dL_law_961 : decode cL_law 961 = .ok (.iconst 2, 1) := by decide +kernel
theorem dL_law_962 : decode cL_law 962 = .ok (.iadd, 1) := by decide +kernel
theorem dL_law_963 : decode cL_law 963 = .ok (.iaload, 1) := by decide +kernel
theorem dL_law_964 : decode cL_law 964 = .ok (.invokevirtual 141, 3) := by decide +kernel
theorem dL_law_967 : decode cL_law 967 = .ok (.istore 6, 2) := by decide +kernel
theorem dL_law_969 : decode cL_law 969 = .ok (.aload_n 2, 1) := by decide +kernel
theorem dL_law_970 : decode cL_law 970 = .ok (.invokevirtual 67, 3) := by decide +kernel
theorem dL_law_973 : decode cL_law 973 = .ok (.iload 5, 2) := by decide +kernel
theorem dL_law_975 : decode cL_law 975 = .ok (.if_icmp .eq 5, 3) := by decide +kernel
theorem dL_law_978 : decode cL_law 978 = .ok (.iconst 0, 1) := by decide +kernel
theorem dL_law_979 : decode cL_law 979 = .ok (.ireturn, 1) := by decide +kernel
theorem dL_law_980 : decode cL_law 980 = .ok (.iload 5, 2) := by decide +kernel
theorem dL_law_982 : decode cL_law 982 = .ok (.ifCond .ne 15, 3) := by decide +kernel
theorem dL_law_985 : decode cL_law 985 = .ok (.aload_n 3, 1) := by decide +kernel
theorem dL_law_986 : decode cL_law 986 = .ok (.iconst 0, 1) := by decide +kernel
theorem dL_law_987 : decode cL_law 987 = .ok (.laload, 1) := by decide +kernel
theorem dL_law_988 : decode cL_law 988 = .ok (.iload 6, 2) := by decide +kernel
theorem dL_law_990 : decode cL_law 990 = .ok (.i2l, 1) := by decide +kernel
theorem dL_law_991 : decode cL_law 991 = .ok (.lcmp, 1) := by decide +kernel
theorem dL_law_992 : decode cL_law 992 = .ok (.ifCond .eq 5, 3) := by decide +kernel
theorem dL_law_995 : decode cL_law 995 = .ok (.iconst 0, 1) := by decide +kernel
theorem dL_law_996 : decode cL_law 996 = .ok (.ireturn, 1) := by decide +kernel
theorem dL_law_997 : decode cL_law 997 = .ok (.goto 3, 3) := by decide +kernel
theorem dL_law_1000 : decode cL_law 1000 = .ok (.iinc 4 5, 3) := by decide +kernel
theorem dL_law_1003 : decode cL_law 1003 = .ok (.goto (-980), 3) := by decide +kernel
theorem dL_law_1006 : decode cL_law 1006 = .ok (.iconst 1, 1) := by decide +kernel
theorem dL_law_1007 : decode cL_law 1007 = .ok (.ireturn, 1) := by decide +kernel
end
section
set_option maxRecDepth 100000 in
theorem wsL_law_in0_1 : ∀ w ∈ wsL_law0_r1, w ∈ lw_tbl := List.forall_mem_cons.mpr ⟨List.mem_of_getElem? (i := 43) rfl, List.forall_mem_cons.mpr ⟨List.mem_of_getElem? (i := 44) rfl, List.forall_mem_cons.mpr ⟨List.mem_of_getElem? (i := 33) rfl, List.forall_mem_cons.mpr ⟨List.mem_of_getElem? (i := 442) rfl, List.forall_mem_cons.mpr ⟨List.mem_of_getElem? (i := 443) rfl, List.forall_mem_cons.mpr ⟨List.mem_of_getElem? (i := 35) rfl, List.forall_mem_cons.mpr ⟨List.mem_of_getElem? (i := 653) rfl, List.forall_mem_cons.mpr ⟨List.mem_of_getElem? (i := 45) rfl, List.forall_mem_cons.mpr ⟨List.mem_of_getElem? (i := 46) rfl, List.forall_mem_cons.mpr ⟨List.mem_of_getElem? (i := 47) rfl, List.forall_mem_cons.mpr ⟨List.mem_of_getElem? (i := 48) rfl, List.forall_mem_cons.mpr ⟨List.mem_of_getElem? (i := 49) rfl, List.forall_mem_cons.mpr ⟨List.mem_of_getElem? (i := 50) rfl, List.forall_mem_cons.mpr ⟨List.mem_of_getElem? (i := 51) rfl, List.forall_mem_cons.mpr ⟨List.mem_of_getElem? (i := 52) rfl, List.forall_mem_cons.mpr ⟨List.mem_of_getElem? (i := 34) rfl, List.forall_mem_cons.mpr ⟨List.mem_of_getElem? (i := 70) rfl, List.forall_mem_cons.mpr ⟨List.mem_of_getElem? (i := 71) rfl, List.forall_mem_cons.mpr ⟨List.mem_of_getElem? (i := 72) rfl, List.forall_mem_cons.mpr ⟨List.mem_of_getElem? (i := 116) rfl, List.forall_mem_cons.mpr ⟨List.mem_of_getElem? (i := 76) rfl, List.forall_mem_cons.mpr ⟨List.mem_of_getElem? (i := 77) rfl, List.forall_mem_cons.mpr ⟨List.mem_of_getElem? (i := 78) rfl, List.forall_mem_cons.mpr ⟨List.mem_of_getElem? (i := 79) rfl, fun _ h => absurd h List.not_mem_nil⟩⟩⟩⟩⟩⟩⟩⟩⟩⟩⟩⟩⟩⟩⟩⟩⟩⟩⟩⟩⟩⟩⟩⟩
set_option maxRecDepth 100000 in
theorem wsL_law_in0_2 : ∀ w ∈ wsL_law0_r2, w ∈ lw_tbl := List.forall_mem_cons.mpr ⟨List.mem_of_getElem? (i := 117) rfl, List.forall_mem_cons.mpr ⟨List.mem_of_getElem? (i := 83) rfl, List.forall_mem_cons.mpr ⟨List.mem_of_getElem? (i := 74) rfl, List.forall_mem_cons.mpr ⟨List.mem_of_getElem? (i := 82) rfl, List.forall_mem_cons.mpr ⟨List.mem_of_getElem? (i := 53) rfl, List.forall_mem_cons.mpr ⟨List.mem_of_getElem? (i := 54) rfl, List.forall_mem_cons.mpr ⟨List.mem_of_getElem? (i := 55) rfl, List.forall_mem_cons.mpr ⟨List.mem_of_getElem? (i := 56) rfl, List.forall_mem_cons.mpr ⟨List.mem_of_getElem? (i := 57) rfl, List.forall_mem_cons.mpr ⟨List.mem_of_getElem? (i := 58) rfl, List.forall_mem_cons.mpr ⟨List.mem_of_getElem? (i := 59) rfl, List.forall_mem_cons.mpr ⟨List.mem_of_getElem? (i := 60) rfl, List.forall_mem_cons.mpr ⟨List.mem_of_getElem? (i := 444) rfl, List.forall_mem_cons.mpr ⟨List.mem_of_getElem? (i := 445) rfl, List.forall_mem_cons.mpr ⟨List.mem_of_getElem? (i := 446) rfl, List.forall_mem_cons.mpr ⟨List.mem_of_getElem? (i := 447) rfl, List.forall_mem_cons.mpr ⟨List.mem_of_getElem? (i := 449) rfl, List.forall_mem_cons.mpr ⟨List.mem_of_getElem? (i := 450) rfl, List.forall_mem_cons.mpr ⟨List.mem_of_getElem? (i := 451) rfl, List.forall_mem_cons.mpr ⟨List.mem_of_getElem? (i := 453) rfl, List.forall_mem_cons.mpr ⟨List.mem_of_getElem? (i := 454) rfl, List.forall_mem_cons.mpr ⟨List.mem_of_getElem? (i := 456) rfl, List.forall_mem_cons.mpr ⟨List.mem_of_getElem? (i := 457) rfl, List.forall_mem_cons.mpr ⟨List.mem_of_getElem? (i := 458) rfl, fun _ h => absurd h List.not_mem_nil⟩⟩⟩⟩⟩⟩⟩⟩⟩⟩⟩⟩⟩⟩⟩⟩⟩⟩⟩⟩⟩⟩⟩⟩
set_option maxRecDepth 100000 in
theorem wsL_law_in0_3 : ∀ w ∈ wsL_law0_r3, w ∈ lw_tbl := List.forall_mem_cons.mpr ⟨List.mem_of_getElem? (i := 459) rfl, List.forall_mem_cons.mpr ⟨List.mem_of_getElem? (i := 460) rfl, List.forall_mem_cons.mpr ⟨List.mem_of_getElem? (i := 462) rfl, List.forall_mem_cons.mpr ⟨List.mem_of_getElem? (i := 455) rfl, List.forall_mem_cons.mpr ⟨List.mem_of_getElem? (i := 188) rfl, List.forall_mem_cons.mpr ⟨List.mem_of_getElem? (i := 189) rfl, List.forall_mem_cons.mpr ⟨List.mem_of_getElem? (i := 32) rfl, List.forall_mem_cons.mpr ⟨List.mem_of_getElem? (i := 190) rfl, List.forall_mem_cons.mpr ⟨List.mem_of_getElem? (i := 191) rfl, List.forall_mem_cons.mpr ⟨List.mem_of_getElem? (i := 192) rfl, List.forall_mem_cons.mpr ⟨List.mem_of_getElem? (i := 193) rfl, List.forall_mem_cons.mpr ⟨List.mem_of_getElem? (i := 194) rfl, List.forall_mem_cons.mpr ⟨List.mem_of_getElem? (i := 195) rfl, List.forall_mem_cons.mpr ⟨List.mem_of_getElem? (i := 196) rfl, List.forall_mem_cons.mpr ⟨List.mem_of_getElem? (i := 39) rfl, List.forall_mem_cons.mpr ⟨List.mem_of_getElem? (i := 185) rfl, List.forall_mem_cons.mpr ⟨List.mem_of_getElem? (i := 186) rfl, List.forall_mem_cons.mpr ⟨List.mem_of_getElem? (i := 187) rfl, List.forall_mem_cons.mpr ⟨List.mem_of_getElem? (i := 266) rfl, List.forall_mem_cons.mpr ⟨List.mem_of_getElem? (i := 267) rfl, List.forall_mem_cons.mpr ⟨List.mem_of_getElem? (i := 268) rfl, List.forall_mem_cons.mpr ⟨List.mem_of_getElem? (i := 269) rfl, List.forall_mem_cons.mpr ⟨List.mem_of_getElem? (i := 270) rfl, List.forall_mem_cons.mpr ⟨List.mem_of_getElem? (i := 272) rfl, fun _ h => absurd h List.not_mem_nil⟩⟩⟩⟩⟩⟩⟩⟩⟩⟩⟩⟩⟩⟩⟩⟩⟩⟩⟩⟩⟩⟩⟩⟩
set_option maxRecDepth 100000 in
theorem wsL_law_in0_4 : ∀ w ∈ wsL_law0_r4, w ∈ lw_tbl := List.forall_mem_cons.mpr ⟨List.mem_of_getElem? (i := 7) rfl, List.forall_mem_cons.mpr ⟨List.mem_of_getElem? (i := 273) rfl, List.forall_mem_cons.mpr ⟨List.mem_of_getElem? (i := 73) rfl, List.forall_mem_cons.mpr ⟨List.mem_of_getElem? (i := 274) rfl, List.forall_mem_cons.mpr ⟨List.mem_of_getElem? (i := 276) rfl, List.forall_mem_cons.mpr ⟨List.mem_of_getElem? (i := 8) rfl, List.forall_mem_cons.mpr ⟨List.mem_of_getElem? (i := 277) rfl, List.forall_mem_cons.mpr ⟨List.mem_of_getElem? (i := 75) rfl, List.forall_mem_cons.mpr ⟨List.mem_of_getElem? (i := 130) rfl, List.forall_mem_cons.mpr ⟨List.mem_of_getElem? (i := 131) rfl, List.forall_mem_cons.mpr ⟨List.mem_of_getElem? (i := 132) rfl, List.forall_mem_cons.mpr ⟨List.mem_of_getElem? (i := 278) rfl, List.forall_mem_cons.mpr ⟨List.mem_of_getElem? (i := 279) rfl, List.forall_mem_cons.mpr ⟨List.mem_of_getElem? (i := 280) rfl, List.forall_mem_cons.mpr ⟨List.mem_of_getElem? (i := 281) rfl, List.forall_mem_cons.mpr ⟨List.mem_of_getElem? (i := 282) rfl, List.forall_mem_cons.mpr ⟨List.mem_of_getElem? (i := 283) rfl, List.forall_mem_cons.mpr ⟨List.mem_of_getElem? (i := 40) rfl, List.forall_mem_cons.mpr ⟨List.mem_of_getElem? (i := 284) rfl, List.forall_mem_cons.mpr ⟨List.mem_of_getElem? (i := 285) rfl, List.forall_mem_cons.mpr ⟨List.mem_of_getElem? (i := 287) rfl, List.forall_mem_cons.mpr ⟨List.mem_of_getElem? (i := 9) rfl, List.forall_mem_cons.mpr ⟨List.mem_of_getElem? (i := 288) rfl, List.forall_mem_cons.mpr ⟨List.mem_of_getElem? (i := 289) rfl, fun _ h => absurd h List.not_mem_nil⟩⟩⟩⟩⟩⟩⟩⟩⟩⟩⟩⟩⟩⟩⟩⟩⟩⟩⟩⟩⟩⟩⟩⟩
set_option maxRecDepth 100000 in
theorem wsL_law_in0_5 : ∀ w ∈ wsL_law0_r5, w ∈ lw_tbl := List.forall_mem_cons.mpr ⟨List.mem_of_getElem? (i := 291) rfl, List.forall_mem_cons.mpr ⟨List.mem_of_getElem? (i := 10) rfl, List.forall_mem_cons.mpr ⟨List.mem_of_getElem? (i := 292) rfl, List.forall_mem_cons.mpr ⟨List.mem_of_getElem? (i := 507) rfl, List.forall_mem_cons.mpr ⟨List.mem_of_getElem? (i := 508) rfl, List.forall_mem_cons.mpr ⟨List.mem_of_getElem? (i := 509) rfl, List.forall_mem_cons.mpr ⟨List.mem_of_getElem? (i := 510) rfl, List.forall_mem_cons.mpr ⟨List.mem_of_getElem? (i := 452) rfl, List.forall_mem_cons.mpr ⟨List.mem_of_getElem? (i := 511) rfl, List.forall_mem_cons.mpr ⟨List.mem_of_getElem? (i := 512) rfl, List.forall_mem_cons.mpr ⟨List.mem_of_getElem? (i := 513) rfl, List.forall_mem_cons.mpr ⟨List.mem_of_getElem? (i := 514) rfl, List.forall_mem_cons.mpr ⟨List.mem_of_getElem? (i := 516) rfl, List.forall_mem_cons.mpr ⟨List.mem_of_getElem? (i := 17) rfl, List.forall_mem_cons.mpr ⟨List.mem_of_getElem? (i := 517) rfl, List.forall_mem_cons.mpr ⟨List.mem_of_getElem? (i := 465) rfl, List.forall_mem_cons.mpr ⟨List.mem_of_getElem? (i := 518) rfl, List.forall_mem_cons.mpr ⟨List.mem_of_getElem? (i := 520) rfl, List.forall_mem_cons.mpr ⟨List.mem_of_getElem? (i := 18) rfl, List.forall_mem_cons.mpr ⟨List.mem_of_getElem? (i := 521) rfl, List.forall_mem_cons.mpr ⟨List.mem_of_getElem? (i := 448) rfl, List.forall_mem_cons.mpr ⟨List.mem_of_getElem? (i := 522) rfl, List.forall_mem_cons.mpr ⟨List.mem_of_getElem? (i := 524) rfl, List.forall_mem_cons.mpr ⟨List.mem_of_getElem? (i := 19) rfl, fun _ h => absurd h List.not_mem_nil⟩⟩⟩⟩⟩⟩⟩⟩⟩⟩⟩⟩⟩⟩⟩⟩⟩⟩⟩⟩⟩⟩⟩⟩
set_option maxRecDepth 100000 in
theorem wsL_law_in0_6 : ∀ w ∈ wsL_law0_r6, w ∈ lw_tbl := List.forall_mem_cons.mpr ⟨List.mem_of_getElem? (i := 525) rfl, List.forall_mem_cons.mpr ⟨List.mem_of_getElem? (i := 461) rfl, List.forall_mem_cons.mpr ⟨List.mem_of_getElem? (i := 526) rfl, List.forall_mem_cons.mpr ⟨List.mem_of_getElem? (i := 528) rfl, List.forall_mem_cons.mpr ⟨List.mem_of_getElem? (i := 20) rfl, List.forall_mem_cons.mpr ⟨List.mem_of_getElem? (i := 529) rfl, List.forall_mem_cons.mpr ⟨List.mem_of_getElem? (i := 530) rfl, List.forall_mem_cons.mpr ⟨List.mem_of_getElem? (i := 532) rfl, List.forall_mem_cons.mpr ⟨List.mem_of_getElem? (i := 21) rfl, List.forall_mem_cons.mpr ⟨List.mem_of_getElem? (i := 533) rfl, List.forall_mem_cons.mpr ⟨List.mem_of_getElem? (i := 503) rfl, List.forall_mem_cons.mpr ⟨List.mem_of_getElem? (i := 504) rfl, List.forall_mem_cons.mpr ⟨List.mem_of_getElem? (i := 505) rfl, List.forall_mem_cons.mpr ⟨List.mem_of_getElem? (i := 506) rfl, List.forall_mem_cons.mpr ⟨List.mem_of_getElem? (i := 293) rfl, List.forall_mem_cons.mpr ⟨List.mem_of_getElem? (i := 294) rfl, List.forall_mem_cons.mpr ⟨List.mem_of_getElem? (i := 295) rfl, List.forall_mem_cons.mpr ⟨List.mem_of_getElem? (i := 296) rfl, List.forall_mem_cons.mpr ⟨List.mem_of_getElem? (i := 297) rfl, List.forall_mem_cons.mpr ⟨List.mem_of_getElem? (i := 298) rfl, List.forall_mem_cons.mpr ⟨List.mem_of_getElem? (i := 299) rfl, List.forall_mem_cons.mpr ⟨List.mem_of_getElem? (i := 534) rfl, List.forall_mem_cons.mpr ⟨List.mem_of_getElem? (i := 535) rfl, List.forall_mem_cons.mpr ⟨List.mem_of_getElem? (i := 536) rfl, fun _ h => absurd h List.not_mem_nil⟩⟩⟩⟩⟩⟩⟩⟩⟩⟩⟩⟩⟩⟩⟩⟩⟩⟩⟩⟩⟩⟩⟩⟩
set_option maxRecDepth 100000 in
theorem wsL_law_in0_7 : ∀ w ∈ wsL_law0_r7, w ∈ lw_tbl := List.forall_mem_cons.mpr ⟨List.mem_of_getElem? (i := 537) rfl, List.forall_mem_cons.mpr ⟨List.mem_of_getElem? (i := 302) rfl, List.forall_mem_cons.mpr ⟨List.mem_of_getElem? (i := 303) rfl, List.forall_mem_cons.mpr ⟨List.mem_of_getElem? (i := 304) rfl, List.forall_mem_cons.mpr ⟨List.mem_of_getElem? (i := 305) rfl, List.forall_mem_cons.mpr ⟨List.mem_of_getElem? (i := 306) rfl, List.forall_mem_cons.mpr ⟨List.mem_of_getElem? (i := 307) rfl, List.forall_mem_cons.mpr ⟨List.mem_of_getElem? (i := 308) rfl, List.forall_mem_cons.mpr ⟨List.mem_of_getElem? (i := 309) rfl, List.forall_mem_cons.mpr ⟨List.mem_of_getElem? (i := 311) rfl, List.forall_mem_cons.mpr ⟨List.mem_of_getElem? (i := 41) rfl, List.forall_mem_cons.mpr ⟨List.mem_of_getElem? (i := 538) rfl, List.forall_mem_cons.mpr ⟨List.mem_of_getElem? (i := 539) rfl, List.forall_mem_cons.mpr ⟨List.mem_of_getElem? (i := 540) rfl, List.forall_mem_cons.mpr ⟨List.mem_of_getElem? (i := 541) rfl, List.forall_mem_cons.mpr ⟨List.mem_of_getElem? (i := 327) rfl, List.forall_mem_cons.mpr ⟨List.mem_of_getElem? (i := 328) rfl, List.forall_mem_cons.mpr ⟨List.mem_of_getElem? (i := 329) rfl, List.forall_mem_cons.mpr ⟨List.mem_of_getElem? (i := 330) rfl, List.forall_mem_cons.mpr ⟨List.mem_of_getElem? (i := 331) rfl, List.forall_mem_cons.mpr ⟨List.mem_of_getElem? (i := 332) rfl, List.forall_mem_cons.mpr ⟨List.mem_of_getElem? (i := 333) rfl, List.forall_mem_cons.mpr ⟨List.mem_of_getElem? (i := 334) rfl, List.forall_mem_cons.mpr ⟨List.mem_of_getElem? (i := 335) rfl, fun _ h => absurd h List.not_mem_nil⟩⟩⟩⟩⟩⟩⟩⟩⟩⟩⟩⟩⟩⟩⟩⟩⟩⟩⟩⟩⟩⟩⟩⟩
set_option maxRecDepth 100000 in
theorem wsL_law_in0_8 : ∀ w ∈ wsL_law0_r8, w ∈ lw_tbl := List.forall_mem_cons.mpr ⟨List.mem_of_getElem? (i := 42) rfl, List.forall_mem_cons.mpr ⟨List.mem_of_getElem? (i := 352) rfl, List.forall_mem_cons.mpr ⟨List.mem_of_getElem? (i := 354) rfl, List.forall_mem_cons.mpr ⟨List.mem_of_getElem? (i := 11) rfl, List.forall_mem_cons.mpr ⟨List.mem_of_getElem? (i := 355) rfl, List.forall_mem_cons.mpr ⟨List.mem_of_getElem? (i := 126) rfl, List.forall_mem_cons.mpr ⟨List.mem_of_getElem? (i := 128) rfl, List.forall_mem_cons.mpr ⟨List.mem_of_getElem? (i := 1) rfl, List.forall_mem_cons.mpr ⟨List.mem_of_getElem? (i := 129) rfl, List.forall_mem_cons.mpr ⟨List.mem_of_getElem? (i := 357) rfl, List.forall_mem_cons.mpr ⟨List.mem_of_getElem? (i := 359) rfl, List.forall_mem_cons.mpr ⟨List.mem_of_getElem? (i := 12) rfl, List.forall_mem_cons.mpr ⟨List.mem_of_getElem? (i := 360) rfl, List.forall_mem_cons.mpr ⟨List.mem_of_getElem? (i := 361) rfl, List.forall_mem_cons.mpr ⟨List.mem_of_getElem? (i := 363) rfl, List.forall_mem_cons.mpr ⟨List.mem_of_getElem? (i := 13) rfl, List.forall_mem_cons.mpr ⟨List.mem_of_getElem? (i := 364) rfl, List.forall_mem_cons.mpr ⟨List.mem_of_getElem? (i := 365) rfl, List.forall_mem_cons.mpr ⟨List.mem_of_getElem? (i := 367) rfl, List.forall_mem_cons.mpr ⟨List.mem_of_getElem? (i := 14) rfl, List.forall_mem_cons.mpr ⟨List.mem_of_getElem? (i := 368) rfl, List.forall_mem_cons.mpr ⟨List.mem_of_getElem? (i := 81) rfl, List.forall_mem_cons.mpr ⟨List.mem_of_getElem? (i := 80) rfl, List.forall_mem_cons.mpr ⟨List.mem_of_getElem? (i := 369) rfl, fun _ h => absurd h List.not_mem_nil⟩⟩⟩⟩⟩⟩⟩⟩⟩⟩⟩⟩⟩⟩⟩⟩⟩⟩⟩⟩⟩⟩⟩⟩
set_option maxRecDepth 100000 in
theorem wsL_law_in0_9 : ∀ w ∈ wsL_law0_r9, w ∈ lw_tbl := List.forall_mem_cons.mpr ⟨List.mem_of_getElem? (i := 371) rfl, List.forall_mem_cons.mpr ⟨List.mem_of_getElem? (i := 15) rfl, List.forall_mem_cons.mpr ⟨List.mem_of_getElem? (i := 372) rfl, List.forall_mem_cons.mpr ⟨List.mem_of_getElem? (i := 373) rfl, List.forall_mem_cons.mpr ⟨List.mem_of_getElem? (i := 374) rfl, List.forall_mem_cons.mpr ⟨List.mem_of_getElem? (i := 375) rfl, List.forall_mem_cons.mpr ⟨List.mem_of_getElem? (i := 542) rfl, List.forall_mem_cons.mpr ⟨List.mem_of_getElem? (i := 543) rfl, List.forall_mem_cons.mpr ⟨List.mem_of_getElem? (i := 544) rfl, List.forall_mem_cons.mpr ⟨List.mem_of_getElem? (i := 545) rfl, List.forall_mem_cons.mpr ⟨List.mem_of_getElem? (i := 546) rfl, List.forall_mem_cons.mpr ⟨List.mem_of_getElem? (i := 547) rfl, List.forall_mem_cons.mpr ⟨List.mem_of_getElem? (i := 548) rfl, List.forall_mem_cons.mpr ⟨List.mem_of_getElem? (i := 549) rfl, List.forall_mem_cons.mpr ⟨List.mem_of_getElem? (i := 551) rfl, List.forall_mem_cons.mpr ⟨List.mem_of_getElem? (i := 22) rfl, List.forall_mem_cons.mpr ⟨List.mem_of_getElem? (i := 552) rfl, List.forall_mem_cons.mpr ⟨List.mem_of_getElem? (i := 553) rfl, List.forall_mem_cons.mpr ⟨List.mem_of_getElem? (i := 555) rfl, List.forall_mem_cons.mpr ⟨List.mem_of_getElem? (i := 23) rfl, List.forall_mem_cons.mpr ⟨List.mem_of_getElem? (i := 556) rfl, List.forall_mem_cons.mpr ⟨List.mem_of_getElem? (i := 464) rfl, List.forall_mem_cons.mpr ⟨List.mem_of_getElem? (i := 463) rfl, List.forall_mem_cons.mpr ⟨List.mem_of_getElem? (i := 557) rfl, fun _ h => absurd h List.not_mem_nil⟩⟩⟩⟩⟩⟩⟩⟩⟩⟩⟩⟩⟩⟩⟩⟩⟩⟩⟩⟩⟩⟩⟩⟩
set_option maxRecDepth 100000 in
theorem wsL_law_in0_10 : ∀ w ∈ wsL_law0_r10, w ∈ lw_tbl := List.forall_mem_cons.mpr ⟨List.mem_of_getElem? (i := 559) rfl, List.forall_mem_cons.mpr ⟨List.mem_of_getElem? (i := 24) rfl, List.forall_mem_cons.mpr ⟨List.mem_of_getElem? (i := 560) rfl, List.forall_mem_cons.mpr ⟨List.mem_of_getElem? (i := 376) rfl, List.forall_mem_cons.mpr ⟨List.mem_of_getElem? (i := 377) rfl, List.forall_mem_cons.mpr ⟨List.mem_of_getElem? (i := 378) rfl, List.forall_mem_cons.mpr ⟨List.mem_of_getElem? (i := 379) rfl, List.forall_mem_cons.mpr ⟨List.mem_of_getElem? (i := 380) rfl, List.forall_mem_cons.mpr ⟨List.mem_of_getElem? (i := 381) rfl, List.forall_mem_cons.mpr ⟨List.mem_of_getElem? (i := 382) rfl, List.forall_mem_cons.mpr ⟨List.mem_of_getElem? (i := 561) rfl, List.forall_mem_cons.mpr ⟨List.mem_of_getElem? (i := 562) rfl, List.forall_mem_cons.mpr ⟨List.mem_of_getElem? (i := 563) rfl, List.forall_mem_cons.mpr ⟨List.mem_of_getElem? (i := 564) rfl, List.forall_mem_cons.mpr ⟨List.mem_of_getElem? (i := 565) rfl, List.forall_mem_cons.mpr ⟨List.mem_of_getElem? (i := 567) rfl, List.forall_mem_cons.mpr ⟨List.mem_of_getElem? (i := 25) rfl, List.forall_mem_cons.mpr ⟨List.mem_of_getElem? (i := 568) rfl, List.forall_mem_cons.mpr ⟨List.mem_of_getElem? (i := 118) rfl, List.forall_mem_cons.mpr ⟨List.mem_of_getElem? (i := 119) rfl, List.forall_mem_cons.mpr ⟨List.mem_of_getElem? (i := 120) rfl, List.forall_mem_cons.mpr ⟨List.mem_of_getElem? (i := 121) rfl, List.forall_mem_cons.mpr ⟨List.mem_of_getElem? (i := 122) rfl, List.forall_mem_cons.mpr ⟨List.mem_of_getElem? (i := 124) rfl, fun _ h => absurd h List.not_mem_nil⟩⟩⟩⟩⟩⟩⟩⟩⟩⟩⟩⟩⟩⟩⟩⟩⟩⟩⟩⟩⟩⟩⟩⟩
set_option maxRecDepth 100000 in
theorem wsL_law_in0_11 : ∀ w ∈ wsL_law0_r11, w ∈ lw_tbl := List.forall_mem_cons.mpr ⟨List.mem_of_getElem? (i := 0) rfl, List.forall_mem_cons.mpr ⟨List.mem_of_getElem? (i := 125) rfl, List.forall_mem_cons.mpr ⟨List.mem_of_getElem? (i := 133) rfl, List.forall_mem_cons.mpr ⟨List.mem_of_getElem? (i := 135) rfl, List.forall_mem_cons.mpr ⟨List.mem_of_getElem? (i := 2) rfl, List.forall_mem_cons.mpr ⟨List.mem_of_getElem? (i := 136) rfl, List.forall_mem_cons.mpr ⟨List.mem_of_getElem? (i := 569) rfl, List.forall_mem_cons.mpr ⟨List.mem_of_getElem? (i := 570) rfl, List.forall_mem_cons.mpr ⟨List.mem_of_getElem? (i := 571) rfl, List.forall_mem_cons.mpr ⟨List.mem_of_getElem? (i := 572) rfl, List.forall_mem_cons.mpr ⟨List.mem_of_getElem? (i := 573) rfl, List.forall_mem_cons.mpr ⟨List.mem_of_getElem? (i := 575) rfl, List.forall_mem_cons.mpr ⟨List.mem_of_getElem? (i := 26) rfl, List.forall_mem_cons.mpr ⟨List.mem_of_getElem? (i := 576) rfl, List.forall_mem_cons.mpr ⟨List.mem_of_getElem? (i := 137) rfl, List.forall_mem_cons.mpr ⟨List.mem_of_getElem? (i := 138) rfl, List.forall_mem_cons.mpr ⟨List.mem_of_getElem? (i := 139) rfl, List.forall_mem_cons.mpr ⟨List.mem_of_getElem? (i := 140) rfl, List.forall_mem_cons.mpr ⟨List.mem_of_getElem? (i := 577) rfl, List.forall_mem_cons.mpr ⟨List.mem_of_getElem? (i := 578) rfl, List.forall_mem_cons.mpr ⟨List.mem_of_getElem? (i := 579) rfl, List.forall_mem_cons.mpr ⟨List.mem_of_getElem? (i := 580) rfl, List.forall_mem_cons.mpr ⟨List.mem_of_getElem? (i := 141) rfl, List.forall_mem_cons.mpr ⟨List.mem_of_getElem? (i := 142) rfl, fun _ h => absurd h List.not_mem_nil⟩⟩⟩⟩⟩⟩⟩⟩⟩⟩⟩⟩⟩⟩⟩⟩⟩⟩⟩⟩⟩⟩⟩⟩
set_option maxRecDepth 100000 in
theorem wsL_law_in0_12 : ∀ w ∈ wsL_law0_r12, w ∈ lw_tbl := List.forall_mem_cons.mpr ⟨List.mem_of_getElem? (i := 143) rfl, List.forall_mem_cons.mpr ⟨List.mem_of_getElem? (i := 144) rfl, List.forall_mem_cons.mpr ⟨List.mem_of_getElem? (i := 581) rfl, List.forall_mem_cons.mpr ⟨List.mem_of_getElem? (i := 582) rfl, List.forall_mem_cons.mpr ⟨List.mem_of_getElem? (i := 583) rfl, List.forall_mem_cons.mpr ⟨List.mem_of_getElem? (i := 584) rfl, List.forall_mem_cons.mpr ⟨List.mem_of_getElem? (i := 145) rfl, List.forall_mem_cons.mpr ⟨List.mem_of_getElem? (i := 146) rfl, List.forall_mem_cons.mpr ⟨List.mem_of_getElem? (i := 147) rfl, List.forall_mem_cons.mpr ⟨List.mem_of_getElem? (i := 148) rfl, List.forall_mem_cons.mpr ⟨List.mem_of_getElem? (i := 585) rfl, List.forall_mem_cons.mpr ⟨List.mem_of_getElem? (i := 586) rfl, List.forall_mem_cons.mpr ⟨List.mem_of_getElem? (i := 587) rfl, List.forall_mem_cons.mpr ⟨List.mem_of_getElem? (i := 588) rfl, List.forall_mem_cons.mpr ⟨List.mem_of_getElem? (i := 385) rfl, List.forall_mem_cons.mpr ⟨List.mem_of_getElem? (i := 386) rfl, List.forall_mem_cons.mpr ⟨List.mem_of_getElem? (i := 387) rfl, List.forall_mem_cons.mpr ⟨List.mem_of_getElem? (i := 388) rfl, List.forall_mem_cons.mpr ⟨List.mem_of_getElem? (i := 389) rfl, List.forall_mem_cons.mpr ⟨List.mem_of_getElem? (i := 390) rfl, List.forall_mem_cons.mpr ⟨List.mem_of_getElem? (i := 391) rfl, List.forall_mem_cons.mpr ⟨List.mem_of_getElem? (i := 589) rfl, List.forall_mem_cons.mpr ⟨List.mem_of_getElem? (i := 590) rfl, List.forall_mem_cons.mpr ⟨List.mem_of_getElem? (i := 591) rfl, fun _ h => absurd h List.not_mem_nil⟩⟩⟩⟩⟩⟩⟩⟩⟩⟩⟩⟩⟩⟩⟩⟩⟩⟩⟩⟩⟩⟩⟩⟩
set_option maxRecDepth 100000 in
theorem wsL_law_in0_13 : ∀ w ∈ wsL_law0_r13, w ∈ lw_tbl := List.forall_mem_cons.mpr ⟨List.mem_of_getElem? (i := 592) rfl, List.forall_mem_cons.mpr ⟨List.mem_of_getElem? (i := 593) rfl, List.forall_mem_cons.mpr ⟨List.mem_of_getElem? (i := 595) rfl, List.forall_mem_cons.mpr ⟨List.mem_of_getElem? (i := 27) rfl, List.forall_mem_cons.mpr ⟨List.mem_of_getElem? (i := 596) rfl, List.forall_mem_cons.mpr ⟨List.mem_of_getElem? (i := 392) rfl, List.forall_mem_cons.mpr ⟨List.mem_of_getElem? (i := 393) rfl, List.forall_mem_cons.mpr ⟨List.mem_of_getElem? (i := 394) rfl, List.forall_mem_cons.mpr ⟨List.mem_of_getElem? (i := 395) rfl, List.forall_mem_cons.mpr ⟨List.mem_of_getElem? (i := 396) rfl, List.forall_mem_cons.mpr ⟨List.mem_of_getElem? (i := 397) rfl, List.forall_mem_cons.mpr ⟨List.mem_of_getElem? (i := 398) rfl, List.forall_mem_cons.mpr ⟨List.mem_of_getElem? (i := 597) rfl, List.forall_mem_cons.mpr ⟨List.mem_of_getElem? (i := 598) rfl, List.forall_mem_cons.mpr ⟨List.mem_of_getElem? (i := 599) rfl, List.forall_mem_cons.mpr ⟨List.mem_of_getElem? (i := 600) rfl, List.forall_mem_cons.mpr ⟨List.mem_of_getElem? (i := 399) rfl, List.forall_mem_cons.mpr ⟨List.mem_of_getElem? (i := 400) rfl, List.forall_mem_cons.mpr ⟨List.mem_of_getElem? (i := 401) rfl, List.forall_mem_cons.mpr ⟨List.mem_of_getElem? (i := 402) rfl, List.forall_mem_cons.mpr ⟨List.mem_of_getElem? (i := 403) rfl, List.forall_mem_cons.mpr ⟨List.mem_of_getElem? (i := 404) rfl, List.forall_mem_cons.mpr ⟨List.mem_of_getElem? (i := 405) rfl, List.forall_mem_cons.mpr ⟨List.mem_of_getElem? (i := 601) rfl, fun _ h => absurd h List.not_mem_nil⟩⟩⟩⟩⟩⟩⟩⟩⟩⟩⟩⟩⟩⟩⟩⟩⟩⟩⟩⟩⟩⟩⟩⟩
set_option maxRecDepth 100000 in
theorem wsL_law_in0_14 : ∀ w ∈ wsL_law0_r14, w ∈ lw_tbl := List.forall_mem_cons.mpr ⟨List.mem_of_getElem? (i := 602) rfl, List.forall_mem_cons.mpr ⟨List.mem_of_getElem? (i := 603) rfl, List.forall_mem_cons.mpr ⟨List.mem_of_getElem? (i := 604) rfl, List.forall_mem_cons.mpr ⟨List.mem_of_getElem? (i := 406) rfl, List.forall_mem_cons.mpr ⟨List.mem_of_getElem? (i := 407) rfl, List.forall_mem_cons.mpr ⟨List.mem_of_getElem? (i := 408) rfl, List.forall_mem_cons.mpr ⟨List.mem_of_getElem? (i := 409) rfl, List.forall_mem_cons.mpr ⟨List.mem_of_getElem? (i := 410) rfl, List.forall_mem_cons.mpr ⟨List.mem_of_getElem? (i := 411) rfl, List.forall_mem_cons.mpr ⟨List.mem_of_getElem? (i := 412) rfl, List.forall_mem_cons.mpr ⟨List.mem_of_getElem? (i := 153) rfl, List.forall_mem_cons.mpr ⟨List.mem_of_getElem? (i := 154) rfl, List.forall_mem_cons.mpr ⟨List.mem_of_getElem? (i := 155) rfl, List.forall_mem_cons.mpr ⟨List.mem_of_getElem? (i := 156) rfl, List.forall_mem_cons.mpr ⟨List.mem_of_getElem? (i := 157) rfl, List.forall_mem_cons.mpr ⟨List.mem_of_getElem? (i := 158) rfl, List.forall_mem_cons.mpr ⟨List.mem_of_getElem? (i := 159) rfl, List.forall_mem_cons.mpr ⟨List.mem_of_getElem? (i := 160) rfl, List.forall_mem_cons.mpr ⟨List.mem_of_getElem? (i := 605) rfl, List.forall_mem_cons.mpr ⟨List.mem_of_getElem? (i := 606) rfl, List.forall_mem_cons.mpr ⟨List.mem_of_getElem? (i := 607) rfl, List.forall_mem_cons.mpr ⟨List.mem_of_getElem? (i := 608) rfl, List.forall_mem_cons.mpr ⟨List.mem_of_getElem? (i := 609) rfl, List.forall_mem_cons.mpr ⟨List.mem_of_getElem? (i := 611) rfl, fun _ h => absurd h List.not_mem_nil⟩⟩⟩⟩⟩⟩⟩⟩⟩⟩⟩⟩⟩⟩⟩⟩⟩⟩⟩⟩⟩⟩⟩⟩
set_option maxRecDepth 100000 in
theorem wsL_law_in0_15 : ∀ w ∈ wsL_law0_r15, w ∈ lw_tbl := List.forall_mem_cons.mpr ⟨List.mem_of_getElem? (i := 28) rfl, List.forall_mem_cons.mpr ⟨List.mem_of_getElem? (i := 612) rfl, List.forall_mem_cons.mpr ⟨List.mem_of_getElem? (i := 613) rfl, List.forall_mem_cons.mpr ⟨List.mem_of_getElem? (i := 615) rfl, List.forall_mem_cons.mpr ⟨List.mem_of_getElem? (i := 29) rfl, List.forall_mem_cons.mpr ⟨List.mem_of_getElem? (i := 616) rfl, List.forall_mem_cons.mpr ⟨List.mem_of_getElem? (i := 149) rfl, List.forall_mem_cons.mpr ⟨List.mem_of_getElem? (i := 150) rfl, List.forall_mem_cons.mpr ⟨List.mem_of_getElem? (i := 151) rfl, List.forall_mem_cons.mpr ⟨List.mem_of_getElem? (i := 152) rfl, List.forall_mem_cons.mpr ⟨List.mem_of_getElem? (i := 617) rfl, List.forall_mem_cons.mpr ⟨List.mem_of_getElem? (i := 618) rfl, List.forall_mem_cons.mpr ⟨List.mem_of_getElem? (i := 619) rfl, List.forall_mem_cons.mpr ⟨List.mem_of_getElem? (i := 620) rfl, List.forall_mem_cons.mpr ⟨List.mem_of_getElem? (i := 161) rfl, List.forall_mem_cons.mpr ⟨List.mem_of_getElem? (i := 162) rfl, List.forall_mem_cons.mpr ⟨List.mem_of_getElem? (i := 163) rfl, List.forall_mem_cons.mpr ⟨List.mem_of_getElem? (i := 164) rfl, List.forall_mem_cons.mpr ⟨List.mem_of_getElem? (i := 621) rfl, List.forall_mem_cons.mpr ⟨List.mem_of_getElem? (i := 622) rfl, List.forall_mem_cons.mpr ⟨List.mem_of_getElem? (i := 623) rfl, List.forall_mem_cons.mpr ⟨List.mem_of_getElem? (i := 624) rfl, List.forall_mem_cons.mpr ⟨List.mem_of_getElem? (i := 165) rfl, List.forall_mem_cons.mpr ⟨List.mem_of_getElem? (i := 166) rfl, fun _ h => absurd h List.not_mem_nil⟩⟩⟩⟩⟩⟩⟩⟩⟩⟩⟩⟩⟩⟩⟩⟩⟩⟩⟩⟩⟩⟩⟩⟩
set_option maxRecDepth 100000 in
theorem wsL_law_in0_16 : ∀ w ∈ wsL_law0_r16, w ∈ lw_tbl := List.forall_mem_cons.mpr ⟨List.mem_of_getElem? (i := 167) rfl, List.forall_mem_cons.mpr ⟨List.mem_of_getElem? (i := 168) rfl, List.forall_mem_cons.mpr ⟨List.mem_of_getElem? (i := 169) rfl, List.forall_mem_cons.mpr ⟨List.mem_of_getElem? (i := 171) rfl, List.forall_mem_cons.mpr ⟨List.mem_of_getElem? (i := 3) rfl, List.forall_mem_cons.mpr ⟨List.mem_of_getElem? (i := 172) rfl, List.forall_mem_cons.mpr ⟨List.mem_of_getElem? (i := 173) rfl, List.forall_mem_cons.mpr ⟨List.mem_of_getElem? (i := 175) rfl, List.forall_mem_cons.mpr ⟨List.mem_of_getElem? (i := 4) rfl, List.forall_mem_cons.mpr ⟨List.mem_of_getElem? (i := 176) rfl, List.forall_mem_cons.mpr ⟨List.mem_of_getElem? (i := 625) rfl, List.forall_mem_cons.mpr ⟨List.mem_of_getElem? (i := 626) rfl, List.forall_mem_cons.mpr ⟨List.mem_of_getElem? (i := 627) rfl, List.forall_mem_cons.mpr ⟨List.mem_of_getElem? (i := 628) rfl, List.forall_mem_cons.mpr ⟨List.mem_of_getElem? (i := 629) rfl, List.forall_mem_cons.mpr ⟨List.mem_of_getElem? (i := 631) rfl, List.forall_mem_cons.mpr ⟨List.mem_of_getElem? (i := 30) rfl, List.forall_mem_cons.mpr ⟨List.mem_of_getElem? (i := 632) rfl, List.forall_mem_cons.mpr ⟨List.mem_of_getElem? (i := 633) rfl, List.forall_mem_cons.mpr ⟨List.mem_of_getElem? (i := 635) rfl, List.forall_mem_cons.mpr ⟨List.mem_of_getElem? (i := 31) rfl, List.forall_mem_cons.mpr ⟨List.mem_of_getElem? (i := 636) rfl, List.forall_mem_cons.mpr ⟨List.mem_of_getElem? (i := 413) rfl, List.forall_mem_cons.mpr ⟨List.mem_of_getElem? (i := 414) rfl, fun _ h => absurd h List.not_mem_nil⟩⟩⟩⟩⟩⟩⟩⟩⟩⟩⟩⟩⟩⟩⟩⟩⟩⟩⟩⟩⟩⟩⟩⟩
set_option maxRecDepth 100000 in
theorem wsL_law_in0_17 : ∀ w ∈ wsL_law0_r17, w ∈ lw_tbl := List.forall_mem_cons.mpr ⟨List.mem_of_getElem? (i := 415) rfl, List.forall_mem_cons.mpr ⟨List.mem_of_getElem? (i := 416) rfl, List.forall_mem_cons.mpr ⟨List.mem_of_getElem? (i := 417) rfl, List.forall_mem_cons.mpr ⟨List.mem_of_getElem? (i := 418) rfl, List.forall_mem_cons.mpr ⟨List.mem_of_getElem? (i := 419) rfl, List.forall_mem_cons.mpr ⟨List.mem_of_getElem? (i := 420) rfl, List.forall_mem_cons.mpr ⟨List.mem_of_getElem? (i := 422) rfl, List.forall_mem_cons.mpr ⟨List.mem_of_getElem? (i := 16) rfl, List.forall_mem_cons.mpr ⟨List.mem_of_getElem? (i := 423) rfl, List.forall_mem_cons.mpr ⟨List.mem_of_getElem? (i := 181) rfl, List.forall_mem_cons.mpr ⟨List.mem_of_getElem? (i := 183) rfl, List.forall_mem_cons.mpr ⟨List.mem_of_getElem? (i := 5) rfl, List.forall_mem_cons.mpr ⟨List.mem_of_getElem? (i := 184) rfl, List.forall_mem_cons.mpr ⟨List.mem_of_getElem? (i := 637) rfl, List.forall_mem_cons.mpr ⟨List.mem_of_getElem? (i := 638) rfl, List.forall_mem_cons.mpr ⟨List.mem_of_getElem? (i := 639) rfl, List.forall_mem_cons.mpr ⟨List.mem_of_getElem? (i := 640) rfl, List.forall_mem_cons.mpr ⟨List.mem_of_getElem? (i := 177) rfl, List.forall_mem_cons.mpr ⟨List.mem_of_getElem? (i := 178) rfl, List.forall_mem_cons.mpr ⟨List.mem_of_getElem? (i := 179) rfl, List.forall_mem_cons.mpr ⟨List.mem_of_getElem? (i := 180) rfl, List.forall_mem_cons.mpr ⟨List.mem_of_getElem? (i := 641) rfl, List.forall_mem_cons.mpr ⟨List.mem_of_getElem? (i := 642) rfl, List.forall_mem_cons.mpr ⟨List.mem_of_getElem? (i := 643) rfl, fun _ h => absurd h List.not_mem_nil⟩⟩⟩⟩⟩⟩⟩⟩⟩⟩⟩⟩⟩⟩⟩⟩⟩⟩⟩⟩⟩⟩⟩⟩
set_option maxRecDepth 100000 in
theorem wsL_law_in0_18 : ∀ w ∈ wsL_law0_r18, w ∈ lw_tbl := List.forall_mem_cons.mpr ⟨List.mem_of_getElem? (i := 644) rfl, List.forall_mem_cons.mpr ⟨List.mem_of_getElem? (i := 425) rfl, List.forall_mem_cons.mpr ⟨List.mem_of_getElem? (i := 426) rfl, List.forall_mem_cons.mpr ⟨List.mem_of_getElem? (i := 427) rfl, List.forall_mem_cons.mpr ⟨List.mem_of_getElem? (i := 428) rfl, List.forall_mem_cons.mpr ⟨List.mem_of_getElem? (i := 429) rfl, List.forall_mem_cons.mpr ⟨List.mem_of_getElem? (i := 430) rfl, List.forall_mem_cons.mpr ⟨List.mem_of_getElem? (i := 431) rfl, List.forall_mem_cons.mpr ⟨List.mem_of_getElem? (i := 84) rfl, List.forall_mem_cons.mpr ⟨List.mem_of_getElem? (i := 645) rfl, List.forall_mem_cons.mpr ⟨List.mem_of_getElem? (i := 646) rfl, List.forall_mem_cons.mpr ⟨List.mem_of_getElem? (i := 647) rfl, List.forall_mem_cons.mpr ⟨List.mem_of_getElem? (i := 648) rfl, List.forall_mem_cons.mpr ⟨List.mem_of_getElem? (i := 434) rfl, List.forall_mem_cons.mpr ⟨List.mem_of_getElem? (i := 435) rfl, List.forall_mem_cons.mpr ⟨List.mem_of_getElem? (i := 436) rfl, List.forall_mem_cons.mpr ⟨List.mem_of_getElem? (i := 437) rfl, List.forall_mem_cons.mpr ⟨List.mem_of_getElem? (i := 438) rfl, List.forall_mem_cons.mpr ⟨List.mem_of_getElem? (i := 439) rfl, List.forall_mem_cons.mpr ⟨List.mem_of_getElem? (i := 440) rfl, List.forall_mem_cons.mpr ⟨List.mem_of_getElem? (i := 649) rfl, List.forall_mem_cons.mpr ⟨List.mem_of_getElem? (i := 650) rfl, List.forall_mem_cons.mpr ⟨List.mem_of_getElem? (i := 651) rfl, List.forall_mem_cons.mpr ⟨List.mem_of_getElem? (i := 652) rfl, fun _ h => absurd h List.not_mem_nil⟩⟩⟩⟩⟩⟩⟩⟩⟩⟩⟩⟩⟩⟩⟩⟩⟩⟩⟩⟩⟩⟩⟩⟩
theorem wsL_law_fxX10 : ∀ w ∈ wsX10, w ∈ lw_tbl := by decide +kernel
theorem wsL_law_fxX20 : ∀ w ∈ wsX20, w ∈ lw_tbl := by decide +kernel
theorem wsL_law_fxX00 : ∀ w ∈ wsX00, w ∈ lw_tbl := by decide +kernel
theorem wsL_law_in0 : ∀ w ∈ wsL_law0, w ∈ lw_tbl := List.forall_mem_append.mpr ⟨List.forall_mem_append.mpr ⟨List.forall_mem_append.mpr ⟨List.forall_mem_append.mpr ⟨List.forall_mem_append.mpr ⟨wsL_law_in0_1, List.forall_mem_append.mpr ⟨wsL_law_in0_2, List.forall_mem_append.mpr ⟨wsL_law_in0_3, List.forall_mem_append.mpr ⟨wsL_law_in0_4, List.forall_mem_append.mpr ⟨wsL_law_in0_5, List.forall_mem_append.mpr ⟨wsL_law_in0_6, List.forall_mem_append.mpr ⟨wsL_law_in0_7, List.forall_mem_append.mpr ⟨wsL_law_in0_8, List.forall_mem_append.mpr ⟨wsL_law_in0_9, List.forall_mem_append.mpr ⟨wsL_law_in0_10, List.forall_mem_append.mpr ⟨wsL_law_in0_11, List.forall_mem_append.mpr ⟨wsL_law_in0_12, List.forall_mem_append.mpr ⟨wsL_law_in0_13, List.forall_mem_append.mpr ⟨wsL_law_in0_14, List.forall_mem_append.mpr ⟨wsL_law_in0_15, List.forall_mem_append.mpr ⟨wsL_law_in0_16, List.forall_mem_append.mpr ⟨wsL_law_in0_17, wsL_law_in0_18⟩⟩⟩⟩⟩⟩⟩⟩⟩⟩⟩⟩⟩⟩⟩⟩⟩, wsL_law_fxX10⟩, wsL_law_fxX20⟩, wsL_law_fxX00⟩, fun _ h => absurd h List.not_mem_nil⟩
theorem wsL_law_x0 : ∀ w ∈ (vx_atS RX1 54 "java/lang/IllegalArgumentException" ["java/lang/RuntimeException", "java/lang/Exception"]).filter goodWord, w ∈ lw_tbl := by decide +kernel
theorem wsL_law_x1 : ∀ w ∈ (vx_atS RX1 81 "java/lang/IllegalStateException" ["java/lang/RuntimeException", "java/lang/Exception"]).filter goodWord, w ∈ lw_tbl := by decide +kernel
theorem wsL_law_x2 : ∀ w ∈ (vx_atS RX1 90 "java/lang/IndexOutOfBoundsException" ["java/lang/RuntimeException", "java/lang/Exception"]).filter goodWord, w ∈ lw_tbl := by decide +kernel
theorem wsL_law_in : ∀ w ∈ wsL_law, w ∈ lw_tbl := fun w h => (List.mem_append.mp h).elim (fun h => (List.mem_append.mp h).elim (fun h => (List.mem_append.mp h).elim (fun h => wsL_law_in0 w h) (fun h => wsL_law_x0 w h)) (fun h => wsL_law_x1 w h)) (fun h => wsL_law_x2 w h)
theorem inlX0 : ∀ w ∈ wsX00, w ∈ wsL_law := fun _ h => List.mem_append_left _ (List.mem_append_left _ (List.mem_append_left _ (List.mem_append_left _ (List.mem_append_right _ h))))
theorem inX0 : ∀ w ∈ wsX00, w ∈ lw_tbl := fun w h => wsL_law_in w (inlX0 w h)
theorem inlX1 : ∀ w ∈ wsX10, w ∈ wsL_law := fun _ h => List.mem_append_left _ (List.mem_append_left _ (List.mem_append_left _ (List.mem_append_left _ (List.mem_append_left _ (List.mem_append_left _ (List.mem_append_right _ h))))))
theorem inX1 : ∀ w ∈ wsX10, w ∈ lw_tbl := fun w h => wsL_law_in w (inlX1 w h)
theorem inlX2 : ∀ w ∈ wsX20, w ∈ wsL_law := fun _ h => List.mem_append_left _ (List.mem_append_left _ (List.mem_append_left _ (List.mem_append_left _ (List.mem_append_left _ (List.mem_append_right _ h)))))
theorem inX2 : ∀ w ∈ wsX20, w ∈ lw_tbl := fun w h => wsL_law_in w (inlX2 w h)
theorem inJ9 : ∀ w ∈ wsJ90, w ∈ lw_tbl := by decide +kernel
theorem inJ0 : ∀ w ∈ wsJ00, w ∈ lw_tbl := by decide +kernel
end
section
/-! the two worlds: the desk's cells and the reference's, both told by one state (g: numbers, f: rows) -/
def dF (a : Nat → Nat) (g : Nat → Int32) (tc : Int32) : List Value := [.ref (a 1), .int (g 5), .int (g 6), .int (g 0), .int (g 7), .int (g 8), .ref (a 2), .ref (a 3), .ref (a 4), .ref (a 5), .int (g 11), .int (g 10), .int (g 9), .ref (a 6), .int tc]
def pF (g : Nat → Int32) : List Value := [.int (g 1), .int (g 2), .int (g 3), .int (g 4)]
def mF (b : Nat → Nat) (g : Nat → Int32) (t : Int32) : List Value := [.int (g 0), .int (g 1), .int (g 2), .int (g 3), .int (g 4), .int (g 5), .int (g 6), .int (g 7), .ref (b 1), .ref (b 2), .ref (b 3), .ref (b 4), .ref (b 5), .int (g 8), .int (g 9), .int (g 10), .int (g 11), .int t]
def wD (a : Nat → Nat) (cI cZ : ClassId) (g : Nat → Int32) (f : Nat → Nat → Int32) (cd : Nat → Int32) (tc : Int32) : va_W :=
  [(a 0, .inr (1, dF a g tc)), (a 1, .inr (0, pF g)),
   (a 2, .inl (cI, 200, .inl (f 0))), (a 3, .inl (cI, 200, .inl (f 1))), (a 4, .inl (cI, 200, .inl (f 2))), (a 5, .inl (cI, 200, .inl cd)), (a 6, .inl (cZ, 200, .inl (f 4)))]
def wM (b : Nat → Nat) (cI cZ : ClassId) (g : Nat → Int32) (f : Nat → Nat → Int32) (t : Int32) : va_W :=
  [(b 0, .inr (2, mF b g t)),
   (b 1, .inl (cI, 200, .inl (f 0))), (b 2, .inl (cI, 200, .inl (f 1))), (b 3, .inl (cI, 200, .inl (f 2))), (b 4, .inl (cI, 200, .inl (f 3))), (b 5, .inl (cZ, 200, .inl (f 4)))]
def aS (a : Nat → Nat) (n sz : Nat) : Nat → Prop := fun q => (∃ i, i < n ∧ q = a i) ∨ sz ≤ q
def apart (a : Nat → Nat) (n : Nat) : Prop := ∀ i j, i < n → j < n → a i = a j → i = j
abbrev tyIZ (cI cZ : ClassId) : List (ClassId × FieldType) := [(cI, .int), (cZ, .boolean)]
def up2 (f : Nat → Nat → Int32) (r : Nat) (h : Nat → Int32) : Nat → Nat → Int32 := fun q => if q = r then h else f q
theorem wD_at {a : Nat → Nat} {cI cZ : ClassId} {g : Nat → Int32} {f : Nat → Nat → Int32} {cd : Nat → Int32} {tc : Int32} : ∀ (k : Nat) (q : Nat × va_E), (wD a cI cZ g f cd tc)[k]? = some q → k < 7 ∧ q.1 = a k
  | 0, q, h => by obtain rfl := Option.some.inj h; exact ⟨by decide, rfl⟩
  | 1, q, h => by obtain rfl := Option.some.inj h; exact ⟨by decide, rfl⟩
  | 2, q, h => by obtain rfl := Option.some.inj h; exact ⟨by decide, rfl⟩
  | 3, q, h => by obtain rfl := Option.some.inj h; exact ⟨by decide, rfl⟩
  | 4, q, h => by obtain rfl := Option.some.inj h; exact ⟨by decide, rfl⟩
  | 5, q, h => by obtain rfl := Option.some.inj h; exact ⟨by decide, rfl⟩
  | 6, q, h => by obtain rfl := Option.some.inj h; exact ⟨by decide, rfl⟩
  | k + 7, q, h => by simp [wD] at h
theorem wM_at {a : Nat → Nat} {cI cZ : ClassId} {g : Nat → Int32} {f : Nat → Nat → Int32} {t : Int32} : ∀ (k : Nat) (q : Nat × va_E), (wM a cI cZ g f t)[k]? = some q → k < 6 ∧ q.1 = a k
  | 0, q, h => by obtain rfl := Option.some.inj h; exact ⟨by decide, rfl⟩
  | 1, q, h => by obtain rfl := Option.some.inj h; exact ⟨by decide, rfl⟩
  | 2, q, h => by obtain rfl := Option.some.inj h; exact ⟨by decide, rfl⟩
  | 3, q, h => by obtain rfl := Option.some.inj h; exact ⟨by decide, rfl⟩
  | 4, q, h => by obtain rfl := Option.some.inj h; exact ⟨by decide, rfl⟩
  | 5, q, h => by obtain rfl := Option.some.inj h; exact ⟨by decide, rfl⟩
  | k + 6, q, h => by simp [wM] at h
theorem wD_D {a : Nat → Nat} {cI cZ : ClassId} {g : Nat → Int32} {f : Nat → Nat → Int32} {cd : Nat → Int32} {tc : Int32} (h : apart a 7) (sz : Nat) : va_D (aS a 7 sz) (wD a cI cZ g f cd tc) :=
  ⟨fun i j p q hp hq e => h i j (wD_at i p hp).1 (wD_at j q hq).1 (by rw [← (wD_at i p hp).2, ← (wD_at j q hq).2]; exact e), fun k q hq => Or.inl ⟨k, wD_at k q hq⟩⟩
theorem wM_D {a : Nat → Nat} {cI cZ : ClassId} {g : Nat → Int32} {f : Nat → Nat → Int32} {t : Int32} (h : apart a 6) (sz : Nat) : va_D (aS a 6 sz) (wM a cI cZ g f t) :=
  ⟨fun i j p q hp hq e => h i j (wM_at i p hp).1 (wM_at j q hq).1 (by rw [← (wM_at i p hp).2, ← (wM_at j q hq).2]; exact e), fun k q hq => Or.inl ⟨k, wM_at k q hq⟩⟩
abbrev SD : Type := (Nat → Int32) × (Nat → Nat → Int32) × (Nat → Int32) × Int32
abbrev SM : Type := (Nat → Int32) × (Nat → Nat → Int32) × Int32
abbrev wfD (a : Nat → Nat) (cI cZ : ClassId) (u : SD) : va_W := wD a cI cZ u.1 u.2.1 u.2.2.1 u.2.2.2
abbrev wfM (b : Nat → Nat) (cI cZ : ClassId) (u : SM) : va_W := wM b cI cZ u.1 u.2.1 u.2.2
/-! contracts: a reader (nothing changes), a writer (its world changes), one that throws -/
def rdr (l : Launch) (y : MethodName) (wl : List Cond) (rm : Room) (G : va_G) (ws : va_W) (tys : List (ClassId × FieldType)) (av : List Value) (post : Int32 → Prop) : Prop :=
  Met l y wl rm (va_Pc av (fun U => va_P G vwCl ws U.heap ∧ va_K G vwCl tys U)) (vp_Si post) 0 0 (fun _ => False)
def wri {S : Type} (l : Launch) (y : MethodName) (wl : List Cond) (rm : Room) (G : va_G) (ws : va_W) (tys : List (ClassId × FieldType)) (A : Nat → Prop) (sz : Nat) (av : List Value) (post : Int32 → S → Prop) (wf : S → va_W) : Prop :=
  Met l y wl rm (va_Pc av (fun U => U.heap.size = sz ∧ va_P G vwCl ws U.heap ∧ va_K G vwCl tys U)) (va_Qi post (fun u t => va_P G vwCl (wf u) t.heap) A) 0 0 A
def wrv {S : Type} (l : Launch) (y : MethodName) (wl : List Cond) (rm : Room) (G : va_G) (ws : va_W) (tys : List (ClassId × FieldType)) (A : Nat → Prop) (sz : Nat) (av : List Value) (post : S → Prop) (wf : S → va_W) : Prop :=
  Met l y wl rm (va_Pc av (fun U => U.heap.size = sz ∧ va_P G vwCl ws U.heap ∧ va_K G vwCl tys U)) (va_Qv post (fun u t => va_P G vwCl (wf u) t.heap) A) 0 0 A
theorem fb_r {G : va_G} {ws : va_W} {tys : List (ClassId × FieldType)} {av : List Value} : FrameBlind (va_Pc av (fun U => va_P G vwCl ws U.heap ∧ va_K G vwCl tys U)) :=
  fun a U g mk q => ⟨q.1, q.2.1, va_K.moved (u := U) (U := U.calling g mk a) (Vm.Alike.refl U.vm) q.2.2⟩
theorem fb_w {G : va_G} {ws : va_W} {tys : List (ClassId × FieldType)} {av : List Value} {sz : Nat} : FrameBlind (va_Pc av (fun U => U.heap.size = sz ∧ va_P G vwCl ws U.heap ∧ va_K G vwCl tys U)) :=
  fun a U g mk q => ⟨q.1, q.2.1, q.2.2.1, va_K.moved (u := U) (U := U.calling g mk a) (Vm.Alike.refl U.vm) q.2.2.2⟩
section Base
variable {l : Launch} {y : MethodName} {wl wl' : List Cond} {rm : Room} {G : va_G} {ws : va_W} {tys : List (ClassId × FieldType)} {av : List Value} {cc : ByteArray} {nL : Nat} {ret : Option FieldType}
theorem rdr_of {post : Int32 → Prop} {ty : FieldType} (hy : plainName y.cls = true) (hw : wl = .code y cc nL (some ty) :: wl') (hle : (lg_sl av).length ≤ nL)
    (body : ∀ (p : Program) (e : Env) (s : State) (m : MethodId) (args : Array Value) (below : List Frame) (meth : Method) (c : Code) (H : Heap) (ls : Array Slot) (Q : State → Prop), p.tables.exec = Jvm.exec → c.code = cc → c.maxLocals = nL → s.vm.findClass y.cls = some m.cls → (∀ w ∈ wl, w.before args s = true) → va_P G vwCl ws H → va_K G vwCl tys s →
      (∀ (v : Int32) (pc : Nat) (ls : Array Slot), decode cc pc = .ok (.ireturn, 1) → narrow ty (.int v) = .int v → post v → W p l e rm s m args below meth c H [] 0 0 Q (F0 m pc ls [.int v])) → lv_has ls nL (lv_args 0 av) →
      W p l e rm s m args below meth c H [] 0 0 Q (F0 m 0 ls [])) : rdr l y wl rm G ws tys av post := by
  refine Met.ofW (cc := cc) (maxL := nL) (ret := some ty) hy hw ?_
  intro p e s m args below meth c s₁ B hml hv
  obtain ⟨rfl, hP, hK⟩ := hv
  have hl := lv_entry av (n := nL) hle
  rw [lg_entry_eq]
  generalize (lg_sl av ++ List.replicate (nL - (lg_sl av).length) Slot.unset).toArray = ls at hl ⊢
  exact body p e s m _ below meth c s.heap ls _ B.exec B.bytes hml (findClass_of_methodNamed B.named) (atoms_spec (ws := wl) B.pre) hP hK
    (fun v pc ls hdg hn hp => W.zret B.exec B.bytes B.returns hn (fun t ht _ => ⟨v, rfl, hp, ht⟩) (fun q h => by cases h) hdg B.notSynchronized) hl
theorem wri_of {S : Type} {post : Int32 → S → Prop} {wf : S → va_W} {a : Nat → Nat} {n sz : Nat} {ty : FieldType} (hy : plainName y.cls = true) (hw : wl = .code y cc nL (some ty) :: wl') (hle : (lg_sl av).length ≤ nL)
    (body : ∀ (p : Program) (e : Env) (s : State) (m : MethodId) (args : Array Value) (below : List Frame) (meth : Method) (c : Code) (H : Heap) (locs : List Loc) (ls : Array Slot) (Q : State → Prop), p.tables.exec = Jvm.exec → c.code = cc → c.maxLocals = nL → s.vm.findClass y.cls = some m.cls → (∀ w ∈ wl, w.before args s = true) → va_P G vwCl ws H → va_K G vwCl tys s → va_S (aS a n s.heap.size) s.heap H locs →
      (∀ (v : Int32) (u : S) (pc : Nat) (ls : Array Slot) (H : Heap) (locs : List Loc), decode cc pc = .ok (.ireturn, 1) → narrow ty (.int v) = .int v → va_P G vwCl (wf u) H → va_S (aS a n s.heap.size) s.heap H locs → post v u → W p l e rm s m args below meth c H locs 0 0 Q (F0 m pc ls [.int v])) → lv_has ls nL (lv_args 0 av) →
      W p l e rm s m args below meth c H locs 0 0 Q (F0 m 0 ls [])) : wri l y wl rm G ws tys (aS a n sz) sz av post wf := by
  refine Met.ofW (cc := cc) (maxL := nL) (ret := some ty) hy hw ?_
  intro p e s m args below meth c s₁ B hml hv
  obtain ⟨rfl, rfl, hP, hK⟩ := hv
  have hl := lv_entry av (n := nL) hle
  rw [lg_entry_eq]
  generalize (lg_sl av ++ List.replicate (nL - (lg_sl av).length) Slot.unset).toArray = ls at hl ⊢
  exact body p e s m _ below meth c s.heap [] ls _ B.exec B.bytes hml (findClass_of_methodNamed B.named) (atoms_spec (ws := wl) B.pre) hP hK va_S.rf
    (fun v u pc ls H locs hdg hn hP hS hp => W.zret B.exec B.bytes B.returns hn (fun t ht _ => ⟨⟨v, u, rfl, hp, by subst ht; exact hP⟩, hS.F ht⟩) hS.2.2 hdg B.notSynchronized) hl
theorem wrv_of {S : Type} {post : S → Prop} {wf : S → va_W} {a : Nat → Nat} {n sz : Nat} (hy : plainName y.cls = true) (hw : wl = .code y cc nL none :: wl') (hle : (lg_sl av).length ≤ nL)
    (body : ∀ (p : Program) (e : Env) (s : State) (m : MethodId) (args : Array Value) (below : List Frame) (meth : Method) (c : Code) (H : Heap) (locs : List Loc) (ls : Array Slot) (Q : State → Prop), p.tables.exec = Jvm.exec → c.code = cc → c.maxLocals = nL → s.vm.findClass y.cls = some m.cls → (∀ w ∈ wl, w.before args s = true) → va_P G vwCl ws H → va_K G vwCl tys s → va_S (aS a n s.heap.size) s.heap H locs →
      (∀ (u : S) (pc : Nat) (ls : Array Slot) (H : Heap) (locs : List Loc), decode cc pc = .ok (.return_, 1) → va_P G vwCl (wf u) H → va_S (aS a n s.heap.size) s.heap H locs → post u → W p l e rm s m args below meth c H locs 0 0 Q (F0 m pc ls [])) → lv_has ls nL (lv_args 0 av) →
      W p l e rm s m args below meth c H locs 0 0 Q (F0 m 0 ls [])) : wrv l y wl rm G ws tys (aS a n sz) sz av post wf := by
  refine Met.ofW (cc := cc) (maxL := nL) (ret := none) hy hw ?_
  intro p e s m args below meth c s₁ B hml hv
  obtain ⟨rfl, rfl, hP, hK⟩ := hv
  have hl := lv_entry av (n := nL) hle
  rw [lg_entry_eq]
  generalize (lg_sl av ++ List.replicate (nL - (lg_sl av).length) Slot.unset).toArray = ls at hl ⊢
  exact body p e s m _ below meth c s.heap [] ls _ B.exec B.bytes hml (findClass_of_methodNamed B.named) (atoms_spec (ws := wl) B.pre) hP hK va_S.rf
    (fun u pc ls H locs hdg hP hS hp => W.vret B.exec B.bytes B.returns (fun t ht _ => ⟨⟨u, rfl, hp, by subst ht; exact hP⟩, hS.F ht⟩) hS.2.2 hdg B.notSynchronized) hl
end Base
section Walk
variable {p : Program} {l : Launch} {e : Env} {R : Room} {s : State} {m : MethodId} {args : Array Value} {below : List Frame} {meth : Method} {c : Code} {H : Heap} {locs : List Loc} {cells slots : Nat} {Q : State → Prop}
variable {G : va_G} {ws : va_W} {tys : List (ClassId × FieldType)} {pc : Nat} {ls : Array Slot} {rest st0 : List Value} {cc : ByteArray}
variable {y : MethodName} {bytes : ByteArray} {maxL nL n index : Nat} {ret : Option FieldType} {wl : List Cond} {rm : Room} {Ts : List Cond} {own C : String} {b : Addr} {As : List Value}
theorem rdr_V {post : Int32 → Prop} (S : CallFix p m c cc nL s args Ts own) (hM : rdr l y wl rm G ws tys (.ref b :: As) post) (cw : CallW R s args own C index y bytes maxL ret wl rm 0 0 n)
    (hrecv : ∃ cell : Cell, H[b]? = some cell ∧ cell.vm.isStatics = false ∧ s.vm.findClass C = some cell.cls) (hP : va_P G vwCl ws H) (hK : va_K G vwCl tys s) (hn : As.length = n) (hls : ls.size = nL) (hst : st0 = As.reverse ++ .ref b :: rest) (hW : (rest.map fun v => v.category).sum ≤ 8) (hdg : decode cc pc = .ok (.invokevirtual index, 3)) (hf : cells ≤ R.cells ∧ slots ≤ R.slots)
    (kk : ∀ r : Int32, post r → W p l e R s m args below meth c H locs cells slots Q (F0 m (pc + 3) ls (.int r :: rest))) : W p l e R s m args below meth c H locs cells slots Q (F0 m pc ls st0) :=
  vp_callSi (W.runV S hM cw ⟨fb_r, hrecv, fun U hU hW => ⟨rfl, by rw [hU]; exact hP, va_K.moved hW.alike hK⟩⟩ rfl hn hls hst (lv_room hW) hdg hf) kk
theorem rdr_S {post : Int32 → Prop} (S : CallFix p m c cc nL s args Ts own) (hM : rdr l y wl rm G ws tys As post) (cw : CallB R s args own index y bytes maxL ret wl rm 0 0 n ∧ (Cond.static y).before args s = true)
    (hP : va_P G vwCl ws H) (hK : va_K G vwCl tys s) (hn : As.length = n) (hls : ls.size = nL) (hst : st0 = As.reverse ++ rest) (hW : (rest.map fun v => v.category).sum ≤ 8) (hdg : decode cc pc = .ok (.invokestatic index, 3)) (hf : cells ≤ R.cells ∧ slots ≤ R.slots)
    (kk : ∀ r : Int32, post r → W p l e R s m args below meth c H locs cells slots Q (F0 m (pc + 3) ls (.int r :: rest))) : W p l e R s m args below meth c H locs cells slots Q (F0 m pc ls st0) :=
  vp_callSi (W.runS S hM cw ⟨fb_r, fun U hU hW => ⟨rfl, by rw [hU]; exact hP, va_K.moved hW.alike hK⟩⟩ rfl hn hls hst (lv_room hW) hdg hf) kk
theorem aS_up {a : Nat → Nat} {k : Nat} {H0 : Heap} (hS : va_S (aS a k H0.size) H0 H locs) : ∀ q, aS a k H.size q → aS a k H0.size q := fun q h => h.elim Or.inl (fun h => Or.inr (Nat.le_trans hS.1 h))
theorem wri_V {S' : Type} {post : Int32 → S' → Prop} {wf : S' → va_W} {a : Nat → Nat} {k : Nat} (S : CallFix p m c cc nL s args Ts own) (hM : wri l y wl rm G ws tys (aS a k H.size) H.size (.ref b :: As) post wf) (cw : CallW R s args own C index y bytes maxL ret wl rm 0 0 n)
    (hrecv : ∃ cell : Cell, H[b]? = some cell ∧ cell.vm.isStatics = false ∧ s.vm.findClass C = some cell.cls) (hP : va_P G vwCl ws H) (hK : va_K G vwCl tys s) (hS : va_S (aS a k s.heap.size) s.heap H locs) (hn : As.length = n) (hls : ls.size = nL) (hst : st0 = As.reverse ++ .ref b :: rest) (hW : (rest.map fun v => v.category).sum ≤ 8) (hdg : decode cc pc = .ok (.invokevirtual index, 3)) (hf : cells ≤ R.cells ∧ slots ≤ R.slots)
    (kk : ∀ (r : Int32) (u : S') (H1 : Heap) (locs1 : List Loc), post r u → va_P G vwCl (wf u) H1 → va_S (aS a k s.heap.size) s.heap H1 locs1 → W p l e R s m args below meth c H1 locs1 cells slots Q (F0 m (pc + 3) ls (.int r :: rest))) : W p l e R s m args below meth c H locs cells slots Q (F0 m pc ls st0) :=
  va_calli (va_runV S hM cw ⟨fb_w, hrecv, fun U hU hW => ⟨rfl, by rw [hU], by rw [hU]; exact hP, va_K.moved hW.alike hK⟩⟩ rfl hn hls hst (lv_room hW) hdg hf) hS (fun q _ h => aS_up hS q h) (fun q h => aS_up hS q h) (fun r u t H1 locs1 ht _ hp hB _ _ hS1 => kk r u H1 locs1 hp (by rw [← ht]; exact hB) hS1)
theorem wrv_V {S' : Type} {post : S' → Prop} {wf : S' → va_W} {a : Nat → Nat} {k : Nat} (S : CallFix p m c cc nL s args Ts own) (hM : wrv l y wl rm G ws tys (aS a k H.size) H.size (.ref b :: As) post wf) (cw : CallW R s args own C index y bytes maxL ret wl rm 0 0 n)
    (hrecv : ∃ cell : Cell, H[b]? = some cell ∧ cell.vm.isStatics = false ∧ s.vm.findClass C = some cell.cls) (hP : va_P G vwCl ws H) (hK : va_K G vwCl tys s) (hS : va_S (aS a k s.heap.size) s.heap H locs) (hn : As.length = n) (hls : ls.size = nL) (hst : st0 = As.reverse ++ .ref b :: rest) (hW : (rest.map fun v => v.category).sum ≤ 8) (hdg : decode cc pc = .ok (.invokevirtual index, 3)) (hf : cells ≤ R.cells ∧ slots ≤ R.slots)
    (kk : ∀ (u : S') (H1 : Heap) (locs1 : List Loc), post u → va_P G vwCl (wf u) H1 → va_S (aS a k s.heap.size) s.heap H1 locs1 → W p l e R s m args below meth c H1 locs1 cells slots Q (F0 m (pc + 3) ls rest)) : W p l e R s m args below meth c H locs cells slots Q (F0 m pc ls st0) :=
  va_callv (va_runV S hM cw ⟨fb_w, hrecv, fun U hU hW => ⟨rfl, by rw [hU], by rw [hU]; exact hP, va_K.moved hW.alike hK⟩⟩ rfl hn hls hst (lv_room hW) hdg hf) hS (fun q _ h => aS_up hS q h) (fun q h => aS_up hS q h) (fun u t H1 locs1 ht _ hp hB _ _ hS1 => kk u H1 locs1 hp (by rw [← ht]; exact hB) hS1)
theorem top_eq {x z : Int32} (h : x = z) (k : W p l e R s m args below meth c H locs cells slots Q (F0 m pc ls (.int z :: rest))) : W p l e R s m args below meth c H locs cells slots Q (F0 m pc ls (.int x :: rest)) := h ▸ k
theorem tX0_own : ∀ k, k < 4 → (TX0 k).1 = RX0 := by decide +kernel
theorem tX1_own : ∀ k, k < 15 → (TX1 k).1 = RX1 := by decide +kernel
theorem tX2_own : ∀ k, k < 18 → (TX2 k).1 = RX2 := by decide +kernel
section Fields
variable {a : Nat → Nat} {cI cZ : ClassId} {g g' : Nat → Int32} {f f' : Nat → Nat → Int32} {cd cd' : Nat → Int32} {tc tc' : Int32}
theorem dget (hx : p.tables.exec = Jvm.exec) (hb : c.code = cc) (hts : ∀ w ∈ wl, w.before args s = true) (hin : ∀ w ∈ wsX10, w ∈ wl) (hown : s.vm.findClass RX1 = some m.cls) (hK : va_K G vwCl tys s) (hP : va_P G vwCl (wD a cI cZ g f cd tc) H) (k : Nat) (hk : k < 15) (hlink : Cond.fieldLink RX1 index RX1 (TX1 k).2.1 (TX1 k).2.2.1 ∈ wl) {v : Value} (hv : (dF a g tc)[k]? = some v) (hdg : decode cc pc = .ok (.getfield index, 3))
    (kk : W p l e R s m args below meth c H locs cells slots Q (F0 m (pc + 3) ls (v :: rest))) : W p l e R s m args below meth c H locs cells slots Q (F0 m pc ls (.ref (a 0) :: rest)) :=
  va_get (own := RX1) (C := RX1) (T := TX1) (N := 15) (ci := 1) hx hb hts hin hown hK hP 0 rfl rfl k hk (hts _ hlink) (fun x h => by rw [tX1_own k hk] at h; exact h) hv hdg kk
theorem pget (hx : p.tables.exec = Jvm.exec) (hb : c.code = cc) (hts : ∀ w ∈ wl, w.before args s = true) (hin : ∀ w ∈ wsX00, w ∈ wl) (hown : s.vm.findClass RX0 = some m.cls) (hK : va_K G vwCl tys s) (hP : va_P G vwCl (wD a cI cZ g f cd tc) H) (k : Nat) (hk : k < 4) (hlink : Cond.fieldLink RX0 index RX0 (TX0 k).2.1 (TX0 k).2.2.1 ∈ wl) {v : Value} (hv : (pF g)[k]? = some v) (hdg : decode cc pc = .ok (.getfield index, 3))
    (kk : W p l e R s m args below meth c H locs cells slots Q (F0 m (pc + 3) ls (v :: rest))) : W p l e R s m args below meth c H locs cells slots Q (F0 m pc ls (.ref (a 1) :: rest)) :=
  va_get (own := RX0) (C := RX0) (T := TX0) (N := 4) (ci := 0) hx hb hts hin hown hK hP 1 rfl rfl k hk (hts _ hlink) (fun x h => by rw [tX0_own k hk] at h; exact h) hv hdg kk
theorem mget (hx : p.tables.exec = Jvm.exec) (hb : c.code = cc) (hts : ∀ w ∈ wl, w.before args s = true) (hin : ∀ w ∈ wsX20, w ∈ wl) (hown : s.vm.findClass RX2 = some m.cls) (hK : va_K G vwCl tys s) (hP : va_P G vwCl (wM a cI cZ g f tc) H) (k : Nat) (hk : k < 18) (hlink : Cond.fieldLink RX2 index RX2 (TX2 k).2.1 (TX2 k).2.2.1 ∈ wl) {v : Value} (hv : (mF a g tc)[k]? = some v) (hdg : decode cc pc = .ok (.getfield index, 3))
    (kk : W p l e R s m args below meth c H locs cells slots Q (F0 m (pc + 3) ls (v :: rest))) : W p l e R s m args below meth c H locs cells slots Q (F0 m pc ls (.ref (a 0) :: rest)) :=
  va_get (own := RX2) (C := RX2) (T := TX2) (N := 18) (ci := 2) hx hb hts hin hown hK hP 0 rfl rfl k hk (hts _ hlink) (fun x h => by rw [tX2_own k hk] at h; exact h) hv hdg kk
theorem dput {v : Value} (g' : Nat → Int32) (tc' : Int32) (hx : p.tables.exec = Jvm.exec) (hb : c.code = cc) (hts : ∀ w ∈ wl, w.before args s = true) (hin : ∀ w ∈ wsX10, w ∈ wl) (hown : s.vm.findClass RX1 = some m.cls) (hK : va_K G vwCl tys s) (hP : va_P G vwCl (wD a cI cZ g f cd tc) H) (hap : apart a 7) (hS : va_S (aS a 7 s.heap.size) s.heap H locs) (k : Nat) (hk : k < 15) (hlink : Cond.fieldLink RX1 index RX1 (TX1 k).2.1 (TX1 k).2.2.1 ∈ wl) (hfin : (TX1 k).2.2.2 = false) (hn : narrow (tyX1 k) v = v) (hfit : fits (tyX1 k) v = true) (hset : (dF a g tc).set k v = dF a g' tc') (hpf : pF g = pF g') (hdg : decode cc pc = .ok (.putfield index, 3))
    (kk : ∀ (H1 : Heap) (locs1 : List Loc), va_P G vwCl (wD a cI cZ g' f cd tc') H1 → va_S (aS a 7 s.heap.size) s.heap H1 locs1 → W p l e R s m args below meth c H1 locs1 cells slots Q (F0 m (pc + 3) ls rest)) : W p l e R s m args below meth c H locs cells slots Q (F0 m pc ls (v :: .ref (a 0) :: rest)) := by
  refine va_put (own := RX1) (C := RX1) (T := TX1) (N := 15) (ci := 1) (fs := dF a g tc) hx hb hts hin tyX1 tyX1_ok nmX1 hown hK hP (wD_D hap _) hS 0 rfl rfl k hk (hts _ hlink) (fun x h => by rw [tX1_own k hk] at h; exact h) hfin (tyX1_ok k hk) hn hfit hk hdg (fun H1 locs1 hP1 _ hS1 => kk H1 locs1 ?_ hS1)
  have e : (wD a cI cZ g f cd tc).set 0 (a 0, .inr (1, (dF a g tc).set k v)) = wD a cI cZ g' f cd tc' := by rw [hset]; simp only [wD, List.set_cons_zero, hpf]
  rw [← e]; exact hP1
theorem mput {v : Value} (g' : Nat → Int32) (tc' : Int32) (hx : p.tables.exec = Jvm.exec) (hb : c.code = cc) (hts : ∀ w ∈ wl, w.before args s = true) (hin : ∀ w ∈ wsX20, w ∈ wl) (hown : s.vm.findClass RX2 = some m.cls) (hK : va_K G vwCl tys s) (hP : va_P G vwCl (wM a cI cZ g f tc) H) (hap : apart a 6) (hS : va_S (aS a 6 s.heap.size) s.heap H locs) (k : Nat) (hk : k < 18) (hlink : Cond.fieldLink RX2 index RX2 (TX2 k).2.1 (TX2 k).2.2.1 ∈ wl) (hfin : (TX2 k).2.2.2 = false) (hn : narrow (tyX2 k) v = v) (hfit : fits (tyX2 k) v = true) (hset : (mF a g tc).set k v = mF a g' tc') (hdg : decode cc pc = .ok (.putfield index, 3))
    (kk : ∀ (H1 : Heap) (locs1 : List Loc), va_P G vwCl (wM a cI cZ g' f tc') H1 → va_S (aS a 6 s.heap.size) s.heap H1 locs1 → W p l e R s m args below meth c H1 locs1 cells slots Q (F0 m (pc + 3) ls rest)) : W p l e R s m args below meth c H locs cells slots Q (F0 m pc ls (v :: .ref (a 0) :: rest)) := by
  refine va_put (own := RX2) (C := RX2) (T := TX2) (N := 18) (ci := 2) (fs := mF a g tc) hx hb hts hin tyX2 tyX2_ok nmX2 hown hK hP (wM_D hap _) hS 0 rfl rfl k hk (hts _ hlink) (fun x h => by rw [tX2_own k hk] at h; exact h) hfin (tyX2_ok k hk) hn hfit hk hdg (fun H1 locs1 hP1 _ hS1 => kk H1 locs1 ?_ hS1)
  have e : (wM a cI cZ g f tc).set 0 (a 0, .inr (2, (mF a g tc).set k v)) = wM a cI cZ g' f tc' := by rw [hset]; simp only [wM, List.set_cons_zero]
  rw [← e]; exact hP1
theorem pput {v : Value} (g' : Nat → Int32) (hx : p.tables.exec = Jvm.exec) (hb : c.code = cc) (hts : ∀ w ∈ wl, w.before args s = true) (hin : ∀ w ∈ wsX00, w ∈ wl) (hown : s.vm.findClass RX0 = some m.cls) (hK : va_K G vwCl tys s) (hP : va_P G vwCl (wD a cI cZ g f cd tc) H) (hap : apart a 7) (hS : va_S (aS a 7 s.heap.size) s.heap H locs) (k : Nat) (hk : k < 4) (hlink : Cond.fieldLink RX0 index RX0 (TX0 k).2.1 (TX0 k).2.2.1 ∈ wl) (hfin : (TX0 k).2.2.2 = false) (hn : narrow (tyX0 k) v = v) (hfit : fits (tyX0 k) v = true) (hset : (pF g).set k v = pF g') (hdf : dF a g tc = dF a g' tc) (hdg : decode cc pc = .ok (.putfield index, 3))
    (kk : ∀ (H1 : Heap) (locs1 : List Loc), va_P G vwCl (wD a cI cZ g' f cd tc) H1 → va_S (aS a 7 s.heap.size) s.heap H1 locs1 → W p l e R s m args below meth c H1 locs1 cells slots Q (F0 m (pc + 3) ls rest)) : W p l e R s m args below meth c H locs cells slots Q (F0 m pc ls (v :: .ref (a 1) :: rest)) := by
  refine va_put (own := RX0) (C := RX0) (T := TX0) (N := 4) (ci := 0) (fs := pF g) hx hb hts hin tyX0 tyX0_ok nmX0 hown hK hP (wD_D hap _) hS 1 rfl rfl k hk (hts _ hlink) (fun x h => by rw [tX0_own k hk] at h; exact h) hfin (tyX0_ok k hk) hn hfit hk hdg (fun H1 locs1 hP1 _ hS1 => kk H1 locs1 ?_ hS1)
  have e : (wD a cI cZ g f cd tc).set 1 (a 1, .inr (0, (pF g).set k v)) = wD a cI cZ g' f cd tc := by rw [hset]; simp only [wD, List.set_cons_zero, List.set_cons_succ, hdf]
  rw [← e]; exact hP1
variable {h : Nat → Int32} {ad : Nat} {i : Int32} {j : Nat} {x : Int32}
theorem arI (hx : p.tables.exec = Jvm.exec) (hb : c.code = cc) (hK : va_K G vwCl (tyIZ cI cZ) s) (hP : va_P G vwCl ws H) (q0 : Nat) (ha : ws[q0]? = some (ad, .inl (cI, 200, .inl h))) (hi : i = nI j) (hj : j < 200) (hdg : decode cc pc = .ok (.iaload, 1))
    (kk : W p l e R s m args below meth c H locs cells slots Q (F0 m (pc + 1) ls (.int (h j) :: rest))) : W p l e R s m args below meth c H locs cells slots Q (F0 m pc ls (.int i :: .ref ad :: rest)) := by
  subst hi
  refine va_iald hx hb hK hP q0 0 ha rfl (vp_in_nI hj (by decide)) hdg ?_
  rw [nI_clamp (Nat.lt_trans hj (by decide))]; exact kk
theorem arZ (hx : p.tables.exec = Jvm.exec) (hb : c.code = cc) (hK : va_K G vwCl (tyIZ cI cZ) s) (hP : va_P G vwCl ws H) (q0 : Nat) (ha : ws[q0]? = some (ad, .inl (cZ, 200, .inl h))) (hi : i = nI j) (hj : j < 200) (hdg : decode cc pc = .ok (.baload, 1))
    (kk : W p l e R s m args below meth c H locs cells slots Q (F0 m (pc + 1) ls (.int (h j) :: rest))) : W p l e R s m args below meth c H locs cells slots Q (F0 m pc ls (.int i :: .ref ad :: rest)) := by
  subst hi
  refine va_zald hx hb hK hP q0 1 ha rfl (vp_in_nI hj (by decide)) hdg ?_
  rw [nI_clamp (Nat.lt_trans hj (by decide))]; exact kk
theorem asI {A : Nat → Prop} {H0 : Heap} (ws' : va_W) (hx : p.tables.exec = Jvm.exec) (hb : c.code = cc) (hK : va_K G vwCl (tyIZ cI cZ) s) (hP : va_P G vwCl ws H) (hD : va_D A ws) (hS : va_S A H0 H locs) (q0 : Nat) (ha : ws[q0]? = some (ad, .inl (cI, 200, .inl h))) (hi : i = nI j) (hj : j < 200) (hset : ws.set q0 (ad, .inl (cI, 200, .inl (upd h j x))) = ws') (hdg : decode cc pc = .ok (.iastore, 1))
    (kk : ∀ (H1 : Heap) (locs1 : List Loc), va_P G vwCl ws' H1 → va_S A H0 H1 locs1 → W p l e R s m args below meth c H1 locs1 cells slots Q (F0 m (pc + 1) ls rest)) : W p l e R s m args below meth c H locs cells slots Q (F0 m pc ls (.int x :: .int i :: .ref ad :: rest)) := by
  subst hi; subst hset
  refine va_iast hx hb hK hP hD hS q0 0 ha rfl (vp_in_nI hj (by decide)) hdg (fun H1 locs1 hP1 _ hS1 => kk H1 locs1 ?_ hS1)
  rw [nI_clamp (Nat.lt_trans hj (by decide))] at hP1; exact hP1
theorem asZ {A : Nat → Prop} {H0 : Heap} (ws' : va_W) (hx : p.tables.exec = Jvm.exec) (hb : c.code = cc) (hK : va_K G vwCl (tyIZ cI cZ) s) (hP : va_P G vwCl ws H) (hD : va_D A ws) (hS : va_S A H0 H locs) (q0 : Nat) (ha : ws[q0]? = some (ad, .inl (cZ, 200, .inl h))) (hi : i = nI j) (hj : j < 200) (hv : vp_nar .boolean x = x) (hset : ws.set q0 (ad, .inl (cZ, 200, .inl (upd h j x))) = ws') (hdg : decode cc pc = .ok (.bastore, 1))
    (kk : ∀ (H1 : Heap) (locs1 : List Loc), va_P G vwCl ws' H1 → va_S A H0 H1 locs1 → W p l e R s m args below meth c H1 locs1 cells slots Q (F0 m (pc + 1) ls rest)) : W p l e R s m args below meth c H locs cells slots Q (F0 m pc ls (.int x :: .int i :: .ref ad :: rest)) := by
  subst hi; subst hset
  refine va_zast hx hb hK hP hD hS q0 1 ha rfl (vp_in_nI hj (by decide)) hdg (fun H1 locs1 hP1 _ hS1 => kk H1 locs1 ?_ hS1)
  rw [nI_clamp (Nat.lt_trans hj (by decide)), hv] at hP1; exact hP1
end Fields
end Walk
end
section
def bI (b : Bool) : Int32 := if b = true then 1 else 0
theorem bI0 {b : Bool} (h : bI b = 0) : b = false := by cases b <;> first | rfl | (exact absurd h (by decide))
theorem bIn {b : Bool} (h : ¬ bI b = 0) : b = true := by cases b <;> first | rfl | (exact absurd rfl h)
theorem bIr (b : Bool) : narrow .boolean (.int (bI b)) = .int (bI b) := by cases b <;> rfl
theorem bI_t : bI true = 1 := rfl
theorem bI_f : bI false = 0 := rfl
def isW (v lo hi : Int32) : Bool := !decide (v < lo) && !decide (hi < v)
def isI (i : Int32) : Bool := !decide (i < 0) && !decide (200 ≤ i)
def isF (g : Nat → Int32) (i : Int32) : Bool := isI i && !decide (g 7 ≤ i)
def barV (g : Nat → Int32) (d : Int32) : Int32 := (g 4 >>> ((d / 30 - d / 30 / 12 * 12) &&& 31)) &&& 1
def bar (g : Nat → Int32) (d : Int32) : Bool := !decide (barV g d = 0)
def hereI (g : Nat → Int32) (f : Nat → Nat → Int32) (i : Int32) : Bool := isF g i && (decide (f 1 i.toNatClampNeg = 1) || decide (f 1 i.toNatClampNeg = 2))
def hereB (g : Nat → Int32) (f : Nat → Nat → Int32) (k : Nat) : Bool := !decide (g 7 ≤ nI k) && (decide (f 1 k = 1) || decide (f 1 k = 2))
def lateB (g : Nat → Int32) (f : Nat → Nat → Int32) (k : Nat) : Bool := !decide (g 7 ≤ nI k) && decide (f 1 k = 0) && !decide (g 0 - f 0 k ≤ g 5)
def dueB (g : Nat → Int32) (f : Nat → Nat → Int32) (cd : Nat → Int32) (k : Nat) : Bool := decide (f 2 k = 0) || !decide (g 0 - cd k < g 6)
def rsB (g : Nat → Int32) (f : Nat → Nat → Int32) (k : Nat) : Bool := hereB g f k && !hereI g f (nI k - 1)
def cnt (p : Nat → Bool) : Nat → Nat
  | 0 => 0
  | n + 1 => cnt p n + (if p n = true then 1 else 0)
theorem cnt_t {p : Nat → Bool} {n : Nat} (h : p n = true) : cnt p (n + 1) = cnt p n + 1 := by simp [cnt, h]
theorem cnt_f {p : Nat → Bool} {n : Nat} (h : p n = false) : cnt p (n + 1) = cnt p n := by simp [cnt, h]
theorem cnt_le (p : Nat → Bool) : ∀ n, cnt p n ≤ n
  | 0 => Nat.le_refl _
  | n + 1 => by have := cnt_le p n; unfold cnt; split <;> omega
/-- the place of the k-th that is so, from i on (n places), s seen before -/
def scan (q : Nat → Bool) (k : Int32) : Nat → Nat → Nat → Int32
  | _, 0, _ => -1
  | i, n + 1, s => if q i = true then (if nI s = k then nI i else scan q k (i + 1) n (s + 1)) else scan q k (i + 1) n s
def eoR (g : Nat → Int32) (f : Nat → Nat → Int32) : Nat → Nat → Nat
  | 0, k => k
  | n + 1, k => if hereB g f (k + 1) = true then eoR g f n (k + 1) else k
theorem isI_nI {k : Nat} (h : k < 200) : isI (nI k) = true := by
  have h1 : ¬ nI k < 0 := nI_pos (by omega)
  have h2 : ¬ (200 : Int32) ≤ nI k := nI_ge (a := k) (b := 200) h (by decide)
  simp [isI, h1, h2]
theorem hereI_nI {g : Nat → Int32} {f : Nat → Nat → Int32} {k : Nat} (h : k < 200) : hereI g f (nI k) = hereB g f k := by
  simp [hereI, hereB, isF, isI_nI h, nI_clamp (show k < 2 ^ 31 by omega)]
theorem isI_of {i : Int32} (h : isI i = true) : ∃ k, k < 200 ∧ i = nI k := by
  simp only [isI, Bool.and_eq_true, Bool.not_eq_true', decide_eq_false_iff_not] at h
  rcases pk_ix i (n := 200) (by decide) with q | q | q
  · exact absurd q h.1
  · exact absurd q h.2
  · exact q
def volD (g : Nat → Int32) (i : Int32) : Int32 := if 1 ≤ g 2 then i / g 2 + 1 else -1
def numD (g : Nat → Int32) (i : Int32) : Int32 := if g 3 = 0 then i + 1 else if 1 ≤ g 2 then i - i / g 2 * g 2 + 1 else -1
end
section
theorem i_30 : (30 : Int32) = nI 30 := rfl
theorem i_12 : (12 : Int32) = nI 12 := rfl
theorem num_m : ∀ m, m < 32 → (((nI m) &&& 31).toBitVec.smod 32).toNat = m := by decide
theorem barV_nI {g : Nat → Int32} {K n : Nat} (hK : g 4 = nI K) (hk : K ≤ 4094) (hn : n < 2 ^ 30) : barV g (nI n) = nI (K / 2 ^ (n / 30 % 12) % 2) := by
  unfold barV
  have e1 : nI n / 30 = nI (n / 30) := by rw [i_30]; exact pk_div (by omega) (by decide) (by decide)
  have e2 : nI (n / 30) - nI (n / 30) / 12 * 12 = nI (n / 30 % 12) := by rw [i_12]; exact pk_rem (by omega) (by decide) (by decide)
  rw [e1, e2, hK, pk_shrN (by omega) _ (n / 30 % 12) (num_m _ (by omega))]
  have h2 : K / 2 ^ (n / 30 % 12) < 2 ^ 32 := Nat.lt_of_le_of_lt (Nat.div_le_self _ _) (by omega)
  exact pk_andN h2 1 (by decide)
theorem bar_nI {g : Nat → Int32} {K n : Nat} (hK : g 4 = nI K) (hk : K ≤ 4094) (hn : n < 2 ^ 30) : bar g (nI n) = decide (K / 2 ^ (n / 30 % 12) % 2 = 1) := by
  unfold bar
  rw [barV_nI hK hk hn]
  have h : K / 2 ^ (n / 30 % 12) % 2 = 0 ∨ K / 2 ^ (n / 30 % 12) % 2 = 1 := by omega
  rcases h with h | h <;> rw [h] <;> decide
theorem num_free (K : Nat) (h : K < 4095) : ∃ m, m < 12 ∧ K / 2 ^ m % 2 = 0 := by
  apply Classical.byContradiction
  intro hn
  have q : ∀ m, m < 12 → K / 2 ^ m % 2 = 1 := fun m hm => by
    rcases Nat.mod_two_eq_zero_or_one (K / 2 ^ m) with z | z
    · exact absurd ⟨m, hm, z⟩ hn
    · exact z
  have h0 := q 0 (by decide); have h1 := q 1 (by decide); have h2 := q 2 (by decide); have h3 := q 3 (by decide); have h4 := q 4 (by decide); have h5 := q 5 (by decide)
  have h6 := q 6 (by decide); have h7 := q 7 (by decide); have h8 := q 8 (by decide); have h9 := q 9 (by decide); have h10 := q 10 (by decide); have h11 := q 11 (by decide)
  simp only [Nat.reducePow, Nat.div_one] at h0 h1 h2 h3 h4 h5 h6 h7 h8 h9 h10 h11
  omega
def nxF (g : Nat → Int32) : Nat → Nat → Nat
  | 0, n => n
  | k + 1, n => if bar g (nI n) = true then nxF g k (n + 1) else n
def nx (g : Nat → Int32) (n : Nat) : Nat := nxF g 400 n
theorem nxF_eq {g : Nat → Int32} {r : Nat} (hr : bar g (nI r) = false) : ∀ (k n : Nat), n ≤ r → r < n + k → (∀ e, n ≤ e → e < r → bar g (nI e) = true) → nxF g k n = r
  | 0, n, h1, h2, h3 => by omega
  | k + 1, n, h1, h2, h3 => by
    unfold nxF
    by_cases q : n = r
    · subst q; rw [if_neg (by rw [hr]; decide)]
    · rw [if_pos (h3 n (Nat.le_refl _) (by omega))]
      exact nxF_eq hr k (n + 1) (by omega) (by omega) (fun e h4 h5 => h3 e (by omega) h5)
theorem nx_eq {g : Nat → Int32} {n r : Nat} (hr : bar g (nI r) = false) (h1 : n ≤ r) (h2 : r < n + 400) (h3 : ∀ e, n ≤ e → e < r → bar g (nI e) = true) : nx g n = r := nxF_eq hr 400 n h1 h2 h3
theorem nxF_le (g : Nat → Int32) : ∀ (k n : Nat), n ≤ nxF g k n ∧ nxF g k n ≤ n + k
  | 0, n => ⟨Nat.le_refl _, Nat.le_refl _⟩
  | k + 1, n => by
    unfold nxF
    have h := nxF_le g k (n + 1)
    split <;> omega
/-- from any day on, a day that is not barred comes within a year -/
theorem num_unbar {g : Nat → Int32} {K n : Nat} (hK : g 4 = nI K) (hk : K ≤ 4094) (hn : n < 2 ^ 29) : ∃ r, n ≤ r ∧ r < n + 360 ∧ bar g (nI r) = false := by
  obtain ⟨m, hm, h0⟩ := num_free K (by omega)
  by_cases q : n / 30 % 12 = m
  · refine ⟨n, Nat.le_refl _, by omega, ?_⟩
    rw [bar_nI hK hk (by omega), q, h0]; rfl
  · refine ⟨30 * (n / 30 + (m + 12 - n / 30 % 12) % 12), by omega, by omega, ?_⟩
    have e : 30 * (n / 30 + (m + 12 - n / 30 % 12) % 12) / 30 % 12 = m := by omega
    rw [bar_nI hK hk (by omega), e, h0]; rfl
def d0I (g : Nat → Int32) (b : Int32) : Int := max (b.toInt + (g 1).toInt + (g 8).toInt) (b.toInt + 1)
def d0N (g : Nat → Int32) (f : Nat → Nat → Int32) : Nat := (d0I g (f 0 ((g 7).toNatClampNeg - 1))).toNat
def nd (g : Nat → Int32) (f : Nat → Nat → Int32) : Int32 := nI (nx g (d0N g f))
def foreG (g : Nat → Int32) : Nat → Int32 := upd (upd g 8 0) 7 (g 7 + 1)
def foreF (g : Nat → Int32) (f : Nat → Nat → Int32) : Nat → Nat → Int32 := up2 f 0 (upd (f 0) (g 7).toNatClampNeg (nd g f))
def Inv (c : Nat) (g : Nat → Int32) (f : Nat → Nat → Int32) : Prop :=
  (∃ N, g 7 = nI N ∧ 1 ≤ N ∧ N ≤ 200 ∧ ∀ i, i < N → ∃ d, f 0 i = nI d ∧ d ≤ 9000 * (i + 1)) ∧ (∃ P, g 1 = nI P ∧ 1 ≤ P ∧ P ≤ 90) ∧ (∃ S, g 2 = nI S ∧ 1 ≤ S ∧ S ≤ 20) ∧ (∃ K, g 4 = nI K ∧ K ≤ 4094) ∧ (∃ D, g 0 = nI D ∧ D ≤ 7200) ∧
  (-(15 * (c : Int)) ≤ (g 8).toInt ∧ (g 8).toInt ≤ 15 * c) ∧ (∃ B, g 9 = nI B - 1 ∧ B ≤ 200 ∧ (B = 0 → g 11 = 0)) ∧ (0 ≤ (g 11).toInt ∧ (g 11).toInt ≤ c) ∧ (g 3 = 0 ∨ g 3 = 1) ∧ (∀ i, f 4 i = 0 ∨ f 4 i = 1)
theorem i_bm {z : Int} (h1 : -2147483648 ≤ z) (h2 : z < 2147483648) : z.bmod (2 ^ 32) = z := by
  rw [Int.bmod_eq_of_le (by omega) (by omega)]
theorem i_add {x y : Int32} (h1 : -2147483648 ≤ x.toInt + y.toInt) (h2 : x.toInt + y.toInt < 2147483648) : (x + y).toInt = x.toInt + y.toInt := by
  rw [Int32.toInt_add]; exact i_bm h1 h2
theorem i_sub {x y : Int32} (h1 : -2147483648 ≤ x.toInt - y.toInt) (h2 : x.toInt - y.toInt < 2147483648) : (x - y).toInt = x.toInt - y.toInt := by
  rw [Int32.toInt_sub]; exact i_bm h1 h2
theorem i_nat {x : Int32} {n : Nat} (h : x.toInt = n) : x = nI n := by
  have h2 : n < 2 ^ 31 := by have := Int32.toInt_lt x; omega
  exact Int32.toInt_inj.mp (by rw [h, nI_toInt h2])
/-- the day that comes before the months are looked at, told as the desk does and as the reference does -/
theorem d0_all {g : Nat → Int32} {d P c : Nat} {b : Int32} (hb : b = nI d) (hd : d ≤ 1800000) (hP : g 1 = nI P) (h1 : 1 ≤ P) (h2 : P ≤ 90) (hc : c ≤ 512) (hs : -(15 * (c : Int)) ≤ (g 8).toInt ∧ (g 8).toInt ≤ 15 * c) :
    (if b + g 1 + g 8 < b + 1 then b + 1 else b + g 1 + g 8) = nI (d0I g b).toNat ∧ ((b < b + g 1 + g 8 → b + g 1 + g 8 = nI (d0I g b).toNat) ∧ (¬ b < b + g 1 + g 8 → b + 1 = nI (d0I g b).toNat)) ∧ (d0I g b).toNat ≤ d + 7770 := by
  have eb : b.toInt = d := by rw [hb]; exact nI_toInt (by omega)
  have eP : (g 1).toInt = P := by rw [hP]; exact nI_toInt (by omega)
  have e1 : (b + g 1).toInt = d + P := by rw [i_add (by omega) (by omega)]; omega
  have e2 : (b + g 1 + g 8).toInt = d + P + (g 8).toInt := by rw [i_add (by omega) (by omega)]; omega
  have e9 : (1 : Int32).toInt = 1 := rfl
  have e3 : (b + 1).toInt = d + 1 := by rw [i_add (by omega) (by omega)]; omega
  have e0 : d0I g b = max ((d : Int) + P + (g 8).toInt) (d + 1) := by unfold d0I; rw [eb, eP]
  refine ⟨?_, ⟨fun h => ?_, fun h => ?_⟩, ?_⟩
  · split
    · rename_i h
      rw [Int32.lt_iff_toInt_lt, e2, e3] at h
      exact i_nat (by rw [e3, e0]; omega)
    · rename_i h
      rw [Int32.lt_iff_toInt_lt, e2, e3] at h
      exact i_nat (by rw [e2, e0]; omega)
  · rw [Int32.lt_iff_toInt_lt, e2, eb] at h
    exact i_nat (by rw [e2, e0]; omega)
  · rw [Int32.lt_iff_toInt_lt, e2, eb] at h
    exact i_nat (by rw [e3, e0]; omega)
  · rw [e0]; omega
theorem inv_N {c : Nat} {g : Nat → Int32} {f : Nat → Nat → Int32} (h : Inv c g f) : ∃ N, g 7 = nI N ∧ 1 ≤ N ∧ N ≤ 200 ∧ (g 7).toNatClampNeg = N ∧ ∀ i, i < N → ∃ d, f 0 i = nI d ∧ d ≤ 9000 * (i + 1) := by
  obtain ⟨N, h1, h2, h3, h4⟩ := h.1
  exact ⟨N, h1, h2, h3, by rw [h1]; exact nI_clamp (by omega), h4⟩
/-- what the next day's walk starts with -/
theorem inv_d0 {c : Nat} {g : Nat → Int32} {f : Nat → Nat → Int32} (hc : c ≤ 512) (h : Inv c g f) : ∃ N d, g 7 = nI N ∧ 1 ≤ N ∧ N ≤ 200 ∧ d0N g f = (d0I g (f 0 (N - 1))).toNat ∧ f 0 (N - 1) = nI d ∧ d ≤ 9000 * N ∧ d0N g f ≤ d + 7770 ∧
    (if f 0 (N - 1) + g 1 + g 8 < f 0 (N - 1) + 1 then f 0 (N - 1) + 1 else f 0 (N - 1) + g 1 + g 8) = nI (d0N g f) ∧ ((f 0 (N - 1) < f 0 (N - 1) + g 1 + g 8 → f 0 (N - 1) + g 1 + g 8 = nI (d0N g f)) ∧ (¬ f 0 (N - 1) < f 0 (N - 1) + g 1 + g 8 → f 0 (N - 1) + 1 = nI (d0N g f))) := by
  obtain ⟨N, e, h1, h2, h3, h4⟩ := inv_N h
  obtain ⟨P, p1, p2, p3⟩ := h.2.1
  obtain ⟨d, d1, d2⟩ := h4 (N - 1) (by omega)
  have hs := h.2.2.2.2.2.1
  have e0 : d0N g f = (d0I g (f 0 (N - 1))).toNat := by unfold d0N; rw [h3]
  have d2' : d ≤ 9000 * N := by rw [show N - 1 + 1 = N by omega] at d2; exact d2
  obtain ⟨q1, q2, q3⟩ := d0_all d1 (show d ≤ 1800000 by omega) p1 p2 p3 hc hs
  rw [← e0] at q1 q2 q3
  exact ⟨N, d, e, h1, h2, e0, d1, d2', q3, q1, q2⟩
theorem nd_le {c : Nat} {g : Nat → Int32} {f : Nat → Nat → Int32} (hc : c ≤ 512) (h : Inv c g f) : ∃ N d, g 7 = nI N ∧ nd g f = nI d ∧ d ≤ 9000 * (N + 1) := by
  obtain ⟨N, d, e, h1, h2, e0, d1, d2, q3, -⟩ := inv_d0 hc h
  have h5 := nxF_le g 400 (d0N g f)
  exact ⟨N, nx g (d0N g f), e, rfl, by unfold nx; omega⟩
theorem inv_fore {c : Nat} {g : Nat → Int32} {f : Nat → Nat → Int32} (hc : c ≤ 512) (h : Inv c g f) {N : Nat} (hN : g 7 = nI N) (hlt : N < 200) : Inv c (foreG g) (foreF g f) ∧ foreG g 7 = nI (N + 1) := by
  obtain ⟨N', e, h1, h2, h3, h4⟩ := inv_N h
  obtain ⟨N2, d2, e2, ed, h5⟩ := nd_le hc h
  have eN : N' = N := (nI_eq (by omega) (by omega)).mp (e.symm.trans hN)
  subst eN
  have e7 : foreG g 7 = nI (N' + 1) := by show g 7 + 1 = _; rw [e]; exact nI_1 _
  have hN2 : N2 ≤ 200 ∨ 200 < N2 := by omega
  have eN2 : nI N2 = nI N' := e2.symm.trans e
  obtain ⟨g1, g2, g3, g4, g5, g6, g7, g8, g9, g10⟩ := h
  refine ⟨⟨⟨N' + 1, e7, by omega, by omega, fun i hi => ?_⟩, g2, g3, g4, g5, ⟨by show -(15 * (c : Int)) ≤ (0 : Int32).toInt; have : (0 : Int32).toInt = 0 := rfl; omega, by show (0 : Int32).toInt ≤ 15 * (c : Int); have : (0 : Int32).toInt = 0 := rfl; omega⟩, g7, g8, g9, g10⟩, e7⟩
  show ∃ d, upd (f 0) (g 7).toNatClampNeg (nd g f) i = nI d ∧ d ≤ 9000 * (i + 1)
  rw [h3]
  by_cases q : i = N'
  · subst q
    obtain ⟨N3, d3, e3, hd3, h6⟩ := inv_d0 hc ⟨g1, g2, g3, g4, g5, g6, g7, g8, g9, g10⟩
    have eN3 : N3 = i := (nI_eq (by omega) (by omega)).mp (e3.symm.trans e)
    subst eN3
    refine ⟨nx g (d0N g f), by rw [pk_us]; rfl, ?_⟩
    have h7 := nxF_le g 400 (d0N g f)
    unfold nx; omega
  · obtain ⟨d, q1, q2⟩ := h4 i (by omega)
    exact ⟨d, by rw [pk_un q]; exact q1, q2⟩
theorem scan_step {q : Nat → Bool} {k : Int32} {i s : Nat} (h : i < 200) : scan q k i (200 - i) s = if q i = true then (if nI s = k then nI i else scan q k (i + 1) (200 - (i + 1)) (s + 1)) else scan q k (i + 1) (200 - (i + 1)) s := by
  rw [show 200 - i = (200 - (i + 1)) + 1 by omega]; rfl
def allR (p : Nat → Bool) : Nat → Nat → Bool
  | _, 0 => true
  | i, n + 1 => p i && allR p (i + 1) n
def firstR (q : Nat → Bool) : Nat → Nat → Int32
  | _, 0 => -1
  | i, n + 1 => if q i = true then nI i else firstR q (i + 1) n
def anyR (q : Nat → Bool) : Nat → Nat → Bool
  | _, 0 => false
  | i, n + 1 => q i || anyR q (i + 1) n
theorem allR_step {p : Nat → Bool} {i j : Nat} (h : i < j) : allR p i (j - i) = (p i && allR p (i + 1) (j - (i + 1))) := by
  rw [show j - i = (j - (i + 1)) + 1 by omega]; rfl
theorem anyR_step {p : Nat → Bool} {i j : Nat} (h : i < j) : anyR p i (j - i) = (p i || anyR p (i + 1) (j - (i + 1))) := by
  rw [show j - i = (j - (i + 1)) + 1 by omega]; rfl
theorem firstR_step {p : Nat → Bool} {i j : Nat} (h : i < j) : firstR p i (j - i) = if p i = true then nI i else firstR p (i + 1) (j - (i + 1)) := by
  rw [show j - i = (j - (i + 1)) + 1 by omega]; rfl
theorem eoR_step {g : Nat → Int32} {f : Nat → Nat → Int32} {i : Nat} (h : i < 199) : eoR g f (199 - i) i = if hereB g f (i + 1) = true then eoR g f (199 - (i + 1)) (i + 1) else i := by
  rw [show 199 - i = (199 - (i + 1)) + 1 by omega]; rfl
theorem allR_all {p : Nat → Bool} : ∀ (n i : Nat), allR p i n = true ↔ ∀ k, i ≤ k → k < i + n → p k = true
  | 0, i => ⟨fun _ k h1 h2 => by omega, fun _ => rfl⟩
  | n + 1, i => by
    unfold allR
    rw [Bool.and_eq_true, allR_all n (i + 1)]
    exact ⟨fun h k h1 h2 => by
      by_cases q : k = i
      · subst q; exact h.1
      · exact h.2 k (by omega) (by omega), fun h => ⟨h i (Nat.le_refl _) (by omega), fun k h1 h2 => h k (by omega) (by omega)⟩⟩
def opB (g : Nat → Int32) (f : Nat → Nat → Int32) (k : Nat) : Bool := decide (g 7 ≤ nI k) || decide (f 1 k = 0)
def foB (f : Nat → Nat → Int32) (k : Nat) : Bool := decide (f 1 k = 2) || decide (f 1 k = 3)
def okS (x : Int32) : Bool := !decide (x = 0) && isW x (-15) 15
theorem isF_nI {g : Nat → Int32} {k : Nat} (h : k < 200) : isF g (nI k) = !decide (g 7 ≤ nI k) := by simp [isF, isI_nI h]
theorem isF_t {g : Nat → Int32} {k : Nat} (h : k < 200) (q : isF g (nI k) = true) : ¬ g 7 ≤ nI k := by
  rw [isF_nI h] at q
  exact fun z => by rw [decide_eq_true z] at q; exact absurd q (by decide)
theorem isF_f {g : Nat → Int32} {k : Nat} (h : k < 200) (q : isF g (nI k) = false) : g 7 ≤ nI k := by
  rw [isF_nI h] at q
  exact Classical.byContradiction fun z => by rw [decide_eq_false z] at q; exact absurd q (by decide)
def hdB (g : Nat → Int32) (f : Nat → Nat → Int32) (x : Int32) (i : Nat) : Bool := rsB g f i && isW x (nI i) (nI (eoR g f (199 - i) i))
def fdB (g : Nat → Int32) (v n : Int32) (i : Nat) : Bool := decide (volD g (nI i) = v) && decide (numD g (nI i) = n)
theorem lt_pred {B i : Nat} (hB : B ≤ 200) (hi : i < 200) : nI B - 1 < nI i ↔ B ≤ i := by
  have e9 : (1 : Int32).toInt = 1 := rfl
  have e1 : (nI B - 1).toInt = B - 1 := by
    have e := nI_toInt (n := B) (by omega)
    rw [i_sub (by omega) (by omega)]; omega
  rw [Int32.lt_iff_toInt_lt, e1, nI_toInt (by omega)]
  omega
theorem ge_200 {i : Nat} (h : (200 : Int32) ≤ nI i) (hi : i ≤ 200) : i = 200 := by
  have := (nI_leI (a := 200) (b := i) (by decide) (by omega)).mp h; omega
theorem nge_200 {i : Nat} (h : ¬ (200 : Int32) ≤ nI i) (hi : i ≤ 200) : i < 200 := by
  rcases Nat.lt_or_ge i 200 with q | q
  · exact q
  · exact absurd ((nI_leI (a := 200) (b := i) (by decide) (by omega)).mpr q) h
theorem le_nI {a b : Nat} (ha : a < 1000) (hb : b < 1000) (h : nI a ≤ nI b) : a ≤ b := (nI_leI (by omega) (by omega)).mp h
theorem nle_nI {a b : Nat} (ha : a < 1000) (hb : b < 1000) (h : ¬ nI a ≤ nI b) : b < a := by
  rcases Nat.lt_or_ge b a with q | q
  · exact q
  · exact absurd ((nI_leI (by omega) (by omega)).mpr q) h
theorem lt_nI {a b : Nat} (ha : a < 1000) (hb : b < 1000) (h : nI a < nI b) : a < b := (nI_ltI (by omega) (by omega)).mp h
theorem nlt_nI {a b : Nat} (ha : a < 1000) (hb : b < 1000) (h : ¬ nI a < nI b) : b ≤ a := by
  rcases Nat.lt_or_ge a b with q | q
  · exact absurd ((nI_ltI (by omega) (by omega)).mpr q) h
  · exact q
theorem bar_same {g : Nat → Int32} {K d e : Nat} (hK : g 4 = nI K) (hk : K ≤ 4094) (hd : d < 2 ^ 29) (h1 : d ≤ e) (h2 : e < (d / 30 + 1) * 30) : bar g (nI e) = bar g (nI d) := by
  rw [bar_nI hK hk (by omega), bar_nI hK hk (by omega), show e / 30 = d / 30 by omega]
theorem bar_t {g : Nat → Int32} {K d : Nat} (hK : g 4 = nI K) (hk : K ≤ 4094) (hd : d < 2 ^ 29) (h : bar g (nI d) = true) : K / 2 ^ (d / 30 % 12) % 2 = 1 := by
  rw [bar_nI hK hk (by omega)] at h
  exact of_decide_eq_true h
/-- twelve months in a row can't all be barred -/
theorem bar_12 {K q : Nat} (hk : K ≤ 4094) (h : ∀ j, j < 12 → K / 2 ^ ((q + j) % 12) % 2 = 1) : False := by
  obtain ⟨m, hm, h0⟩ := num_free K (by omega)
  have h1 := h ((m + 12 - q % 12) % 12) (by omega)
  rw [show (q + (m + 12 - q % 12) % 12) % 12 = m by omega, h0] at h1
  exact absurd h1 (by decide)
theorem dv30 {d : Nat} (h : d < 2 ^ 29) : nI d / 30 = nI (d / 30) := by rw [i_30]; exact pk_div (by omega) (by decide) (by decide)
def itF : Nat → (Nat → Int32) × (Nat → Nat → Int32) → (Nat → Int32) × (Nat → Nat → Int32)
  | 0, s => s
  | n + 1, s => itF n (foreG s.1, foreF s.1 s.2)
def lkF : Nat → (Nat → Int32) × (Nat → Nat → Int32) → (Nat → Int32) × (Nat → Nat → Int32)
  | 0, s => s
  | n + 1, s => if s.1 0 < nd s.1 s.2 then s else lkF n (foreG s.1, foreF s.1 s.2)
def tkU (h : Nat → Int32) (F i : Nat) : Nat → Int32 := fun k => if F ≤ k ∧ k < i then (if k = F then 1 else 2) else h k
theorem tkU_0 (h : Nat → Int32) (F : Nat) : h = tkU h F F := by
  funext k; unfold tkU; rw [if_neg (by omega)]
theorem tkU_s (h : Nat → Int32) {F i : Nat} (hi : F ≤ i) (v : Int32) (hv : v = if i = F then 1 else 2) : upd (tkU h F i) i v = tkU h F (i + 1) := by
  funext k; unfold upd tkU
  by_cases q : k = i
  · subst q; rw [if_pos rfl, if_pos (by omega)]; exact hv
  · rw [if_neg q]
    by_cases q2 : F ≤ k ∧ k < i
    · rw [if_pos q2, if_pos (show F ≤ k ∧ k < i + 1 by omega)]
    · rw [if_neg q2, if_neg (by omega)]
def foD (g : Nat → Int32) (f : Nat → Nat → Int32) (i : Nat) : Bool := decide ((g 9 + 1).toNatClampNeg ≤ i) && allR (foB f) (g 9 + 1).toNatClampNeg (i - (g 9 + 1).toNatClampNeg)
def rowD (g : Nat → Int32) (f : Nat → Nat → Int32) (i : Nat) : Int32 := if g 0 - f 0 i = g 10 ∧ foD g f i = true then g 11 + 1 else 1
def cntG (g : Nat → Int32) (t r : Int32) (i : Nat) : Nat → Int32 := if r < 3 ∨ okS t = false then upd (upd (upd g 11 r) 10 t) 9 (nI i) else upd (upd (upd (upd g 11 0) 10 t) 9 (nI i)) 8 (g 8 + t)
theorem inv_B {c : Nat} {g : Nat → Int32} {f : Nat → Nat → Int32} (h : Inv c g f) : ∃ B, g 9 = nI B - 1 ∧ B ≤ 200 ∧ (B = 0 → g 11 = 0) ∧ g 9 + 1 = nI B ∧ (g 9 + 1).toNatClampNeg = B := by
  obtain ⟨B, h1, h2, h3⟩ := h.2.2.2.2.2.2.1
  have e : g 9 + 1 = nI B := by rw [h1]; exact Int32.sub_add_cancel _ _
  exact ⟨B, h1, h2, h3, e, by rw [e]; exact nI_clamp (by omega)⟩
theorem lkF_step (n : Nat) (g : Nat → Int32) (f : Nat → Nat → Int32) : lkF (n + 1) (g, f) = if g 0 < nd g f then (g, f) else lkF n (foreG g, foreF g f) := rfl
theorem itF_step (n : Nat) (g : Nat → Int32) (f : Nat → Nat → Int32) : itF (n + 1) (g, f) = itF n (foreG g, foreF g f) := rfl
end
section
def NN (g : Nat → Int32) : Prop := ∃ N, g 7 = nI N ∧ 1 ≤ N ∧ N ≤ 200
theorem inv_NN {c : Nat} {g : Nat → Int32} {f : Nat → Nat → Int32} (h : Inv c g f) : NN g := by
  obtain ⟨N, h1, h2, h3, -⟩ := h.1; exact ⟨N, h1, h2, h3⟩
theorem isW_I (x : Int32) : isW x 0 199 = isI x := by
  have e : ((199 : Int32) < x) ↔ ((200 : Int32) ≤ x) := by
    rw [Int32.lt_iff_toInt_lt, Int32.le_iff_toInt_le]
    have h1 : (199 : Int32).toInt = 199 := rfl
    have h2 : (200 : Int32).toInt = 200 := rfl
    omega
  simp only [isW, isI, decide_eq_decide.mpr e]
theorem isW_F {g : Nat → Int32} (h : NN g) (x : Int32) : isW x 0 (g 7 - 1) = isF g x := by
  obtain ⟨N, e, h1, h2⟩ := h
  have e1 : g 7 - 1 = nI (N - 1) := by rw [e]; exact pk_sub (b := 1) h1
  have e3 : (nI (N - 1)).toInt = N - 1 := by rw [nI_toInt (by omega)]; omega
  have e4 : (nI N).toInt = N := nI_toInt (by omega)
  have h3 : (200 : Int32).toInt = 200 := rfl
  have q1 : (g 7 - 1 < x) ↔ ((200 : Int32) ≤ x ∨ g 7 ≤ x) := by
    rw [e1, e, Int32.lt_iff_toInt_lt, Int32.le_iff_toInt_le, Int32.le_iff_toInt_le, e3, e4, h3]; omega
  unfold isW isF isI
  by_cases a : (200 : Int32) ≤ x <;> by_cases b : g 7 ≤ x <;> simp [q1, a, b]
theorem and1 (x : Int32) : x &&& 1 = 0 ∨ x &&& 1 = 1 := by
  obtain ⟨j, hj, e⟩ := pk_andE x (m := 1) 1 (by decide)
  rw [e]
  rcases (show j = 0 ∨ j = 1 by omega) with q | q <;> subst q
  · exact Or.inl rfl
  · exact Or.inr rfl
def lateM (g : Nat → Int32) (f : Nat → Nat → Int32) (k : Nat) : Bool := decide (f 1 k = 0) && !decide (g 0 - f 0 k ≤ g 5)
theorem lateB_in {g : Nat → Int32} {f : Nat → Nat → Int32} {k : Nat} (h : ¬ g 7 ≤ nI k) : lateB g f k = lateM g f k := by simp only [lateB, lateM, decide_eq_false h]; rfl
theorem lateB_out {g : Nat → Int32} {f : Nat → Nat → Int32} {k : Nat} (h : g 7 ≤ nI k) : lateB g f k = false := by simp only [lateB, decide_eq_true h]; rfl
theorem hereB_out {g : Nat → Int32} {f : Nat → Nat → Int32} {k : Nat} (h : g 7 ≤ nI k) : hereB g f k = false := by simp only [hereB, decide_eq_true h]; rfl
theorem rsB_out {g : Nat → Int32} {f : Nat → Nat → Int32} {k : Nat} (h : g 7 ≤ nI k) : rsB g f k = false := by simp only [rsB, hereB_out h]; rfl
theorem cnt_cut {p : Nat → Bool} {N : Nat} : ∀ d, (∀ k, N ≤ k → k < N + d → p k = false) → cnt p (N + d) = cnt p N
  | 0, _ => rfl
  | d + 1, h => by
    rw [← Nat.add_assoc, cnt_f (h (N + d) (by omega) (by omega))]
    exact cnt_cut d (fun k h1 h2 => h k h1 (by omega))
theorem cnt_200 {p : Nat → Bool} {N : Nat} (hN : N ≤ 200) (h : ∀ k, N ≤ k → k < 200 → p k = false) : cnt p 200 = cnt p N := by
  have e := cnt_cut (p := p) (N := N) (200 - N) (fun k h1 h2 => h k h1 (by omega))
  rw [show N + (200 - N) = 200 by omega] at e
  exact e
def foM (g : Nat → Int32) (f : Nat → Nat → Int32) (i : Nat) : Bool := !decide (g 9 = -1) && (!decide (nI i ≤ g 9) && allR (foB f) (g 9 + 1).toNatClampNeg (i - (g 9 + 1).toNatClampNeg))
def rowM (g : Nat → Int32) (f : Nat → Nat → Int32) (i : Nat) : Int32 := if ¬ g 11 ≤ 0 ∧ foM g f i = true ∧ g 0 - f 0 i = g 10 then g 11 + 1 else 1
theorem row_eq {c : Nat} {g : Nat → Int32} {f : Nat → Nat → Int32} {i : Nat} (h : Inv c g f) (hi : i < 200) : rowM g f i = rowD g f i := by
  obtain ⟨B, b1, b2, b3, b4, b5⟩ := inv_B h
  have hr := h.2.2.2.2.2.2.2.1
  by_cases z : g 11 ≤ 0
  · have e0 : g 11 = 0 := by
      have z2 := Int32.le_iff_toInt_le.mp z
      have : (0 : Int32).toInt = 0 := rfl
      exact Int32.toInt_inj.mp (by omega)
    unfold rowM rowD
    rw [if_neg (by simp [z])]
    rw [e0]
    split <;> rfl
  · have hB : B ≠ 0 := fun q => z (by rw [b3 q]; exact Int32.le_refl 0)
    have h9 : ¬ g 9 = -1 := by
      intro q
      rw [q] at b4
      have : nI B = nI 0 := b4.symm
      exact hB ((nI_eq (by omega) (by omega)).mp this)
    have e1 : (¬ nI i ≤ g 9) ↔ B ≤ i := by rw [Int32.not_le, b1]; exact lt_pred b2 hi
    have e2 : foM g f i = foD g f i := by
      unfold foM foD
      rw [b5, decide_eq_false h9]
      by_cases q : B ≤ i
      · rw [decide_eq_false (e1.mpr q), decide_eq_true q]; rfl
      · rw [decide_eq_true (Classical.not_not.mp (fun z => q (e1.mp z))), decide_eq_false q]; rfl
    unfold rowM rowD
    rw [e2]
    by_cases q : g 0 - f 0 i = g 10 <;> by_cases q2 : foD g f i = true <;> simp [z, q, q2]
def lastR (q : Nat → Bool) : Nat → Int32
  | 0 => -1
  | k + 1 => if q k = true then nI k else lastR q k
/-- one issue is as late as can be once only -/
theorem last_first {q : Nat → Bool} (hu : ∀ i j, i < 200 → j < 200 → q i = true → q j = true → i = j) : ∀ (n i : Nat), i + n = 200 → (∀ k, k < i → q k = false) → firstR q i n = lastR q 200 := by
  have none : ∀ m, m ≤ 200 → (∀ k, k < m → q k = false) → lastR q m = -1 := by
    intro m
    induction m with
    | zero => intro _ _; rfl
    | succ m ih => intro hm h; unfold lastR; rw [if_neg (by rw [h m (Nat.lt_succ_self m)]; decide)]; exact ih (by omega) (fun k hk => h k (by omega))
  have one : ∀ i, i < 200 → q i = true → ∀ m, i < m → m ≤ 200 → lastR q m = nI i := by
    intro i hi hq m
    induction m with
    | zero => intro h _; omega
    | succ m ih =>
      intro h1 h2
      unfold lastR
      by_cases z : q m = true
      · rw [if_pos z, hu m i (by omega) hi z hq]
      · rw [if_neg z]
        have : m ≠ i := fun e => z (e ▸ hq)
        exact ih (by omega) (by omega)
  intro n
  induction n with
  | zero => intro i h1 h2; rw [none 200 (Nat.le_refl _) (fun k hk => h2 k (by omega))]; rfl
  | succ n ih =>
    intro i h1 h2
    unfold firstR
    by_cases z : q i = true
    · rw [if_pos z, one i (by omega) z 200 (by omega) (Nat.le_refl _)]
    · rw [if_neg z]
      exact ih (i + 1) (by omega) (fun k hk => by
        by_cases e : k = i
        · subst e; exact Bool.eq_false_iff.mpr z
        · exact h2 k (by omega))
def inPat (g : Nat → Int32) : Prop := (∃ S, g 2 = nI S ∧ 1 ≤ S ∧ S ≤ 20) ∧ (g 3 = 0 ∨ g 3 = 1)
theorem inv_pat {c : Nat} {g : Nat → Int32} {f : Nat → Nat → Int32} (h : Inv c g f) : inPat g := ⟨h.2.2.1, h.2.2.2.2.2.2.2.2.1⟩
theorem pat_1 {g : Nat → Int32} (h : inPat g) : (1 : Int32) ≤ g 2 := by
  obtain ⟨S, e, h1, h2⟩ := h.1
  rw [e]; exact nI_le (a := 1) h1 (by omega)
theorem div_S {S k : Nat} (h1 : 1 ≤ S) (h2 : S ≤ 20) (hk : k < 200) : nI k / nI S = nI (k / S) ∧ nI k - nI k / nI S * nI S = nI (k % S) := ⟨pk_div (by omega) h1 (by omega), pk_rem (by omega) h1 (by omega)⟩
theorem fd_one {g : Nat → Int32} (h : inPat g) {v n : Int32} : ∀ i j, i < 200 → j < 200 → fdB g v n i = true → fdB g v n j = true → i = j := by
  intro i j hi hj h1 h2
  obtain ⟨S, e, s1, s2⟩ := h.1
  simp only [fdB, Bool.and_eq_true, decide_eq_true_eq] at h1 h2
  have ev := h1.1.trans h2.1.symm
  have en := h1.2.trans h2.2.symm
  have p1 := pat_1 h
  obtain ⟨a1, a2⟩ := div_S s1 s2 hi
  obtain ⟨b1, b2⟩ := div_S s1 s2 hj
  unfold volD at ev
  unfold numD at en
  rw [if_pos p1, if_pos p1, e, a1, b1, nI_1, nI_1] at ev
  have ev2 := (nI_eq (by have := Nat.div_le_self i S; omega) (by have := Nat.div_le_self j S; omega)).mp ev
  by_cases z : g 3 = 0
  · rw [if_pos z, if_pos z, nI_1, nI_1] at en
    have := (nI_eq (by omega) (by omega)).mp en
    omega
  · rw [if_neg z, if_neg z, if_pos p1, if_pos p1, e, a2, b2, nI_1, nI_1] at en
    have m1 := Nat.mod_lt i (show S > 0 by omega)
    have m2 := Nat.mod_lt j (show S > 0 by omega)
    have en2 := (nI_eq (by omega) (by omega)).mp en
    have d1 := Nat.div_add_mod i S
    have d2 := Nat.div_add_mod j S
    have q1 : i / S = j / S := by omega
    have q2 : i % S = j % S := by omega
    rw [← d1, ← d2, q1, q2]
end
section
theorem isW_nI {x : Int32} {a b : Nat} (hb : b < 10000) (ha : a ≤ 1) (h : isW x (nI a) (nI b) = true) : ∃ k, a ≤ k ∧ k ≤ b ∧ x = nI k := by
  simp only [isW, Bool.and_eq_true, Bool.not_eq_true', decide_eq_false_iff_not] at h
  have h0 : ¬ x < 0 := by
    intro q
    refine h.1 ?_
    rw [Int32.lt_iff_toInt_lt] at q ⊢
    rw [nI_toInt (by omega)]
    have : (0 : Int32).toInt = 0 := rfl
    omega
  obtain ⟨k, hk, e⟩ := nI_of h0
  subst e
  refine ⟨k, ?_, ?_, rfl⟩
  · rcases Nat.lt_or_ge k a with q | q
    · exact absurd (nI_lt q (by omega)) h.1
    · exact q
  · rcases Nat.lt_or_ge b k with q | q
    · exact absurd (nI_lt q (by omega)) h.2
    · exact q
def okSP (p0 p1 p3 : Int32) : Bool := isW p0 1 90 && (isW p1 1 20 && isW p3 0 4094)
def gSP (g : Nat → Int32) (p0 p1 p2 p3 : Int32) : Nat → Int32 := upd (upd (upd (upd g 1 p0) 2 p1) 3 p2) 4 p3
theorem inv_SP {c : Nat} {g : Nat → Int32} {f : Nat → Nat → Int32} {p0 p1 p2 p3 : Int32} (h : Inv c g f) (ho : okSP p0 p1 p3 = true) (h2 : p2 = 0 ∨ p2 = 1) : Inv c (gSP g p0 p1 p2 p3) f := by
  obtain ⟨g1, g2, g3, g4, g5, g6, g7, g8, g9, g10⟩ := h
  simp only [okSP, Bool.and_eq_true] at ho
  obtain ⟨P, p1, p2', p3'⟩ := isW_nI (a := 1) (b := 90) (by decide) (by decide) ho.1
  obtain ⟨S, s1, s2, s3⟩ := isW_nI (a := 1) (b := 20) (by decide) (by decide) ho.2.1
  obtain ⟨K, k1, k2, k3⟩ := isW_nI (a := 0) (b := 4094) (by decide) (by decide) ho.2.2
  exact ⟨g1, ⟨P, p3', p1, p2'⟩, ⟨S, s3, s1, s2⟩, ⟨K, k3, k2⟩, g5, g6, g7, g8, h2, g10⟩
def lkS (g : Nat → Int32) (f : Nat → Nat → Int32) : (Nat → Int32) × (Nat → Nat → Int32) := lkF (200 - (g 7).toNatClampNeg) (g, f)
def okSC (p0 p1 : Int32) : Bool := isW p0 0 100 && isW p1 1 100
theorem inv_SC {c : Nat} {g : Nat → Int32} {f : Nat → Nat → Int32} {p0 p1 : Int32} (h : Inv c g f) : Inv c (upd (upd g 5 p0) 6 p1) f := h
def thA (g : Nat → Int32) (p0 : Int32) : Int32 := if isW p0 1 400 = false then 1 else if 7200 < g 0 + p0 then 2 else 0
theorem inv_A {c : Nat} {g : Nat → Int32} {f : Nat → Nat → Int32} {p0 : Int32} (h : Inv c g f) (h1 : isW p0 1 400 = true) (h2 : ¬ 7200 < g 0 + p0) : Inv c (upd g 0 (g 0 + p0)) f := by
  obtain ⟨g1, g2, g3, g4, g5, g6, g7, g8, g9, g10⟩ := h
  obtain ⟨P, p1, p2, p3⟩ := isW_nI (a := 1) (b := 400) (by decide) (by decide) h1
  obtain ⟨D, d1, d2⟩ := g5
  have e : g 0 + p0 = nI (D + P) := by rw [d1, p3]; exact nI_add _ _
  have hD : D + P ≤ 7200 := by
    rcases Nat.lt_or_ge 7200 (D + P) with q | q
    · exact absurd (by rw [e]; exact nI_lt (a := 7200) q (by omega)) h2
    · exact q
  exact ⟨g1, g2, g3, g4, ⟨D + P, e, hD⟩, g6, g7, g8, g9, g10⟩
theorem lkF_inv {c : Nat} (hc : c ≤ 512) : ∀ (n : Nat) (g : Nat → Int32) (f : Nat → Nat → Int32) (N : Nat), g 7 = nI N → N + n ≤ 200 → Inv c g f → Inv c (lkF n (g, f)).1 (lkF n (g, f)).2
  | 0, g, f, N, _, _, h => h
  | n + 1, g, f, N, hN, hl, h => by
    rw [lkF_step]
    split
    · exact h
    · obtain ⟨h1, h2⟩ := inv_fore hc h hN (by omega)
      exact lkF_inv hc n _ _ (N + 1) h2 (by omega) h1
theorem lkS_inv {c : Nat} {g : Nat → Int32} {f : Nat → Nat → Int32} (hc : c ≤ 512) (h : Inv c g f) : Inv c (lkS g f).1 (lkS g f).2 := by
  obtain ⟨N, h1, h2, h3, h4, -⟩ := inv_N h
  unfold lkS
  rw [h4]
  exact lkF_inv hc _ g f N h1 (by omega) h
theorem itF_inv {c : Nat} (hc : c ≤ 512) : ∀ (n : Nat) (g : Nat → Int32) (f : Nat → Nat → Int32) (N : Nat), g 7 = nI N → N + n ≤ 200 → Inv c g f → Inv c (itF n (g, f)).1 (itF n (g, f)).2 ∧ (itF n (g, f)).1 7 = nI (N + n)
  | 0, g, f, N, hN, _, h => ⟨h, hN⟩
  | n + 1, g, f, N, hN, hl, h => by
    rw [itF_step]
    obtain ⟨h1, h2⟩ := inv_fore hc h hN (by omega)
    have := itF_inv hc n _ _ (N + 1) h2 (by omega) h1
    rw [show N + 1 + n = N + (n + 1) by omega] at this
    exact this
theorem inv_mono {c d : Nat} {g : Nat → Int32} {f : Nat → Nat → Int32} (h : Inv c g f) (hcd : c ≤ d) : Inv d g f := by
  obtain ⟨g1, g2, g3, g4, g5, g6, g7, g8, g9, g10⟩ := h
  exact ⟨g1, g2, g3, g4, g5, by omega, g7, by omega, g9, g10⟩
/-- rows that the invariant doesn't speak of may change -/
theorem inv_row {c : Nat} {g : Nat → Int32} {f f' : Nat → Nat → Int32} (h : Inv c g f) (h0 : f' 0 = f 0) (h4 : f' 4 = f 4) : Inv c g f' := by
  obtain ⟨g1, g2, g3, g4, g5, g6, g7, g8, g9, g10⟩ := h
  exact ⟨by rw [h0]; exact g1, g2, g3, g4, g5, g6, g7, g8, g9, by rw [h4]; exact g10⟩
theorem okS_rng {x : Int32} (h : okS x = true) : -15 ≤ x.toInt ∧ x.toInt ≤ 15 := by
  simp only [okS, isW, Bool.and_eq_true, Bool.not_eq_true', decide_eq_false_iff_not] at h
  have h1 := h.2.1
  have h2 := h.2.2
  rw [Int32.lt_iff_toInt_lt] at h1 h2
  have e1 : (-15 : Int32).toInt = -15 := rfl
  have e2 : (15 : Int32).toInt = 15 := rfl
  omega
theorem inv_cnt {c : Nat} {g : Nat → Int32} {f : Nat → Nat → Int32} (hc : c < 512) (h : Inv c g f) {t : Int32} {i : Nat} (hi : i < 200) : Inv (c + 1) (cntG g t (rowD g f i) i) f := by
  obtain ⟨g1, g2, g3, g4, g5, g6, g7, g8, g9, g10⟩ := h
  have e0 : (0 : Int32).toInt = 0 := rfl
  have e1 : (1 : Int32).toInt = 1 := rfl
  have hr : 0 ≤ (rowD g f i).toInt ∧ (rowD g f i).toInt ≤ ((c + 1 : Nat) : Int) := by
    unfold rowD
    split
    · rw [i_add (by omega) (by omega)]; omega
    · omega
  have hb : ∃ B, nI i = nI B - 1 ∧ B ≤ 200 ∧ (B = 0 → ∀ z : Int32, z = 0) := ⟨i + 1, by rw [← nI_1]; exact (Int32.add_sub_cancel _ _).symm, by omega, by omega⟩
  obtain ⟨B, b1, b2, b3⟩ := hb
  unfold cntG
  split
  · exact ⟨g1, g2, g3, g4, g5, ⟨by show _ ≤ (g 8).toInt; omega, by show (g 8).toInt ≤ _; omega⟩, ⟨B, b1, b2, fun q => b3 q _⟩, hr, g9, g10⟩
  · rename_i hq
    have ho : okS t = true := by cases z : okS t with | true => rfl | false => exact absurd (Or.inr z) hq
    have hs := okS_rng ho
    have e8 : (g 8 + t).toInt = (g 8).toInt + t.toInt := i_add (by omega) (by omega)
    exact ⟨g1, g2, g3, g4, g5, ⟨by show _ ≤ (g 8 + t).toInt; omega, by show (g 8 + t).toInt ≤ _; omega⟩, ⟨B, b1, b2, fun _ => rfl⟩, ⟨by show 0 ≤ (0 : Int32).toInt; omega, by show (0 : Int32).toInt ≤ _; omega⟩, g9, g10⟩
def ciM (g : Nat → Int32) (f : Nat → Nat → Int32) (i j : Nat) : (Nat → Int32) × (Nat → Nat → Int32) := itF (i + j + 1 - (g 7).toNatClampNeg) (g, f)
def ciS (g : Nat → Int32) (f : Nat → Nat → Int32) (i j : Nat) : (Nat → Int32) × (Nat → Nat → Int32) :=
  lkS (cntG (ciM g f i j).1 ((ciM g f i j).1 0 - (ciM g f i j).2 0 i) (rowD (ciM g f i j).1 (ciM g f i j).2 i) i) (up2 (ciM g f i j).2 1 (tkU ((ciM g f i j).2 1) i (i + j + 1)))
theorem foD_tk (g : Nat → Int32) (f : Nat → Nat → Int32) (i e : Nat) : foD g (up2 f 1 (tkU (f 1) i e)) i = foD g f i := by
  unfold foD
  by_cases q : (g 9 + 1).toNatClampNeg ≤ i
  · congr 1
    generalize (g 9 + 1).toNatClampNeg = B at q ⊢
    have key : ∀ n B, B + n ≤ i → allR (foB (up2 f 1 (tkU (f 1) i e))) B n = allR (foB f) B n := by
      intro n
      induction n with
      | zero => intro B _; rfl
      | succ n ih =>
        intro B hB
        unfold allR
        rw [ih (B + 1) (by omega)]
        congr 1
        show (decide (tkU (f 1) i e B = 2) || decide (tkU (f 1) i e B = 3)) = _
        have : tkU (f 1) i e B = f 1 B := by unfold tkU; rw [if_neg (by omega)]
        rw [this]; rfl
    exact key _ _ (by omega)
  · rw [decide_eq_false q]; rfl
theorem rowD_tk (g : Nat → Int32) (f : Nat → Nat → Int32) (i e : Nat) : rowD g (up2 f 1 (tkU (f 1) i e)) i = rowD g f i := by
  unfold rowD; rw [foD_tk]; rfl
theorem ciM_inv {c : Nat} {g : Nat → Int32} {f : Nat → Nat → Int32} {i j : Nat} (hc : c ≤ 512) (h : Inv c g f) (hij : i + j < 200) : Inv c (ciM g f i j).1 (ciM g f i j).2 ∧ ∃ M, (ciM g f i j).1 7 = nI M ∧ i + j < M ∧ M ≤ 200 := by
  obtain ⟨N, h1, h2, h3, h4, -⟩ := inv_N h
  unfold ciM
  rw [h4]
  obtain ⟨q1, q2⟩ := itF_inv hc (i + j + 1 - N) g f N h1 (by omega) h
  exact ⟨q1, _, q2, by omega, by omega⟩
theorem ciS_inv {c : Nat} {g : Nat → Int32} {f : Nat → Nat → Int32} {i j : Nat} (hc : c < 512) (h : Inv c g f) (hij : i + j < 200) : Inv (c + 1) (ciS g f i j).1 (ciS g f i j).2 := by
  have h1 := (ciM_inv (i := i) (j := j) (by omega) h hij).1
  exact lkS_inv (by omega) (inv_row (inv_cnt hc h1 (by omega)) rfl rfl)
/-- a round: who is claimed or given up -/
def rdB (g : Nat → Int32) (f : Nat → Nat → Int32) (k : Nat) : Bool := lateB g f k && dueB g f (f 3) k
def clB (f : Nat → Nat → Int32) (k : Nat) : Bool := !decide (3 ≤ f 2 k)
def rd1 (g : Nat → Int32) (f : Nat → Nat → Int32) (i : Nat) : Nat → Int32 := fun k => if k < i ∧ rdB g f k = true ∧ clB f k = false then 3 else f 1 k
def rd2 (g : Nat → Int32) (f : Nat → Nat → Int32) (i : Nat) : Nat → Int32 := fun k => if k < i ∧ rdB g f k = true ∧ clB f k = true then f 2 k + 1 else f 2 k
def rd3 (g : Nat → Int32) (f : Nat → Nat → Int32) (i : Nat) : Nat → Int32 := fun k => if k < i ∧ rdB g f k = true then g 0 else f 3 k
def rdc (g : Nat → Int32) (f : Nat → Nat → Int32) (cd : Nat → Int32) (i : Nat) : Nat → Int32 := fun k => if k < i ∧ rdB g f k = true ∧ clB f k = true then g 0 else cd k
def rdF (g : Nat → Int32) (f : Nat → Nat → Int32) (i : Nat) : Nat → Nat → Int32 := up2 (up2 (up2 f 1 (rd1 g f i)) 2 (rd2 g f i)) 3 (rd3 g f i)
def rdN (g : Nat → Int32) (f : Nat → Nat → Int32) (i : Nat) : Nat := cnt (fun k => rdB g f k && clB f k) i
theorem w_step {h h' : Nat → Int32} {i : Nat} {v : Int32} (e1 : h' i = v) (e2 : ∀ k, k ≠ i → h' k = h k) : upd h i v = h' := by
  funext k; unfold upd
  by_cases q : k = i
  · rw [if_pos q, q, e1]
  · rw [if_neg q, e2 k q]
theorem w_same {h h' : Nat → Int32} (e : ∀ k, h' k = h k) : h = h' := by funext k; exact (e k).symm
theorem lt_ne {k i : Nat} (h : k ≠ i) : (k < i + 1) = (k < i) := propext ⟨fun q => by omega, fun q => by omega⟩
def CD (f : Nat → Nat → Int32) (cd : Nat → Int32) : Prop := ∀ k, k < 200 → f 1 k = 0 → cd k = f 3 k
theorem due_CD {g : Nat → Int32} {f : Nat → Nat → Int32} {cd : Nat → Int32} {k : Nat} (h : CD f cd) (hk : k < 200) (hl : lateB g f k = true) : dueB g f cd k = dueB g f (f 3) k := by
  have h0 : f 1 k = 0 := by simp only [lateB, Bool.and_eq_true, decide_eq_true_eq] at hl; exact hl.1.2
  unfold dueB; rw [h k hk h0]
theorem CD_rd {g : Nat → Int32} {f : Nat → Nat → Int32} {cd : Nat → Int32} (h : CD f cd) : CD (rdF g f 200) (rdc g f cd 200) := by
  intro k hk h0
  have h1 : rd1 g f 200 k = 0 := h0
  show rdc g f cd 200 k = rd3 g f 200 k
  unfold rd1 at h1
  unfold rdc rd3
  by_cases q : rdB g f k = true
  · by_cases q2 : clB f k = true
    · rw [if_pos ⟨hk, q, q2⟩, if_pos ⟨hk, q⟩]
    · rw [if_pos ⟨hk, q, Bool.eq_false_iff.mpr q2⟩] at h1; exact absurd h1 (by decide)
  · rw [if_neg (fun z => q z.2.1)] at h1
    rw [if_neg (fun z => q z.2.1), if_neg (fun z => q z.2)]
    exact h k hk h1
theorem rdB_out {g : Nat → Int32} {f : Nat → Nat → Int32} {k : Nat} (h : g 7 ≤ nI k) : rdB g f k = false := by unfold rdB; rw [lateB_out h]; rfl
theorem rd_cut {g : Nat → Int32} {f : Nat → Nat → Int32} {N : Nat} (hN : g 7 = nI N) (h2 : N ≤ 200) : rdF g f N = rdF g f 200 ∧ rdN g f N = rdN g f 200 := by
  have key : ∀ k, (k < N ∧ rdB g f k = true) = (k < 200 ∧ rdB g f k = true) := fun k => propext ⟨fun q => ⟨by omega, q.2⟩, fun q => ⟨by
    rcases Nat.lt_or_ge k N with z | z
    · exact z
    · rw [rdB_out (by rw [hN]; exact nI_le z (by omega))] at q; exact absurd q.2 (by decide), q.2⟩⟩
  have e1 : rd1 g f N = rd1 g f 200 := by funext k; unfold rd1; simp only [← and_assoc, key k]
  have e2 : rd2 g f N = rd2 g f 200 := by funext k; unfold rd2; simp only [← and_assoc, key k]
  have e3 : rd3 g f N = rd3 g f 200 := by funext k; unfold rd3; simp only [key k]
  refine ⟨by unfold rdF; rw [e1, e2, e3], ?_⟩
  unfold rdN
  exact (cnt_200 h2 (fun k h3 h4 => by rw [rdB_out (by rw [hN]; exact nI_le h3 (by omega))]; rfl)).symm
end
section
theorem lastR_t {q : Nat → Bool} {i : Nat} (h : q i = true) : lastR q (i + 1) = nI i := by unfold lastR; rw [if_pos h]
theorem lastR_f {q : Nat → Bool} {i : Nat} (h : q i = false) : lastR q (i + 1) = lastR q i := by rw [lastR, if_neg (by rw [h]; decide)]
def askT (g : Nat → Int32) (p : Int32) : Int32 := if isF g p = true then 0 else 1
def askV (g : Nat → Int32) (h : Nat → Int32) (p : Int32) : Int32 := if isF g p = true then h p.toNatClampNeg else 0
theorem isF_k {g : Nat → Int32} {p : Int32} (h : isF g p = true) : ∃ k, k < 200 ∧ p = nI k ∧ p.toNatClampNeg = k := by
  obtain ⟨k, hk, ek⟩ : ∃ k, k < 200 ∧ p = nI k := isI_of (by simp only [isF, Bool.and_eq_true] at h; exact h.1)
  exact ⟨k, hk, ek, by rw [ek]; exact nI_clamp (by omega)⟩
theorem isI_k {p : Int32} (h : isI p = true) : ∃ k, k < 200 ∧ p = nI k ∧ p.toNatClampNeg = k := by
  obtain ⟨k, hk, ek⟩ := isI_of h
  exact ⟨k, hk, ek, by rw [ek]; exact nI_clamp (by omega)⟩
def ciG (p0 p1 : Int32) : Bool := isW p1 0 5 && !decide (200 ≤ p0 + p1)
def thC (g : Nat → Int32) (f : Nat → Nat → Int32) (p0 p1 : Int32) : Int32 := if isI p0 = false then 1 else if ciG p0 p1 = false then 2 else if allR (opB g f) p0.toNatClampNeg (p0.toNatClampNeg + p1.toNatClampNeg + 1 - p0.toNatClampNeg) = true then 0 else 3
theorem ciG_k {p0 p1 : Int32} {i : Nat} (h0 : p0 = nI i) (hi : i < 200) (h : ciG p0 p1 = true) : ∃ j, j ≤ 5 ∧ p1 = nI j ∧ p1.toNatClampNeg = j ∧ i + j < 200 := by
  simp only [ciG, Bool.and_eq_true, Bool.not_eq_true', decide_eq_false_iff_not] at h
  obtain ⟨j, j1, j2, j3⟩ := isW_nI (a := 0) (b := 5) (by decide) (by decide) h.1
  refine ⟨j, j2, j3, by rw [j3]; exact nI_clamp (by omega), ?_⟩
  have h2 := h.2
  rw [h0, j3, nI_add] at h2
  exact nge_200 h2 (by
    rcases Nat.lt_or_ge 200 (i + j) with q | q
    · exact absurd (nI_le (a := 200) (by omega) (by omega)) h2
    · exact q)
def skT (g : Nat → Int32) (f : Nat → Nat → Int32) (p : Int32) : Int32 := if isF g p = false then 1 else if f 1 p.toNatClampNeg = 0 then 0 else 2
def rgK (g : Nat → Int32) (f : Nat → Nat → Int32) (p : Int32) : Int32 := scan (rsB g f) p 0 200 0
/-- the k-th range's first issue: what it is, and that there is one just when there are so many -/
theorem scan_kth {q : Nat → Bool} {p : Int32} : ∀ (n i : Nat), i + n = 200 → (∃ k, i ≤ k ∧ k < 200 ∧ q k = true ∧ nI (cnt q k) = p ∧ scan q p i n (cnt q i) = nI k) ∨ ((∀ k, i ≤ k → k < 200 → q k = true → nI (cnt q k) ≠ p) ∧ scan q p i n (cnt q i) = -1)
  | 0, i, h => Or.inr ⟨fun k h1 h2 => by omega, rfl⟩
  | n + 1, i, h => by
    unfold scan
    by_cases z : q i = true
    · rw [if_pos z]
      by_cases e : nI (cnt q i) = p
      · rw [if_pos e]
        exact Or.inl ⟨i, Nat.le_refl _, by omega, z, e, rfl⟩
      · rw [if_neg e]
        have e2 : cnt q i + 1 = cnt q (i + 1) := (cnt_t z).symm
        rw [e2]
        rcases scan_kth (q := q) (p := p) n (i + 1) (by omega) with ⟨k, k1, k2, k3, k4, k5⟩ | ⟨k1, k2⟩
        · exact Or.inl ⟨k, by omega, k2, k3, k4, k5⟩
        · exact Or.inr ⟨fun k h1 h2 h3 => by
            by_cases ek : k = i
            · subst ek; exact e
            · exact k1 k (by omega) h2 h3, k2⟩
    · rw [if_neg z]
      have e2 : cnt q i = cnt q (i + 1) := (cnt_f (Bool.eq_false_iff.mpr z)).symm
      rw [e2]
      rcases scan_kth (q := q) (p := p) n (i + 1) (by omega) with ⟨k, k1, k2, k3, k4, k5⟩ | ⟨k1, k2⟩
      · exact Or.inl ⟨k, by omega, k2, k3, k4, k5⟩
      · exact Or.inr ⟨fun k h1 h2 h3 => by
          by_cases ek : k = i
          · subst ek; exact absurd h3 z
          · exact k1 k (by omega) h2 h3, k2⟩
theorem cnt_mono {q : Nat → Bool} {a : Nat} : ∀ d, cnt q a ≤ cnt q (a + d)
  | 0 => Nat.le_refl _
  | d + 1 => Nat.le_trans (cnt_mono d) (by rw [← Nat.add_assoc]; show _ ≤ cnt q (a + d) + _; omega)
/-- below the count, there is such a place -/
theorem cnt_kth {q : Nat → Bool} {j : Nat} : ∀ n, j < cnt q n → ∃ k, k < n ∧ q k = true ∧ cnt q k = j
  | 0, h => absurd h (Nat.not_lt_zero _)
  | n + 1, h => by
    by_cases z : q n = true
    · rw [cnt_t z] at h
      by_cases e : cnt q n = j
      · exact ⟨n, Nat.lt_succ_self n, z, e⟩
      · obtain ⟨k, k1, k2, k3⟩ := cnt_kth n (show j < cnt q n by omega)
        exact ⟨k, by omega, k2, k3⟩
    · rw [cnt_f (Bool.eq_false_iff.mpr z)] at h
      obtain ⟨k, k1, k2, k3⟩ := cnt_kth n h
      exact ⟨k, by omega, k2, k3⟩
/-- the reference's test of k, against the desk's search -/
theorem rg_test {g : Nat → Int32} {f : Nat → Nat → Int32} {p : Int32} : (isW p 0 (nI (cnt (rsB g f) 200) - 1) = true → ∃ k, k < 200 ∧ rsB g f k = true ∧ p = nI (cnt (rsB g f) k) ∧ rgK g f p = nI k) ∧ (isW p 0 (nI (cnt (rsB g f) 200) - 1) = false → rgK g f p = -1) := by
  have hc := cnt_le (rsB g f) 200
  have e9 : (1 : Int32).toInt = 1 := rfl
  have e1 : (nI (cnt (rsB g f) 200) - 1).toInt = (cnt (rsB g f) 200 : Int) - 1 := by
    have e := nI_toInt (n := cnt (rsB g f) 200) (by omega)
    rw [i_sub (by omega) (by omega)]; omega
  have e0 : (0 : Int32).toInt = 0 := rfl
  have hs := scan_kth (q := rsB g f) (p := p) 200 0 rfl
  have hz : scan (rsB g f) p 0 200 (cnt (rsB g f) 0) = rgK g f p := rfl
  rw [hz] at hs
  refine ⟨fun h => ?_, fun h => ?_⟩
  · simp only [isW, Bool.and_eq_true, Bool.not_eq_true', decide_eq_false_iff_not] at h
    have h1 := h.1
    have h2 := h.2
    rw [Int32.lt_iff_toInt_lt] at h1 h2
    obtain ⟨j, hj, ej⟩ := nI_of h.1
    have e2 : p.toInt = j := by rw [ej]; exact nI_toInt hj
    obtain ⟨k, k1, k2, k3⟩ := cnt_kth (q := rsB g f) (j := j) 200 (by omega)
    rcases hs with ⟨k', q1, q2, q3, q4, q5⟩ | ⟨q1, -⟩
    · exact ⟨k', q2, q3, q4.symm, q5⟩
    · exact absurd (by rw [k3, ej]) (q1 k (Nat.zero_le _) k1 k2)
  · rcases hs with ⟨k, q1, q2, q3, q4, q5⟩ | ⟨-, q2⟩
    · exfalso
      have h5 : cnt (rsB g f) k < cnt (rsB g f) 200 := by
        have := cnt_mono (q := rsB g f) (a := k + 1) (200 - (k + 1))
        rw [show k + 1 + (200 - (k + 1)) = 200 by omega, cnt_t q3] at this
        omega
      have e2 : p.toInt = (cnt (rsB g f) k : Int) := by rw [← q4]; exact nI_toInt (by omega)
      have : isW p 0 (nI (cnt (rsB g f) 200) - 1) = true := by
        simp only [isW, Bool.and_eq_true, Bool.not_eq_true', decide_eq_false_iff_not, Int32.lt_iff_toInt_lt]
        omega
      rw [this] at h; exact absurd h (by decide)
    · exact q2
def thB (h : Nat → Int32) (k : Nat) : Bool := !decide (h k = 0)
def gvU (h : Nat → Int32) (i j : Nat) : Nat → Int32 := fun k => if i ≤ k ∧ k ≤ j then 1 else h k
def okG (p0 p1 : Int32) : Bool := isI p0 && isW p1 p0 199
theorem okG_k {p0 p1 : Int32} (h : okG p0 p1 = true) : ∃ i j, p0 = nI i ∧ p1 = nI j ∧ i ≤ j ∧ j < 200 ∧ p0.toNatClampNeg = i ∧ p1.toNatClampNeg = j := by
  simp only [okG, Bool.and_eq_true] at h
  obtain ⟨i, hi, ei, ec⟩ := isI_k h.1
  have h2 := h.2
  simp only [isW, Bool.and_eq_true, Bool.not_eq_true', decide_eq_false_iff_not, Int32.lt_iff_toInt_lt] at h2
  have e0 : p0.toInt = i := by rw [ei]; exact nI_toInt (by omega)
  have e1 : (199 : Int32).toInt = 199 := rfl
  have e2 : p1 = nI p1.toInt.toNat := i_nat (by omega)
  refine ⟨i, p1.toInt.toNat, ei, e2, by omega, by omega, ec, ?_⟩
  have := nI_clamp (n := p1.toInt.toNat) (by omega)
  rw [← e2] at this; exact this
def onB (g : Nat → Int32) (f : Nat → Nat → Int32) (p : Int32) (k : Nat) : Bool := if p = 0 then (thB (f 4) k && !hereB g f k) else (hereB g f k && !thB (f 4) k)
end
section
def rgA (g : Nat → Int32) (f : Nat → Nat → Int32) (p : Int32) : Int32 := if rgK g f p = -1 then 0 else 1000 * rgK g f p + nI (eoR g f (199 - (rgK g f p).toNatClampNeg) (rgK g f p).toNatClampNeg)
def rgT (g : Nat → Int32) (f : Nat → Nat → Int32) (p : Int32) : Int32 := if rgK g f p = -1 then 1 else 0
theorem nI_nm1 {k : Nat} (h : k < 200) : ¬ nI k = -1 := by
  intro q
  have e : (nI k).toInt = k := nI_toInt (by omega)
  rw [q] at e
  have : (-1 : Int32).toInt = -1 := rfl
  omega
theorem rs_here {g : Nat → Int32} {f : Nat → Nat → Int32} {k : Nat} (h : rsB g f k = true) : hereB g f k = true ∧ hereI g f (nI k - 1) = false := by
  simp only [rsB, Bool.and_eq_true, Bool.not_eq_true'] at h; exact h
theorem rs_step {q : Nat → Bool} {i k : Nat} (h : i < k) : cnt q (i + 1) ≤ cnt q k := by
  have := cnt_mono (q := q) (a := i + 1) (k - (i + 1))
  rw [show i + 1 + (k - (i + 1)) = k by omega] at this; exact this
theorem x_sub {a : Nat} (h : 1 ≤ a) : nI a - 1 = nI (a - 1) := pk_sub (b := 1) h
theorem sub0 (x : Int32) : x - 0 = x := Int32.sub_zero x
def gpU (h : Nat → Int32) (i j m : Nat) : Nat → Int32 := fun k => if k < m ∧ i ≤ k ∧ k ≤ j then 1 else h k
theorem gpU_end {h : Nat → Int32} {i j : Nat} (hj : j < 200) : gpU h i j 200 = gvU h i j := by
  funext k; unfold gpU gvU
  by_cases q : i ≤ k ∧ k ≤ j
  · rw [if_pos q, if_pos ⟨by omega, q⟩]
  · rw [if_neg q, if_neg (fun z => q z.2)]
theorem gv_at {h : Nat → Int32} {i j m : Nat} (hm : m < 200) (hi : i < 200) (hj : j < 200) : isW (nI m) (nI i) (nI j) = decide (i ≤ m ∧ m ≤ j) := by
  unfold isW
  have e1 : nI m < nI i ↔ m < i := nI_ltI (by omega) (by omega)
  have e2 : nI j < nI m ↔ j < m := nI_ltI (by omega) (by omega)
  by_cases a : m < i <;> by_cases b : j < m <;> simp [e1, e2, a, b] <;> omega
theorem left_0 {p : Int32} {s : Nat} : p - nI s = 0 ↔ nI s = p := ⟨fun h => by
  have := congrArg (· + nI s) h
  simp only [Int32.sub_add_cancel, Int32.zero_add] at this
  exact this.symm, fun h => by rw [← h]; exact Int32.sub_self _⟩
theorem left_s {p : Int32} {s : Nat} : p - nI s - 1 = p - nI (s + 1) := by
  rw [← nI_1, Int32.sub_sub]
theorem rg_end {g : Nat → Int32} {f : Nat → Nat → Int32} {j : Nat} (h : hereI g f (nI (j + 1)) = false) (hj : j ≤ 199) : eoR g f (199 - j) j = j := by
  rcases Nat.lt_or_ge j 199 with q | q
  · rw [eoR_step q, if_neg (by rw [← hereI_nI (show j + 1 < 200 by omega), h]; decide)]
  · rw [show j = 199 by omega]; rfl
theorem here_200 {g : Nat → Int32} {f : Nat → Nat → Int32} {j : Nat} (h : hereI g f (nI (j + 1)) = true) (hj : j ≤ 199) : j + 1 < 200 := by
  rcases Nat.lt_or_ge (j + 1) 200 with q | q
  · exact q
  · exfalso
    have e9 : j + 1 = 200 := by omega
    rw [e9] at h
    simp only [hereI, isF, isI, Bool.and_eq_true, Bool.not_eq_true', decide_eq_false_iff_not] at h
    exact h.1.1.2 (Int32.le_refl _)
end
section
def strL : List (Nat × String) := [(113, "the issue is not foretold"), (115, "the issue is not waited for"), (139, "there are not so many ranges"), (144, "first is not 0 to 199"), (146, "last is not first to 199"), (151, "k is below 0"), (52, "the gap is not 1 to 90"), (57, "the size is not 1 to 20"), (59, "the skipped months are not 0 to 4094"), (68, "the grace is not 0 to 100"), (70, "the pause is not 1 to 100"), (72, "the days are not 1 to 400"), (79, "the day would be above 7200"), (88, "there is no such issue"), (91, "bound is out of range"), (97, "one of these issues is not waited for")]
abbrev xA : String := "java/lang/IllegalArgumentException"
abbrev xS : String := "java/lang/IllegalStateException"
abbrev xI : String := "java/lang/IndexOutOfBoundsException"
abbrev xN : List String := ["java/lang/RuntimeException", "java/lang/Exception"]
def exL : List String := [xA, xS, xI]
def dcL : List MethodName := [⟨"java/lang/RuntimeException", "<init>", "(Ljava/lang/String;)V"⟩, ⟨"java/lang/Exception", "<init>", "(Ljava/lang/String;)V"⟩, ⟨"java/lang/Throwable", "<init>", "(Ljava/lang/String;)V"⟩]
/-- what a throw asks of the machine beyond the method's words -/
def thr (A : Nat → Prop) (U : State) : Prop :=
  vx_Zq Bundle.tN "UNASSIGNED_STACK" Bundle.steD A U U.heap ∧ vx_Zq Bundle.tN "SUPPRESSED_SENTINEL" Bundle.listD A U U.heap ∧ (∀ q ∈ strL, ∃ sa, vk_R RX1 q.1 q.2 sa U) ∧ (∀ X ∈ exL, va_Nw (.castable X X) U) ∧ (∀ X ∈ exL, ∀ Y ∈ exL, X ≠ Y → va_Nc X Y U) ∧ (∀ x ∈ dcL, va_Nw (.declares x) U)
theorem fb_t {G : va_G} {ws : va_W} {tys : List (ClassId × FieldType)} {av : List Value} {sz : Nat} {A : Nat → Prop} : FrameBlind (va_Pc av (fun U => U.heap.size = sz ∧ va_P G vwCl ws U.heap ∧ va_K G vwCl tys U ∧ thr A U)) := by
  intro a U g mk q
  obtain ⟨q1, q2, q3, q4, t1, t2, t3, t4, t5, t6⟩ := q
  exact ⟨q1, q2, q3, va_K.moved (u := U) (U := U.calling g mk a) (Vm.Alike.refl U.vm) q4, vx_Zq.moved (u := U) (U := U.calling g mk a) (Vm.Alike.refl U.vm) t1, vx_Zq.moved (u := U) (U := U.calling g mk a) (Vm.Alike.refl U.vm) t2,
    fun q hq => (t3 q hq).imp fun sa h => vk_R.same (u := U) (U := U.calling g mk a) rfl h, fun X hX => va_Nw.same (u := U) (U := U.calling g mk a) rfl rfl (t4 X hX), fun X hX Y hY h => va_Nc.moved (u := U) (U := U.calling g mk a) (Vm.Alike.refl U.vm) (t5 X hX Y hY h), fun x hx => va_Nw.same (u := U) (U := U.calling g mk a) rfl rfl (t6 x hx)⟩
/-- the same, seen from a later state of the same machine -/
theorem thr.go {A B : Nat → Prop} {s U : State} {H : Heap} {locs : List Loc} (h : thr A s) (hW : s.WarmedH U.vm) (hU : U.heap = H) (hS : va_S A s.heap H locs) (hAB : ∀ q, B q → A q) : thr B U := by
  obtain ⟨t1, t2, t3, t4, t5, t6⟩ := h
  exact ⟨by rw [hU]; exact ((t1.kept hS.2.1).narrow hAB).moved hW.alike, by rw [hU]; exact ((t2.kept hS.2.1).narrow hAB).moved hW.alike, fun q hq => (t3 q hq).imp fun sa h => vk_R.warm hW h, fun X hX => va_Nw.warmC hW (t4 X hX), fun X hX Y hY h => va_Nc.moved hW.alike (t5 X hX Y hY h), fun x hx => va_Nw.warmD hW (t6 x hx)⟩
def thi {S : Type} (l : Launch) (y : MethodName) (wl : List Cond) (rm : Room) (G : va_G) (ws : va_W) (tys : List (ClassId × FieldType)) (A : Nat → Prop) (sz : Nat) (av : List Value) (post : Int32 → S → Prop) (wf : S → va_W) (px : String → Prop) : Prop :=
  vx_Met l y wl rm (va_Pc av (fun U => U.heap.size = sz ∧ va_P G vwCl ws U.heap ∧ va_K G vwCl tys U ∧ thr A U)) (va_Qi post (fun u t => va_P G vwCl (wf u) t.heap) A) (vx_X (S := Unit) (fun _ => True) (fun E _ t => px E ∧ va_P G vwCl ws t.heap) A) 1 6 A
def thv {S : Type} (l : Launch) (y : MethodName) (wl : List Cond) (rm : Room) (G : va_G) (ws : va_W) (tys : List (ClassId × FieldType)) (A : Nat → Prop) (sz : Nat) (av : List Value) (post : S → Prop) (wf : S → va_W) (px : String → Prop) : Prop :=
  vx_Met l y wl rm (va_Pc av (fun U => U.heap.size = sz ∧ va_P G vwCl ws U.heap ∧ va_K G vwCl tys U ∧ thr A U)) (va_Qv post (fun u t => va_P G vwCl (wf u) t.heap) A) (vx_X (S := Unit) (fun _ => True) (fun E _ t => px E ∧ va_P G vwCl ws t.heap) A) 1 6 A
set_option maxRecDepth 20000 in
theorem xg_A : (∀ w ∈ Cond.classLink RX1 50 xA :: Cond.initialized xA :: vx_atS RX1 54 xA xN, vx_ot w = true) ∧ ∀ w ∈ (vx_atS RX1 54 xA xN).filter (fun w => !goodWord w), w ∈ Cond.castable xA xA :: dcL.map Cond.declares := by decide +kernel
set_option maxRecDepth 20000 in
theorem xg_S : (∀ w ∈ Cond.classLink RX1 77 xS :: Cond.initialized xS :: vx_atS RX1 81 xS xN, vx_ot w = true) ∧ ∀ w ∈ (vx_atS RX1 81 xS xN).filter (fun w => !goodWord w), w ∈ Cond.castable xS xS :: dcL.map Cond.declares := by decide +kernel
set_option maxRecDepth 20000 in
theorem xg_I : (∀ w ∈ Cond.classLink RX1 86 xI :: Cond.initialized xI :: vx_atS RX1 90 xI xN, vx_ot w = true) ∧ ∀ w ∈ (vx_atS RX1 90 xI xN).filter (fun w => !goodWord w), w ∈ Cond.castable xI xI :: dcL.map Cond.declares := by decide +kernel
def exT : List (String × Nat × Nat) := [(xA, 50, 54), (xS, 77, 81), (xI, 86, 90)]
theorem xg_T : ∀ q ∈ exT, q.1 ∈ exL ∧ Bundle.fit q.1 = true ∧ (∀ w ∈ Cond.classLink RX1 q.2.1 q.1 :: Cond.initialized q.1 :: vx_atS RX1 q.2.2 q.1 xN, vx_ot w = true) ∧ ∀ w ∈ (vx_atS RX1 q.2.2 q.1 xN).filter (fun w => !goodWord w), w ∈ Cond.castable q.1 q.1 :: dcL.map Cond.declares := by
  intro q hq
  simp only [exT, List.mem_cons, List.not_mem_nil, or_false] at hq
  rcases hq with rfl | rfl | rfl
  · exact ⟨by decide, by decide, xg_A⟩
  · exact ⟨by decide, by decide, xg_S⟩
  · exact ⟨by decide, by decide, xg_I⟩
section Thx
variable {l : Launch} {wl wl' : List Cond} {rm : Room} {G : va_G} {ws : va_W} {tys : List (ClassId × FieldType)} {av : List Value} {cc : ByteArray} {nL : Nat} {ret : Option FieldType} {nm ds : String}
/-- a throw of the desk's own, its world as it was -/
theorem thx_thr {p : Program} {e : Env} {s : State} {m : MethodId} {args : Array Value} {below : List Frame} {meth : Method} {c : Code} {H : Heap} {locs : List Loc} {ls : Array Slot} {pc : Nat} {a : Nat → Nat} {n : Nat} {Qc : Array Value → State → Outcome → State → Prop} {px : String → Prop} {text : String} {is : Nat} {q : String × Nat × Nat}
    (hx : p.tables.exec = Jvm.exec) (hb : c.code = cc) (hst : l.stackTraces = false) (hown : s.vm.findClass RX1 = some m.cls) (hts : ∀ w ∈ wl, w.before args s = true) (hlk : meth.locks = false) (hout : ∀ x ∈ c.exceptionTable.toList, False) (ht : thr (aS a n s.heap.size) s) (hP : va_P G vwCl ws H) (hS : va_S (aS a n s.heap.size) s.heap H locs) (hls : ls.size = c.maxLocals) (hrf : 5 < rm.frames ∧ 82 ≤ rm.locals ∧ 1 ≤ rm.cells ∧ 6 ≤ rm.slots)
    (hq : q ∈ exT) (hpx : px q.1) (hstr : (is, text) ∈ strL) (hk : Cond.classLink RX1 q.2.1 q.1 ∈ wl) (hini : Cond.initialized q.1 ∈ wl) (hgd : ∀ w ∈ (vx_atS RX1 q.2.2 q.1 xN).filter goodWord, w ∈ wl)
    (d0 : decode cc pc = .ok (.new q.2.1, 3)) (d3 : decode cc (pc + 3) = .ok (.dup, 1)) (d4 : decode cc (pc + 4) = .ok (.ldc is, 2)) (d6 : decode cc (pc + 6) = .ok (.invokespecial q.2.2, 3)) (d9 : decode cc (pc + 9) = .ok (.athrow, 1)) :
    W p l e rm s m args below meth c H locs 0 0 (vx_MQ below Qc (vx_X (S := Unit) (fun _ => True) (fun E _ t => px E ∧ va_P G vwCl ws t.heap) (aS a n s.heap.size)) args s 1 6 (aS a n s.heap.size)) (F0 m pc ls []) := by
  obtain ⟨hX, hfit, hg, hng⟩ := xg_T q hq
  obtain ⟨t1, t2, t3, t4, -, t6⟩ := ht
  obtain ⟨sa, hsa⟩ := t3 _ hstr
  exact vx_throwS (names := xN) hx hb hst hown hfit (by decide) (hts _ hk) (hts _ hini) hsa (vx_hat (fun w hw => hts w (hgd w hw)) hng (vx_c (va_Nw.use rfl (t4 _ hX)) (fun w hw => by obtain ⟨x, hx, rfl⟩ := List.mem_map.mp hw; exact va_Nw.use rfl (t6 x hx)))) hg t1 t2 hS hls d0 d3 d4 d6 d9 (fun x hx => (hout x hx).elim) hrf.1 hrf.2.1 (by omega) (by omega) hlk
    (fun t _ hz hk => ⟨(), trivial, ⟨hpx, hP.kept (fun k q hq => hk q.1 (hP k q hq).lt)⟩, ⟨Nat.le_trans hS.1 hz, fun q h1 h2 => by rw [hk q (Nat.lt_of_lt_of_le h1 hS.1)]; exact hS.2.1 q h1 h2⟩⟩) hS.2.2 (Nat.le_refl _) (Nat.le_refl _)
theorem thi_of {S : Type} {post : Int32 → S → Prop} {wf : S → va_W} {px : String → Prop} {a : Nat → Nat} {n sz : Nat} {ty : FieldType} (hst : l.stackTraces = false) (hrf : 5 < rm.frames ∧ 82 ≤ rm.locals ∧ 1 ≤ rm.cells ∧ 6 ≤ rm.slots) (hw : wl = .code ⟨RX1, nm, ds⟩ cc nL (some ty) :: wl') (hle : (lg_sl av).length ≤ nL)
    (body : ∀ (p : Program) (e : Env) (s : State) (m : MethodId) (args : Array Value) (below : List Frame) (meth : Method) (c : Code) (H : Heap) (locs : List Loc) (ls : Array Slot) (Q : State → Prop), p.tables.exec = Jvm.exec → c.code = cc → c.maxLocals = nL → s.vm.findClass RX1 = some m.cls → (∀ w ∈ wl, w.before args s = true) → va_P G vwCl ws H → va_K G vwCl tys s → va_S (aS a n s.heap.size) s.heap H locs →
      (∀ (v : Int32) (u : S) (pc : Nat) (ls : Array Slot) (H : Heap) (locs : List Loc), decode cc pc = .ok (.ireturn, 1) → narrow ty (.int v) = .int v → va_P G vwCl (wf u) H → va_S (aS a n s.heap.size) s.heap H locs → post v u → W p l e rm s m args below meth c H locs 0 0 Q (F0 m pc ls [.int v])) →
      (∀ (q : String × Nat × Nat) (text : String) (is pc : Nat) (ls : Array Slot) (H : Heap) (locs : List Loc), va_P G vwCl ws H → va_S (aS a n s.heap.size) s.heap H locs → ls.size = nL → q ∈ exT → px q.1 → (is, text) ∈ strL → Cond.classLink RX1 q.2.1 q.1 ∈ wl → Cond.initialized q.1 ∈ wl → (∀ w ∈ (vx_atS RX1 q.2.2 q.1 xN).filter goodWord, w ∈ wl) → decode cc pc = .ok (.new q.2.1, 3) → decode cc (pc + 3) = .ok (.dup, 1) → decode cc (pc + 4) = .ok (.ldc is, 2) → decode cc (pc + 6) = .ok (.invokespecial q.2.2, 3) → decode cc (pc + 9) = .ok (.athrow, 1) → W p l e rm s m args below meth c H locs 0 0 Q (F0 m pc ls [])) →
      lv_has ls nL (lv_args 0 av) → W p l e rm s m args below meth c H locs 0 0 Q (F0 m 0 ls [])) : thi l ⟨RX1, nm, ds⟩ wl rm G ws tys (aS a n sz) sz av post wf px := by
  refine vx_ofW (cc := cc) (maxL := nL) (ret := some ty) (show plainName RX1 = true by decide) hw ?_
  intro p e s m args below meth c s₁ B hml hout hv
  obtain ⟨rfl, rfl, hP, hK, ht⟩ := hv
  have hl := lv_entry av (n := nL) hle
  rw [lg_entry_eq]
  generalize (lg_sl av ++ List.replicate (nL - (lg_sl av).length) Slot.unset).toArray = ls at hl ⊢
  have hown : s.vm.findClass RX1 = some m.cls := findClass_of_methodNamed B.named
  exact body p e s m _ below meth c s.heap [] ls _ B.exec B.bytes hml hown (atoms_spec (ws := wl) B.pre) hP hK va_S.rf
    (fun v u pc ls H locs hdg hn hP hS hp => W.widen (k := 1) (n := 6) (by omega) (by omega) (vx_ret (W.zret B.exec B.bytes B.returns hn (fun t ht _ => ⟨⟨v, u, rfl, hp, by subst ht; exact hP⟩, hS.F ht⟩) hS.2.2 hdg B.notSynchronized)))
    (fun q text is pc ls H locs hP hS hls hq hpx hstr hk hini hgd d0 d3 d4 d6 d9 => thx_thr B.exec B.bytes hst hown (atoms_spec (ws := wl) B.pre) B.notSynchronized hout ht hP hS (hls.trans hml.symm) hrf hq hpx hstr hk hini hgd d0 d3 d4 d6 d9) hl
theorem thv_of {S : Type} {post : S → Prop} {wf : S → va_W} {px : String → Prop} {a : Nat → Nat} {n sz : Nat} (hst : l.stackTraces = false) (hrf : 5 < rm.frames ∧ 82 ≤ rm.locals ∧ 1 ≤ rm.cells ∧ 6 ≤ rm.slots) (hw : wl = .code ⟨RX1, nm, ds⟩ cc nL none :: wl') (hle : (lg_sl av).length ≤ nL)
    (body : ∀ (p : Program) (e : Env) (s : State) (m : MethodId) (args : Array Value) (below : List Frame) (meth : Method) (c : Code) (H : Heap) (locs : List Loc) (ls : Array Slot) (Q : State → Prop), p.tables.exec = Jvm.exec → c.code = cc → c.maxLocals = nL → s.vm.findClass RX1 = some m.cls → (∀ w ∈ wl, w.before args s = true) → va_P G vwCl ws H → va_K G vwCl tys s → va_S (aS a n s.heap.size) s.heap H locs →
      (∀ (u : S) (pc : Nat) (ls : Array Slot) (H : Heap) (locs : List Loc), decode cc pc = .ok (.return_, 1) → va_P G vwCl (wf u) H → va_S (aS a n s.heap.size) s.heap H locs → post u → W p l e rm s m args below meth c H locs 0 0 Q (F0 m pc ls [])) →
      (∀ (q : String × Nat × Nat) (text : String) (is pc : Nat) (ls : Array Slot) (H : Heap) (locs : List Loc), va_P G vwCl ws H → va_S (aS a n s.heap.size) s.heap H locs → ls.size = nL → q ∈ exT → px q.1 → (is, text) ∈ strL → Cond.classLink RX1 q.2.1 q.1 ∈ wl → Cond.initialized q.1 ∈ wl → (∀ w ∈ (vx_atS RX1 q.2.2 q.1 xN).filter goodWord, w ∈ wl) → decode cc pc = .ok (.new q.2.1, 3) → decode cc (pc + 3) = .ok (.dup, 1) → decode cc (pc + 4) = .ok (.ldc is, 2) → decode cc (pc + 6) = .ok (.invokespecial q.2.2, 3) → decode cc (pc + 9) = .ok (.athrow, 1) → W p l e rm s m args below meth c H locs 0 0 Q (F0 m pc ls [])) →
      lv_has ls nL (lv_args 0 av) → W p l e rm s m args below meth c H locs 0 0 Q (F0 m 0 ls [])) : thv l ⟨RX1, nm, ds⟩ wl rm G ws tys (aS a n sz) sz av post wf px := by
  refine vx_ofW (cc := cc) (maxL := nL) (ret := none) (show plainName RX1 = true by decide) hw ?_
  intro p e s m args below meth c s₁ B hml hout hv
  obtain ⟨rfl, rfl, hP, hK, ht⟩ := hv
  have hl := lv_entry av (n := nL) hle
  rw [lg_entry_eq]
  generalize (lg_sl av ++ List.replicate (nL - (lg_sl av).length) Slot.unset).toArray = ls at hl ⊢
  have hown : s.vm.findClass RX1 = some m.cls := findClass_of_methodNamed B.named
  exact body p e s m _ below meth c s.heap [] ls _ B.exec B.bytes hml hown (atoms_spec (ws := wl) B.pre) hP hK va_S.rf
    (fun u pc ls H locs hdg hP hS hp => W.widen (k := 1) (n := 6) (by omega) (by omega) (vx_ret (W.vret B.exec B.bytes B.returns (fun t ht _ => ⟨⟨u, rfl, hp, by subst ht; exact hP⟩, hS.F ht⟩) hS.2.2 hdg B.notSynchronized)))
    (fun q text is pc ls H locs hP hS hls hq hpx hstr hk hini hgd d0 d3 d4 d6 d9 => thx_thr B.exec B.bytes hst hown (atoms_spec (ws := wl) B.pre) B.notSynchronized hout ht hP hS (hls.trans hml.symm) hrf hq hpx hstr hk hini hgd d0 d3 d4 d6 d9) hl
end Thx
end
section
theorem isI_add {n : Nat} (h : n < 1000) : isI (nI n) = (true && !decide (200 ≤ nI n)) := by
  have h1 : ¬ nI n < 0 := nI_pos (by omega)
  unfold isI; rw [decide_eq_false h1]; rfl
theorem rg_k {g : Nat → Int32} {f : Nat → Nat → Int32} {p : Int32} (h : ¬ scan (rsB g f) p 0 200 0 = -1) : ∃ k, k < 200 ∧ scan (rsB g f) p 0 200 0 = nI k := by
  rcases scan_kth (q := rsB g f) (p := p) 200 0 rfl with ⟨k, -, q2, -, -, q5⟩ | ⟨-, q2⟩
  · exact ⟨k, q2, q5⟩
  · exact absurd q2 h
theorem gpU_end2 {h : Nat → Int32} {i j : Nat} : gpU h i j (j + 1) = gvU h i j := by
  funext k; unfold gpU gvU
  by_cases q : i ≤ k ∧ k ≤ j
  · rw [if_pos q, if_pos ⟨by omega, q⟩]
  · rw [if_neg q, if_neg (fun z => q z.2)]
theorem cnt_put {h : Nat → Int32} {m : Nat} : ∀ {n : Nat}, m < n → h m = 0 → cnt (thB (upd h m 1)) n = cnt (thB h) n + 1
  | 0, hm, _ => absurd hm (Nat.not_lt_zero _)
  | n + 1, hm, h0 => by
    by_cases q : m = n
    · subst q
      have e1 : thB (upd h m 1) m = true := by unfold thB; rw [pk_us]; rfl
      have e2 : thB h m = false := by unfold thB; rw [h0]; rfl
      rw [cnt_t e1, cnt_f e2]
      have key : ∀ n, n ≤ m → cnt (thB (upd h m 1)) n = cnt (thB h) n := by
        intro n
        induction n with
        | zero => intro _; rfl
        | succ n ih =>
          intro hn
          have e3 : thB (upd h m 1) n = thB h n := by unfold thB; rw [pk_un (by omega)]
          unfold cnt
          rw [ih (by omega), e3]
      rw [key m (Nat.le_refl _)]
    · have e3 : thB (upd h m 1) n = thB h n := by unfold thB; rw [pk_un (fun z => q z.symm)]
      unfold cnt
      rw [cnt_put (show m < n by omega) h0, e3]
      omega
theorem on_same {g : Nat → Int32} {f : Nat → Nat → Int32} {p : Int32} {i : Nat} (h01 : f 4 i = 0 ∨ f 4 i = 1) (h : bI (hereB g f i) = f 4 i) : onB g f p i = false := by
  unfold onB thB
  rw [← h]
  cases hereB g f i <;> simp [bI]
theorem on_ne {g : Nat → Int32} {f : Nat → Nat → Int32} {p : Int32} {i : Nat} (hp : p = 0 ∨ p = 1) (h : ¬ bI (hereB g f i) = p) : onB g f p i = false := by
  unfold onB
  rcases hp with q | q <;> subst q
  · have : hereB g f i = true := by cases z : hereB g f i with | true => rfl | false => rw [z] at h; exact absurd rfl h
    rw [this]; simp
  · have : hereB g f i = false := by cases z : hereB g f i with | false => rfl | true => rw [z] at h; exact absurd rfl h
    rw [this]; simp
theorem on_eq {g : Nat → Int32} {f : Nat → Nat → Int32} {p : Int32} {i : Nat} (h01 : f 4 i = 0 ∨ f 4 i = 1) (h1 : ¬ bI (hereB g f i) = f 4 i) (h : bI (hereB g f i) = p) : onB g f p i = true := by
  unfold onB thB
  rw [← h]
  rcases h01 with q | q <;> rw [q] at h1 ⊢ <;> cases z : hereB g f i <;> rw [z] at h1 <;> first | (exact absurd rfl h1) | simp [bI]
end
section
def g0 : Nat → Int32 := fun k => match k with
  | 1 => 30 | 2 => 12 | 3 => 1 | 5 => 7 | 6 => 30 | 7 => 1 | 9 => -1 | _ => 0
def f0 : Nat → Nat → Int32 := fun _ _ => 0
def ad7 (x0 x1 x2 x3 x4 x5 x6 : Nat) : Nat → Nat := fun i => match i with
  | 0 => x0 | 1 => x1 | 2 => x2 | 3 => x3 | 4 => x4 | 5 => x5 | _ => x6
theorem vd_1 {A : Nat → Prop} {h : Nat} {e : va_E} (hA : A h) : va_D A [(h, e)] :=
  ⟨fun i j p q hi hj _ => by
    have h1 := (List.getElem?_eq_some_iff.mp hi).1
    have h2 := (List.getElem?_eq_some_iff.mp hj).1
    simp at h1 h2; omega, fun k q hk => by
    have h1 := (List.getElem?_eq_some_iff.mp hk).1
    simp at h1; subst h1
    cases hk; exact hA⟩
theorem ty_int {D : va_G} {cl : List vw_C} {tys : List (ClassId × FieldType)} {U : State} {c1 c2 : ClassId} (h : va_K D cl tys U) (i j : Nat) (h1 : tys[i]? = some (c1, .int)) (h2 : tys[j]? = some (c2, .int)) : c1 = c2 := by
  have e1 : U.vm.findClass ("[" ++ FieldType.int.toString) = some c1 := (h.2 i _ h1).2
  have e2 : U.vm.findClass ("[" ++ FieldType.int.toString) = some c2 := (h.2 j _ h2).2
  exact Option.some.inj (e1.symm.trans e2)
theorem ty_bool {D : va_G} {cl : List vw_C} {tys : List (ClassId × FieldType)} {U : State} {c1 c2 : ClassId} (h : va_K D cl tys U) (i j : Nat) (h1 : tys[i]? = some (c1, .boolean)) (h2 : tys[j]? = some (c2, .boolean)) : c1 = c2 := by
  have e1 : U.vm.findClass ("[" ++ FieldType.boolean.toString) = some c1 := (h.2 i _ h1).2
  have e2 : U.vm.findClass ("[" ++ FieldType.boolean.toString) = some c2 := (h.2 j _ h2).2
  exact Option.some.inj (e1.symm.trans e2)
theorem wD_get {a : Nat → Nat} {cI cZ : ClassId} {g : Nat → Int32} {f : Nat → Nat → Int32} {cd : Nat → Int32} {tc : Int32} : ∀ i, i < 7 → ∃ e, (wD a cI cZ g f cd tc)[i]? = some (a i, e)
  | 0, _ => ⟨_, rfl⟩ | 1, _ => ⟨_, rfl⟩ | 2, _ => ⟨_, rfl⟩ | 3, _ => ⟨_, rfl⟩ | 4, _ => ⟨_, rfl⟩ | 5, _ => ⟨_, rfl⟩ | 6, _ => ⟨_, rfl⟩
  | i + 7, h => absurd h (by omega)
theorem wM_get {a : Nat → Nat} {cI cZ : ClassId} {g : Nat → Int32} {f : Nat → Nat → Int32} {t : Int32} : ∀ i, i < 6 → ∃ e, (wM a cI cZ g f t)[i]? = some (a i, e)
  | 0, _ => ⟨_, rfl⟩ | 1, _ => ⟨_, rfl⟩ | 2, _ => ⟨_, rfl⟩ | 3, _ => ⟨_, rfl⟩ | 4, _ => ⟨_, rfl⟩ | 5, _ => ⟨_, rfl⟩
  | i + 6, h => absurd h (by omega)
theorem wD_ap {A : Nat → Prop} {a : Nat → Nat} {cI cZ : ClassId} {g : Nat → Int32} {f : Nat → Nat → Int32} {cd : Nat → Int32} {tc : Int32} (h : va_D A (wD a cI cZ g f cd tc)) : apart a 7 ∧ ∀ i, i < 7 → A (a i) :=
  ⟨fun i j hi hj e => by
    obtain ⟨e1, h1⟩ := wD_get (a := a) (cI := cI) (cZ := cZ) (g := g) (f := f) (cd := cd) (tc := tc) i hi
    obtain ⟨e2, h2⟩ := wD_get (a := a) (cI := cI) (cZ := cZ) (g := g) (f := f) (cd := cd) (tc := tc) j hj
    exact h.1 i j _ _ h1 h2 e, fun i hi => by
    obtain ⟨e1, h1⟩ := wD_get (a := a) (cI := cI) (cZ := cZ) (g := g) (f := f) (cd := cd) (tc := tc) i hi
    exact h.2 i _ h1⟩
theorem wM_ap {A : Nat → Prop} {a : Nat → Nat} {cI cZ : ClassId} {g : Nat → Int32} {f : Nat → Nat → Int32} {t : Int32} (h : va_D A (wM a cI cZ g f t)) : apart a 6 ∧ ∀ i, i < 6 → A (a i) :=
  ⟨fun i j hi hj e => by
    obtain ⟨e1, h1⟩ := wM_get (a := a) (cI := cI) (cZ := cZ) (g := g) (f := f) (t := t) i hi
    obtain ⟨e2, h2⟩ := wM_get (a := a) (cI := cI) (cZ := cZ) (g := g) (f := f) (t := t) j hj
    exact h.1 i j _ _ h1 h2 e, fun i hi => by
    obtain ⟨e1, h1⟩ := wM_get (a := a) (cI := cI) (cZ := cZ) (g := g) (f := f) (t := t) i hi
    exact h.2 i _ h1⟩
abbrev a1S (h sz : Nat) : Nat → Prop := aS (fun _ => h) 1 sz
theorem a1_h (h sz : Nat) : a1S h sz h := Or.inl ⟨0, by decide, rfl⟩
/-- a constructor: the object is there, blank; it makes its rows -/
def mkD (l : Launch) (y : MethodName) (wl : List Cond) (rm : Room) (G : va_G) (ws : va_W) (A : Nat → Prop) (sz : Nat) (h0 k : Nat) (mc ms : Nat) (wf : (Nat → Nat) → ClassId → ClassId → va_W) : Prop :=
  Met l y wl rm (va_Pc [.ref h0] (fun U => U.heap.size = sz ∧ va_P G vwCl ws U.heap ∧ va_K G vwCl [] U)) (va_Qv (fun u : (Nat → Nat) × ClassId × ClassId => u.1 0 = h0 ∧ apart u.1 k ∧ ∀ i, i < k → A (u.1 i)) (fun u t => va_P G vwCl (wf u.1 u.2.1 u.2.2) t.heap ∧ va_K G vwCl (tyIZ u.2.1 u.2.2) t) A) mc ms A
end
section
set_option maxHeartbeats 4000000 in
set_option maxRecDepth 100000 in
theorem kX0_init (l : Launch) (G_w : va_G) (h0 sz_w : Nat) : Met l yX0_init wsX0_init { frames := 1, cells := 0, slots := 0, locals := 16 } (va_Pc [.ref h0] (fun U_w => U_w.heap.size = sz_w ∧ va_P G_w vwCl [(h0, .inr (0, [.int 0, .int 0, .int 0, .int 0]))] U_w.heap ∧ va_K G_w vwCl [] U_w)) (va_Qv (fun _ : Unit => True) (fun _ t_w => va_P G_w vwCl [(h0, .inr (0, [.int 30, .int 12, .int 1, .int 0]))] t_w.heap) (va_A [(h0, .inr (0, [.int 0, .int 0, .int 0, .int 0]))] sz_w)) 0 0 (va_A [(h0, .inr (0, [.int 0, .int 0, .int 0, .int 0]))] sz_w) := by
  refine Met.ofW (cc := cX0_init) (maxL := 1) (ret := none) (by decide) rfl ?_
  intro p_w e_w s_w m_w args_w below meth_w c_w s₁ B_w hml hv
  obtain ⟨rfl, hsz, hP, hK_w⟩ := hv
  have hx := B_w.exec
  have hb_w := B_w.bytes
  have hr := B_w.returns
  have hts := atoms_spec (ws := wsX0_init) B_w.pre
  have hown : s_w.vm.findClass RX0 = some m_w.cls := findClass_of_methodNamed B_w.named
  have hlk := B_w.notSynchronized
  have hin : meth_w.name = "<init>" := (name_of_methodNamed B_w.named B_w.method).1
  subst hsz
  have hA : ∀ q_w : Nat, s_w.heap.size ≤ q_w → va_A [(h0, .inr (0, [.int 0, .int 0, .int 0, .int 0]))] s_w.heap.size q_w := fun q_w h_w => Or.inr h_w
  have hS_w : va_S (va_A [(h0, .inr (0, [.int 0, .int 0, .int 0, .int 0]))] s_w.heap.size) s_w.heap s_w.heap [] := va_S.rf
  have hD : va_D (va_A [(h0, .inr (0, [.int 0, .int 0, .int 0, .int 0]))] s_w.heap.size) [(h0, .inr (0, [.int 0, .int 0, .int 0, .int 0]))] := vd_1 (va_A.in (k := 0) (q := (h0, .inr (0, [.int 0, .int 0, .int 0, .int 0]))) rfl)
  have hP : va_P G_w vwCl [(h0, .inr (0, [.int 0, .int 0, .int 0, .int 0]))] s_w.heap := hP
  have hl := lv_entry ([.ref h0]) (n := 1) (Nat.le_of_ble_eq_true rfl)
  rw [lg_entry_eq]
  generalize (lg_sl ([.ref h0]) ++ List.replicate (1 - (lg_sl ([.ref h0])).length) Slot.unset).toArray = ls at hl ⊢
  have hl : lv_has ls 1 [(0, .ref h0)] := hl
  have hinX0 : ∀ w_w ∈ wsX00, w_w ∈ wsX0_init := by decide +kernel
  refine lv_aload_n hx hb_w dX0_init_0 rfl (lv_at hl 0 rfl) ?_
  refine W.objInit hx hb_w hown (hts _ (List.mem_of_getElem? (i := 1) rfl)) (hts _ (List.mem_of_getElem? (i := 2) rfl)) (hts _ (List.mem_of_getElem? (i := 3) rfl)) rfl (by rw [hml]; exact hl.1) rfl dX0_init_1 (Nat.le_of_ble_eq_true rfl) (Nat.le_of_ble_eq_true rfl) ?_
  refine W.eq (g2 := F0 m_w 4 ls []) rfl ?_
  refine lv_aload_n hx hb_w dX0_init_4 rfl (lv_at hl 0 rfl) ?_
  refine lv_bipush (v := 30) hx hb_w dX0_init_5 (by decide) ?_
  refine va_put (D := G_w) (ci := 0) (v := .int 30) (ty := tyX0 0) (C := RX0) (T := TX0) (N := 4) (own := RX0) (ref := RX0) (index := 9) hx hb_w hts hinX0 tyX0 tyX0_ok nmX0 hown hK_w hP hD hS_w 0 rfl rfl 0 (by decide) (hts _ (List.mem_of_getElem? (i := 4) rfl)) (fun _ h9 => h9) rfl (tyX0_ok 0 (by decide)) rfl rfl (Nat.le_of_ble_eq_true rfl) dX0_init_7 (fun H locs_w hP hD hS_w => ?_)
  have hP : va_P G_w vwCl [(h0, .inr (0, [.int 30, .int 0, .int 0, .int 0]))] H := hP
  have hD : va_D (va_A [(h0, .inr (0, [.int 0, .int 0, .int 0, .int 0]))] s_w.heap.size) [(h0, .inr (0, [.int 30, .int 0, .int 0, .int 0]))] := hD
  refine lv_aload_n hx hb_w dX0_init_10 rfl (lv_at hl 0 rfl) ?_
  refine lv_bipush (v := 12) hx hb_w dX0_init_11 (by decide) ?_
  refine va_put (D := G_w) (ci := 0) (v := .int 12) (ty := tyX0 1) (C := RX0) (T := TX0) (N := 4) (own := RX0) (ref := RX0) (index := 15) hx hb_w hts hinX0 tyX0 tyX0_ok nmX0 hown hK_w hP hD hS_w 0 rfl rfl 1 (by decide) (hts _ (List.mem_of_getElem? (i := 5) rfl)) (fun _ h9 => h9) rfl (tyX0_ok 1 (by decide)) rfl rfl (Nat.le_of_ble_eq_true rfl) dX0_init_13 (fun H locs_w hP hD hS_w => ?_)
  have hP : va_P G_w vwCl [(h0, .inr (0, [.int 30, .int 12, .int 0, .int 0]))] H := hP
  have hD : va_D (va_A [(h0, .inr (0, [.int 0, .int 0, .int 0, .int 0]))] s_w.heap.size) [(h0, .inr (0, [.int 30, .int 12, .int 0, .int 0]))] := hD
  refine lv_aload_n hx hb_w dX0_init_16 rfl (lv_at hl 0 rfl) ?_
  refine lv_iconst (v := 1) hx hb_w dX0_init_17 (by decide) ?_
  refine va_put (D := G_w) (ci := 0) (v := .int 1) (ty := tyX0 2) (C := RX0) (T := TX0) (N := 4) (own := RX0) (ref := RX0) (index := 18) hx hb_w hts hinX0 tyX0 tyX0_ok nmX0 hown hK_w hP hD hS_w 0 rfl rfl 2 (by decide) (hts _ (List.mem_of_getElem? (i := 6) rfl)) (fun _ h9 => h9) rfl (tyX0_ok 2 (by decide)) rfl rfl (Nat.le_of_ble_eq_true rfl) dX0_init_18 (fun H locs_w hP hD hS_w => ?_)
  have hP : va_P G_w vwCl [(h0, .inr (0, [.int 30, .int 12, .int 1, .int 0]))] H := hP
  have hD : va_D (va_A [(h0, .inr (0, [.int 0, .int 0, .int 0, .int 0]))] s_w.heap.size) [(h0, .inr (0, [.int 30, .int 12, .int 1, .int 0]))] := hD
  refine lv_aload_n hx hb_w dX0_init_21 rfl (lv_at hl 0 rfl) ?_
  refine lv_iconst (v := 0) hx hb_w dX0_init_22 (by decide) ?_
  refine va_put (D := G_w) (ci := 0) (v := .int 0) (ty := tyX0 3) (C := RX0) (T := TX0) (N := 4) (own := RX0) (ref := RX0) (index := 22) hx hb_w hts hinX0 tyX0 tyX0_ok nmX0 hown hK_w hP hD hS_w 0 rfl rfl 3 (by decide) (hts _ (List.mem_of_getElem? (i := 7) rfl)) (fun _ h9 => h9) rfl (tyX0_ok 3 (by decide)) rfl rfl (Nat.le_of_ble_eq_true rfl) dX0_init_23 (fun H locs_w hP hD hS_w => ?_)
  have hP : va_P G_w vwCl [(h0, .inr (0, [.int 30, .int 12, .int 1, .int 0]))] H := hP
  have hD : va_D (va_A [(h0, .inr (0, [.int 0, .int 0, .int 0, .int 0]))] s_w.heap.size) [(h0, .inr (0, [.int 30, .int 12, .int 1, .int 0]))] := hD
  exact W.vret hx hb_w hr (fun t_w ht hW => ⟨⟨(), rfl, trivial, ht ▸ hP⟩, hS_w.F ht⟩) hS_w.2.2 dX0_init_26
set_option maxHeartbeats 4000000 in
set_option maxRecDepth 100000 in
theorem kX1_init (l : Launch) (G_w : va_G) (h0 sz_w : Nat) : mkD l yX1_init wsX1_init { frames := 2, cells := 6, slots := 1004, locals := 40 } G_w [(h0, .inr (1, [.null, .int 0, .int 0, .int 0, .int 0, .int 0, .null, .null, .null, .null, .int 0, .int 0, .int 0, .null, .int 0]))] (a1S h0 sz_w) sz_w h0 7 6 1004 (fun a_w cI cZ => wD a_w cI cZ g0 f0 (fun _ => 0) 0) := by
  refine Met.ofW (cc := cX1_init) (maxL := 1) (ret := none) (by decide) rfl ?_
  intro p_w e_w s_w m_w args_w below meth_w c_w s₁ B_w hml hv
  obtain ⟨rfl, hsz, hP, hK_w⟩ := hv
  have hx := B_w.exec
  have hb_w := B_w.bytes
  have hr := B_w.returns
  have hts := atoms_spec (ws := wsX1_init) B_w.pre
  have hown : s_w.vm.findClass RX1 = some m_w.cls := findClass_of_methodNamed B_w.named
  have hlk := B_w.notSynchronized
  have hin : meth_w.name = "<init>" := (name_of_methodNamed B_w.named B_w.method).1
  subst hsz
  have hA : ∀ q_w : Nat, s_w.heap.size ≤ q_w → a1S h0 s_w.heap.size q_w := fun q_w h_w => Or.inr h_w
  have hS_w : va_S (a1S h0 s_w.heap.size) s_w.heap s_w.heap [] := va_S.rf
  have hD : va_D (a1S h0 s_w.heap.size) [(h0, .inr (1, [.null, .int 0, .int 0, .int 0, .int 0, .int 0, .null, .null, .null, .null, .int 0, .int 0, .int 0, .null, .int 0]))] := vd_1 (a1_h _ _)
  have hP : va_P G_w vwCl [(h0, .inr (1, [.null, .int 0, .int 0, .int 0, .int 0, .int 0, .null, .null, .null, .null, .int 0, .int 0, .int 0, .null, .int 0]))] s_w.heap := hP
  have hl := lv_entry ([.ref h0]) (n := 1) (Nat.le_of_ble_eq_true rfl)
  rw [lg_entry_eq]
  generalize (lg_sl ([.ref h0]) ++ List.replicate (1 - (lg_sl ([.ref h0])).length) Slot.unset).toArray = ls at hl ⊢
  have hl : lv_has ls 1 [(0, .ref h0)] := hl
  have hinX1 : ∀ w_w ∈ wsX10, w_w ∈ wsX1_init := by decide +kernel
  refine lv_aload_n hx hb_w dX1_init_0 rfl (lv_at hl 0 rfl) ?_
  refine W.objInit hx hb_w hown (hts _ (List.mem_of_getElem? (i := 1) rfl)) (hts _ (List.mem_of_getElem? (i := 2) rfl)) (hts _ (List.mem_of_getElem? (i := 3) rfl)) rfl (by rw [hml]; exact hl.1) rfl dX1_init_1 (Nat.le_of_ble_eq_true rfl) (Nat.le_of_ble_eq_true rfl) ?_
  refine W.eq (g2 := F0 m_w 4 ls []) rfl ?_
  refine lv_aload_n hx hb_w dX1_init_4 rfl (lv_at hl 0 rfl) ?_
  refine va_new (D := G_w) (ci := 0) (fs := [.int 0, .int 0, .int 0, .int 0]) (C := RX0) (T := TX0) (N := 4) hx hb_w hts (by decide +kernel) tyX0 tyX0_ok hown (hts _ (List.mem_of_getElem? (i := 4) rfl)) (hts _ (List.mem_of_getElem? (i := 5) rfl)) (hts _ (List.mem_of_getElem? (i := 6) rfl)) hK_w hP hD hS_w hA rfl (fun j_w hj => by rcases (show j_w = 0 ∨ j_w = 1 ∨ j_w = 2 ∨ j_w = 3 by omega) with rfl | rfl | rfl | rfl <;> rfl) (Nat.le_of_ble_eq_true rfl) (Nat.le_of_ble_eq_true rfl) dX1_init_5 (fun q1_w H hP hD hS_w => ?_)
  have hP : va_P G_w vwCl [(h0, .inr (1, [.null, .int 0, .int 0, .int 0, .int 0, .int 0, .null, .null, .null, .null, .int 0, .int 0, .int 0, .null, .int 0])), (q1_w, .inr (0, [.int 0, .int 0, .int 0, .int 0]))] H := hP
  have hD : va_D (a1S h0 s_w.heap.size) [(h0, .inr (1, [.null, .int 0, .int 0, .int 0, .int 0, .int 0, .null, .null, .null, .null, .int 0, .int 0, .int 0, .null, .int 0])), (q1_w, .inr (0, [.int 0, .int 0, .int 0, .int 0]))] := hD
  refine lv_dup hx hb_w dX1_init_8 rfl ?_
  have hPc := hP.sub (ws' := [(q1_w, .inr (0, [.int 0, .int 0, .int 0, .int 0]))]) [1] rfl
  have hFc := va_free (wc := [(q1_w, .inr (0, [.int 0, .int 0, .int 0, .int 0]))]) hD hS_w hA [1] rfl
  refine va_callv (va_runI (As := []) (rest := [.ref q1_w, .ref h0]) ⟨hx, hb_w, hml, hown, hts⟩ (kX0_init l G_w q1_w H.size) (cwI 0 hts gX1_init_X0_init rfl rfl rfl (hts _ (List.mem_of_getElem? (i := 6) rfl)) (hts _ (List.mem_of_getElem? (i := 19) rfl)) (hts _ (List.mem_of_getElem? (i := 20) rfl)) rfl (by decide +kernel) ⟨Nat.le_of_ble_eq_true rfl, Nat.le_of_ble_eq_true rfl⟩) ⟨fun a_w U_w g_w mk_w q_w => ⟨q_w.1, q_w.2.1, q_w.2.2.1, va_K.moved (u := U_w) (U := U_w.calling g_w mk_w a_w) (Vm.Alike.refl U_w.vm) q_w.2.2.2⟩, fun U_w hU hW => ⟨rfl, by rw [hU], by rw [hU]; exact hPc, va_K.moved hW.alike hK_w⟩⟩ rfl rfl hl.1 rfl (lv_room (Nat.le_of_ble_eq_true rfl)) dX1_init_9 ⟨Nat.le_of_ble_eq_true rfl, Nat.le_of_ble_eq_true rfl⟩) hS_w (fun q_w _ h_w => hFc q_w h_w) hFc (fun u_w t_w H1_w locs_w ht hvm hw hB_w hz1 hk1 hS_w => ?_)
  have hP1 : va_P G_w vwCl [(q1_w, .inr (0, [.int 30, .int 12, .int 1, .int 0]))] H1_w := by rw [← ht]; exact hB_w
  have hD1 : va_D (va_A [(q1_w, .inr (0, [.int 0, .int 0, .int 0, .int 0]))] H.size) [(q1_w, .inr (0, [.int 30, .int 12, .int 1, .int 0]))] := vd_1 (va_A.in (k := 0) (q := (q1_w, .inr (0, [.int 0, .int 0, .int 0, .int 0]))) rfl)
  obtain ⟨hP, hD⟩ := va_join (wr := [(h0, .inr (1, [.null, .int 0, .int 0, .int 0, .int 0, .int 0, .null, .null, .null, .null, .int 0, .int 0, .int 0, .null, .int 0]))]) (w1 := [(q1_w, .inr (0, [.int 30, .int 12, .int 1, .int 0]))]) hP hD [1] [0] rfl rfl (by decide) (by decide) hk1 hFc hP1 hD1
  generalize H1_w = H at hP hS_w ⊢
  have hP : va_P G_w vwCl [(h0, .inr (1, [.null, .int 0, .int 0, .int 0, .int 0, .int 0, .null, .null, .null, .null, .int 0, .int 0, .int 0, .null, .int 0])), (q1_w, .inr (0, [.int 30, .int 12, .int 1, .int 0]))] H := hP
  have hD : va_D (a1S h0 s_w.heap.size) [(h0, .inr (1, [.null, .int 0, .int 0, .int 0, .int 0, .int 0, .null, .null, .null, .null, .int 0, .int 0, .int 0, .null, .int 0])), (q1_w, .inr (0, [.int 30, .int 12, .int 1, .int 0]))] := hD
  refine va_putF (D := G_w) (ci := 1) (v := .ref q1_w) (ty := tyX1 0) (C := RX1) (T := TX1) (N := 15) (own := RX1) (ref := RX1) (index := 10) hx hb_w hts hinX1 tyX1 tyX1_ok nmX1 hown hK_w hP hD hS_w 0 rfl rfl 0 (by decide) (hts _ (List.mem_of_getElem? (i := 7) rfl)) (fun _ h9 => h9) rfl hin rfl (tyX1_ok 0 (by decide)) rfl rfl (Nat.le_of_ble_eq_true rfl) dX1_init_12 (fun H locs_w hP hD hS_w => ?_)
  have hP : va_P G_w vwCl [(h0, .inr (1, [.ref q1_w, .int 0, .int 0, .int 0, .int 0, .int 0, .null, .null, .null, .null, .int 0, .int 0, .int 0, .null, .int 0])), (q1_w, .inr (0, [.int 30, .int 12, .int 1, .int 0]))] H := hP
  have hD : va_D (a1S h0 s_w.heap.size) [(h0, .inr (1, [.ref q1_w, .int 0, .int 0, .int 0, .int 0, .int 0, .null, .null, .null, .null, .int 0, .int 0, .int 0, .null, .int 0])), (q1_w, .inr (0, [.int 30, .int 12, .int 1, .int 0]))] := hD
  refine lv_aload_n hx hb_w dX1_init_15 rfl (lv_at hl 0 rfl) ?_
  refine lv_bipush (v := 7) hx hb_w dX1_init_16 (by decide) ?_
  refine va_put (D := G_w) (ci := 1) (v := .int 7) (ty := tyX1 1) (C := RX1) (T := TX1) (N := 15) (own := RX1) (ref := RX1) (index := 16) hx hb_w hts hinX1 tyX1 tyX1_ok nmX1 hown hK_w hP hD hS_w 0 rfl rfl 1 (by decide) (hts _ (List.mem_of_getElem? (i := 8) rfl)) (fun _ h9 => h9) rfl (tyX1_ok 1 (by decide)) rfl rfl (Nat.le_of_ble_eq_true rfl) dX1_init_18 (fun H locs_w hP hD hS_w => ?_)
  have hP : va_P G_w vwCl [(h0, .inr (1, [.ref q1_w, .int 7, .int 0, .int 0, .int 0, .int 0, .null, .null, .null, .null, .int 0, .int 0, .int 0, .null, .int 0])), (q1_w, .inr (0, [.int 30, .int 12, .int 1, .int 0]))] H := hP
  have hD : va_D (a1S h0 s_w.heap.size) [(h0, .inr (1, [.ref q1_w, .int 7, .int 0, .int 0, .int 0, .int 0, .null, .null, .null, .null, .int 0, .int 0, .int 0, .null, .int 0])), (q1_w, .inr (0, [.int 30, .int 12, .int 1, .int 0]))] := hD
  refine lv_aload_n hx hb_w dX1_init_21 rfl (lv_at hl 0 rfl) ?_
  refine lv_bipush (v := 30) hx hb_w dX1_init_22 (by decide) ?_
  refine va_put (D := G_w) (ci := 1) (v := .int 30) (ty := tyX1 2) (C := RX1) (T := TX1) (N := 15) (own := RX1) (ref := RX1) (index := 20) hx hb_w hts hinX1 tyX1 tyX1_ok nmX1 hown hK_w hP hD hS_w 0 rfl rfl 2 (by decide) (hts _ (List.mem_of_getElem? (i := 9) rfl)) (fun _ h9 => h9) rfl (tyX1_ok 2 (by decide)) rfl rfl (Nat.le_of_ble_eq_true rfl) dX1_init_24 (fun H locs_w hP hD hS_w => ?_)
  have hP : va_P G_w vwCl [(h0, .inr (1, [.ref q1_w, .int 7, .int 30, .int 0, .int 0, .int 0, .null, .null, .null, .null, .int 0, .int 0, .int 0, .null, .int 0])), (q1_w, .inr (0, [.int 30, .int 12, .int 1, .int 0]))] H := hP
  have hD : va_D (a1S h0 s_w.heap.size) [(h0, .inr (1, [.ref q1_w, .int 7, .int 30, .int 0, .int 0, .int 0, .null, .null, .null, .null, .int 0, .int 0, .int 0, .null, .int 0])), (q1_w, .inr (0, [.int 30, .int 12, .int 1, .int 0]))] := hD
  refine lv_aload_n hx hb_w dX1_init_27 rfl (lv_at hl 0 rfl) ?_
  refine lv_sipush (v := 200) hx hb_w dX1_init_28 (by decide) ?_
  refine va_newa (D := G_w) (atype := .int) (ty := .int) (a0 := (200, .inl (fun _ => 0))) (N' := 200) hx hb_w (hts _ (List.mem_of_getElem? (i := 10) rfl)) rfl hK_w hP hD hS_w hA (fun _ => rfl) (by decide) (by decide) (by decide) (Nat.le_of_ble_eq_true rfl) (Nat.le_of_ble_eq_true rfl) dX1_init_31 (fun q2_w cx H hK_w hP hD hS_w => ?_)
  obtain ⟨cI, hcI⟩ : ∃ z_w, z_w = cx := ⟨_, rfl⟩
  subst hcI
  have hK_w : va_K G_w vwCl [(cI, .int)] s_w := hK_w
  have hP : va_P G_w vwCl [(h0, .inr (1, [.ref q1_w, .int 7, .int 30, .int 0, .int 0, .int 0, .null, .null, .null, .null, .int 0, .int 0, .int 0, .null, .int 0])), (q1_w, .inr (0, [.int 30, .int 12, .int 1, .int 0])), (q2_w, .inl (cI, 200, .inl (fun _ => 0)))] H := hP
  have hD : va_D (a1S h0 s_w.heap.size) [(h0, .inr (1, [.ref q1_w, .int 7, .int 30, .int 0, .int 0, .int 0, .null, .null, .null, .null, .int 0, .int 0, .int 0, .null, .int 0])), (q1_w, .inr (0, [.int 30, .int 12, .int 1, .int 0])), (q2_w, .inl (cI, 200, .inl (fun _ => 0)))] := hD
  refine va_putF (D := G_w) (ci := 1) (v := .ref q2_w) (ty := tyX1 6) (C := RX1) (T := TX1) (N := 15) (own := RX1) (ref := RX1) (index := 23) hx hb_w hts hinX1 tyX1 tyX1_ok nmX1 hown hK_w hP hD hS_w 0 rfl rfl 6 (by decide) (hts _ (List.mem_of_getElem? (i := 11) rfl)) (fun _ h9 => h9) rfl hin rfl (tyX1_ok 6 (by decide)) rfl rfl (Nat.le_of_ble_eq_true rfl) dX1_init_33 (fun H locs_w hP hD hS_w => ?_)
  have hP : va_P G_w vwCl [(h0, .inr (1, [.ref q1_w, .int 7, .int 30, .int 0, .int 0, .int 0, .ref q2_w, .null, .null, .null, .int 0, .int 0, .int 0, .null, .int 0])), (q1_w, .inr (0, [.int 30, .int 12, .int 1, .int 0])), (q2_w, .inl (cI, 200, .inl (fun _ => 0)))] H := hP
  have hD : va_D (a1S h0 s_w.heap.size) [(h0, .inr (1, [.ref q1_w, .int 7, .int 30, .int 0, .int 0, .int 0, .ref q2_w, .null, .null, .null, .int 0, .int 0, .int 0, .null, .int 0])), (q1_w, .inr (0, [.int 30, .int 12, .int 1, .int 0])), (q2_w, .inl (cI, 200, .inl (fun _ => 0)))] := hD
  refine lv_aload_n hx hb_w dX1_init_36 rfl (lv_at hl 0 rfl) ?_
  refine lv_sipush (v := 200) hx hb_w dX1_init_37 (by decide) ?_
  refine va_newa (D := G_w) (atype := .int) (ty := .int) (a0 := (200, .inl (fun _ => 0))) (N' := 200) hx hb_w (hts _ (List.mem_of_getElem? (i := 10) rfl)) rfl hK_w hP hD hS_w hA (fun _ => rfl) (by decide) (by decide) (by decide) (Nat.le_of_ble_eq_true rfl) (Nat.le_of_ble_eq_true rfl) dX1_init_40 (fun q3_w cx H hK_w hP hD hS_w => ?_)
  obtain rfl : cI = cx := ty_int hK_w 0 1 rfl rfl
  have hK_w := hK_w.sub (tys' := [(cI, .int)]) [0] rfl
  have hP : va_P G_w vwCl [(h0, .inr (1, [.ref q1_w, .int 7, .int 30, .int 0, .int 0, .int 0, .ref q2_w, .null, .null, .null, .int 0, .int 0, .int 0, .null, .int 0])), (q1_w, .inr (0, [.int 30, .int 12, .int 1, .int 0])), (q2_w, .inl (cI, 200, .inl (fun _ => 0))), (q3_w, .inl (cI, 200, .inl (fun _ => 0)))] H := hP
  have hD : va_D (a1S h0 s_w.heap.size) [(h0, .inr (1, [.ref q1_w, .int 7, .int 30, .int 0, .int 0, .int 0, .ref q2_w, .null, .null, .null, .int 0, .int 0, .int 0, .null, .int 0])), (q1_w, .inr (0, [.int 30, .int 12, .int 1, .int 0])), (q2_w, .inl (cI, 200, .inl (fun _ => 0))), (q3_w, .inl (cI, 200, .inl (fun _ => 0)))] := hD
  refine va_putF (D := G_w) (ci := 1) (v := .ref q3_w) (ty := tyX1 7) (C := RX1) (T := TX1) (N := 15) (own := RX1) (ref := RX1) (index := 27) hx hb_w hts hinX1 tyX1 tyX1_ok nmX1 hown hK_w hP hD hS_w 0 rfl rfl 7 (by decide) (hts _ (List.mem_of_getElem? (i := 12) rfl)) (fun _ h9 => h9) rfl hin rfl (tyX1_ok 7 (by decide)) rfl rfl (Nat.le_of_ble_eq_true rfl) dX1_init_42 (fun H locs_w hP hD hS_w => ?_)
  have hP : va_P G_w vwCl [(h0, .inr (1, [.ref q1_w, .int 7, .int 30, .int 0, .int 0, .int 0, .ref q2_w, .ref q3_w, .null, .null, .int 0, .int 0, .int 0, .null, .int 0])), (q1_w, .inr (0, [.int 30, .int 12, .int 1, .int 0])), (q2_w, .inl (cI, 200, .inl (fun _ => 0))), (q3_w, .inl (cI, 200, .inl (fun _ => 0)))] H := hP
  have hD : va_D (a1S h0 s_w.heap.size) [(h0, .inr (1, [.ref q1_w, .int 7, .int 30, .int 0, .int 0, .int 0, .ref q2_w, .ref q3_w, .null, .null, .int 0, .int 0, .int 0, .null, .int 0])), (q1_w, .inr (0, [.int 30, .int 12, .int 1, .int 0])), (q2_w, .inl (cI, 200, .inl (fun _ => 0))), (q3_w, .inl (cI, 200, .inl (fun _ => 0)))] := hD
  refine lv_aload_n hx hb_w dX1_init_45 rfl (lv_at hl 0 rfl) ?_
  refine lv_sipush (v := 200) hx hb_w dX1_init_46 (by decide) ?_
  refine va_newa (D := G_w) (atype := .int) (ty := .int) (a0 := (200, .inl (fun _ => 0))) (N' := 200) hx hb_w (hts _ (List.mem_of_getElem? (i := 10) rfl)) rfl hK_w hP hD hS_w hA (fun _ => rfl) (by decide) (by decide) (by decide) (Nat.le_of_ble_eq_true rfl) (Nat.le_of_ble_eq_true rfl) dX1_init_49 (fun q4_w cx H hK_w hP hD hS_w => ?_)
  obtain rfl : cI = cx := ty_int hK_w 0 1 rfl rfl
  have hK_w := hK_w.sub (tys' := [(cI, .int)]) [0] rfl
  have hP : va_P G_w vwCl [(h0, .inr (1, [.ref q1_w, .int 7, .int 30, .int 0, .int 0, .int 0, .ref q2_w, .ref q3_w, .null, .null, .int 0, .int 0, .int 0, .null, .int 0])), (q1_w, .inr (0, [.int 30, .int 12, .int 1, .int 0])), (q2_w, .inl (cI, 200, .inl (fun _ => 0))), (q3_w, .inl (cI, 200, .inl (fun _ => 0))), (q4_w, .inl (cI, 200, .inl (fun _ => 0)))] H := hP
  have hD : va_D (a1S h0 s_w.heap.size) [(h0, .inr (1, [.ref q1_w, .int 7, .int 30, .int 0, .int 0, .int 0, .ref q2_w, .ref q3_w, .null, .null, .int 0, .int 0, .int 0, .null, .int 0])), (q1_w, .inr (0, [.int 30, .int 12, .int 1, .int 0])), (q2_w, .inl (cI, 200, .inl (fun _ => 0))), (q3_w, .inl (cI, 200, .inl (fun _ => 0))), (q4_w, .inl (cI, 200, .inl (fun _ => 0)))] := hD
  refine va_putF (D := G_w) (ci := 1) (v := .ref q4_w) (ty := tyX1 8) (C := RX1) (T := TX1) (N := 15) (own := RX1) (ref := RX1) (index := 30) hx hb_w hts hinX1 tyX1 tyX1_ok nmX1 hown hK_w hP hD hS_w 0 rfl rfl 8 (by decide) (hts _ (List.mem_of_getElem? (i := 13) rfl)) (fun _ h9 => h9) rfl hin rfl (tyX1_ok 8 (by decide)) rfl rfl (Nat.le_of_ble_eq_true rfl) dX1_init_51 (fun H locs_w hP hD hS_w => ?_)
  have hP : va_P G_w vwCl [(h0, .inr (1, [.ref q1_w, .int 7, .int 30, .int 0, .int 0, .int 0, .ref q2_w, .ref q3_w, .ref q4_w, .null, .int 0, .int 0, .int 0, .null, .int 0])), (q1_w, .inr (0, [.int 30, .int 12, .int 1, .int 0])), (q2_w, .inl (cI, 200, .inl (fun _ => 0))), (q3_w, .inl (cI, 200, .inl (fun _ => 0))), (q4_w, .inl (cI, 200, .inl (fun _ => 0)))] H := hP
  have hD : va_D (a1S h0 s_w.heap.size) [(h0, .inr (1, [.ref q1_w, .int 7, .int 30, .int 0, .int 0, .int 0, .ref q2_w, .ref q3_w, .ref q4_w, .null, .int 0, .int 0, .int 0, .null, .int 0])), (q1_w, .inr (0, [.int 30, .int 12, .int 1, .int 0])), (q2_w, .inl (cI, 200, .inl (fun _ => 0))), (q3_w, .inl (cI, 200, .inl (fun _ => 0))), (q4_w, .inl (cI, 200, .inl (fun _ => 0)))] := hD
  refine lv_aload_n hx hb_w dX1_init_54 rfl (lv_at hl 0 rfl) ?_
  refine lv_sipush (v := 200) hx hb_w dX1_init_55 (by decide) ?_
  refine va_newa (D := G_w) (atype := .int) (ty := .int) (a0 := (200, .inl (fun _ => 0))) (N' := 200) hx hb_w (hts _ (List.mem_of_getElem? (i := 10) rfl)) rfl hK_w hP hD hS_w hA (fun _ => rfl) (by decide) (by decide) (by decide) (Nat.le_of_ble_eq_true rfl) (Nat.le_of_ble_eq_true rfl) dX1_init_58 (fun q5_w cx H hK_w hP hD hS_w => ?_)
  obtain rfl : cI = cx := ty_int hK_w 0 1 rfl rfl
  have hK_w := hK_w.sub (tys' := [(cI, .int)]) [0] rfl
  have hP : va_P G_w vwCl [(h0, .inr (1, [.ref q1_w, .int 7, .int 30, .int 0, .int 0, .int 0, .ref q2_w, .ref q3_w, .ref q4_w, .null, .int 0, .int 0, .int 0, .null, .int 0])), (q1_w, .inr (0, [.int 30, .int 12, .int 1, .int 0])), (q2_w, .inl (cI, 200, .inl (fun _ => 0))), (q3_w, .inl (cI, 200, .inl (fun _ => 0))), (q4_w, .inl (cI, 200, .inl (fun _ => 0))), (q5_w, .inl (cI, 200, .inl (fun _ => 0)))] H := hP
  have hD : va_D (a1S h0 s_w.heap.size) [(h0, .inr (1, [.ref q1_w, .int 7, .int 30, .int 0, .int 0, .int 0, .ref q2_w, .ref q3_w, .ref q4_w, .null, .int 0, .int 0, .int 0, .null, .int 0])), (q1_w, .inr (0, [.int 30, .int 12, .int 1, .int 0])), (q2_w, .inl (cI, 200, .inl (fun _ => 0))), (q3_w, .inl (cI, 200, .inl (fun _ => 0))), (q4_w, .inl (cI, 200, .inl (fun _ => 0))), (q5_w, .inl (cI, 200, .inl (fun _ => 0)))] := hD
  refine va_putF (D := G_w) (ci := 1) (v := .ref q5_w) (ty := tyX1 9) (C := RX1) (T := TX1) (N := 15) (own := RX1) (ref := RX1) (index := 33) hx hb_w hts hinX1 tyX1 tyX1_ok nmX1 hown hK_w hP hD hS_w 0 rfl rfl 9 (by decide) (hts _ (List.mem_of_getElem? (i := 14) rfl)) (fun _ h9 => h9) rfl hin rfl (tyX1_ok 9 (by decide)) rfl rfl (Nat.le_of_ble_eq_true rfl) dX1_init_60 (fun H locs_w hP hD hS_w => ?_)
  have hP : va_P G_w vwCl [(h0, .inr (1, [.ref q1_w, .int 7, .int 30, .int 0, .int 0, .int 0, .ref q2_w, .ref q3_w, .ref q4_w, .ref q5_w, .int 0, .int 0, .int 0, .null, .int 0])), (q1_w, .inr (0, [.int 30, .int 12, .int 1, .int 0])), (q2_w, .inl (cI, 200, .inl (fun _ => 0))), (q3_w, .inl (cI, 200, .inl (fun _ => 0))), (q4_w, .inl (cI, 200, .inl (fun _ => 0))), (q5_w, .inl (cI, 200, .inl (fun _ => 0)))] H := hP
  have hD : va_D (a1S h0 s_w.heap.size) [(h0, .inr (1, [.ref q1_w, .int 7, .int 30, .int 0, .int 0, .int 0, .ref q2_w, .ref q3_w, .ref q4_w, .ref q5_w, .int 0, .int 0, .int 0, .null, .int 0])), (q1_w, .inr (0, [.int 30, .int 12, .int 1, .int 0])), (q2_w, .inl (cI, 200, .inl (fun _ => 0))), (q3_w, .inl (cI, 200, .inl (fun _ => 0))), (q4_w, .inl (cI, 200, .inl (fun _ => 0))), (q5_w, .inl (cI, 200, .inl (fun _ => 0)))] := hD
  refine lv_aload_n hx hb_w dX1_init_63 rfl (lv_at hl 0 rfl) ?_
  refine lv_sipush (v := 200) hx hb_w dX1_init_64 (by decide) ?_
  refine va_newa (D := G_w) (atype := .boolean) (ty := .boolean) (a0 := (200, .inl (fun _ => 0))) (N' := 200) hx hb_w (hts _ (List.mem_of_getElem? (i := 15) rfl)) rfl hK_w hP hD hS_w hA (fun _ => rfl) (by decide) (by decide) (by decide) (Nat.le_of_ble_eq_true rfl) (Nat.le_of_ble_eq_true rfl) dX1_init_67 (fun q6_w cx H hK_w hP hD hS_w => ?_)
  have hK_w : va_K G_w vwCl [(cI, .int), (cx, .boolean)] s_w := hK_w
  have hP : va_P G_w vwCl [(h0, .inr (1, [.ref q1_w, .int 7, .int 30, .int 0, .int 0, .int 0, .ref q2_w, .ref q3_w, .ref q4_w, .ref q5_w, .int 0, .int 0, .int 0, .null, .int 0])), (q1_w, .inr (0, [.int 30, .int 12, .int 1, .int 0])), (q2_w, .inl (cI, 200, .inl (fun _ => 0))), (q3_w, .inl (cI, 200, .inl (fun _ => 0))), (q4_w, .inl (cI, 200, .inl (fun _ => 0))), (q5_w, .inl (cI, 200, .inl (fun _ => 0))), (q6_w, .inl (cx, 200, .inl (fun _ => 0)))] H := hP
  have hD : va_D (a1S h0 s_w.heap.size) [(h0, .inr (1, [.ref q1_w, .int 7, .int 30, .int 0, .int 0, .int 0, .ref q2_w, .ref q3_w, .ref q4_w, .ref q5_w, .int 0, .int 0, .int 0, .null, .int 0])), (q1_w, .inr (0, [.int 30, .int 12, .int 1, .int 0])), (q2_w, .inl (cI, 200, .inl (fun _ => 0))), (q3_w, .inl (cI, 200, .inl (fun _ => 0))), (q4_w, .inl (cI, 200, .inl (fun _ => 0))), (q5_w, .inl (cI, 200, .inl (fun _ => 0))), (q6_w, .inl (cx, 200, .inl (fun _ => 0)))] := hD
  refine va_putF (D := G_w) (ci := 1) (v := .ref q6_w) (ty := tyX1 13) (C := RX1) (T := TX1) (N := 15) (own := RX1) (ref := RX1) (index := 36) hx hb_w hts hinX1 tyX1 tyX1_ok nmX1 hown hK_w hP hD hS_w 0 rfl rfl 13 (by decide) (hts _ (List.mem_of_getElem? (i := 16) rfl)) (fun _ h9 => h9) rfl hin rfl (tyX1_ok 13 (by decide)) rfl rfl (Nat.le_of_ble_eq_true rfl) dX1_init_69 (fun H locs_w hP hD hS_w => ?_)
  have hP : va_P G_w vwCl [(h0, .inr (1, [.ref q1_w, .int 7, .int 30, .int 0, .int 0, .int 0, .ref q2_w, .ref q3_w, .ref q4_w, .ref q5_w, .int 0, .int 0, .int 0, .ref q6_w, .int 0])), (q1_w, .inr (0, [.int 30, .int 12, .int 1, .int 0])), (q2_w, .inl (cI, 200, .inl (fun _ => 0))), (q3_w, .inl (cI, 200, .inl (fun _ => 0))), (q4_w, .inl (cI, 200, .inl (fun _ => 0))), (q5_w, .inl (cI, 200, .inl (fun _ => 0))), (q6_w, .inl (cx, 200, .inl (fun _ => 0)))] H := hP
  have hD : va_D (a1S h0 s_w.heap.size) [(h0, .inr (1, [.ref q1_w, .int 7, .int 30, .int 0, .int 0, .int 0, .ref q2_w, .ref q3_w, .ref q4_w, .ref q5_w, .int 0, .int 0, .int 0, .ref q6_w, .int 0])), (q1_w, .inr (0, [.int 30, .int 12, .int 1, .int 0])), (q2_w, .inl (cI, 200, .inl (fun _ => 0))), (q3_w, .inl (cI, 200, .inl (fun _ => 0))), (q4_w, .inl (cI, 200, .inl (fun _ => 0))), (q5_w, .inl (cI, 200, .inl (fun _ => 0))), (q6_w, .inl (cx, 200, .inl (fun _ => 0)))] := hD
  refine lv_aload_n hx hb_w dX1_init_72 rfl (lv_at hl 0 rfl) ?_
  refine lv_iconst (v := 1) hx hb_w dX1_init_73 (by decide) ?_
  refine va_put (D := G_w) (ci := 1) (v := .int 1) (ty := tyX1 4) (C := RX1) (T := TX1) (N := 15) (own := RX1) (ref := RX1) (index := 40) hx hb_w hts hinX1 tyX1 tyX1_ok nmX1 hown hK_w hP hD hS_w 0 rfl rfl 4 (by decide) (hts _ (List.mem_of_getElem? (i := 17) rfl)) (fun _ h9 => h9) rfl (tyX1_ok 4 (by decide)) rfl rfl (Nat.le_of_ble_eq_true rfl) dX1_init_74 (fun H locs_w hP hD hS_w => ?_)
  have hP : va_P G_w vwCl [(h0, .inr (1, [.ref q1_w, .int 7, .int 30, .int 0, .int 1, .int 0, .ref q2_w, .ref q3_w, .ref q4_w, .ref q5_w, .int 0, .int 0, .int 0, .ref q6_w, .int 0])), (q1_w, .inr (0, [.int 30, .int 12, .int 1, .int 0])), (q2_w, .inl (cI, 200, .inl (fun _ => 0))), (q3_w, .inl (cI, 200, .inl (fun _ => 0))), (q4_w, .inl (cI, 200, .inl (fun _ => 0))), (q5_w, .inl (cI, 200, .inl (fun _ => 0))), (q6_w, .inl (cx, 200, .inl (fun _ => 0)))] H := hP
  have hD : va_D (a1S h0 s_w.heap.size) [(h0, .inr (1, [.ref q1_w, .int 7, .int 30, .int 0, .int 1, .int 0, .ref q2_w, .ref q3_w, .ref q4_w, .ref q5_w, .int 0, .int 0, .int 0, .ref q6_w, .int 0])), (q1_w, .inr (0, [.int 30, .int 12, .int 1, .int 0])), (q2_w, .inl (cI, 200, .inl (fun _ => 0))), (q3_w, .inl (cI, 200, .inl (fun _ => 0))), (q4_w, .inl (cI, 200, .inl (fun _ => 0))), (q5_w, .inl (cI, 200, .inl (fun _ => 0))), (q6_w, .inl (cx, 200, .inl (fun _ => 0)))] := hD
  refine lv_aload_n hx hb_w dX1_init_77 rfl (lv_at hl 0 rfl) ?_
  refine lv_iconst (v := (-1)) hx hb_w dX1_init_78 (by decide) ?_
  refine va_put (D := G_w) (ci := 1) (v := .int (-1)) (ty := tyX1 12) (C := RX1) (T := TX1) (N := 15) (own := RX1) (ref := RX1) (index := 43) hx hb_w hts hinX1 tyX1 tyX1_ok nmX1 hown hK_w hP hD hS_w 0 rfl rfl 12 (by decide) (hts _ (List.mem_of_getElem? (i := 18) rfl)) (fun _ h9 => h9) rfl (tyX1_ok 12 (by decide)) rfl rfl (Nat.le_of_ble_eq_true rfl) dX1_init_79 (fun H locs_w hP hD hS_w => ?_)
  have hP : va_P G_w vwCl [(h0, .inr (1, [.ref q1_w, .int 7, .int 30, .int 0, .int 1, .int 0, .ref q2_w, .ref q3_w, .ref q4_w, .ref q5_w, .int 0, .int 0, .int (-1), .ref q6_w, .int 0])), (q1_w, .inr (0, [.int 30, .int 12, .int 1, .int 0])), (q2_w, .inl (cI, 200, .inl (fun _ => 0))), (q3_w, .inl (cI, 200, .inl (fun _ => 0))), (q4_w, .inl (cI, 200, .inl (fun _ => 0))), (q5_w, .inl (cI, 200, .inl (fun _ => 0))), (q6_w, .inl (cx, 200, .inl (fun _ => 0)))] H := hP
  have hD : va_D (a1S h0 s_w.heap.size) [(h0, .inr (1, [.ref q1_w, .int 7, .int 30, .int 0, .int 1, .int 0, .ref q2_w, .ref q3_w, .ref q4_w, .ref q5_w, .int 0, .int 0, .int (-1), .ref q6_w, .int 0])), (q1_w, .inr (0, [.int 30, .int 12, .int 1, .int 0])), (q2_w, .inl (cI, 200, .inl (fun _ => 0))), (q3_w, .inl (cI, 200, .inl (fun _ => 0))), (q4_w, .inl (cI, 200, .inl (fun _ => 0))), (q5_w, .inl (cI, 200, .inl (fun _ => 0))), (q6_w, .inl (cx, 200, .inl (fun _ => 0)))] := hD
  have hP : va_P G_w vwCl (wD (ad7 h0 q1_w q2_w q3_w q4_w q5_w q6_w) cI cx g0 f0 (fun _ => 0) 0) H := hP
  have hD : va_D (a1S h0 s_w.heap.size) (wD (ad7 h0 q1_w q2_w q3_w q4_w q5_w q6_w) cI cx g0 f0 (fun _ => 0) 0) := hD
  obtain ⟨h7, h8⟩ := wD_ap hD
  refine W.widen (k := 6) (n := 1004) (Nat.le_of_ble_eq_true rfl) (Nat.le_of_ble_eq_true rfl) ?_
  exact W.vret hx hb_w hr (fun t_w ht hW => ⟨⟨((ad7 h0 q1_w q2_w q3_w q4_w q5_w q6_w), cI, cx), rfl, ⟨rfl, h7, h8⟩, ht ▸ hP, va_K.moved hW.alike hK_w⟩, hS_w.F ht⟩) hS_w.2.2 dX1_init_82
set_option maxHeartbeats 4000000 in
set_option maxRecDepth 100000 in
theorem kX2_init (l : Launch) (G_w : va_G) (h0 sz_w : Nat) : mkD l yX2_init wsX2_init { frames := 1, cells := 5, slots := 1000, locals := 16 } G_w [(h0, .inr (2, [.int 0, .int 0, .int 0, .int 0, .int 0, .int 0, .int 0, .int 0, .null, .null, .null, .null, .null, .int 0, .int 0, .int 0, .int 0, .int 0]))] (a1S h0 sz_w) sz_w h0 6 5 1000 (fun a_w cI cZ => wM a_w cI cZ g0 f0 0) := by
  refine Met.ofW (cc := cX2_init) (maxL := 1) (ret := none) (by decide) rfl ?_
  intro p_w e_w s_w m_w args_w below meth_w c_w s₁ B_w hml hv
  obtain ⟨rfl, hsz, hP, hK_w⟩ := hv
  have hx := B_w.exec
  have hb_w := B_w.bytes
  have hr := B_w.returns
  have hts := atoms_spec (ws := wsX2_init) B_w.pre
  have hown : s_w.vm.findClass RX2 = some m_w.cls := findClass_of_methodNamed B_w.named
  have hlk := B_w.notSynchronized
  have hin : meth_w.name = "<init>" := (name_of_methodNamed B_w.named B_w.method).1
  subst hsz
  have hA : ∀ q_w : Nat, s_w.heap.size ≤ q_w → a1S h0 s_w.heap.size q_w := fun q_w h_w => Or.inr h_w
  have hS_w : va_S (a1S h0 s_w.heap.size) s_w.heap s_w.heap [] := va_S.rf
  have hD : va_D (a1S h0 s_w.heap.size) [(h0, .inr (2, [.int 0, .int 0, .int 0, .int 0, .int 0, .int 0, .int 0, .int 0, .null, .null, .null, .null, .null, .int 0, .int 0, .int 0, .int 0, .int 0]))] := vd_1 (a1_h _ _)
  have hP : va_P G_w vwCl [(h0, .inr (2, [.int 0, .int 0, .int 0, .int 0, .int 0, .int 0, .int 0, .int 0, .null, .null, .null, .null, .null, .int 0, .int 0, .int 0, .int 0, .int 0]))] s_w.heap := hP
  have hl := lv_entry ([.ref h0]) (n := 1) (Nat.le_of_ble_eq_true rfl)
  rw [lg_entry_eq]
  generalize (lg_sl ([.ref h0]) ++ List.replicate (1 - (lg_sl ([.ref h0])).length) Slot.unset).toArray = ls at hl ⊢
  have hl : lv_has ls 1 [(0, .ref h0)] := hl
  have hinX2 : ∀ w_w ∈ wsX20, w_w ∈ wsX2_init := by decide +kernel
  refine lv_aload_n hx hb_w dX2_init_0 rfl (lv_at hl 0 rfl) ?_
  refine W.objInit hx hb_w hown (hts _ (List.mem_of_getElem? (i := 1) rfl)) (hts _ (List.mem_of_getElem? (i := 2) rfl)) (hts _ (List.mem_of_getElem? (i := 3) rfl)) rfl (by rw [hml]; exact hl.1) rfl dX2_init_1 (Nat.le_of_ble_eq_true rfl) (Nat.le_of_ble_eq_true rfl) ?_
  refine W.eq (g2 := F0 m_w 4 ls []) rfl ?_
  refine lv_aload_n hx hb_w dX2_init_4 rfl (lv_at hl 0 rfl) ?_
  refine lv_bipush (v := 30) hx hb_w dX2_init_5 (by decide) ?_
  refine va_put (D := G_w) (ci := 2) (v := .int 30) (ty := tyX2 1) (C := RX2) (T := TX2) (N := 18) (own := RX2) (ref := RX2) (index := 7) hx hb_w hts hinX2 tyX2 tyX2_ok nmX2 hown hK_w hP hD hS_w 0 rfl rfl 1 (by decide) (hts _ (List.mem_of_getElem? (i := 4) rfl)) (fun _ h9 => h9) rfl (tyX2_ok 1 (by decide)) rfl rfl (Nat.le_of_ble_eq_true rfl) dX2_init_7 (fun H locs_w hP hD hS_w => ?_)
  have hP : va_P G_w vwCl [(h0, .inr (2, [.int 0, .int 30, .int 0, .int 0, .int 0, .int 0, .int 0, .int 0, .null, .null, .null, .null, .null, .int 0, .int 0, .int 0, .int 0, .int 0]))] H := hP
  have hD : va_D (a1S h0 s_w.heap.size) [(h0, .inr (2, [.int 0, .int 30, .int 0, .int 0, .int 0, .int 0, .int 0, .int 0, .null, .null, .null, .null, .null, .int 0, .int 0, .int 0, .int 0, .int 0]))] := hD
  refine lv_aload_n hx hb_w dX2_init_10 rfl (lv_at hl 0 rfl) ?_
  refine lv_bipush (v := 12) hx hb_w dX2_init_11 (by decide) ?_
  refine va_put (D := G_w) (ci := 2) (v := .int 12) (ty := tyX2 2) (C := RX2) (T := TX2) (N := 18) (own := RX2) (ref := RX2) (index := 13) hx hb_w hts hinX2 tyX2 tyX2_ok nmX2 hown hK_w hP hD hS_w 0 rfl rfl 2 (by decide) (hts _ (List.mem_of_getElem? (i := 5) rfl)) (fun _ h9 => h9) rfl (tyX2_ok 2 (by decide)) rfl rfl (Nat.le_of_ble_eq_true rfl) dX2_init_13 (fun H locs_w hP hD hS_w => ?_)
  have hP : va_P G_w vwCl [(h0, .inr (2, [.int 0, .int 30, .int 12, .int 0, .int 0, .int 0, .int 0, .int 0, .null, .null, .null, .null, .null, .int 0, .int 0, .int 0, .int 0, .int 0]))] H := hP
  have hD : va_D (a1S h0 s_w.heap.size) [(h0, .inr (2, [.int 0, .int 30, .int 12, .int 0, .int 0, .int 0, .int 0, .int 0, .null, .null, .null, .null, .null, .int 0, .int 0, .int 0, .int 0, .int 0]))] := hD
  refine lv_aload_n hx hb_w dX2_init_16 rfl (lv_at hl 0 rfl) ?_
  refine lv_iconst (v := 1) hx hb_w dX2_init_17 (by decide) ?_
  refine va_put (D := G_w) (ci := 2) (v := .int 1) (ty := tyX2 3) (C := RX2) (T := TX2) (N := 18) (own := RX2) (ref := RX2) (index := 16) hx hb_w hts hinX2 tyX2 tyX2_ok nmX2 hown hK_w hP hD hS_w 0 rfl rfl 3 (by decide) (hts _ (List.mem_of_getElem? (i := 6) rfl)) (fun _ h9 => h9) rfl (tyX2_ok 3 (by decide)) rfl rfl (Nat.le_of_ble_eq_true rfl) dX2_init_18 (fun H locs_w hP hD hS_w => ?_)
  have hP : va_P G_w vwCl [(h0, .inr (2, [.int 0, .int 30, .int 12, .int 1, .int 0, .int 0, .int 0, .int 0, .null, .null, .null, .null, .null, .int 0, .int 0, .int 0, .int 0, .int 0]))] H := hP
  have hD : va_D (a1S h0 s_w.heap.size) [(h0, .inr (2, [.int 0, .int 30, .int 12, .int 1, .int 0, .int 0, .int 0, .int 0, .null, .null, .null, .null, .null, .int 0, .int 0, .int 0, .int 0, .int 0]))] := hD
  refine lv_aload_n hx hb_w dX2_init_21 rfl (lv_at hl 0 rfl) ?_
  refine lv_bipush (v := 7) hx hb_w dX2_init_22 (by decide) ?_
  refine va_put (D := G_w) (ci := 2) (v := .int 7) (ty := tyX2 5) (C := RX2) (T := TX2) (N := 18) (own := RX2) (ref := RX2) (index := 20) hx hb_w hts hinX2 tyX2 tyX2_ok nmX2 hown hK_w hP hD hS_w 0 rfl rfl 5 (by decide) (hts _ (List.mem_of_getElem? (i := 7) rfl)) (fun _ h9 => h9) rfl (tyX2_ok 5 (by decide)) rfl rfl (Nat.le_of_ble_eq_true rfl) dX2_init_24 (fun H locs_w hP hD hS_w => ?_)
  have hP : va_P G_w vwCl [(h0, .inr (2, [.int 0, .int 30, .int 12, .int 1, .int 0, .int 7, .int 0, .int 0, .null, .null, .null, .null, .null, .int 0, .int 0, .int 0, .int 0, .int 0]))] H := hP
  have hD : va_D (a1S h0 s_w.heap.size) [(h0, .inr (2, [.int 0, .int 30, .int 12, .int 1, .int 0, .int 7, .int 0, .int 0, .null, .null, .null, .null, .null, .int 0, .int 0, .int 0, .int 0, .int 0]))] := hD
  refine lv_aload_n hx hb_w dX2_init_27 rfl (lv_at hl 0 rfl) ?_
  refine lv_bipush (v := 30) hx hb_w dX2_init_28 (by decide) ?_
  refine va_put (D := G_w) (ci := 2) (v := .int 30) (ty := tyX2 6) (C := RX2) (T := TX2) (N := 18) (own := RX2) (ref := RX2) (index := 23) hx hb_w hts hinX2 tyX2 tyX2_ok nmX2 hown hK_w hP hD hS_w 0 rfl rfl 6 (by decide) (hts _ (List.mem_of_getElem? (i := 8) rfl)) (fun _ h9 => h9) rfl (tyX2_ok 6 (by decide)) rfl rfl (Nat.le_of_ble_eq_true rfl) dX2_init_30 (fun H locs_w hP hD hS_w => ?_)
  have hP : va_P G_w vwCl [(h0, .inr (2, [.int 0, .int 30, .int 12, .int 1, .int 0, .int 7, .int 30, .int 0, .null, .null, .null, .null, .null, .int 0, .int 0, .int 0, .int 0, .int 0]))] H := hP
  have hD : va_D (a1S h0 s_w.heap.size) [(h0, .inr (2, [.int 0, .int 30, .int 12, .int 1, .int 0, .int 7, .int 30, .int 0, .null, .null, .null, .null, .null, .int 0, .int 0, .int 0, .int 0, .int 0]))] := hD
  refine lv_aload_n hx hb_w dX2_init_33 rfl (lv_at hl 0 rfl) ?_
  refine lv_sipush (v := 200) hx hb_w dX2_init_34 (by decide) ?_
  refine va_newa (D := G_w) (atype := .int) (ty := .int) (a0 := (200, .inl (fun _ => 0))) (N' := 200) hx hb_w (hts _ (List.mem_of_getElem? (i := 9) rfl)) rfl hK_w hP hD hS_w hA (fun _ => rfl) (by decide) (by decide) (by decide) (Nat.le_of_ble_eq_true rfl) (Nat.le_of_ble_eq_true rfl) dX2_init_37 (fun q1_w cx H hK_w hP hD hS_w => ?_)
  obtain ⟨cI, hcI⟩ : ∃ z_w, z_w = cx := ⟨_, rfl⟩
  subst hcI
  have hK_w : va_K G_w vwCl [(cI, .int)] s_w := hK_w
  have hP : va_P G_w vwCl [(h0, .inr (2, [.int 0, .int 30, .int 12, .int 1, .int 0, .int 7, .int 30, .int 0, .null, .null, .null, .null, .null, .int 0, .int 0, .int 0, .int 0, .int 0])), (q1_w, .inl (cI, 200, .inl (fun _ => 0)))] H := hP
  have hD : va_D (a1S h0 s_w.heap.size) [(h0, .inr (2, [.int 0, .int 30, .int 12, .int 1, .int 0, .int 7, .int 30, .int 0, .null, .null, .null, .null, .null, .int 0, .int 0, .int 0, .int 0, .int 0])), (q1_w, .inl (cI, 200, .inl (fun _ => 0)))] := hD
  refine va_putF (D := G_w) (ci := 2) (v := .ref q1_w) (ty := tyX2 8) (C := RX2) (T := TX2) (N := 18) (own := RX2) (ref := RX2) (index := 26) hx hb_w hts hinX2 tyX2 tyX2_ok nmX2 hown hK_w hP hD hS_w 0 rfl rfl 8 (by decide) (hts _ (List.mem_of_getElem? (i := 10) rfl)) (fun _ h9 => h9) rfl hin rfl (tyX2_ok 8 (by decide)) rfl rfl (Nat.le_of_ble_eq_true rfl) dX2_init_39 (fun H locs_w hP hD hS_w => ?_)
  have hP : va_P G_w vwCl [(h0, .inr (2, [.int 0, .int 30, .int 12, .int 1, .int 0, .int 7, .int 30, .int 0, .ref q1_w, .null, .null, .null, .null, .int 0, .int 0, .int 0, .int 0, .int 0])), (q1_w, .inl (cI, 200, .inl (fun _ => 0)))] H := hP
  have hD : va_D (a1S h0 s_w.heap.size) [(h0, .inr (2, [.int 0, .int 30, .int 12, .int 1, .int 0, .int 7, .int 30, .int 0, .ref q1_w, .null, .null, .null, .null, .int 0, .int 0, .int 0, .int 0, .int 0])), (q1_w, .inl (cI, 200, .inl (fun _ => 0)))] := hD
  refine lv_aload_n hx hb_w dX2_init_42 rfl (lv_at hl 0 rfl) ?_
  refine lv_sipush (v := 200) hx hb_w dX2_init_43 (by decide) ?_
  refine va_newa (D := G_w) (atype := .int) (ty := .int) (a0 := (200, .inl (fun _ => 0))) (N' := 200) hx hb_w (hts _ (List.mem_of_getElem? (i := 9) rfl)) rfl hK_w hP hD hS_w hA (fun _ => rfl) (by decide) (by decide) (by decide) (Nat.le_of_ble_eq_true rfl) (Nat.le_of_ble_eq_true rfl) dX2_init_46 (fun q2_w cx H hK_w hP hD hS_w => ?_)
  obtain rfl : cI = cx := ty_int hK_w 0 1 rfl rfl
  have hK_w := hK_w.sub (tys' := [(cI, .int)]) [0] rfl
  have hP : va_P G_w vwCl [(h0, .inr (2, [.int 0, .int 30, .int 12, .int 1, .int 0, .int 7, .int 30, .int 0, .ref q1_w, .null, .null, .null, .null, .int 0, .int 0, .int 0, .int 0, .int 0])), (q1_w, .inl (cI, 200, .inl (fun _ => 0))), (q2_w, .inl (cI, 200, .inl (fun _ => 0)))] H := hP
  have hD : va_D (a1S h0 s_w.heap.size) [(h0, .inr (2, [.int 0, .int 30, .int 12, .int 1, .int 0, .int 7, .int 30, .int 0, .ref q1_w, .null, .null, .null, .null, .int 0, .int 0, .int 0, .int 0, .int 0])), (q1_w, .inl (cI, 200, .inl (fun _ => 0))), (q2_w, .inl (cI, 200, .inl (fun _ => 0)))] := hD
  refine va_putF (D := G_w) (ci := 2) (v := .ref q2_w) (ty := tyX2 9) (C := RX2) (T := TX2) (N := 18) (own := RX2) (ref := RX2) (index := 30) hx hb_w hts hinX2 tyX2 tyX2_ok nmX2 hown hK_w hP hD hS_w 0 rfl rfl 9 (by decide) (hts _ (List.mem_of_getElem? (i := 11) rfl)) (fun _ h9 => h9) rfl hin rfl (tyX2_ok 9 (by decide)) rfl rfl (Nat.le_of_ble_eq_true rfl) dX2_init_48 (fun H locs_w hP hD hS_w => ?_)
  have hP : va_P G_w vwCl [(h0, .inr (2, [.int 0, .int 30, .int 12, .int 1, .int 0, .int 7, .int 30, .int 0, .ref q1_w, .ref q2_w, .null, .null, .null, .int 0, .int 0, .int 0, .int 0, .int 0])), (q1_w, .inl (cI, 200, .inl (fun _ => 0))), (q2_w, .inl (cI, 200, .inl (fun _ => 0)))] H := hP
  have hD : va_D (a1S h0 s_w.heap.size) [(h0, .inr (2, [.int 0, .int 30, .int 12, .int 1, .int 0, .int 7, .int 30, .int 0, .ref q1_w, .ref q2_w, .null, .null, .null, .int 0, .int 0, .int 0, .int 0, .int 0])), (q1_w, .inl (cI, 200, .inl (fun _ => 0))), (q2_w, .inl (cI, 200, .inl (fun _ => 0)))] := hD
  refine lv_aload_n hx hb_w dX2_init_51 rfl (lv_at hl 0 rfl) ?_
  refine lv_sipush (v := 200) hx hb_w dX2_init_52 (by decide) ?_
  refine va_newa (D := G_w) (atype := .int) (ty := .int) (a0 := (200, .inl (fun _ => 0))) (N' := 200) hx hb_w (hts _ (List.mem_of_getElem? (i := 9) rfl)) rfl hK_w hP hD hS_w hA (fun _ => rfl) (by decide) (by decide) (by decide) (Nat.le_of_ble_eq_true rfl) (Nat.le_of_ble_eq_true rfl) dX2_init_55 (fun q3_w cx H hK_w hP hD hS_w => ?_)
  obtain rfl : cI = cx := ty_int hK_w 0 1 rfl rfl
  have hK_w := hK_w.sub (tys' := [(cI, .int)]) [0] rfl
  have hP : va_P G_w vwCl [(h0, .inr (2, [.int 0, .int 30, .int 12, .int 1, .int 0, .int 7, .int 30, .int 0, .ref q1_w, .ref q2_w, .null, .null, .null, .int 0, .int 0, .int 0, .int 0, .int 0])), (q1_w, .inl (cI, 200, .inl (fun _ => 0))), (q2_w, .inl (cI, 200, .inl (fun _ => 0))), (q3_w, .inl (cI, 200, .inl (fun _ => 0)))] H := hP
  have hD : va_D (a1S h0 s_w.heap.size) [(h0, .inr (2, [.int 0, .int 30, .int 12, .int 1, .int 0, .int 7, .int 30, .int 0, .ref q1_w, .ref q2_w, .null, .null, .null, .int 0, .int 0, .int 0, .int 0, .int 0])), (q1_w, .inl (cI, 200, .inl (fun _ => 0))), (q2_w, .inl (cI, 200, .inl (fun _ => 0))), (q3_w, .inl (cI, 200, .inl (fun _ => 0)))] := hD
  refine va_putF (D := G_w) (ci := 2) (v := .ref q3_w) (ty := tyX2 10) (C := RX2) (T := TX2) (N := 18) (own := RX2) (ref := RX2) (index := 33) hx hb_w hts hinX2 tyX2 tyX2_ok nmX2 hown hK_w hP hD hS_w 0 rfl rfl 10 (by decide) (hts _ (List.mem_of_getElem? (i := 12) rfl)) (fun _ h9 => h9) rfl hin rfl (tyX2_ok 10 (by decide)) rfl rfl (Nat.le_of_ble_eq_true rfl) dX2_init_57 (fun H locs_w hP hD hS_w => ?_)
  have hP : va_P G_w vwCl [(h0, .inr (2, [.int 0, .int 30, .int 12, .int 1, .int 0, .int 7, .int 30, .int 0, .ref q1_w, .ref q2_w, .ref q3_w, .null, .null, .int 0, .int 0, .int 0, .int 0, .int 0])), (q1_w, .inl (cI, 200, .inl (fun _ => 0))), (q2_w, .inl (cI, 200, .inl (fun _ => 0))), (q3_w, .inl (cI, 200, .inl (fun _ => 0)))] H := hP
  have hD : va_D (a1S h0 s_w.heap.size) [(h0, .inr (2, [.int 0, .int 30, .int 12, .int 1, .int 0, .int 7, .int 30, .int 0, .ref q1_w, .ref q2_w, .ref q3_w, .null, .null, .int 0, .int 0, .int 0, .int 0, .int 0])), (q1_w, .inl (cI, 200, .inl (fun _ => 0))), (q2_w, .inl (cI, 200, .inl (fun _ => 0))), (q3_w, .inl (cI, 200, .inl (fun _ => 0)))] := hD
  refine lv_aload_n hx hb_w dX2_init_60 rfl (lv_at hl 0 rfl) ?_
  refine lv_sipush (v := 200) hx hb_w dX2_init_61 (by decide) ?_
  refine va_newa (D := G_w) (atype := .int) (ty := .int) (a0 := (200, .inl (fun _ => 0))) (N' := 200) hx hb_w (hts _ (List.mem_of_getElem? (i := 9) rfl)) rfl hK_w hP hD hS_w hA (fun _ => rfl) (by decide) (by decide) (by decide) (Nat.le_of_ble_eq_true rfl) (Nat.le_of_ble_eq_true rfl) dX2_init_64 (fun q4_w cx H hK_w hP hD hS_w => ?_)
  obtain rfl : cI = cx := ty_int hK_w 0 1 rfl rfl
  have hK_w := hK_w.sub (tys' := [(cI, .int)]) [0] rfl
  have hP : va_P G_w vwCl [(h0, .inr (2, [.int 0, .int 30, .int 12, .int 1, .int 0, .int 7, .int 30, .int 0, .ref q1_w, .ref q2_w, .ref q3_w, .null, .null, .int 0, .int 0, .int 0, .int 0, .int 0])), (q1_w, .inl (cI, 200, .inl (fun _ => 0))), (q2_w, .inl (cI, 200, .inl (fun _ => 0))), (q3_w, .inl (cI, 200, .inl (fun _ => 0))), (q4_w, .inl (cI, 200, .inl (fun _ => 0)))] H := hP
  have hD : va_D (a1S h0 s_w.heap.size) [(h0, .inr (2, [.int 0, .int 30, .int 12, .int 1, .int 0, .int 7, .int 30, .int 0, .ref q1_w, .ref q2_w, .ref q3_w, .null, .null, .int 0, .int 0, .int 0, .int 0, .int 0])), (q1_w, .inl (cI, 200, .inl (fun _ => 0))), (q2_w, .inl (cI, 200, .inl (fun _ => 0))), (q3_w, .inl (cI, 200, .inl (fun _ => 0))), (q4_w, .inl (cI, 200, .inl (fun _ => 0)))] := hD
  refine va_putF (D := G_w) (ci := 2) (v := .ref q4_w) (ty := tyX2 11) (C := RX2) (T := TX2) (N := 18) (own := RX2) (ref := RX2) (index := 36) hx hb_w hts hinX2 tyX2 tyX2_ok nmX2 hown hK_w hP hD hS_w 0 rfl rfl 11 (by decide) (hts _ (List.mem_of_getElem? (i := 13) rfl)) (fun _ h9 => h9) rfl hin rfl (tyX2_ok 11 (by decide)) rfl rfl (Nat.le_of_ble_eq_true rfl) dX2_init_66 (fun H locs_w hP hD hS_w => ?_)
  have hP : va_P G_w vwCl [(h0, .inr (2, [.int 0, .int 30, .int 12, .int 1, .int 0, .int 7, .int 30, .int 0, .ref q1_w, .ref q2_w, .ref q3_w, .ref q4_w, .null, .int 0, .int 0, .int 0, .int 0, .int 0])), (q1_w, .inl (cI, 200, .inl (fun _ => 0))), (q2_w, .inl (cI, 200, .inl (fun _ => 0))), (q3_w, .inl (cI, 200, .inl (fun _ => 0))), (q4_w, .inl (cI, 200, .inl (fun _ => 0)))] H := hP
  have hD : va_D (a1S h0 s_w.heap.size) [(h0, .inr (2, [.int 0, .int 30, .int 12, .int 1, .int 0, .int 7, .int 30, .int 0, .ref q1_w, .ref q2_w, .ref q3_w, .ref q4_w, .null, .int 0, .int 0, .int 0, .int 0, .int 0])), (q1_w, .inl (cI, 200, .inl (fun _ => 0))), (q2_w, .inl (cI, 200, .inl (fun _ => 0))), (q3_w, .inl (cI, 200, .inl (fun _ => 0))), (q4_w, .inl (cI, 200, .inl (fun _ => 0)))] := hD
  refine lv_aload_n hx hb_w dX2_init_69 rfl (lv_at hl 0 rfl) ?_
  refine lv_sipush (v := 200) hx hb_w dX2_init_70 (by decide) ?_
  refine va_newa (D := G_w) (atype := .boolean) (ty := .boolean) (a0 := (200, .inl (fun _ => 0))) (N' := 200) hx hb_w (hts _ (List.mem_of_getElem? (i := 14) rfl)) rfl hK_w hP hD hS_w hA (fun _ => rfl) (by decide) (by decide) (by decide) (Nat.le_of_ble_eq_true rfl) (Nat.le_of_ble_eq_true rfl) dX2_init_73 (fun q5_w cx H hK_w hP hD hS_w => ?_)
  have hK_w : va_K G_w vwCl [(cI, .int), (cx, .boolean)] s_w := hK_w
  have hP : va_P G_w vwCl [(h0, .inr (2, [.int 0, .int 30, .int 12, .int 1, .int 0, .int 7, .int 30, .int 0, .ref q1_w, .ref q2_w, .ref q3_w, .ref q4_w, .null, .int 0, .int 0, .int 0, .int 0, .int 0])), (q1_w, .inl (cI, 200, .inl (fun _ => 0))), (q2_w, .inl (cI, 200, .inl (fun _ => 0))), (q3_w, .inl (cI, 200, .inl (fun _ => 0))), (q4_w, .inl (cI, 200, .inl (fun _ => 0))), (q5_w, .inl (cx, 200, .inl (fun _ => 0)))] H := hP
  have hD : va_D (a1S h0 s_w.heap.size) [(h0, .inr (2, [.int 0, .int 30, .int 12, .int 1, .int 0, .int 7, .int 30, .int 0, .ref q1_w, .ref q2_w, .ref q3_w, .ref q4_w, .null, .int 0, .int 0, .int 0, .int 0, .int 0])), (q1_w, .inl (cI, 200, .inl (fun _ => 0))), (q2_w, .inl (cI, 200, .inl (fun _ => 0))), (q3_w, .inl (cI, 200, .inl (fun _ => 0))), (q4_w, .inl (cI, 200, .inl (fun _ => 0))), (q5_w, .inl (cx, 200, .inl (fun _ => 0)))] := hD
  refine va_putF (D := G_w) (ci := 2) (v := .ref q5_w) (ty := tyX2 12) (C := RX2) (T := TX2) (N := 18) (own := RX2) (ref := RX2) (index := 39) hx hb_w hts hinX2 tyX2 tyX2_ok nmX2 hown hK_w hP hD hS_w 0 rfl rfl 12 (by decide) (hts _ (List.mem_of_getElem? (i := 15) rfl)) (fun _ h9 => h9) rfl hin rfl (tyX2_ok 12 (by decide)) rfl rfl (Nat.le_of_ble_eq_true rfl) dX2_init_75 (fun H locs_w hP hD hS_w => ?_)
  have hP : va_P G_w vwCl [(h0, .inr (2, [.int 0, .int 30, .int 12, .int 1, .int 0, .int 7, .int 30, .int 0, .ref q1_w, .ref q2_w, .ref q3_w, .ref q4_w, .ref q5_w, .int 0, .int 0, .int 0, .int 0, .int 0])), (q1_w, .inl (cI, 200, .inl (fun _ => 0))), (q2_w, .inl (cI, 200, .inl (fun _ => 0))), (q3_w, .inl (cI, 200, .inl (fun _ => 0))), (q4_w, .inl (cI, 200, .inl (fun _ => 0))), (q5_w, .inl (cx, 200, .inl (fun _ => 0)))] H := hP
  have hD : va_D (a1S h0 s_w.heap.size) [(h0, .inr (2, [.int 0, .int 30, .int 12, .int 1, .int 0, .int 7, .int 30, .int 0, .ref q1_w, .ref q2_w, .ref q3_w, .ref q4_w, .ref q5_w, .int 0, .int 0, .int 0, .int 0, .int 0])), (q1_w, .inl (cI, 200, .inl (fun _ => 0))), (q2_w, .inl (cI, 200, .inl (fun _ => 0))), (q3_w, .inl (cI, 200, .inl (fun _ => 0))), (q4_w, .inl (cI, 200, .inl (fun _ => 0))), (q5_w, .inl (cx, 200, .inl (fun _ => 0)))] := hD
  refine lv_aload_n hx hb_w dX2_init_78 rfl (lv_at hl 0 rfl) ?_
  refine lv_iconst (v := (-1)) hx hb_w dX2_init_79 (by decide) ?_
  refine va_put (D := G_w) (ci := 2) (v := .int (-1)) (ty := tyX2 14) (C := RX2) (T := TX2) (N := 18) (own := RX2) (ref := RX2) (index := 43) hx hb_w hts hinX2 tyX2 tyX2_ok nmX2 hown hK_w hP hD hS_w 0 rfl rfl 14 (by decide) (hts _ (List.mem_of_getElem? (i := 16) rfl)) (fun _ h9 => h9) rfl (tyX2_ok 14 (by decide)) rfl rfl (Nat.le_of_ble_eq_true rfl) dX2_init_80 (fun H locs_w hP hD hS_w => ?_)
  have hP : va_P G_w vwCl [(h0, .inr (2, [.int 0, .int 30, .int 12, .int 1, .int 0, .int 7, .int 30, .int 0, .ref q1_w, .ref q2_w, .ref q3_w, .ref q4_w, .ref q5_w, .int 0, .int (-1), .int 0, .int 0, .int 0])), (q1_w, .inl (cI, 200, .inl (fun _ => 0))), (q2_w, .inl (cI, 200, .inl (fun _ => 0))), (q3_w, .inl (cI, 200, .inl (fun _ => 0))), (q4_w, .inl (cI, 200, .inl (fun _ => 0))), (q5_w, .inl (cx, 200, .inl (fun _ => 0)))] H := hP
  have hD : va_D (a1S h0 s_w.heap.size) [(h0, .inr (2, [.int 0, .int 30, .int 12, .int 1, .int 0, .int 7, .int 30, .int 0, .ref q1_w, .ref q2_w, .ref q3_w, .ref q4_w, .ref q5_w, .int 0, .int (-1), .int 0, .int 0, .int 0])), (q1_w, .inl (cI, 200, .inl (fun _ => 0))), (q2_w, .inl (cI, 200, .inl (fun _ => 0))), (q3_w, .inl (cI, 200, .inl (fun _ => 0))), (q4_w, .inl (cI, 200, .inl (fun _ => 0))), (q5_w, .inl (cx, 200, .inl (fun _ => 0)))] := hD
  refine lv_aload_n hx hb_w dX2_init_83 rfl (lv_at hl 0 rfl) ?_
  refine lv_iconst (v := 1) hx hb_w dX2_init_84 (by decide) ?_
  refine va_put (D := G_w) (ci := 2) (v := .int 1) (ty := tyX2 7) (C := RX2) (T := TX2) (N := 18) (own := RX2) (ref := RX2) (index := 46) hx hb_w hts hinX2 tyX2 tyX2_ok nmX2 hown hK_w hP hD hS_w 0 rfl rfl 7 (by decide) (hts _ (List.mem_of_getElem? (i := 17) rfl)) (fun _ h9 => h9) rfl (tyX2_ok 7 (by decide)) rfl rfl (Nat.le_of_ble_eq_true rfl) dX2_init_85 (fun H locs_w hP hD hS_w => ?_)
  have hP : va_P G_w vwCl [(h0, .inr (2, [.int 0, .int 30, .int 12, .int 1, .int 0, .int 7, .int 30, .int 1, .ref q1_w, .ref q2_w, .ref q3_w, .ref q4_w, .ref q5_w, .int 0, .int (-1), .int 0, .int 0, .int 0])), (q1_w, .inl (cI, 200, .inl (fun _ => 0))), (q2_w, .inl (cI, 200, .inl (fun _ => 0))), (q3_w, .inl (cI, 200, .inl (fun _ => 0))), (q4_w, .inl (cI, 200, .inl (fun _ => 0))), (q5_w, .inl (cx, 200, .inl (fun _ => 0)))] H := hP
  have hD : va_D (a1S h0 s_w.heap.size) [(h0, .inr (2, [.int 0, .int 30, .int 12, .int 1, .int 0, .int 7, .int 30, .int 1, .ref q1_w, .ref q2_w, .ref q3_w, .ref q4_w, .ref q5_w, .int 0, .int (-1), .int 0, .int 0, .int 0])), (q1_w, .inl (cI, 200, .inl (fun _ => 0))), (q2_w, .inl (cI, 200, .inl (fun _ => 0))), (q3_w, .inl (cI, 200, .inl (fun _ => 0))), (q4_w, .inl (cI, 200, .inl (fun _ => 0))), (q5_w, .inl (cx, 200, .inl (fun _ => 0)))] := hD
  have hP : va_P G_w vwCl (wM (ad7 h0 q1_w q2_w q3_w q4_w q5_w q5_w) cI cx g0 f0 0) H := hP
  have hD : va_D (a1S h0 s_w.heap.size) (wM (ad7 h0 q1_w q2_w q3_w q4_w q5_w q5_w) cI cx g0 f0 0) := hD
  obtain ⟨h7, h8⟩ := wM_ap hD
  refine W.widen (k := 5) (n := 1000) (Nat.le_of_ble_eq_true rfl) (Nat.le_of_ble_eq_true rfl) ?_
  exact W.vret hx hb_w hr (fun t_w ht hW => ⟨⟨((ad7 h0 q1_w q2_w q3_w q4_w q5_w q5_w), cI, cx), rfl, ⟨rfl, h7, h8⟩, ht ▸ hP, va_K.moved hW.alike hK_w⟩, hS_w.F ht⟩) hS_w.2.2 dX2_init_88
end
